theorem dK_init_0 : decode cK_init 0 = .ok (.aload_n 0, 1) := by decide +kernel
theorem dK_init_1 : decode cK_init 1 = .ok (.invokespecial 1, 3) := by decide +kernel
theorem dK_init_4 : decode cK_init 4 = .ok (.aload_n 0, 1) := by decide +kernel
theorem dK_init_5 : decode cK_init 5 = .ok (.bipush 6, 2) := by decide +kernel
theorem dK_init_7 : decode cK_init 7 = .ok (.anewarray 9, 3) := by decide +kernel
theorem dK_init_10 : decode cK_init 10 = .ok (.putfield 11, 3) := by decide +kernel
theorem dK_init_13 : decode cK_init 13 = .ok (.aload_n 0, 1) := by decide +kernel
theorem dK_init_14 : decode cK_init 14 = .ok (.iconst 4, 1) := by decide +kernel
theorem dK_init_15 : decode cK_init 15 = .ok (.anewarray 9, 3) := by decide +kernel
theorem dK_init_18 : decode cK_init 18 = .ok (.putfield 15, 3) := by decide +kernel
theorem dK_init_21 : decode cK_init 21 = .ok (.aload_n 0, 1) := by decide +kernel
theorem dK_init_22 : decode cK_init 22 = .ok (.new 18, 3) := by decide +kernel
theorem dK_init_25 : decode cK_init 25 = .ok (.dup, 1) := by decide +kernel
theorem dK_init_26 : decode cK_init 26 = .ok (.invokespecial 20, 3) := by decide +kernel
theorem dK_init_29 : decode cK_init 29 = .ok (.putfield 21, 3) := by decide +kernel
theorem dK_init_32 : decode cK_init 32 = .ok (.aload_n 0, 1) := by decide +kernel
theorem dK_init_33 : decode cK_init 33 = .ok (.new 25, 3) := by decide +kernel
theorem dK_init_36 : decode cK_init 36 = .ok (.dup, 1) := by decide +kernel
theorem dK_init_37 : decode cK_init 37 = .ok (.invokespecial 27, 3) := by decide +kernel
theorem dK_init_40 : decode cK_init 40 = .ok (.putfield 28, 3) := by decide +kernel
theorem dK_init_43 : decode cK_init 43 = .ok (.aload_n 0, 1) := by decide +kernel
theorem dK_init_44 : decode cK_init 44 = .ok (.new 32, 3) := by decide +kernel
theorem dK_init_47 : decode cK_init 47 = .ok (.dup, 1) := by decide +kernel
theorem dK_init_48 : decode cK_init 48 = .ok (.invokespecial 34, 3) := by decide +kernel
theorem dK_init_51 : decode cK_init 51 = .ok (.putfield 35, 3) := by decide +kernel
theorem dK_init_54 : decode cK_init 54 = .ok (.iconst 0, 1) := by decide +kernel
theorem dK_init_55 : decode cK_init 55 = .ok (.istore_n 1, 1) := by decide +kernel
theorem dK_init_56 : decode cK_init 56 = .ok (.iload_n 1, 1) := by decide +kernel
theorem dK_init_57 : decode cK_init 57 = .ok (.bipush 6, 2) := by decide +kernel
theorem dK_init_59 : decode cK_init 59 = .ok (.if_icmp .ge 22, 3) := by decide +kernel
theorem dK_init_62 : decode cK_init 62 = .ok (.aload_n 0, 1) := by decide +kernel
theorem dK_init_63 : decode cK_init 63 = .ok (.getfield 11, 3) := by decide +kernel
theorem dK_init_66 : decode cK_init 66 = .ok (.iload_n 1, 1) := by decide +kernel
theorem dK_init_67 : decode cK_init 67 = .ok (.new 9, 3) := by decide +kernel
theorem dK_init_70 : decode cK_init 70 = .ok (.dup, 1) := by decide +kernel
theorem dK_init_71 : decode cK_init 71 = .ok (.invokespecial 39, 3) := by decide +kernel
theorem dK_init_74 : decode cK_init 74 = .ok (.aastore, 1) := by decide +kernel
theorem dK_init_75 : decode cK_init 75 = .ok (.iinc 1 1, 3) := by decide +kernel
theorem dK_init_78 : decode cK_init 78 = .ok (.goto (-22), 3) := by decide +kernel
theorem dK_init_81 : decode cK_init 81 = .ok (.iconst 0, 1) := by decide +kernel
theorem dK_init_82 : decode cK_init 82 = .ok (.istore_n 1, 1) := by decide +kernel
theorem dK_init_83 : decode cK_init 83 = .ok (.iload_n 1, 1) := by decide +kernel
theorem dK_init_84 : decode cK_init 84 = .ok (.iconst 4, 1) := by decide +kernel
theorem dK_init_85 : decode cK_init 85 = .ok (.if_icmp .ge 22, 3) := by decide +kernel
theorem dK_init_88 : decode cK_init 88 = .ok (.aload_n 0, 1) := by decide +kernel
theorem dK_init_89 : decode cK_init 89 = .ok (.getfield 15, 3) := by decide +kernel
theorem dK_init_92 : decode cK_init 92 = .ok (.iload_n 1, 1) := by decide +kernel
theorem dK_init_93 : decode cK_init 93 = .ok (.new 9, 3) := by decide +kernel
theorem dK_init_96 : decode cK_init 96 = .ok (.dup, 1) := by decide +kernel
theorem dK_init_97 : decode cK_init 97 = .ok (.invokespecial 39, 3) := by decide +kernel
theorem dK_init_100 : decode cK_init 100 = .ok (.aastore, 1) := by decide +kernel
theorem dK_init_101 : decode cK_init 101 = .ok (.iinc 1 1, 3) := by decide +kernel
theorem dK_init_104 : decode cK_init 104 = .ok (.goto (-21), 3) := by decide +kernel
theorem dK_init_107 : decode cK_init 107 = .ok (.return_, 1) := by decide +kernel
theorem dK_member_0 : decode cK_member 0 = .ok (.iload_n 1, 1) := by decide +kernel
theorem dK_member_1 : decode cK_member 1 = .ok (.i2l, 1) := by decide +kernel
theorem dK_member_2 : decode cK_member 2 = .ok (.ldc2_w 40, 3) := by decide +kernel
theorem dK_member_5 : decode cK_member 5 = .ok (.invokestatic 42, 3) := by decide +kernel
theorem dK_member_8 : decode cK_member 8 = .ok (.ifCond .ne 25, 3) := by decide +kernel
theorem dK_member_11 : decode cK_member 11 = .ok (.iload_n 2, 1) := by decide +kernel
theorem dK_member_12 : decode cK_member 12 = .ok (.i2l, 1) := by decide +kernel
theorem dK_member_13 : decode cK_member 13 = .ok (.ldc2_w 40, 3) := by decide +kernel
theorem dK_member_16 : decode cK_member 16 = .ok (.invokestatic 42, 3) := by decide +kernel
theorem dK_member_19 : decode cK_member 19 = .ok (.ifCond .ne 14, 3) := by decide +kernel
theorem dK_member_22 : decode cK_member 22 = .ok (.iload_n 3, 1) := by decide +kernel
theorem dK_member_23 : decode cK_member 23 = .ok (.i2l, 1) := by decide +kernel
theorem dK_member_24 : decode cK_member 24 = .ok (.ldc2_w 40, 3) := by decide +kernel
theorem dK_member_27 : decode cK_member 27 = .ok (.invokestatic 42, 3) := by decide +kernel
theorem dK_member_30 : decode cK_member 30 = .ok (.ifCond .eq 13, 3) := by decide +kernel
theorem dK_member_33 : decode cK_member 33 = .ok (.new 46, 3) := by decide +kernel
theorem dK_member_36 : decode cK_member 36 = .ok (.dup, 1) := by decide +kernel
theorem dK_member_37 : decode cK_member 37 = .ok (.ldc 48, 2) := by decide +kernel
theorem dK_member_39 : decode cK_member 39 = .ok (.invokespecial 50, 3) := by decide +kernel
theorem dK_member_42 : decode cK_member 42 = .ok (.athrow, 1) := by decide +kernel
theorem dK_member_43 : decode cK_member 43 = .ok (.iload_n 1, 1) := by decide +kernel
theorem dK_member_44 : decode cK_member 44 = .ok (.ifCond .ne 17, 3) := by decide +kernel
theorem dK_member_47 : decode cK_member 47 = .ok (.iload_n 2, 1) := by decide +kernel
theorem dK_member_48 : decode cK_member 48 = .ok (.ifCond .ne 13, 3) := by decide +kernel
theorem dK_member_51 : decode cK_member 51 = .ok (.new 46, 3) := by decide +kernel
theorem dK_member_54 : decode cK_member 54 = .ok (.dup, 1) := by decide +kernel
theorem dK_member_55 : decode cK_member 55 = .ok (.ldc 53, 2) := by decide +kernel
theorem dK_member_57 : decode cK_member 57 = .ok (.invokespecial 50, 3) := by decide +kernel
theorem dK_member_60 : decode cK_member 60 = .ok (.athrow, 1) := by decide +kernel
theorem dK_member_61 : decode cK_member 61 = .ok (.aload_n 0, 1) := by decide +kernel
theorem dK_member_62 : decode cK_member 62 = .ok (.getfield 55, 3) := by decide +kernel
theorem dK_member_65 : decode cK_member 65 = .ok (.bipush 12, 2) := by decide +kernel
theorem dK_member_67 : decode cK_member 67 = .ok (.if_icmp .lt 13, 3) := by decide +kernel
theorem dK_member_70 : decode cK_member 70 = .ok (.new 59, 3) := by decide +kernel
theorem dK_member_73 : decode cK_member 73 = .ok (.dup, 1) := by decide +kernel
theorem dK_member_74 : decode cK_member 74 = .ok (.ldc 61, 2) := by decide +kernel
theorem dK_member_76 : decode cK_member 76 = .ok (.invokespecial 63, 3) := by decide +kernel
theorem dK_member_79 : decode cK_member 79 = .ok (.athrow, 1) := by decide +kernel
theorem dK_member_80 : decode cK_member 80 = .ok (.aload_n 0, 1) := by decide +kernel
theorem dK_member_81 : decode cK_member 81 = .ok (.getfield 21, 3) := by decide +kernel
theorem dK_member_84 : decode cK_member 84 = .ok (.iload_n 1, 1) := by decide +kernel
theorem dK_member_85 : decode cK_member 85 = .ok (.i2l, 1) := by decide +kernel
theorem dK_member_86 : decode cK_member 86 = .ok (.iload_n 2, 1) := by decide +kernel
theorem dK_member_87 : decode cK_member 87 = .ok (.i2l, 1) := by decide +kernel
theorem dK_member_88 : decode cK_member 88 = .ok (.iload_n 3, 1) := by decide +kernel
theorem dK_member_89 : decode cK_member 89 = .ok (.i2l, 1) := by decide +kernel
theorem dK_member_90 : decode cK_member 90 = .ok (.iload 4, 2) := by decide +kernel
theorem dK_member_92 : decode cK_member 92 = .ok (.invokevirtual 64, 3) := by decide +kernel
theorem dK_member_95 : decode cK_member 95 = .ok (.aload_n 0, 1) := by decide +kernel
theorem dK_member_96 : decode cK_member 96 = .ok (.dup, 1) := by decide +kernel
theorem dK_member_97 : decode cK_member 97 = .ok (.getfield 55, 3) := by decide +kernel
theorem dK_member_100 : decode cK_member 100 = .ok (.iconst 1, 1) := by decide +kernel
theorem dK_member_101 : decode cK_member 101 = .ok (.iadd, 1) := by decide +kernel
theorem dK_member_102 : decode cK_member 102 = .ok (.putfield 55, 3) := by decide +kernel
theorem dK_member_105 : decode cK_member 105 = .ok (.aload_n 0, 1) := by decide +kernel
theorem dK_member_106 : decode cK_member 106 = .ok (.getfield 55, 3) := by decide +kernel
theorem dK_member_109 : decode cK_member 109 = .ok (.ireturn, 1) := by decide +kernel
theorem dK_row_0 : decode cK_row 0 = .ok (.aload_n 0, 1) := by decide +kernel
theorem dK_row_1 : decode cK_row 1 = .ok (.invokevirtual 68, 3) := by decide +kernel
theorem dK_row_4 : decode cK_row 4 = .ok (.aload_n 0, 1) := by decide +kernel
theorem dK_row_5 : decode cK_row 5 = .ok (.getfield 11, 3) := by decide +kernel
theorem dK_row_8 : decode cK_row 8 = .ok (.aload_n 0, 1) := by decide +kernel
theorem dK_row_9 : decode cK_row 9 = .ok (.getfield 71, 3) := by decide +kernel
theorem dK_row_12 : decode cK_row 12 = .ok (.aaload, 1) := by decide +kernel
theorem dK_row_13 : decode cK_row 13 = .ok (.astore_n 1, 1) := by decide +kernel
theorem dK_row_14 : decode cK_row 14 = .ok (.aload_n 1, 1) := by decide +kernel
theorem dK_row_15 : decode cK_row 15 = .ok (.invokevirtual 74, 3) := by decide +kernel
theorem dK_row_18 : decode cK_row 18 = .ok (.aload_n 1, 1) := by decide +kernel
theorem dK_row_19 : decode cK_row 19 = .ok (.aload_n 0, 1) := by decide +kernel
theorem dK_row_20 : decode cK_row 20 = .ok (.getfield 21, 3) := by decide +kernel
theorem dK_row_23 : decode cK_row 23 = .ok (.invokevirtual 77, 3) := by decide +kernel
theorem dK_row_26 : decode cK_row 26 = .ok (.pop, 1) := by decide +kernel
theorem dK_row_27 : decode cK_row 27 = .ok (.aload_n 0, 1) := by decide +kernel
theorem dK_row_28 : decode cK_row 28 = .ok (.getfield 21, 3) := by decide +kernel
theorem dK_row_31 : decode cK_row 31 = .ok (.invokevirtual 81, 3) := by decide +kernel
theorem dK_row_34 : decode cK_row 34 = .ok (.aload_n 0, 1) := by decide +kernel
theorem dK_row_35 : decode cK_row 35 = .ok (.iconst 0, 1) := by decide +kernel
theorem dK_row_36 : decode cK_row 36 = .ok (.putfield 55, 3) := by decide +kernel
theorem dK_row_39 : decode cK_row 39 = .ok (.aload_n 0, 1) := by decide +kernel
theorem dK_row_40 : decode cK_row 40 = .ok (.dup, 1) := by decide +kernel
theorem dK_row_41 : decode cK_row 41 = .ok (.getfield 71, 3) := by decide +kernel
theorem dK_row_44 : decode cK_row 44 = .ok (.iconst 1, 1) := by decide +kernel
theorem dK_row_45 : decode cK_row 45 = .ok (.iadd, 1) := by decide +kernel
theorem dK_row_46 : decode cK_row 46 = .ok (.putfield 71, 3) := by decide +kernel
theorem dK_row_49 : decode cK_row 49 = .ok (.aload_n 0, 1) := by decide +kernel
theorem dK_row_50 : decode cK_row 50 = .ok (.getfield 71, 3) := by decide +kernel
theorem dK_row_53 : decode cK_row 53 = .ok (.ireturn, 1) := by decide +kernel
theorem dK_and_0 : decode cK_and 0 = .ok (.aload_n 0, 1) := by decide +kernel
theorem dK_and_1 : decode cK_and 1 = .ok (.iconst 2, 1) := by decide +kernel
theorem dK_and_2 : decode cK_and 2 = .ok (.invokevirtual 82, 3) := by decide +kernel
theorem dK_and_5 : decode cK_and 5 = .ok (.aload_n 0, 1) := by decide +kernel
theorem dK_and_6 : decode cK_and 6 = .ok (.getfield 28, 3) := by decide +kernel
theorem dK_and_9 : decode cK_and 9 = .ok (.aload_n 0, 1) := by decide +kernel
theorem dK_and_10 : decode cK_and 10 = .ok (.getfield 11, 3) := by decide +kernel
theorem dK_and_13 : decode cK_and 13 = .ok (.aload_n 0, 1) := by decide +kernel
theorem dK_and_14 : decode cK_and 14 = .ok (.getfield 71, 3) := by decide +kernel
theorem dK_and_17 : decode cK_and 17 = .ok (.iconst 2, 1) := by decide +kernel
theorem dK_and_18 : decode cK_and 18 = .ok (.isub, 1) := by decide +kernel
theorem dK_and_19 : decode cK_and 19 = .ok (.aaload, 1) := by decide +kernel
theorem dK_and_20 : decode cK_and 20 = .ok (.aload_n 0, 1) := by decide +kernel
theorem dK_and_21 : decode cK_and 21 = .ok (.getfield 11, 3) := by decide +kernel
theorem dK_and_24 : decode cK_and 24 = .ok (.aload_n 0, 1) := by decide +kernel
theorem dK_and_25 : decode cK_and 25 = .ok (.getfield 71, 3) := by decide +kernel
theorem dK_and_28 : decode cK_and 28 = .ok (.iconst 1, 1) := by decide +kernel
theorem dK_and_29 : decode cK_and 29 = .ok (.isub, 1) := by decide +kernel
theorem dK_and_30 : decode cK_and 30 = .ok (.aaload, 1) := by decide +kernel
theorem dK_and_31 : decode cK_and 31 = .ok (.invokevirtual 86, 3) := by decide +kernel
theorem dK_and_34 : decode cK_and 34 = .ok (.invokestatic 90, 3) := by decide +kernel
theorem dK_and_37 : decode cK_and 37 = .ok (.aload_n 0, 1) := by decide +kernel
theorem dK_and_38 : decode cK_and 38 = .ok (.dup, 1) := by decide +kernel
theorem dK_and_39 : decode cK_and 39 = .ok (.getfield 71, 3) := by decide +kernel
theorem dK_and_42 : decode cK_and 42 = .ok (.iconst 1, 1) := by decide +kernel
theorem dK_and_43 : decode cK_and 43 = .ok (.isub, 1) := by decide +kernel
theorem dK_and_44 : decode cK_and 44 = .ok (.putfield 71, 3) := by decide +kernel
theorem dK_and_47 : decode cK_and 47 = .ok (.aload_n 0, 1) := by decide +kernel
theorem dK_and_48 : decode cK_and 48 = .ok (.getfield 11, 3) := by decide +kernel
theorem dK_and_51 : decode cK_and 51 = .ok (.aload_n 0, 1) := by decide +kernel
theorem dK_and_52 : decode cK_and 52 = .ok (.getfield 71, 3) := by decide +kernel
theorem dK_and_55 : decode cK_and 55 = .ok (.iconst 1, 1) := by decide +kernel
theorem dK_and_56 : decode cK_and 56 = .ok (.isub, 1) := by decide +kernel
theorem dK_and_57 : decode cK_and 57 = .ok (.aaload, 1) := by decide +kernel
theorem dK_and_58 : decode cK_and 58 = .ok (.aload_n 0, 1) := by decide +kernel
theorem dK_and_59 : decode cK_and 59 = .ok (.getfield 28, 3) := by decide +kernel
theorem dK_and_62 : decode cK_and 62 = .ok (.invokevirtual 94, 3) := by decide +kernel
theorem dK_and_65 : decode cK_and 65 = .ok (.invokevirtual 98, 3) := by decide +kernel
theorem dK_and_68 : decode cK_and 68 = .ok (.return_, 1) := by decide +kernel
theorem dK_or_0 : decode cK_or 0 = .ok (.aload_n 0, 1) := by decide +kernel
theorem dK_or_1 : decode cK_or 1 = .ok (.iconst 2, 1) := by decide +kernel
theorem dK_or_2 : decode cK_or 2 = .ok (.invokevirtual 82, 3) := by decide +kernel
theorem dK_or_5 : decode cK_or 5 = .ok (.aload_n 0, 1) := by decide +kernel
theorem dK_or_6 : decode cK_or 6 = .ok (.getfield 28, 3) := by decide +kernel
theorem dK_or_9 : decode cK_or 9 = .ok (.aload_n 0, 1) := by decide +kernel
theorem dK_or_10 : decode cK_or 10 = .ok (.getfield 11, 3) := by decide +kernel
theorem dK_or_13 : decode cK_or 13 = .ok (.aload_n 0, 1) := by decide +kernel
theorem dK_or_14 : decode cK_or 14 = .ok (.getfield 71, 3) := by decide +kernel
theorem dK_or_17 : decode cK_or 17 = .ok (.iconst 2, 1) := by decide +kernel
theorem dK_or_18 : decode cK_or 18 = .ok (.isub, 1) := by decide +kernel
theorem dK_or_19 : decode cK_or 19 = .ok (.aaload, 1) := by decide +kernel
theorem dK_or_20 : decode cK_or 20 = .ok (.aload_n 0, 1) := by decide +kernel
theorem dK_or_21 : decode cK_or 21 = .ok (.getfield 11, 3) := by decide +kernel
theorem dK_or_24 : decode cK_or 24 = .ok (.aload_n 0, 1) := by decide +kernel
theorem dK_or_25 : decode cK_or 25 = .ok (.getfield 71, 3) := by decide +kernel
theorem dK_or_28 : decode cK_or 28 = .ok (.iconst 1, 1) := by decide +kernel
theorem dK_or_29 : decode cK_or 29 = .ok (.isub, 1) := by decide +kernel
theorem dK_or_30 : decode cK_or 30 = .ok (.aaload, 1) := by decide +kernel
theorem dK_or_31 : decode cK_or 31 = .ok (.invokevirtual 102, 3) := by decide +kernel
theorem dK_or_34 : decode cK_or 34 = .ok (.invokestatic 90, 3) := by decide +kernel
theorem dK_or_37 : decode cK_or 37 = .ok (.aload_n 0, 1) := by decide +kernel
theorem dK_or_38 : decode cK_or 38 = .ok (.dup, 1) := by decide +kernel
theorem dK_or_39 : decode cK_or 39 = .ok (.getfield 71, 3) := by decide +kernel
theorem dK_or_42 : decode cK_or 42 = .ok (.iconst 1, 1) := by decide +kernel
theorem dK_or_43 : decode cK_or 43 = .ok (.isub, 1) := by decide +kernel
theorem dK_or_44 : decode cK_or 44 = .ok (.putfield 71, 3) := by decide +kernel
theorem dK_or_47 : decode cK_or 47 = .ok (.aload_n 0, 1) := by decide +kernel
theorem dK_or_48 : decode cK_or 48 = .ok (.getfield 11, 3) := by decide +kernel
theorem dK_or_51 : decode cK_or 51 = .ok (.aload_n 0, 1) := by decide +kernel
theorem dK_or_52 : decode cK_or 52 = .ok (.getfield 71, 3) := by decide +kernel
theorem dK_or_55 : decode cK_or 55 = .ok (.iconst 1, 1) := by decide +kernel
theorem dK_or_56 : decode cK_or 56 = .ok (.isub, 1) := by decide +kernel
theorem dK_or_57 : decode cK_or 57 = .ok (.aaload, 1) := by decide +kernel
theorem dK_or_58 : decode cK_or 58 = .ok (.aload_n 0, 1) := by decide +kernel
theorem dK_or_59 : decode cK_or 59 = .ok (.getfield 28, 3) := by decide +kernel
theorem dK_or_62 : decode cK_or 62 = .ok (.invokevirtual 94, 3) := by decide +kernel
theorem dK_or_65 : decode cK_or 65 = .ok (.invokevirtual 98, 3) := by decide +kernel
theorem dK_or_68 : decode cK_or 68 = .ok (.return_, 1) := by decide +kernel
theorem dK_not_0 : decode cK_not 0 = .ok (.aload_n 0, 1) := by decide +kernel
theorem dK_not_1 : decode cK_not 1 = .ok (.iconst 1, 1) := by decide +kernel
theorem dK_not_2 : decode cK_not 2 = .ok (.invokevirtual 82, 3) := by decide +kernel
theorem dK_not_5 : decode cK_not 5 = .ok (.aload_n 0, 1) := by decide +kernel
theorem dK_not_6 : decode cK_not 6 = .ok (.getfield 28, 3) := by decide +kernel
theorem dK_not_9 : decode cK_not 9 = .ok (.aload_n 0, 1) := by decide +kernel
theorem dK_not_10 : decode cK_not 10 = .ok (.getfield 11, 3) := by decide +kernel
theorem dK_not_13 : decode cK_not 13 = .ok (.aload_n 0, 1) := by decide +kernel
theorem dK_not_14 : decode cK_not 14 = .ok (.getfield 71, 3) := by decide +kernel
theorem dK_not_17 : decode cK_not 17 = .ok (.iconst 1, 1) := by decide +kernel
theorem dK_not_18 : decode cK_not 18 = .ok (.isub, 1) := by decide +kernel
theorem dK_not_19 : decode cK_not 19 = .ok (.aaload, 1) := by decide +kernel
theorem dK_not_20 : decode cK_not 20 = .ok (.invokevirtual 105, 3) := by decide +kernel
theorem dK_not_23 : decode cK_not 23 = .ok (.invokestatic 90, 3) := by decide +kernel
theorem dK_not_26 : decode cK_not 26 = .ok (.aload_n 0, 1) := by decide +kernel
theorem dK_not_27 : decode cK_not 27 = .ok (.getfield 11, 3) := by decide +kernel
theorem dK_not_30 : decode cK_not 30 = .ok (.aload_n 0, 1) := by decide +kernel
theorem dK_not_31 : decode cK_not 31 = .ok (.getfield 71, 3) := by decide +kernel
theorem dK_not_34 : decode cK_not 34 = .ok (.iconst 1, 1) := by decide +kernel
theorem dK_not_35 : decode cK_not 35 = .ok (.isub, 1) := by decide +kernel
theorem dK_not_36 : decode cK_not 36 = .ok (.aaload, 1) := by decide +kernel
theorem dK_not_37 : decode cK_not 37 = .ok (.aload_n 0, 1) := by decide +kernel
theorem dK_not_38 : decode cK_not 38 = .ok (.getfield 28, 3) := by decide +kernel
theorem dK_not_41 : decode cK_not 41 = .ok (.invokevirtual 94, 3) := by decide +kernel
theorem dK_not_44 : decode cK_not 44 = .ok (.invokevirtual 98, 3) := by decide +kernel
theorem dK_not_47 : decode cK_not 47 = .ok (.return_, 1) := by decide +kernel
theorem dK_free_0 : decode cK_free 0 = .ok (.iload_n 1, 1) := by decide +kernel
theorem dK_free_1 : decode cK_free 1 = .ok (.ifCond .lt 8, 3) := by decide +kernel
theorem dK_free_4 : decode cK_free 4 = .ok (.iload_n 1, 1) := by decide +kernel
theorem dK_free_5 : decode cK_free 5 = .ok (.iconst 2, 1) := by decide +kernel
theorem dK_free_6 : decode cK_free 6 = .ok (.if_icmp .lt 13, 3) := by decide +kernel
theorem dK_free_9 : decode cK_free 9 = .ok (.new 46, 3) := by decide +kernel
theorem dK_free_12 : decode cK_free 12 = .ok (.dup, 1) := by decide +kernel
theorem dK_free_13 : decode cK_free 13 = .ok (.ldc 109, 2) := by decide +kernel
theorem dK_free_15 : decode cK_free 15 = .ok (.invokespecial 50, 3) := by decide +kernel
theorem dK_free_18 : decode cK_free 18 = .ok (.athrow, 1) := by decide +kernel
theorem dK_free_19 : decode cK_free 19 = .ok (.aload_n 0, 1) := by decide +kernel
theorem dK_free_20 : decode cK_free 20 = .ok (.iconst 1, 1) := by decide +kernel
theorem dK_free_21 : decode cK_free 21 = .ok (.invokevirtual 82, 3) := by decide +kernel
theorem dK_free_24 : decode cK_free 24 = .ok (.aload_n 0, 1) := by decide +kernel
theorem dK_free_25 : decode cK_free 25 = .ok (.getfield 28, 3) := by decide +kernel
theorem dK_free_28 : decode cK_free 28 = .ok (.aload_n 0, 1) := by decide +kernel
theorem dK_free_29 : decode cK_free 29 = .ok (.getfield 11, 3) := by decide +kernel
theorem dK_free_32 : decode cK_free 32 = .ok (.aload_n 0, 1) := by decide +kernel
theorem dK_free_33 : decode cK_free 33 = .ok (.getfield 71, 3) := by decide +kernel
theorem dK_free_36 : decode cK_free 36 = .ok (.iconst 1, 1) := by decide +kernel
theorem dK_free_37 : decode cK_free 37 = .ok (.isub, 1) := by decide +kernel
theorem dK_free_38 : decode cK_free 38 = .ok (.aaload, 1) := by decide +kernel
theorem dK_free_39 : decode cK_free 39 = .ok (.iload_n 1, 1) := by decide +kernel
theorem dK_free_40 : decode cK_free 40 = .ok (.invokevirtual 111, 3) := by decide +kernel
theorem dK_free_43 : decode cK_free 43 = .ok (.invokestatic 90, 3) := by decide +kernel
theorem dK_free_46 : decode cK_free 46 = .ok (.aload_n 0, 1) := by decide +kernel
theorem dK_free_47 : decode cK_free 47 = .ok (.getfield 11, 3) := by decide +kernel
theorem dK_free_50 : decode cK_free 50 = .ok (.aload_n 0, 1) := by decide +kernel
theorem dK_free_51 : decode cK_free 51 = .ok (.getfield 71, 3) := by decide +kernel
theorem dK_free_54 : decode cK_free 54 = .ok (.iconst 1, 1) := by decide +kernel
theorem dK_free_55 : decode cK_free 55 = .ok (.isub, 1) := by decide +kernel
theorem dK_free_56 : decode cK_free 56 = .ok (.aaload, 1) := by decide +kernel
theorem dK_free_57 : decode cK_free 57 = .ok (.aload_n 0, 1) := by decide +kernel
theorem dK_free_58 : decode cK_free 58 = .ok (.getfield 28, 3) := by decide +kernel
theorem dK_free_61 : decode cK_free 61 = .ok (.invokevirtual 94, 3) := by decide +kernel
theorem dK_free_64 : decode cK_free 64 = .ok (.invokevirtual 98, 3) := by decide +kernel
theorem dK_free_67 : decode cK_free 67 = .ok (.return_, 1) := by decide +kernel
theorem dK_keep_0 : decode cK_keep 0 = .ok (.iload_n 1, 1) := by decide +kernel
theorem dK_keep_1 : decode cK_keep 1 = .ok (.invokestatic 115, 3) := by decide +kernel
theorem dK_keep_4 : decode cK_keep 4 = .ok (.aload_n 0, 1) := by decide +kernel
theorem dK_keep_5 : decode cK_keep 5 = .ok (.iconst 1, 1) := by decide +kernel
theorem dK_keep_6 : decode cK_keep 6 = .ok (.invokevirtual 82, 3) := by decide +kernel
theorem dK_keep_9 : decode cK_keep 9 = .ok (.aload_n 0, 1) := by decide +kernel
theorem dK_keep_10 : decode cK_keep 10 = .ok (.dup, 1) := by decide +kernel
theorem dK_keep_11 : decode cK_keep 11 = .ok (.getfield 71, 3) := by decide +kernel
theorem dK_keep_14 : decode cK_keep 14 = .ok (.iconst 1, 1) := by decide +kernel
theorem dK_keep_15 : decode cK_keep 15 = .ok (.isub, 1) := by decide +kernel
theorem dK_keep_16 : decode cK_keep 16 = .ok (.putfield 71, 3) := by decide +kernel
theorem dK_keep_19 : decode cK_keep 19 = .ok (.aload_n 0, 1) := by decide +kernel
theorem dK_keep_20 : decode cK_keep 20 = .ok (.getfield 15, 3) := by decide +kernel
theorem dK_keep_23 : decode cK_keep 23 = .ok (.iload_n 1, 1) := by decide +kernel
theorem dK_keep_24 : decode cK_keep 24 = .ok (.aaload, 1) := by decide +kernel
theorem dK_keep_25 : decode cK_keep 25 = .ok (.aload_n 0, 1) := by decide +kernel
theorem dK_keep_26 : decode cK_keep 26 = .ok (.getfield 11, 3) := by decide +kernel
theorem dK_keep_29 : decode cK_keep 29 = .ok (.aload_n 0, 1) := by decide +kernel
theorem dK_keep_30 : decode cK_keep 30 = .ok (.getfield 71, 3) := by decide +kernel
theorem dK_keep_33 : decode cK_keep 33 = .ok (.aaload, 1) := by decide +kernel
theorem dK_keep_34 : decode cK_keep 34 = .ok (.invokevirtual 98, 3) := by decide +kernel
theorem dK_keep_37 : decode cK_keep 37 = .ok (.return_, 1) := by decide +kernel
theorem dK_load_0 : decode cK_load 0 = .ok (.iload_n 1, 1) := by decide +kernel
theorem dK_load_1 : decode cK_load 1 = .ok (.invokestatic 115, 3) := by decide +kernel
theorem dK_load_4 : decode cK_load 4 = .ok (.aload_n 0, 1) := by decide +kernel
theorem dK_load_5 : decode cK_load 5 = .ok (.invokevirtual 68, 3) := by decide +kernel
theorem dK_load_8 : decode cK_load 8 = .ok (.aload_n 0, 1) := by decide +kernel
theorem dK_load_9 : decode cK_load 9 = .ok (.getfield 11, 3) := by decide +kernel
theorem dK_load_12 : decode cK_load 12 = .ok (.aload_n 0, 1) := by decide +kernel
theorem dK_load_13 : decode cK_load 13 = .ok (.getfield 71, 3) := by decide +kernel
theorem dK_load_16 : decode cK_load 16 = .ok (.aaload, 1) := by decide +kernel
theorem dK_load_17 : decode cK_load 17 = .ok (.aload_n 0, 1) := by decide +kernel
theorem dK_load_18 : decode cK_load 18 = .ok (.getfield 15, 3) := by decide +kernel
theorem dK_load_21 : decode cK_load 21 = .ok (.iload_n 1, 1) := by decide +kernel
theorem dK_load_22 : decode cK_load 22 = .ok (.aaload, 1) := by decide +kernel
theorem dK_load_23 : decode cK_load 23 = .ok (.invokevirtual 98, 3) := by decide +kernel
theorem dK_load_26 : decode cK_load 26 = .ok (.aload_n 0, 1) := by decide +kernel
theorem dK_load_27 : decode cK_load 27 = .ok (.dup, 1) := by decide +kernel
theorem dK_load_28 : decode cK_load 28 = .ok (.getfield 71, 3) := by decide +kernel
theorem dK_load_31 : decode cK_load 31 = .ok (.iconst 1, 1) := by decide +kernel
theorem dK_load_32 : decode cK_load 32 = .ok (.iadd, 1) := by decide +kernel
theorem dK_load_33 : decode cK_load 33 = .ok (.putfield 71, 3) := by decide +kernel
theorem dK_load_36 : decode cK_load 36 = .ok (.aload_n 0, 1) := by decide +kernel
theorem dK_load_37 : decode cK_load 37 = .ok (.getfield 71, 3) := by decide +kernel
theorem dK_load_40 : decode cK_load 40 = .ok (.ireturn, 1) := by decide +kernel
theorem dK_drop_0 : decode cK_drop 0 = .ok (.aload_n 0, 1) := by decide +kernel
theorem dK_drop_1 : decode cK_drop 1 = .ok (.getfield 71, 3) := by decide +kernel
theorem dK_drop_4 : decode cK_drop 4 = .ok (.ifCond .ne 5, 3) := by decide +kernel
theorem dK_drop_7 : decode cK_drop 7 = .ok (.iconst 0, 1) := by decide +kernel
theorem dK_drop_8 : decode cK_drop 8 = .ok (.ireturn, 1) := by decide +kernel
theorem dK_drop_9 : decode cK_drop 9 = .ok (.aload_n 0, 1) := by decide +kernel
theorem dK_drop_10 : decode cK_drop 10 = .ok (.dup, 1) := by decide +kernel
theorem dK_drop_11 : decode cK_drop 11 = .ok (.getfield 71, 3) := by decide +kernel
theorem dK_drop_14 : decode cK_drop 14 = .ok (.iconst 1, 1) := by decide +kernel
theorem dK_drop_15 : decode cK_drop 15 = .ok (.isub, 1) := by decide +kernel
theorem dK_drop_16 : decode cK_drop 16 = .ok (.putfield 71, 3) := by decide +kernel
theorem dK_drop_19 : decode cK_drop 19 = .ok (.iconst 1, 1) := by decide +kernel
theorem dK_drop_20 : decode cK_drop 20 = .ok (.ireturn, 1) := by decide +kernel
theorem dK_pile_0 : decode cK_pile 0 = .ok (.aload_n 0, 1) := by decide +kernel
theorem dK_pile_1 : decode cK_pile 1 = .ok (.getfield 71, 3) := by decide +kernel
theorem dK_pile_4 : decode cK_pile 4 = .ok (.ireturn, 1) := by decide +kernel
theorem dK_rows_0 : decode cK_rows 0 = .ok (.aload_n 0, 1) := by decide +kernel
theorem dK_rows_1 : decode cK_rows 1 = .ok (.iconst 1, 1) := by decide +kernel
theorem dK_rows_2 : decode cK_rows 2 = .ok (.invokevirtual 82, 3) := by decide +kernel
theorem dK_rows_5 : decode cK_rows 5 = .ok (.aload_n 0, 1) := by decide +kernel
theorem dK_rows_6 : decode cK_rows 6 = .ok (.getfield 11, 3) := by decide +kernel
theorem dK_rows_9 : decode cK_rows 9 = .ok (.aload_n 0, 1) := by decide +kernel
theorem dK_rows_10 : decode cK_rows 10 = .ok (.getfield 71, 3) := by decide +kernel
theorem dK_rows_13 : decode cK_rows 13 = .ok (.iconst 1, 1) := by decide +kernel
theorem dK_rows_14 : decode cK_rows 14 = .ok (.isub, 1) := by decide +kernel
theorem dK_rows_15 : decode cK_rows 15 = .ok (.aaload, 1) := by decide +kernel
theorem dK_rows_16 : decode cK_rows 16 = .ok (.invokevirtual 118, 3) := by decide +kernel
theorem dK_rows_19 : decode cK_rows 19 = .ok (.ireturn, 1) := by decide +kernel
theorem dK_members_0 : decode cK_members 0 = .ok (.aload_n 0, 1) := by decide +kernel
theorem dK_members_1 : decode cK_members 1 = .ok (.iconst 1, 1) := by decide +kernel
theorem dK_members_2 : decode cK_members 2 = .ok (.invokevirtual 82, 3) := by decide +kernel
theorem dK_members_5 : decode cK_members 5 = .ok (.aload_n 0, 1) := by decide +kernel
theorem dK_members_6 : decode cK_members 6 = .ok (.iload_n 1, 1) := by decide +kernel
theorem dK_members_7 : decode cK_members 7 = .ok (.invokevirtual 122, 3) := by decide +kernel
theorem dK_members_10 : decode cK_members 10 = .ok (.aload_n 0, 1) := by decide +kernel
theorem dK_members_11 : decode cK_members 11 = .ok (.getfield 11, 3) := by decide +kernel
theorem dK_members_14 : decode cK_members 14 = .ok (.aload_n 0, 1) := by decide +kernel
theorem dK_members_15 : decode cK_members 15 = .ok (.getfield 71, 3) := by decide +kernel
theorem dK_members_18 : decode cK_members 18 = .ok (.iconst 1, 1) := by decide +kernel
theorem dK_members_19 : decode cK_members 19 = .ok (.isub, 1) := by decide +kernel
theorem dK_members_20 : decode cK_members 20 = .ok (.aaload, 1) := by decide +kernel
theorem dK_members_21 : decode cK_members 21 = .ok (.iload_n 1, 1) := by decide +kernel
theorem dK_members_22 : decode cK_members 22 = .ok (.invokevirtual 125, 3) := by decide +kernel
theorem dK_members_25 : decode cK_members 25 = .ok (.ireturn, 1) := by decide +kernel
theorem dK_part_0 : decode cK_part 0 = .ok (.aload_n 0, 1) := by decide +kernel
theorem dK_part_1 : decode cK_part 1 = .ok (.iconst 1, 1) := by decide +kernel
theorem dK_part_2 : decode cK_part 2 = .ok (.invokevirtual 82, 3) := by decide +kernel
theorem dK_part_5 : decode cK_part 5 = .ok (.aload_n 0, 1) := by decide +kernel
theorem dK_part_6 : decode cK_part 6 = .ok (.iload_n 1, 1) := by decide +kernel
theorem dK_part_7 : decode cK_part 7 = .ok (.invokevirtual 122, 3) := by decide +kernel
theorem dK_part_10 : decode cK_part 10 = .ok (.aload_n 0, 1) := by decide +kernel
theorem dK_part_11 : decode cK_part 11 = .ok (.getfield 11, 3) := by decide +kernel
theorem dK_part_14 : decode cK_part 14 = .ok (.aload_n 0, 1) := by decide +kernel
theorem dK_part_15 : decode cK_part 15 = .ok (.getfield 71, 3) := by decide +kernel
theorem dK_part_18 : decode cK_part 18 = .ok (.iconst 1, 1) := by decide +kernel
theorem dK_part_19 : decode cK_part 19 = .ok (.isub, 1) := by decide +kernel
theorem dK_part_20 : decode cK_part 20 = .ok (.aaload, 1) := by decide +kernel
theorem dK_part_21 : decode cK_part 21 = .ok (.astore 4, 2) := by decide +kernel
theorem dK_part_23 : decode cK_part 23 = .ok (.iload_n 2, 1) := by decide +kernel
theorem dK_part_24 : decode cK_part 24 = .ok (.ifCond .lt 13, 3) := by decide +kernel
theorem dK_part_27 : decode cK_part 27 = .ok (.iload_n 2, 1) := by decide +kernel
theorem dK_part_28 : decode cK_part 28 = .ok (.aload 4, 2) := by decide +kernel
theorem dK_part_30 : decode cK_part 30 = .ok (.iload_n 1, 1) := by decide +kernel
theorem dK_part_31 : decode cK_part 31 = .ok (.invokevirtual 125, 3) := by decide +kernel
theorem dK_part_34 : decode cK_part 34 = .ok (.if_icmp .lt 13, 3) := by decide +kernel
theorem dK_part_37 : decode cK_part 37 = .ok (.new 129, 3) := by decide +kernel
theorem dK_part_40 : decode cK_part 40 = .ok (.dup, 1) := by decide +kernel
theorem dK_part_41 : decode cK_part 41 = .ok (.ldc 131, 2) := by decide +kernel
theorem dK_part_43 : decode cK_part 43 = .ok (.invokespecial 133, 3) := by decide +kernel
theorem dK_part_46 : decode cK_part 46 = .ok (.athrow, 1) := by decide +kernel
theorem dK_part_47 : decode cK_part 47 = .ok (.iload_n 3, 1) := by decide +kernel
theorem dK_part_80 : decode cK_part 80 = .ok (.aload 4, 2) := by decide +kernel
theorem dK_part_82 : decode cK_part 82 = .ok (.iload_n 1, 1) := by decide +kernel
theorem dK_part_83 : decode cK_part 83 = .ok (.iload_n 2, 1) := by decide +kernel
theorem dK_part_84 : decode cK_part 84 = .ok (.invokevirtual 134, 3) := by decide +kernel
theorem dK_part_87 : decode cK_part 87 = .ok (.ireturn, 1) := by decide +kernel
theorem dK_part_88 : decode cK_part 88 = .ok (.aload 4, 2) := by decide +kernel
theorem dK_part_90 : decode cK_part 90 = .ok (.iload_n 1, 1) := by decide +kernel
theorem dK_part_91 : decode cK_part 91 = .ok (.iload_n 2, 1) := by decide +kernel
theorem dK_part_92 : decode cK_part 92 = .ok (.invokevirtual 138, 3) := by decide +kernel
theorem dK_part_95 : decode cK_part 95 = .ok (.ireturn, 1) := by decide +kernel
theorem dK_part_96 : decode cK_part 96 = .ok (.aload 4, 2) := by decide +kernel
theorem dK_part_98 : decode cK_part 98 = .ok (.iload_n 1, 1) := by decide +kernel
theorem dK_part_99 : decode cK_part 99 = .ok (.iload_n 2, 1) := by decide +kernel
theorem dK_part_100 : decode cK_part 100 = .ok (.invokevirtual 141, 3) := by decide +kernel
theorem dK_part_103 : decode cK_part 103 = .ok (.ireturn, 1) := by decide +kernel
theorem dK_part_104 : decode cK_part 104 = .ok (.aload 4, 2) := by decide +kernel
theorem dK_part_106 : decode cK_part 106 = .ok (.iload_n 1, 1) := by decide +kernel
theorem dK_part_107 : decode cK_part 107 = .ok (.iload_n 2, 1) := by decide +kernel
theorem dK_part_108 : decode cK_part 108 = .ok (.invokevirtual 144, 3) := by decide +kernel
theorem dK_part_111 : decode cK_part 111 = .ok (.ifCond .eq 7, 3) := by decide +kernel
theorem dK_part_114 : decode cK_part 114 = .ok (.iconst 1, 1) := by decide +kernel
theorem dK_part_115 : decode cK_part 115 = .ok (.goto 4, 3) := by decide +kernel
theorem dK_part_118 : decode cK_part 118 = .ok (.iconst 0, 1) := by decide +kernel
theorem dK_part_119 : decode cK_part 119 = .ok (.ireturn, 1) := by decide +kernel
theorem dK_part_120 : decode cK_part 120 = .ok (.new 46, 3) := by decide +kernel
theorem dK_part_123 : decode cK_part 123 = .ok (.dup, 1) := by decide +kernel
theorem dK_part_124 : decode cK_part 124 = .ok (.ldc 148, 2) := by decide +kernel
theorem dK_part_126 : decode cK_part 126 = .ok (.invokespecial 50, 3) := by decide +kernel
theorem dK_part_129 : decode cK_part 129 = .ok (.athrow, 1) := by decide +kernel
theorem dK_holds_0 : decode cK_holds 0 = .ok (.aload_n 0, 1) := by decide +kernel
theorem dK_holds_1 : decode cK_holds 1 = .ok (.iconst 1, 1) := by decide +kernel
theorem dK_holds_2 : decode cK_holds 2 = .ok (.invokevirtual 82, 3) := by decide +kernel
theorem dK_holds_5 : decode cK_holds 5 = .ok (.iload_n 1, 1) := by decide +kernel
theorem dK_holds_6 : decode cK_holds 6 = .ok (.i2l, 1) := by decide +kernel
theorem dK_holds_7 : decode cK_holds 7 = .ok (.ldc2_w 40, 3) := by decide +kernel
theorem dK_holds_10 : decode cK_holds 10 = .ok (.invokestatic 42, 3) := by decide +kernel
theorem dK_holds_13 : decode cK_holds 13 = .ok (.ifCond .ne 14, 3) := by decide +kernel
theorem dK_holds_16 : decode cK_holds 16 = .ok (.iload_n 2, 1) := by decide +kernel
theorem dK_holds_17 : decode cK_holds 17 = .ok (.i2l, 1) := by decide +kernel
theorem dK_holds_18 : decode cK_holds 18 = .ok (.ldc2_w 40, 3) := by decide +kernel
theorem dK_holds_21 : decode cK_holds 21 = .ok (.invokestatic 42, 3) := by decide +kernel
theorem dK_holds_24 : decode cK_holds 24 = .ok (.ifCond .eq 13, 3) := by decide +kernel
theorem dK_holds_27 : decode cK_holds 27 = .ok (.new 46, 3) := by decide +kernel
theorem dK_holds_30 : decode cK_holds 30 = .ok (.dup, 1) := by decide +kernel
theorem dK_holds_31 : decode cK_holds 31 = .ok (.ldc 150, 2) := by decide +kernel
theorem dK_holds_33 : decode cK_holds 33 = .ok (.invokespecial 50, 3) := by decide +kernel
theorem dK_holds_36 : decode cK_holds 36 = .ok (.athrow, 1) := by decide +kernel
theorem dK_holds_37 : decode cK_holds 37 = .ok (.iload_n 3, 1) := by decide +kernel
theorem dK_holds_38 : decode cK_holds 38 = .ok (.iconst 1, 1) := by decide +kernel
theorem dK_holds_39 : decode cK_holds 39 = .ok (.if_icmp .lt 10, 3) := by decide +kernel
theorem dK_holds_42 : decode cK_holds 42 = .ok (.iload_n 3, 1) := by decide +kernel
theorem dK_holds_43 : decode cK_holds 43 = .ok (.sipush 1000, 3) := by decide +kernel
theorem dK_holds_46 : decode cK_holds 46 = .ok (.if_icmp .le 13, 3) := by decide +kernel
theorem dK_holds_49 : decode cK_holds 49 = .ok (.new 46, 3) := by decide +kernel
theorem dK_holds_52 : decode cK_holds 52 = .ok (.dup, 1) := by decide +kernel
theorem dK_holds_53 : decode cK_holds 53 = .ok (.ldc 152, 2) := by decide +kernel
theorem dK_holds_55 : decode cK_holds 55 = .ok (.invokespecial 50, 3) := by decide +kernel
theorem dK_holds_58 : decode cK_holds 58 = .ok (.athrow, 1) := by decide +kernel
theorem dK_holds_59 : decode cK_holds 59 = .ok (.aload_n 0, 1) := by decide +kernel
theorem dK_holds_60 : decode cK_holds 60 = .ok (.getfield 11, 3) := by decide +kernel
theorem dK_holds_63 : decode cK_holds 63 = .ok (.aload_n 0, 1) := by decide +kernel
theorem dK_holds_64 : decode cK_holds 64 = .ok (.getfield 71, 3) := by decide +kernel
theorem dK_holds_67 : decode cK_holds 67 = .ok (.iconst 1, 1) := by decide +kernel
theorem dK_holds_68 : decode cK_holds 68 = .ok (.isub, 1) := by decide +kernel
theorem dK_holds_69 : decode cK_holds 69 = .ok (.aaload, 1) := by decide +kernel
theorem dK_holds_70 : decode cK_holds 70 = .ok (.iload_n 1, 1) := by decide +kernel
theorem dK_holds_71 : decode cK_holds 71 = .ok (.iload_n 2, 1) := by decide +kernel
theorem dK_holds_72 : decode cK_holds 72 = .ok (.iload_n 3, 1) := by decide +kernel
theorem dK_holds_73 : decode cK_holds 73 = .ok (.invokevirtual 154, 3) := by decide +kernel
theorem dK_holds_76 : decode cK_holds 76 = .ok (.ireturn, 1) := by decide +kernel
theorem dK_within_0 : decode cK_within 0 = .ok (.aload_n 0, 1) := by decide +kernel
theorem dK_within_1 : decode cK_within 1 = .ok (.iconst 2, 1) := by decide +kernel
theorem dK_within_2 : decode cK_within 2 = .ok (.invokevirtual 82, 3) := by decide +kernel
theorem dK_within_5 : decode cK_within 5 = .ok (.aload_n 0, 1) := by decide +kernel
theorem dK_within_6 : decode cK_within 6 = .ok (.getfield 28, 3) := by decide +kernel
theorem dK_within_9 : decode cK_within 9 = .ok (.aload_n 0, 1) := by decide +kernel
theorem dK_within_10 : decode cK_within 10 = .ok (.getfield 11, 3) := by decide +kernel
theorem dK_within_13 : decode cK_within 13 = .ok (.aload_n 0, 1) := by decide +kernel
theorem dK_within_14 : decode cK_within 14 = .ok (.getfield 71, 3) := by decide +kernel
theorem dK_within_17 : decode cK_within 17 = .ok (.iconst 2, 1) := by decide +kernel
theorem dK_within_18 : decode cK_within 18 = .ok (.isub, 1) := by decide +kernel
theorem dK_within_19 : decode cK_within 19 = .ok (.aaload, 1) := by decide +kernel
theorem dK_within_20 : decode cK_within 20 = .ok (.invokevirtual 105, 3) := by decide +kernel
theorem dK_within_23 : decode cK_within 23 = .ok (.invokestatic 90, 3) := by decide +kernel
theorem dK_within_26 : decode cK_within 26 = .ok (.aload_n 0, 1) := by decide +kernel
theorem dK_within_27 : decode cK_within 27 = .ok (.getfield 28, 3) := by decide +kernel
theorem dK_within_30 : decode cK_within 30 = .ok (.aload_n 0, 1) := by decide +kernel
theorem dK_within_31 : decode cK_within 31 = .ok (.getfield 11, 3) := by decide +kernel
theorem dK_within_34 : decode cK_within 34 = .ok (.aload_n 0, 1) := by decide +kernel
theorem dK_within_35 : decode cK_within 35 = .ok (.getfield 71, 3) := by decide +kernel
theorem dK_within_38 : decode cK_within 38 = .ok (.iconst 1, 1) := by decide +kernel
theorem dK_within_39 : decode cK_within 39 = .ok (.isub, 1) := by decide +kernel
theorem dK_within_40 : decode cK_within 40 = .ok (.aaload, 1) := by decide +kernel
theorem dK_within_41 : decode cK_within 41 = .ok (.aload_n 0, 1) := by decide +kernel
theorem dK_within_42 : decode cK_within 42 = .ok (.getfield 28, 3) := by decide +kernel
theorem dK_within_45 : decode cK_within 45 = .ok (.invokevirtual 158, 3) := by decide +kernel
theorem dK_within_48 : decode cK_within 48 = .ok (.invokevirtual 86, 3) := by decide +kernel
theorem dK_within_51 : decode cK_within 51 = .ok (.invokestatic 90, 3) := by decide +kernel
theorem dK_within_54 : decode cK_within 54 = .ok (.aload_n 0, 1) := by decide +kernel
theorem dK_within_55 : decode cK_within 55 = .ok (.getfield 28, 3) := by decide +kernel
theorem dK_within_58 : decode cK_within 58 = .ok (.invokevirtual 94, 3) := by decide +kernel
theorem dK_within_61 : decode cK_within 61 = .ok (.invokevirtual 118, 3) := by decide +kernel
theorem dK_within_64 : decode cK_within 64 = .ok (.ifCond .ne 7, 3) := by decide +kernel
theorem dK_within_67 : decode cK_within 67 = .ok (.iconst 1, 1) := by decide +kernel
theorem dK_within_68 : decode cK_within 68 = .ok (.goto 4, 3) := by decide +kernel
theorem dK_within_71 : decode cK_within 71 = .ok (.iconst 0, 1) := by decide +kernel
theorem dK_within_72 : decode cK_within 72 = .ok (.ireturn, 1) := by decide +kernel
theorem dK_least_0 : decode cK_least 0 = .ok (.aload_n 0, 1) := by decide +kernel
theorem dK_least_1 : decode cK_least 1 = .ok (.iconst 1, 1) := by decide +kernel
theorem dK_least_2 : decode cK_least 2 = .ok (.invokevirtual 82, 3) := by decide +kernel
theorem dK_least_5 : decode cK_least 5 = .ok (.iload_n 1, 1) := by decide +kernel
theorem dK_least_6 : decode cK_least 6 = .ok (.i2l, 1) := by decide +kernel
theorem dK_least_7 : decode cK_least 7 = .ok (.ldc2_w 161, 3) := by decide +kernel
theorem dK_least_10 : decode cK_least 10 = .ok (.invokestatic 42, 3) := by decide +kernel
theorem dK_least_13 : decode cK_least 13 = .ok (.ifCond .ne 14, 3) := by decide +kernel
theorem dK_least_16 : decode cK_least 16 = .ok (.iload_n 2, 1) := by decide +kernel
theorem dK_least_17 : decode cK_least 17 = .ok (.i2l, 1) := by decide +kernel
theorem dK_least_18 : decode cK_least 18 = .ok (.ldc2_w 161, 3) := by decide +kernel
theorem dK_least_21 : decode cK_least 21 = .ok (.invokestatic 42, 3) := by decide +kernel
theorem dK_least_24 : decode cK_least 24 = .ok (.ifCond .eq 13, 3) := by decide +kernel
theorem dK_least_27 : decode cK_least 27 = .ok (.new 46, 3) := by decide +kernel
theorem dK_least_30 : decode cK_least 30 = .ok (.dup, 1) := by decide +kernel
theorem dK_least_31 : decode cK_least 31 = .ok (.ldc 163, 2) := by decide +kernel
theorem dK_least_33 : decode cK_least 33 = .ok (.invokespecial 50, 3) := by decide +kernel
theorem dK_least_36 : decode cK_least 36 = .ok (.athrow, 1) := by decide +kernel
theorem dK_least_37 : decode cK_least 37 = .ok (.aload_n 0, 1) := by decide +kernel
theorem dK_least_38 : decode cK_least 38 = .ok (.getfield 35, 3) := by decide +kernel
theorem dK_least_41 : decode cK_least 41 = .ok (.aload_n 0, 1) := by decide +kernel
theorem dK_least_42 : decode cK_least 42 = .ok (.getfield 11, 3) := by decide +kernel
theorem dK_least_45 : decode cK_least 45 = .ok (.aload_n 0, 1) := by decide +kernel
theorem dK_least_46 : decode cK_least 46 = .ok (.getfield 71, 3) := by decide +kernel
theorem dK_least_49 : decode cK_least 49 = .ok (.iconst 1, 1) := by decide +kernel
theorem dK_least_50 : decode cK_least 50 = .ok (.isub, 1) := by decide +kernel
theorem dK_least_51 : decode cK_least 51 = .ok (.aaload, 1) := by decide +kernel
theorem dK_least_52 : decode cK_least 52 = .ok (.iload_n 1, 1) := by decide +kernel
theorem dK_least_53 : decode cK_least 53 = .ok (.iload_n 2, 1) := by decide +kernel
theorem dK_least_54 : decode cK_least 54 = .ok (.invokevirtual 165, 3) := by decide +kernel
theorem dK_least_57 : decode cK_least 57 = .ok (.ireturn, 1) := by decide +kernel
theorem dK_value_0 : decode cK_value 0 = .ok (.iload_n 1, 1) := by decide +kernel
theorem dK_value_1 : decode cK_value 1 = .ok (.ifCond .eq 18, 3) := by decide +kernel
theorem dK_value_4 : decode cK_value 4 = .ok (.iload_n 1, 1) := by decide +kernel
theorem dK_value_5 : decode cK_value 5 = .ok (.iconst 1, 1) := by decide +kernel
theorem dK_value_6 : decode cK_value 6 = .ok (.if_icmp .eq 13, 3) := by decide +kernel
theorem dK_value_9 : decode cK_value 9 = .ok (.new 46, 3) := by decide +kernel
theorem dK_value_12 : decode cK_value 12 = .ok (.dup, 1) := by decide +kernel
theorem dK_value_13 : decode cK_value 13 = .ok (.ldc 169, 2) := by decide +kernel
theorem dK_value_15 : decode cK_value 15 = .ok (.invokespecial 50, 3) := by decide +kernel
theorem dK_value_18 : decode cK_value 18 = .ok (.athrow, 1) := by decide +kernel
theorem dK_value_19 : decode cK_value 19 = .ok (.iload_n 1, 1) := by decide +kernel
theorem dK_value_20 : decode cK_value 20 = .ok (.ifCond .ne 13, 3) := by decide +kernel
theorem dK_value_23 : decode cK_value 23 = .ok (.aload_n 0, 1) := by decide +kernel
theorem dK_value_24 : decode cK_value 24 = .ok (.getfield 35, 3) := by decide +kernel
theorem dK_value_27 : decode cK_value 27 = .ok (.invokevirtual 171, 3) := by decide +kernel
theorem dK_value_30 : decode cK_value 30 = .ok (.goto 10, 3) := by decide +kernel
theorem dK_value_33 : decode cK_value 33 = .ok (.aload_n 0, 1) := by decide +kernel
theorem dK_value_34 : decode cK_value 34 = .ok (.getfield 35, 3) := by decide +kernel
theorem dK_value_37 : decode cK_value 37 = .ok (.invokevirtual 175, 3) := by decide +kernel
theorem dK_value_40 : decode cK_value 40 = .ok (.lreturn, 1) := by decide +kernel
theorem dK_requireRoom_0 : decode cK_requireRoom 0 = .ok (.aload_n 0, 1) := by decide +kernel
theorem dK_requireRoom_1 : decode cK_requireRoom 1 = .ok (.getfield 71, 3) := by decide +kernel
theorem dK_requireRoom_4 : decode cK_requireRoom 4 = .ok (.bipush 6, 2) := by decide +kernel
theorem dK_requireRoom_6 : decode cK_requireRoom 6 = .ok (.if_icmp .lt 13, 3) := by decide +kernel
theorem dK_requireRoom_9 : decode cK_requireRoom 9 = .ok (.new 59, 3) := by decide +kernel
theorem dK_requireRoom_12 : decode cK_requireRoom 12 = .ok (.dup, 1) := by decide +kernel
theorem dK_requireRoom_13 : decode cK_requireRoom 13 = .ok (.ldc 178, 2) := by decide +kernel
theorem dK_requireRoom_15 : decode cK_requireRoom 15 = .ok (.invokespecial 63, 3) := by decide +kernel
theorem dK_requireRoom_18 : decode cK_requireRoom 18 = .ok (.athrow, 1) := by decide +kernel
theorem dK_requireRoom_19 : decode cK_requireRoom 19 = .ok (.return_, 1) := by decide +kernel
theorem dK_requireHeight_0 : decode cK_requireHeight 0 = .ok (.aload_n 0, 1) := by decide +kernel
theorem dK_requireHeight_1 : decode cK_requireHeight 1 = .ok (.getfield 71, 3) := by decide +kernel
theorem dK_requireHeight_4 : decode cK_requireHeight 4 = .ok (.iload_n 1, 1) := by decide +kernel
theorem dK_requireHeight_5 : decode cK_requireHeight 5 = .ok (.if_icmp .ge 13, 3) := by decide +kernel
theorem dK_requireHeight_8 : decode cK_requireHeight 8 = .ok (.new 59, 3) := by decide +kernel
theorem dK_requireHeight_11 : decode cK_requireHeight 11 = .ok (.dup, 1) := by decide +kernel
theorem dK_requireHeight_12 : decode cK_requireHeight 12 = .ok (.ldc 180, 2) := by decide +kernel
theorem dK_requireHeight_14 : decode cK_requireHeight 14 = .ok (.invokespecial 63, 3) := by decide +kernel
theorem dK_requireHeight_17 : decode cK_requireHeight 17 = .ok (.athrow, 1) := by decide +kernel
theorem dK_requireHeight_18 : decode cK_requireHeight 18 = .ok (.return_, 1) := by decide +kernel
theorem dK_requireRow_0 : decode cK_requireRow 0 = .ok (.iload_n 1, 1) := by decide +kernel
theorem dK_requireRow_1 : decode cK_requireRow 1 = .ok (.ifCond .lt 21, 3) := by decide +kernel
theorem dK_requireRow_4 : decode cK_requireRow 4 = .ok (.iload_n 1, 1) := by decide +kernel
theorem dK_requireRow_5 : decode cK_requireRow 5 = .ok (.aload_n 0, 1) := by decide +kernel
theorem dK_requireRow_6 : decode cK_requireRow 6 = .ok (.getfield 11, 3) := by decide +kernel
theorem dK_requireRow_9 : decode cK_requireRow 9 = .ok (.aload_n 0, 1) := by decide +kernel
theorem dK_requireRow_10 : decode cK_requireRow 10 = .ok (.getfield 71, 3) := by decide +kernel
theorem dK_requireRow_13 : decode cK_requireRow 13 = .ok (.iconst 1, 1) := by decide +kernel
theorem dK_requireRow_14 : decode cK_requireRow 14 = .ok (.isub, 1) := by decide +kernel
theorem dK_requireRow_15 : decode cK_requireRow 15 = .ok (.aaload, 1) := by decide +kernel
theorem dK_requireRow_16 : decode cK_requireRow 16 = .ok (.invokevirtual 118, 3) := by decide +kernel
theorem dK_requireRow_19 : decode cK_requireRow 19 = .ok (.if_icmp .lt 13, 3) := by decide +kernel
theorem dK_requireRow_22 : decode cK_requireRow 22 = .ok (.new 129, 3) := by decide +kernel
theorem dK_requireRow_25 : decode cK_requireRow 25 = .ok (.dup, 1) := by decide +kernel
theorem dK_requireRow_26 : decode cK_requireRow 26 = .ok (.ldc 182, 2) := by decide +kernel
theorem dK_requireRow_28 : decode cK_requireRow 28 = .ok (.invokespecial 133, 3) := by decide +kernel
theorem dK_requireRow_31 : decode cK_requireRow 31 = .ok (.athrow, 1) := by decide +kernel
theorem dK_requireRow_32 : decode cK_requireRow 32 = .ok (.return_, 1) := by decide +kernel
theorem dK_requireTable_0 : decode cK_requireTable 0 = .ok (.iload_n 0, 1) := by decide +kernel
theorem dK_requireTable_1 : decode cK_requireTable 1 = .ok (.ifCond .lt 8, 3) := by decide +kernel
theorem dK_requireTable_4 : decode cK_requireTable 4 = .ok (.iload_n 0, 1) := by decide +kernel
theorem dK_requireTable_5 : decode cK_requireTable 5 = .ok (.iconst 4, 1) := by decide +kernel
theorem dK_requireTable_6 : decode cK_requireTable 6 = .ok (.if_icmp .lt 13, 3) := by decide +kernel
theorem dK_requireTable_9 : decode cK_requireTable 9 = .ok (.new 46, 3) := by decide +kernel
theorem dK_requireTable_12 : decode cK_requireTable 12 = .ok (.dup, 1) := by decide +kernel
theorem dK_requireTable_13 : decode cK_requireTable 13 = .ok (.ldc 184, 2) := by decide +kernel
theorem dK_requireTable_15 : decode cK_requireTable 15 = .ok (.invokespecial 50, 3) := by decide +kernel
theorem dK_requireTable_18 : decode cK_requireTable 18 = .ok (.athrow, 1) := by decide +kernel
theorem dK_requireTable_19 : decode cK_requireTable 19 = .ok (.return_, 1) := by decide +kernel
theorem dK_requireLimitsKept_0 : decode cK_requireLimitsKept 0 = .ok (.iload_n 0, 1) := by decide +kernel
theorem dK_requireLimitsKept_1 : decode cK_requireLimitsKept 1 = .ok (.ifCond .ne 13, 3) := by decide +kernel
theorem dK_requireLimitsKept_4 : decode cK_requireLimitsKept 4 = .ok (.new 186, 3) := by decide +kernel
theorem dK_requireLimitsKept_7 : decode cK_requireLimitsKept 7 = .ok (.dup, 1) := by decide +kernel
theorem dK_requireLimitsKept_8 : decode cK_requireLimitsKept 8 = .ok (.ldc 188, 2) := by decide +kernel
theorem dK_requireLimitsKept_10 : decode cK_requireLimitsKept 10 = .ok (.invokespecial 190, 3) := by decide +kernel
theorem dK_requireLimitsKept_13 : decode cK_requireLimitsKept 13 = .ok (.athrow, 1) := by decide +kernel
theorem dK_requireLimitsKept_14 : decode cK_requireLimitsKept 14 = .ok (.return_, 1) := by decide +kernel
theorem dK_exceeds_0 : decode cK_exceeds 0 = .ok (.lload_n 0, 1) := by decide +kernel
theorem dK_exceeds_1 : decode cK_exceeds 1 = .ok (.lload_n 2, 1) := by decide +kernel
theorem dK_exceeds_2 : decode cK_exceeds 2 = .ok (.lneg, 1) := by decide +kernel
theorem dK_exceeds_3 : decode cK_exceeds 3 = .ok (.lcmp, 1) := by decide +kernel
theorem dK_exceeds_4 : decode cK_exceeds 4 = .ok (.ifCond .lt 9, 3) := by decide +kernel
theorem dK_exceeds_7 : decode cK_exceeds 7 = .ok (.lload_n 0, 1) := by decide +kernel
theorem dK_exceeds_8 : decode cK_exceeds 8 = .ok (.lload_n 2, 1) := by decide +kernel
theorem dK_exceeds_9 : decode cK_exceeds 9 = .ok (.lcmp, 1) := by decide +kernel
theorem dK_exceeds_10 : decode cK_exceeds 10 = .ok (.ifCond .le 7, 3) := by decide +kernel
theorem dK_exceeds_13 : decode cK_exceeds 13 = .ok (.iconst 1, 1) := by decide +kernel
theorem dK_exceeds_14 : decode cK_exceeds 14 = .ok (.goto 4, 3) := by decide +kernel
theorem dK_exceeds_17 : decode cK_exceeds 17 = .ok (.iconst 0, 1) := by decide +kernel
theorem dK_exceeds_18 : decode cK_exceeds 18 = .ok (.ireturn, 1) := by decide +kernel
theorem dK_commonDivisor_0 : decode cK_commonDivisor 0 = .ok (.lload_n 0, 1) := by decide +kernel
theorem dK_commonDivisor_1 : decode cK_commonDivisor 1 = .ok (.invokestatic 191, 3) := by decide +kernel
theorem dK_commonDivisor_4 : decode cK_commonDivisor 4 = .ok (.lstore 4, 2) := by decide +kernel
theorem dK_commonDivisor_6 : decode cK_commonDivisor 6 = .ok (.lload_n 2, 1) := by decide +kernel
theorem dK_commonDivisor_7 : decode cK_commonDivisor 7 = .ok (.invokestatic 191, 3) := by decide +kernel
theorem dK_commonDivisor_10 : decode cK_commonDivisor 10 = .ok (.lstore 6, 2) := by decide +kernel
theorem dK_commonDivisor_12 : decode cK_commonDivisor 12 = .ok (.iconst 0, 1) := by decide +kernel
theorem dK_commonDivisor_13 : decode cK_commonDivisor 13 = .ok (.istore 8, 2) := by decide +kernel
theorem dK_commonDivisor_15 : decode cK_commonDivisor 15 = .ok (.iload 8, 2) := by decide +kernel
theorem dK_commonDivisor_17 : decode cK_commonDivisor 17 = .ok (.bipush 100, 2) := by decide +kernel
theorem dK_commonDivisor_19 : decode cK_commonDivisor 19 = .ok (.if_icmp .ge 31, 3) := by decide +kernel
theorem dK_commonDivisor_22 : decode cK_commonDivisor 22 = .ok (.lload 6, 2) := by decide +kernel
theorem dK_commonDivisor_24 : decode cK_commonDivisor 24 = .ok (.lconst 0, 1) := by decide +kernel
theorem dK_commonDivisor_25 : decode cK_commonDivisor 25 = .ok (.lcmp, 1) := by decide +kernel
theorem dK_commonDivisor_26 : decode cK_commonDivisor 26 = .ok (.ifCond .eq 24, 3) := by decide +kernel
theorem dK_commonDivisor_29 : decode cK_commonDivisor 29 = .ok (.lload 4, 2) := by decide +kernel
theorem dK_commonDivisor_31 : decode cK_commonDivisor 31 = .ok (.lload 6, 2) := by decide +kernel
theorem dK_commonDivisor_33 : decode cK_commonDivisor 33 = .ok (.lrem, 1) := by decide +kernel
theorem dK_commonDivisor_34 : decode cK_commonDivisor 34 = .ok (.lstore 9, 2) := by decide +kernel
theorem dK_commonDivisor_36 : decode cK_commonDivisor 36 = .ok (.lload 6, 2) := by decide +kernel
theorem dK_commonDivisor_38 : decode cK_commonDivisor 38 = .ok (.lstore 4, 2) := by decide +kernel
theorem dK_commonDivisor_40 : decode cK_commonDivisor 40 = .ok (.lload 9, 2) := by decide +kernel
theorem dK_commonDivisor_42 : decode cK_commonDivisor 42 = .ok (.lstore 6, 2) := by decide +kernel
theorem dK_commonDivisor_44 : decode cK_commonDivisor 44 = .ok (.iinc 8 1, 3) := by decide +kernel
theorem dK_commonDivisor_47 : decode cK_commonDivisor 47 = .ok (.goto (-32), 3) := by decide +kernel
theorem dK_commonDivisor_50 : decode cK_commonDivisor 50 = .ok (.lload 4, 2) := by decide +kernel
theorem dK_commonDivisor_52 : decode cK_commonDivisor 52 = .ok (.lreturn, 1) := by decide +kernel
