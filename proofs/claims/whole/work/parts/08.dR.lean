theorem dR_init_0 : decode cR_init 0 = .ok (.aload_n 0, 1) := by decide +kernel
theorem dR_init_1 : decode cR_init 1 = .ok (.invokespecial 5, 3) := by decide +kernel
theorem dR_init_4 : decode cR_init 4 = .ok (.aload_n 0, 1) := by decide +kernel
theorem dR_init_5 : decode cR_init 5 = .ok (.bipush 12, 2) := by decide +kernel
theorem dR_init_7 : decode cR_init 7 = .ok (.newarray .int, 2) := by decide +kernel
theorem dR_init_9 : decode cR_init 9 = .ok (.putfield 11, 3) := by decide +kernel
theorem dR_init_12 : decode cR_init 12 = .ok (.aload_n 0, 1) := by decide +kernel
theorem dR_init_13 : decode cR_init 13 = .ok (.sipush 576, 3) := by decide +kernel
theorem dR_init_16 : decode cR_init 16 = .ok (.newarray .int, 2) := by decide +kernel
theorem dR_init_18 : decode cR_init 18 = .ok (.putfield 15, 3) := by decide +kernel
theorem dR_init_21 : decode cR_init 21 = .ok (.return_, 1) := by decide +kernel
theorem dR_clear_0 : decode cR_clear 0 = .ok (.aload_n 0, 1) := by decide +kernel
theorem dR_clear_1 : decode cR_clear 1 = .ok (.iconst 0, 1) := by decide +kernel
theorem dR_clear_2 : decode cR_clear 2 = .ok (.putfield 18, 3) := by decide +kernel
theorem dR_clear_5 : decode cR_clear 5 = .ok (.return_, 1) := by decide +kernel
theorem dR_copy_0 : decode cR_copy 0 = .ok (.aload_n 0, 1) := by decide +kernel
theorem dR_copy_1 : decode cR_copy 1 = .ok (.aload_n 1, 1) := by decide +kernel
theorem dR_copy_2 : decode cR_copy 2 = .ok (.getfield 18, 3) := by decide +kernel
theorem dR_copy_5 : decode cR_copy 5 = .ok (.putfield 18, 3) := by decide +kernel
theorem dR_copy_8 : decode cR_copy 8 = .ok (.iconst 0, 1) := by decide +kernel
theorem dR_copy_9 : decode cR_copy 9 = .ok (.istore_n 2, 1) := by decide +kernel
theorem dR_copy_10 : decode cR_copy 10 = .ok (.iload_n 2, 1) := by decide +kernel
theorem dR_copy_11 : decode cR_copy 11 = .ok (.aload_n 0, 1) := by decide +kernel
theorem dR_copy_12 : decode cR_copy 12 = .ok (.getfield 18, 3) := by decide +kernel
theorem dR_copy_15 : decode cR_copy 15 = .ok (.if_icmp .ge 48, 3) := by decide +kernel
theorem dR_copy_18 : decode cR_copy 18 = .ok (.aload_n 0, 1) := by decide +kernel
theorem dR_copy_19 : decode cR_copy 19 = .ok (.getfield 11, 3) := by decide +kernel
theorem dR_copy_22 : decode cR_copy 22 = .ok (.iload_n 2, 1) := by decide +kernel
theorem dR_copy_23 : decode cR_copy 23 = .ok (.aload_n 1, 1) := by decide +kernel
theorem dR_copy_24 : decode cR_copy 24 = .ok (.getfield 11, 3) := by decide +kernel
theorem dR_copy_27 : decode cR_copy 27 = .ok (.iload_n 2, 1) := by decide +kernel
theorem dR_copy_28 : decode cR_copy 28 = .ok (.iaload, 1) := by decide +kernel
theorem dR_copy_29 : decode cR_copy 29 = .ok (.iastore, 1) := by decide +kernel
theorem dR_copy_30 : decode cR_copy 30 = .ok (.aload_n 1, 1) := by decide +kernel
theorem dR_copy_31 : decode cR_copy 31 = .ok (.getfield 15, 3) := by decide +kernel
theorem dR_copy_34 : decode cR_copy 34 = .ok (.iload_n 2, 1) := by decide +kernel
theorem dR_copy_35 : decode cR_copy 35 = .ok (.bipush 48, 2) := by decide +kernel
theorem dR_copy_37 : decode cR_copy 37 = .ok (.imul, 1) := by decide +kernel
theorem dR_copy_38 : decode cR_copy 38 = .ok (.aload_n 0, 1) := by decide +kernel
theorem dR_copy_39 : decode cR_copy 39 = .ok (.getfield 15, 3) := by decide +kernel
theorem dR_copy_42 : decode cR_copy 42 = .ok (.iload_n 2, 1) := by decide +kernel
theorem dR_copy_43 : decode cR_copy 43 = .ok (.bipush 48, 2) := by decide +kernel
theorem dR_copy_45 : decode cR_copy 45 = .ok (.imul, 1) := by decide +kernel
theorem dR_copy_46 : decode cR_copy 46 = .ok (.aload_n 0, 1) := by decide +kernel
theorem dR_copy_47 : decode cR_copy 47 = .ok (.getfield 11, 3) := by decide +kernel
theorem dR_copy_50 : decode cR_copy 50 = .ok (.iload_n 2, 1) := by decide +kernel
theorem dR_copy_51 : decode cR_copy 51 = .ok (.iaload, 1) := by decide +kernel
theorem dR_copy_52 : decode cR_copy 52 = .ok (.iconst 4, 1) := by decide +kernel
theorem dR_copy_53 : decode cR_copy 53 = .ok (.imul, 1) := by decide +kernel
theorem dR_copy_54 : decode cR_copy 54 = .ok (.invokestatic 22, 3) := by decide +kernel
theorem dR_copy_57 : decode cR_copy 57 = .ok (.iinc 2 1, 3) := by decide +kernel
theorem dR_copy_60 : decode cR_copy 60 = .ok (.goto (-50), 3) := by decide +kernel
theorem dR_copy_63 : decode cR_copy 63 = .ok (.return_, 1) := by decide +kernel
theorem dR_rowCount_0 : decode cR_rowCount 0 = .ok (.aload_n 0, 1) := by decide +kernel
theorem dR_rowCount_1 : decode cR_rowCount 1 = .ok (.getfield 18, 3) := by decide +kernel
theorem dR_rowCount_4 : decode cR_rowCount 4 = .ok (.ireturn, 1) := by decide +kernel
theorem dR_memberCount_0 : decode cR_memberCount 0 = .ok (.aload_n 0, 1) := by decide +kernel
theorem dR_memberCount_1 : decode cR_memberCount 1 = .ok (.getfield 11, 3) := by decide +kernel
theorem dR_memberCount_4 : decode cR_memberCount 4 = .ok (.iload_n 1, 1) := by decide +kernel
theorem dR_memberCount_5 : decode cR_memberCount 5 = .ok (.iaload, 1) := by decide +kernel
theorem dR_memberCount_6 : decode cR_memberCount 6 = .ok (.ireturn, 1) := by decide +kernel
theorem dR_x_0 : decode cR_x 0 = .ok (.aload_n 0, 1) := by decide +kernel
theorem dR_x_1 : decode cR_x 1 = .ok (.getfield 15, 3) := by decide +kernel
theorem dR_x_4 : decode cR_x 4 = .ok (.iload_n 1, 1) := by decide +kernel
theorem dR_x_5 : decode cR_x 5 = .ok (.bipush 48, 2) := by decide +kernel
theorem dR_x_7 : decode cR_x 7 = .ok (.imul, 1) := by decide +kernel
theorem dR_x_8 : decode cR_x 8 = .ok (.iload_n 2, 1) := by decide +kernel
theorem dR_x_9 : decode cR_x 9 = .ok (.iconst 4, 1) := by decide +kernel
theorem dR_x_10 : decode cR_x 10 = .ok (.imul, 1) := by decide +kernel
theorem dR_x_11 : decode cR_x 11 = .ok (.iadd, 1) := by decide +kernel
theorem dR_x_12 : decode cR_x 12 = .ok (.iaload, 1) := by decide +kernel
theorem dR_x_13 : decode cR_x 13 = .ok (.ireturn, 1) := by decide +kernel
theorem dR_y_0 : decode cR_y 0 = .ok (.aload_n 0, 1) := by decide +kernel
theorem dR_y_1 : decode cR_y 1 = .ok (.getfield 15, 3) := by decide +kernel
theorem dR_y_4 : decode cR_y 4 = .ok (.iload_n 1, 1) := by decide +kernel
theorem dR_y_5 : decode cR_y 5 = .ok (.bipush 48, 2) := by decide +kernel
theorem dR_y_7 : decode cR_y 7 = .ok (.imul, 1) := by decide +kernel
theorem dR_y_8 : decode cR_y 8 = .ok (.iload_n 2, 1) := by decide +kernel
theorem dR_y_9 : decode cR_y 9 = .ok (.iconst 4, 1) := by decide +kernel
theorem dR_y_10 : decode cR_y 10 = .ok (.imul, 1) := by decide +kernel
theorem dR_y_11 : decode cR_y 11 = .ok (.iadd, 1) := by decide +kernel
theorem dR_y_12 : decode cR_y 12 = .ok (.iconst 1, 1) := by decide +kernel
theorem dR_y_13 : decode cR_y 13 = .ok (.iadd, 1) := by decide +kernel
theorem dR_y_14 : decode cR_y 14 = .ok (.iaload, 1) := by decide +kernel
theorem dR_y_15 : decode cR_y 15 = .ok (.ireturn, 1) := by decide +kernel
theorem dR_bound_0 : decode cR_bound 0 = .ok (.aload_n 0, 1) := by decide +kernel
theorem dR_bound_1 : decode cR_bound 1 = .ok (.getfield 15, 3) := by decide +kernel
theorem dR_bound_4 : decode cR_bound 4 = .ok (.iload_n 1, 1) := by decide +kernel
theorem dR_bound_5 : decode cR_bound 5 = .ok (.bipush 48, 2) := by decide +kernel
theorem dR_bound_7 : decode cR_bound 7 = .ok (.imul, 1) := by decide +kernel
theorem dR_bound_8 : decode cR_bound 8 = .ok (.iload_n 2, 1) := by decide +kernel
theorem dR_bound_9 : decode cR_bound 9 = .ok (.iconst 4, 1) := by decide +kernel
theorem dR_bound_10 : decode cR_bound 10 = .ok (.imul, 1) := by decide +kernel
theorem dR_bound_11 : decode cR_bound 11 = .ok (.iadd, 1) := by decide +kernel
theorem dR_bound_12 : decode cR_bound 12 = .ok (.iconst 2, 1) := by decide +kernel
theorem dR_bound_13 : decode cR_bound 13 = .ok (.iadd, 1) := by decide +kernel
theorem dR_bound_14 : decode cR_bound 14 = .ok (.iaload, 1) := by decide +kernel
theorem dR_bound_15 : decode cR_bound 15 = .ok (.ireturn, 1) := by decide +kernel
theorem dR_isStrict_0 : decode cR_isStrict 0 = .ok (.aload_n 0, 1) := by decide +kernel
theorem dR_isStrict_1 : decode cR_isStrict 1 = .ok (.getfield 15, 3) := by decide +kernel
theorem dR_isStrict_4 : decode cR_isStrict 4 = .ok (.iload_n 1, 1) := by decide +kernel
theorem dR_isStrict_5 : decode cR_isStrict 5 = .ok (.bipush 48, 2) := by decide +kernel
theorem dR_isStrict_7 : decode cR_isStrict 7 = .ok (.imul, 1) := by decide +kernel
theorem dR_isStrict_8 : decode cR_isStrict 8 = .ok (.iload_n 2, 1) := by decide +kernel
theorem dR_isStrict_9 : decode cR_isStrict 9 = .ok (.iconst 4, 1) := by decide +kernel
theorem dR_isStrict_10 : decode cR_isStrict 10 = .ok (.imul, 1) := by decide +kernel
theorem dR_isStrict_11 : decode cR_isStrict 11 = .ok (.iadd, 1) := by decide +kernel
theorem dR_isStrict_12 : decode cR_isStrict 12 = .ok (.iconst 3, 1) := by decide +kernel
theorem dR_isStrict_13 : decode cR_isStrict 13 = .ok (.iadd, 1) := by decide +kernel
theorem dR_isStrict_14 : decode cR_isStrict 14 = .ok (.iaload, 1) := by decide +kernel
theorem dR_isStrict_15 : decode cR_isStrict 15 = .ok (.iconst 1, 1) := by decide +kernel
theorem dR_isStrict_16 : decode cR_isStrict 16 = .ok (.if_icmp .ne 7, 3) := by decide +kernel
theorem dR_isStrict_19 : decode cR_isStrict 19 = .ok (.iconst 1, 1) := by decide +kernel
theorem dR_isStrict_20 : decode cR_isStrict 20 = .ok (.goto 4, 3) := by decide +kernel
theorem dR_isStrict_23 : decode cR_isStrict 23 = .ok (.iconst 0, 1) := by decide +kernel
theorem dR_isStrict_24 : decode cR_isStrict 24 = .ok (.ireturn, 1) := by decide +kernel
theorem dR_admit_0 : decode cR_admit 0 = .ok (.aload_n 1, 1) := by decide +kernel
theorem dR_admit_1 : decode cR_admit 1 = .ok (.invokevirtual 28, 3) := by decide +kernel
theorem dR_admit_4 : decode cR_admit 4 = .ok (.ifCond .ne 5, 3) := by decide +kernel
theorem dR_admit_7 : decode cR_admit 7 = .ok (.iconst 1, 1) := by decide +kernel
theorem dR_admit_8 : decode cR_admit 8 = .ok (.ireturn, 1) := by decide +kernel
theorem dR_admit_9 : decode cR_admit 9 = .ok (.aload_n 1, 1) := by decide +kernel
theorem dR_admit_10 : decode cR_admit 10 = .ok (.invokevirtual 34, 3) := by decide +kernel
theorem dR_admit_13 : decode cR_admit 13 = .ok (.aload_n 1, 1) := by decide +kernel
theorem dR_admit_14 : decode cR_admit 14 = .ok (.invokevirtual 37, 3) := by decide +kernel
theorem dR_admit_17 : decode cR_admit 17 = .ok (.ifCond .ne 5, 3) := by decide +kernel
theorem dR_admit_20 : decode cR_admit 20 = .ok (.iconst 0, 1) := by decide +kernel
theorem dR_admit_21 : decode cR_admit 21 = .ok (.ireturn, 1) := by decide +kernel
theorem dR_admit_22 : decode cR_admit 22 = .ok (.aload_n 0, 1) := by decide +kernel
theorem dR_admit_23 : decode cR_admit 23 = .ok (.aload_n 1, 1) := by decide +kernel
theorem dR_admit_24 : decode cR_admit 24 = .ok (.invokevirtual 40, 3) := by decide +kernel
theorem dR_admit_27 : decode cR_admit 27 = .ok (.ifCond .eq 5, 3) := by decide +kernel
theorem dR_admit_30 : decode cR_admit 30 = .ok (.iconst 1, 1) := by decide +kernel
theorem dR_admit_31 : decode cR_admit 31 = .ok (.ireturn, 1) := by decide +kernel
theorem dR_admit_32 : decode cR_admit 32 = .ok (.aload_n 0, 1) := by decide +kernel
theorem dR_admit_33 : decode cR_admit 33 = .ok (.getfield 18, 3) := by decide +kernel
theorem dR_admit_36 : decode cR_admit 36 = .ok (.bipush 12, 2) := by decide +kernel
theorem dR_admit_38 : decode cR_admit 38 = .ok (.if_icmp .lt 5, 3) := by decide +kernel
theorem dR_admit_41 : decode cR_admit 41 = .ok (.iconst 0, 1) := by decide +kernel
theorem dR_admit_42 : decode cR_admit 42 = .ok (.ireturn, 1) := by decide +kernel
theorem dR_admit_43 : decode cR_admit 43 = .ok (.aload_n 0, 1) := by decide +kernel
theorem dR_admit_44 : decode cR_admit 44 = .ok (.aload_n 1, 1) := by decide +kernel
theorem dR_admit_45 : decode cR_admit 45 = .ok (.invokevirtual 44, 3) := by decide +kernel
theorem dR_admit_48 : decode cR_admit 48 = .ok (.iconst 1, 1) := by decide +kernel
theorem dR_admit_49 : decode cR_admit 49 = .ok (.ireturn, 1) := by decide +kernel
theorem dR_contains_0 : decode cR_contains 0 = .ok (.iconst 0, 1) := by decide +kernel
theorem dR_contains_1 : decode cR_contains 1 = .ok (.istore_n 2, 1) := by decide +kernel
theorem dR_contains_2 : decode cR_contains 2 = .ok (.iload_n 2, 1) := by decide +kernel
theorem dR_contains_3 : decode cR_contains 3 = .ok (.aload_n 0, 1) := by decide +kernel
theorem dR_contains_4 : decode cR_contains 4 = .ok (.getfield 18, 3) := by decide +kernel
theorem dR_contains_7 : decode cR_contains 7 = .ok (.if_icmp .ge 20, 3) := by decide +kernel
theorem dR_contains_10 : decode cR_contains 10 = .ok (.aload_n 0, 1) := by decide +kernel
theorem dR_contains_11 : decode cR_contains 11 = .ok (.iload_n 2, 1) := by decide +kernel
theorem dR_contains_12 : decode cR_contains 12 = .ok (.aload_n 1, 1) := by decide +kernel
theorem dR_contains_13 : decode cR_contains 13 = .ok (.invokevirtual 48, 3) := by decide +kernel
theorem dR_contains_16 : decode cR_contains 16 = .ok (.ifCond .eq 5, 3) := by decide +kernel
theorem dR_contains_19 : decode cR_contains 19 = .ok (.iconst 1, 1) := by decide +kernel
theorem dR_contains_20 : decode cR_contains 20 = .ok (.ireturn, 1) := by decide +kernel
theorem dR_contains_21 : decode cR_contains 21 = .ok (.iinc 2 1, 3) := by decide +kernel
theorem dR_contains_24 : decode cR_contains 24 = .ok (.goto (-22), 3) := by decide +kernel
theorem dR_contains_27 : decode cR_contains 27 = .ok (.iconst 0, 1) := by decide +kernel
theorem dR_contains_28 : decode cR_contains 28 = .ok (.ireturn, 1) := by decide +kernel
theorem dR_isSame_0 : decode cR_isSame 0 = .ok (.aload_n 0, 1) := by decide +kernel
theorem dR_isSame_1 : decode cR_isSame 1 = .ok (.getfield 11, 3) := by decide +kernel
theorem dR_isSame_4 : decode cR_isSame 4 = .ok (.iload_n 1, 1) := by decide +kernel
theorem dR_isSame_5 : decode cR_isSame 5 = .ok (.iaload, 1) := by decide +kernel
theorem dR_isSame_6 : decode cR_isSame 6 = .ok (.aload_n 2, 1) := by decide +kernel
theorem dR_isSame_7 : decode cR_isSame 7 = .ok (.invokevirtual 52, 3) := by decide +kernel
theorem dR_isSame_10 : decode cR_isSame 10 = .ok (.if_icmp .eq 5, 3) := by decide +kernel
theorem dR_isSame_13 : decode cR_isSame 13 = .ok (.iconst 0, 1) := by decide +kernel
theorem dR_isSame_14 : decode cR_isSame 14 = .ok (.ireturn, 1) := by decide +kernel
theorem dR_isSame_15 : decode cR_isSame 15 = .ok (.iconst 0, 1) := by decide +kernel
theorem dR_isSame_16 : decode cR_isSame 16 = .ok (.istore_n 3, 1) := by decide +kernel
theorem dR_isSame_17 : decode cR_isSame 17 = .ok (.iload_n 3, 1) := by decide +kernel
theorem dR_isSame_18 : decode cR_isSame 18 = .ok (.aload_n 0, 1) := by decide +kernel
theorem dR_isSame_19 : decode cR_isSame 19 = .ok (.getfield 11, 3) := by decide +kernel
theorem dR_isSame_22 : decode cR_isSame 22 = .ok (.iload_n 1, 1) := by decide +kernel
theorem dR_isSame_23 : decode cR_isSame 23 = .ok (.iaload, 1) := by decide +kernel
theorem dR_isSame_24 : decode cR_isSame 24 = .ok (.if_icmp .ge 73, 3) := by decide +kernel
theorem dR_isSame_27 : decode cR_isSame 27 = .ok (.aload_n 0, 1) := by decide +kernel
theorem dR_isSame_28 : decode cR_isSame 28 = .ok (.iload_n 1, 1) := by decide +kernel
theorem dR_isSame_29 : decode cR_isSame 29 = .ok (.iload_n 3, 1) := by decide +kernel
theorem dR_isSame_30 : decode cR_isSame 30 = .ok (.invokevirtual 56, 3) := by decide +kernel
theorem dR_isSame_33 : decode cR_isSame 33 = .ok (.i2l, 1) := by decide +kernel
theorem dR_isSame_34 : decode cR_isSame 34 = .ok (.aload_n 2, 1) := by decide +kernel
theorem dR_isSame_35 : decode cR_isSame 35 = .ok (.iload_n 3, 1) := by decide +kernel
theorem dR_isSame_36 : decode cR_isSame 36 = .ok (.invokevirtual 60, 3) := by decide +kernel
theorem dR_isSame_39 : decode cR_isSame 39 = .ok (.lcmp, 1) := by decide +kernel
theorem dR_isSame_40 : decode cR_isSame 40 = .ok (.ifCond .ne 49, 3) := by decide +kernel
theorem dR_isSame_43 : decode cR_isSame 43 = .ok (.aload_n 0, 1) := by decide +kernel
theorem dR_isSame_44 : decode cR_isSame 44 = .ok (.iload_n 1, 1) := by decide +kernel
theorem dR_isSame_45 : decode cR_isSame 45 = .ok (.iload_n 3, 1) := by decide +kernel
theorem dR_isSame_46 : decode cR_isSame 46 = .ok (.invokevirtual 63, 3) := by decide +kernel
theorem dR_isSame_49 : decode cR_isSame 49 = .ok (.i2l, 1) := by decide +kernel
theorem dR_isSame_50 : decode cR_isSame 50 = .ok (.aload_n 2, 1) := by decide +kernel
theorem dR_isSame_51 : decode cR_isSame 51 = .ok (.iload_n 3, 1) := by decide +kernel
theorem dR_isSame_52 : decode cR_isSame 52 = .ok (.invokevirtual 66, 3) := by decide +kernel
theorem dR_isSame_55 : decode cR_isSame 55 = .ok (.lcmp, 1) := by decide +kernel
theorem dR_isSame_56 : decode cR_isSame 56 = .ok (.ifCond .ne 33, 3) := by decide +kernel
theorem dR_isSame_59 : decode cR_isSame 59 = .ok (.aload_n 0, 1) := by decide +kernel
theorem dR_isSame_60 : decode cR_isSame 60 = .ok (.iload_n 1, 1) := by decide +kernel
theorem dR_isSame_61 : decode cR_isSame 61 = .ok (.iload_n 3, 1) := by decide +kernel
theorem dR_isSame_62 : decode cR_isSame 62 = .ok (.invokevirtual 68, 3) := by decide +kernel
theorem dR_isSame_65 : decode cR_isSame 65 = .ok (.i2l, 1) := by decide +kernel
theorem dR_isSame_66 : decode cR_isSame 66 = .ok (.aload_n 2, 1) := by decide +kernel
theorem dR_isSame_67 : decode cR_isSame 67 = .ok (.iload_n 3, 1) := by decide +kernel
theorem dR_isSame_68 : decode cR_isSame 68 = .ok (.invokevirtual 71, 3) := by decide +kernel
theorem dR_isSame_71 : decode cR_isSame 71 = .ok (.lcmp, 1) := by decide +kernel
theorem dR_isSame_72 : decode cR_isSame 72 = .ok (.ifCond .ne 17, 3) := by decide +kernel
theorem dR_isSame_75 : decode cR_isSame 75 = .ok (.aload_n 0, 1) := by decide +kernel
theorem dR_isSame_76 : decode cR_isSame 76 = .ok (.iload_n 1, 1) := by decide +kernel
theorem dR_isSame_77 : decode cR_isSame 77 = .ok (.iload_n 3, 1) := by decide +kernel
theorem dR_isSame_78 : decode cR_isSame 78 = .ok (.invokevirtual 73, 3) := by decide +kernel
theorem dR_isSame_81 : decode cR_isSame 81 = .ok (.aload_n 2, 1) := by decide +kernel
theorem dR_isSame_82 : decode cR_isSame 82 = .ok (.iload_n 3, 1) := by decide +kernel
theorem dR_isSame_83 : decode cR_isSame 83 = .ok (.invokevirtual 77, 3) := by decide +kernel
theorem dR_isSame_86 : decode cR_isSame 86 = .ok (.if_icmp .eq 5, 3) := by decide +kernel
theorem dR_isSame_89 : decode cR_isSame 89 = .ok (.iconst 0, 1) := by decide +kernel
theorem dR_isSame_90 : decode cR_isSame 90 = .ok (.ireturn, 1) := by decide +kernel
theorem dR_isSame_91 : decode cR_isSame 91 = .ok (.iinc 3 1, 3) := by decide +kernel
theorem dR_isSame_94 : decode cR_isSame 94 = .ok (.goto (-77), 3) := by decide +kernel
theorem dR_isSame_97 : decode cR_isSame 97 = .ok (.iconst 1, 1) := by decide +kernel
theorem dR_isSame_98 : decode cR_isSame 98 = .ok (.ireturn, 1) := by decide +kernel
theorem dR_append_0 : decode cR_append 0 = .ok (.aload_n 0, 1) := by decide +kernel
theorem dR_append_1 : decode cR_append 1 = .ok (.getfield 11, 3) := by decide +kernel
theorem dR_append_4 : decode cR_append 4 = .ok (.aload_n 0, 1) := by decide +kernel
theorem dR_append_5 : decode cR_append 5 = .ok (.getfield 18, 3) := by decide +kernel
theorem dR_append_8 : decode cR_append 8 = .ok (.aload_n 1, 1) := by decide +kernel
theorem dR_append_9 : decode cR_append 9 = .ok (.invokevirtual 52, 3) := by decide +kernel
theorem dR_append_12 : decode cR_append 12 = .ok (.iastore, 1) := by decide +kernel
theorem dR_append_13 : decode cR_append 13 = .ok (.iconst 0, 1) := by decide +kernel
theorem dR_append_14 : decode cR_append 14 = .ok (.istore_n 2, 1) := by decide +kernel
theorem dR_append_15 : decode cR_append 15 = .ok (.iload_n 2, 1) := by decide +kernel
theorem dR_append_16 : decode cR_append 16 = .ok (.aload_n 0, 1) := by decide +kernel
theorem dR_append_17 : decode cR_append 17 = .ok (.getfield 11, 3) := by decide +kernel
theorem dR_append_20 : decode cR_append 20 = .ok (.aload_n 0, 1) := by decide +kernel
theorem dR_append_21 : decode cR_append 21 = .ok (.getfield 18, 3) := by decide +kernel
theorem dR_append_24 : decode cR_append 24 = .ok (.iaload, 1) := by decide +kernel
theorem dR_append_25 : decode cR_append 25 = .ok (.if_icmp .ge 82, 3) := by decide +kernel
theorem dR_append_28 : decode cR_append 28 = .ok (.aload_n 0, 1) := by decide +kernel
theorem dR_append_29 : decode cR_append 29 = .ok (.getfield 18, 3) := by decide +kernel
theorem dR_append_32 : decode cR_append 32 = .ok (.bipush 48, 2) := by decide +kernel
theorem dR_append_34 : decode cR_append 34 = .ok (.imul, 1) := by decide +kernel
theorem dR_append_35 : decode cR_append 35 = .ok (.iload_n 2, 1) := by decide +kernel
theorem dR_append_36 : decode cR_append 36 = .ok (.iconst 4, 1) := by decide +kernel
theorem dR_append_37 : decode cR_append 37 = .ok (.imul, 1) := by decide +kernel
theorem dR_append_38 : decode cR_append 38 = .ok (.iadd, 1) := by decide +kernel
theorem dR_append_39 : decode cR_append 39 = .ok (.istore_n 3, 1) := by decide +kernel
theorem dR_append_40 : decode cR_append 40 = .ok (.aload_n 0, 1) := by decide +kernel
theorem dR_append_41 : decode cR_append 41 = .ok (.getfield 15, 3) := by decide +kernel
theorem dR_append_44 : decode cR_append 44 = .ok (.iload_n 3, 1) := by decide +kernel
theorem dR_append_45 : decode cR_append 45 = .ok (.aload_n 1, 1) := by decide +kernel
theorem dR_append_46 : decode cR_append 46 = .ok (.iload_n 2, 1) := by decide +kernel
theorem dR_append_47 : decode cR_append 47 = .ok (.invokevirtual 60, 3) := by decide +kernel
theorem dR_append_50 : decode cR_append 50 = .ok (.l2i, 1) := by decide +kernel
theorem dR_append_51 : decode cR_append 51 = .ok (.iastore, 1) := by decide +kernel
theorem dR_append_52 : decode cR_append 52 = .ok (.aload_n 0, 1) := by decide +kernel
theorem dR_append_53 : decode cR_append 53 = .ok (.getfield 15, 3) := by decide +kernel
theorem dR_append_56 : decode cR_append 56 = .ok (.iload_n 3, 1) := by decide +kernel
theorem dR_append_57 : decode cR_append 57 = .ok (.iconst 1, 1) := by decide +kernel
theorem dR_append_58 : decode cR_append 58 = .ok (.iadd, 1) := by decide +kernel
theorem dR_append_59 : decode cR_append 59 = .ok (.aload_n 1, 1) := by decide +kernel
theorem dR_append_60 : decode cR_append 60 = .ok (.iload_n 2, 1) := by decide +kernel
theorem dR_append_61 : decode cR_append 61 = .ok (.invokevirtual 66, 3) := by decide +kernel
theorem dR_append_64 : decode cR_append 64 = .ok (.l2i, 1) := by decide +kernel
theorem dR_append_65 : decode cR_append 65 = .ok (.iastore, 1) := by decide +kernel
theorem dR_append_66 : decode cR_append 66 = .ok (.aload_n 0, 1) := by decide +kernel
theorem dR_append_67 : decode cR_append 67 = .ok (.getfield 15, 3) := by decide +kernel
theorem dR_append_70 : decode cR_append 70 = .ok (.iload_n 3, 1) := by decide +kernel
theorem dR_append_71 : decode cR_append 71 = .ok (.iconst 2, 1) := by decide +kernel
theorem dR_append_72 : decode cR_append 72 = .ok (.iadd, 1) := by decide +kernel
theorem dR_append_73 : decode cR_append 73 = .ok (.aload_n 1, 1) := by decide +kernel
theorem dR_append_74 : decode cR_append 74 = .ok (.iload_n 2, 1) := by decide +kernel
theorem dR_append_75 : decode cR_append 75 = .ok (.invokevirtual 71, 3) := by decide +kernel
theorem dR_append_78 : decode cR_append 78 = .ok (.l2i, 1) := by decide +kernel
theorem dR_append_79 : decode cR_append 79 = .ok (.iastore, 1) := by decide +kernel
theorem dR_append_80 : decode cR_append 80 = .ok (.aload_n 0, 1) := by decide +kernel
theorem dR_append_81 : decode cR_append 81 = .ok (.getfield 15, 3) := by decide +kernel
theorem dR_append_84 : decode cR_append 84 = .ok (.iload_n 3, 1) := by decide +kernel
theorem dR_append_85 : decode cR_append 85 = .ok (.iconst 3, 1) := by decide +kernel
theorem dR_append_86 : decode cR_append 86 = .ok (.iadd, 1) := by decide +kernel
theorem dR_append_87 : decode cR_append 87 = .ok (.aload_n 1, 1) := by decide +kernel
theorem dR_append_88 : decode cR_append 88 = .ok (.iload_n 2, 1) := by decide +kernel
theorem dR_append_89 : decode cR_append 89 = .ok (.invokevirtual 77, 3) := by decide +kernel
theorem dR_append_92 : decode cR_append 92 = .ok (.ifCond .eq 7, 3) := by decide +kernel
theorem dR_append_95 : decode cR_append 95 = .ok (.iconst 1, 1) := by decide +kernel
theorem dR_append_96 : decode cR_append 96 = .ok (.goto 4, 3) := by decide +kernel
theorem dR_append_99 : decode cR_append 99 = .ok (.iconst 0, 1) := by decide +kernel
theorem dR_append_100 : decode cR_append 100 = .ok (.iastore, 1) := by decide +kernel
theorem dR_append_101 : decode cR_append 101 = .ok (.iinc 2 1, 3) := by decide +kernel
theorem dR_append_104 : decode cR_append 104 = .ok (.goto (-89), 3) := by decide +kernel
theorem dR_append_107 : decode cR_append 107 = .ok (.aload_n 0, 1) := by decide +kernel
theorem dR_append_108 : decode cR_append 108 = .ok (.dup, 1) := by decide +kernel
theorem dR_append_109 : decode cR_append 109 = .ok (.getfield 18, 3) := by decide +kernel
theorem dR_append_112 : decode cR_append 112 = .ok (.iconst 1, 1) := by decide +kernel
theorem dR_append_113 : decode cR_append 113 = .ok (.iadd, 1) := by decide +kernel
theorem dR_append_114 : decode cR_append 114 = .ok (.putfield 18, 3) := by decide +kernel
theorem dR_append_117 : decode cR_append 117 = .ok (.return_, 1) := by decide +kernel
theorem dR_pour_0 : decode cR_pour 0 = .ok (.iconst 0, 1) := by decide +kernel
theorem dR_pour_1 : decode cR_pour 1 = .ok (.istore 4, 2) := by decide +kernel
theorem dR_pour_3 : decode cR_pour 3 = .ok (.iload 4, 2) := by decide +kernel
theorem dR_pour_5 : decode cR_pour 5 = .ok (.iload_n 2, 1) := by decide +kernel
theorem dR_pour_6 : decode cR_pour 6 = .ok (.if_icmp .ge 44, 3) := by decide +kernel
theorem dR_pour_9 : decode cR_pour 9 = .ok (.aload_n 3, 1) := by decide +kernel
theorem dR_pour_10 : decode cR_pour 10 = .ok (.aload_n 0, 1) := by decide +kernel
theorem dR_pour_11 : decode cR_pour 11 = .ok (.iload_n 1, 1) := by decide +kernel
theorem dR_pour_12 : decode cR_pour 12 = .ok (.iload 4, 2) := by decide +kernel
theorem dR_pour_14 : decode cR_pour 14 = .ok (.invokevirtual 56, 3) := by decide +kernel
theorem dR_pour_17 : decode cR_pour 17 = .ok (.i2l, 1) := by decide +kernel
theorem dR_pour_18 : decode cR_pour 18 = .ok (.aload_n 0, 1) := by decide +kernel
theorem dR_pour_19 : decode cR_pour 19 = .ok (.iload_n 1, 1) := by decide +kernel
theorem dR_pour_20 : decode cR_pour 20 = .ok (.iload 4, 2) := by decide +kernel
theorem dR_pour_22 : decode cR_pour 22 = .ok (.invokevirtual 63, 3) := by decide +kernel
theorem dR_pour_25 : decode cR_pour 25 = .ok (.i2l, 1) := by decide +kernel
theorem dR_pour_26 : decode cR_pour 26 = .ok (.aload_n 0, 1) := by decide +kernel
theorem dR_pour_27 : decode cR_pour 27 = .ok (.iload_n 1, 1) := by decide +kernel
theorem dR_pour_28 : decode cR_pour 28 = .ok (.iload 4, 2) := by decide +kernel
theorem dR_pour_30 : decode cR_pour 30 = .ok (.invokevirtual 68, 3) := by decide +kernel
theorem dR_pour_33 : decode cR_pour 33 = .ok (.i2l, 1) := by decide +kernel
theorem dR_pour_34 : decode cR_pour 34 = .ok (.aload_n 0, 1) := by decide +kernel
theorem dR_pour_35 : decode cR_pour 35 = .ok (.iload_n 1, 1) := by decide +kernel
theorem dR_pour_36 : decode cR_pour 36 = .ok (.iload 4, 2) := by decide +kernel
theorem dR_pour_38 : decode cR_pour 38 = .ok (.invokevirtual 73, 3) := by decide +kernel
theorem dR_pour_41 : decode cR_pour 41 = .ok (.invokevirtual 80, 3) := by decide +kernel
theorem dR_pour_44 : decode cR_pour 44 = .ok (.iinc 4 1, 3) := by decide +kernel
theorem dR_pour_47 : decode cR_pour 47 = .ok (.goto (-44), 3) := by decide +kernel
theorem dR_pour_50 : decode cR_pour 50 = .ok (.return_, 1) := by decide +kernel
theorem dR_pourContrary_0 : decode cR_pourContrary 0 = .ok (.aload_n 3, 1) := by decide +kernel
theorem dR_pourContrary_1 : decode cR_pourContrary 1 = .ok (.aload_n 0, 1) := by decide +kernel
theorem dR_pourContrary_2 : decode cR_pourContrary 2 = .ok (.iload_n 1, 1) := by decide +kernel
theorem dR_pourContrary_3 : decode cR_pourContrary 3 = .ok (.iload_n 2, 1) := by decide +kernel
theorem dR_pourContrary_4 : decode cR_pourContrary 4 = .ok (.invokevirtual 56, 3) := by decide +kernel
theorem dR_pourContrary_7 : decode cR_pourContrary 7 = .ok (.ineg, 1) := by decide +kernel
theorem dR_pourContrary_8 : decode cR_pourContrary 8 = .ok (.i2l, 1) := by decide +kernel
theorem dR_pourContrary_9 : decode cR_pourContrary 9 = .ok (.aload_n 0, 1) := by decide +kernel
theorem dR_pourContrary_10 : decode cR_pourContrary 10 = .ok (.iload_n 1, 1) := by decide +kernel
theorem dR_pourContrary_11 : decode cR_pourContrary 11 = .ok (.iload_n 2, 1) := by decide +kernel
theorem dR_pourContrary_12 : decode cR_pourContrary 12 = .ok (.invokevirtual 63, 3) := by decide +kernel
theorem dR_pourContrary_15 : decode cR_pourContrary 15 = .ok (.ineg, 1) := by decide +kernel
theorem dR_pourContrary_16 : decode cR_pourContrary 16 = .ok (.i2l, 1) := by decide +kernel
theorem dR_pourContrary_17 : decode cR_pourContrary 17 = .ok (.aload_n 0, 1) := by decide +kernel
theorem dR_pourContrary_18 : decode cR_pourContrary 18 = .ok (.iload_n 1, 1) := by decide +kernel
theorem dR_pourContrary_19 : decode cR_pourContrary 19 = .ok (.iload_n 2, 1) := by decide +kernel
theorem dR_pourContrary_20 : decode cR_pourContrary 20 = .ok (.invokevirtual 68, 3) := by decide +kernel
theorem dR_pourContrary_23 : decode cR_pourContrary 23 = .ok (.ineg, 1) := by decide +kernel
theorem dR_pourContrary_24 : decode cR_pourContrary 24 = .ok (.i2l, 1) := by decide +kernel
theorem dR_pourContrary_25 : decode cR_pourContrary 25 = .ok (.aload_n 0, 1) := by decide +kernel
theorem dR_pourContrary_26 : decode cR_pourContrary 26 = .ok (.iload_n 1, 1) := by decide +kernel
theorem dR_pourContrary_27 : decode cR_pourContrary 27 = .ok (.iload_n 2, 1) := by decide +kernel
theorem dR_pourContrary_28 : decode cR_pourContrary 28 = .ok (.invokevirtual 73, 3) := by decide +kernel
theorem dR_pourContrary_31 : decode cR_pourContrary 31 = .ok (.ifCond .ne 7, 3) := by decide +kernel
theorem dR_pourContrary_34 : decode cR_pourContrary 34 = .ok (.iconst 1, 1) := by decide +kernel
theorem dR_pourContrary_35 : decode cR_pourContrary 35 = .ok (.goto 4, 3) := by decide +kernel
theorem dR_pourContrary_38 : decode cR_pourContrary 38 = .ok (.iconst 0, 1) := by decide +kernel
theorem dR_pourContrary_39 : decode cR_pourContrary 39 = .ok (.invokevirtual 80, 3) := by decide +kernel
theorem dR_pourContrary_42 : decode cR_pourContrary 42 = .ok (.return_, 1) := by decide +kernel
theorem dR_hasPoint_0 : decode cR_hasPoint 0 = .ok (.iconst 0, 1) := by decide +kernel
theorem dR_hasPoint_1 : decode cR_hasPoint 1 = .ok (.istore 4, 2) := by decide +kernel
theorem dR_hasPoint_3 : decode cR_hasPoint 3 = .ok (.iload 4, 2) := by decide +kernel
theorem dR_hasPoint_5 : decode cR_hasPoint 5 = .ok (.aload_n 0, 1) := by decide +kernel
theorem dR_hasPoint_6 : decode cR_hasPoint 6 = .ok (.getfield 18, 3) := by decide +kernel
theorem dR_hasPoint_9 : decode cR_hasPoint 9 = .ok (.if_icmp .ge 23, 3) := by decide +kernel
theorem dR_hasPoint_12 : decode cR_hasPoint 12 = .ok (.aload_n 0, 1) := by decide +kernel
theorem dR_hasPoint_13 : decode cR_hasPoint 13 = .ok (.iload 4, 2) := by decide +kernel
theorem dR_hasPoint_15 : decode cR_hasPoint 15 = .ok (.iload_n 1, 1) := by decide +kernel
theorem dR_hasPoint_16 : decode cR_hasPoint 16 = .ok (.iload_n 2, 1) := by decide +kernel
theorem dR_hasPoint_17 : decode cR_hasPoint 17 = .ok (.iload_n 3, 1) := by decide +kernel
theorem dR_hasPoint_18 : decode cR_hasPoint 18 = .ok (.invokevirtual 84, 3) := by decide +kernel
theorem dR_hasPoint_21 : decode cR_hasPoint 21 = .ok (.ifCond .eq 5, 3) := by decide +kernel
theorem dR_hasPoint_24 : decode cR_hasPoint 24 = .ok (.iconst 1, 1) := by decide +kernel
theorem dR_hasPoint_25 : decode cR_hasPoint 25 = .ok (.ireturn, 1) := by decide +kernel
theorem dR_hasPoint_26 : decode cR_hasPoint 26 = .ok (.iinc 4 1, 3) := by decide +kernel
theorem dR_hasPoint_29 : decode cR_hasPoint 29 = .ok (.goto (-26), 3) := by decide +kernel
theorem dR_hasPoint_32 : decode cR_hasPoint 32 = .ok (.iconst 0, 1) := by decide +kernel
theorem dR_hasPoint_33 : decode cR_hasPoint 33 = .ok (.ireturn, 1) := by decide +kernel
theorem dR_rowHasPoint_0 : decode cR_rowHasPoint 0 = .ok (.iconst 0, 1) := by decide +kernel
theorem dR_rowHasPoint_1 : decode cR_rowHasPoint 1 = .ok (.istore 5, 2) := by decide +kernel
theorem dR_rowHasPoint_3 : decode cR_rowHasPoint 3 = .ok (.iload 5, 2) := by decide +kernel
theorem dR_rowHasPoint_5 : decode cR_rowHasPoint 5 = .ok (.aload_n 0, 1) := by decide +kernel
theorem dR_rowHasPoint_6 : decode cR_rowHasPoint 6 = .ok (.getfield 11, 3) := by decide +kernel
theorem dR_rowHasPoint_9 : decode cR_rowHasPoint 9 = .ok (.iload_n 1, 1) := by decide +kernel
theorem dR_rowHasPoint_10 : decode cR_rowHasPoint 10 = .ok (.iaload, 1) := by decide +kernel
theorem dR_rowHasPoint_11 : decode cR_rowHasPoint 11 = .ok (.if_icmp .ge 68, 3) := by decide +kernel
theorem dR_rowHasPoint_14 : decode cR_rowHasPoint 14 = .ok (.aload_n 0, 1) := by decide +kernel
theorem dR_rowHasPoint_15 : decode cR_rowHasPoint 15 = .ok (.iload_n 1, 1) := by decide +kernel
theorem dR_rowHasPoint_16 : decode cR_rowHasPoint 16 = .ok (.iload 5, 2) := by decide +kernel
theorem dR_rowHasPoint_18 : decode cR_rowHasPoint 18 = .ok (.invokevirtual 56, 3) := by decide +kernel
theorem dR_rowHasPoint_21 : decode cR_rowHasPoint 21 = .ok (.iload_n 2, 1) := by decide +kernel
theorem dR_rowHasPoint_22 : decode cR_rowHasPoint 22 = .ok (.imul, 1) := by decide +kernel
theorem dR_rowHasPoint_23 : decode cR_rowHasPoint 23 = .ok (.aload_n 0, 1) := by decide +kernel
theorem dR_rowHasPoint_24 : decode cR_rowHasPoint 24 = .ok (.iload_n 1, 1) := by decide +kernel
theorem dR_rowHasPoint_25 : decode cR_rowHasPoint 25 = .ok (.iload 5, 2) := by decide +kernel
theorem dR_rowHasPoint_27 : decode cR_rowHasPoint 27 = .ok (.invokevirtual 63, 3) := by decide +kernel
theorem dR_rowHasPoint_30 : decode cR_rowHasPoint 30 = .ok (.iload_n 3, 1) := by decide +kernel
theorem dR_rowHasPoint_31 : decode cR_rowHasPoint 31 = .ok (.imul, 1) := by decide +kernel
theorem dR_rowHasPoint_32 : decode cR_rowHasPoint 32 = .ok (.iadd, 1) := by decide +kernel
theorem dR_rowHasPoint_33 : decode cR_rowHasPoint 33 = .ok (.istore 6, 2) := by decide +kernel
theorem dR_rowHasPoint_35 : decode cR_rowHasPoint 35 = .ok (.aload_n 0, 1) := by decide +kernel
theorem dR_rowHasPoint_36 : decode cR_rowHasPoint 36 = .ok (.iload_n 1, 1) := by decide +kernel
theorem dR_rowHasPoint_37 : decode cR_rowHasPoint 37 = .ok (.iload 5, 2) := by decide +kernel
theorem dR_rowHasPoint_39 : decode cR_rowHasPoint 39 = .ok (.invokevirtual 68, 3) := by decide +kernel
theorem dR_rowHasPoint_42 : decode cR_rowHasPoint 42 = .ok (.iload 4, 2) := by decide +kernel
theorem dR_rowHasPoint_44 : decode cR_rowHasPoint 44 = .ok (.imul, 1) := by decide +kernel
theorem dR_rowHasPoint_45 : decode cR_rowHasPoint 45 = .ok (.istore 7, 2) := by decide +kernel
theorem dR_rowHasPoint_47 : decode cR_rowHasPoint 47 = .ok (.iload 6, 2) := by decide +kernel
theorem dR_rowHasPoint_49 : decode cR_rowHasPoint 49 = .ok (.iload 7, 2) := by decide +kernel
theorem dR_rowHasPoint_51 : decode cR_rowHasPoint 51 = .ok (.if_icmp .gt 20, 3) := by decide +kernel
theorem dR_rowHasPoint_54 : decode cR_rowHasPoint 54 = .ok (.iload 6, 2) := by decide +kernel
theorem dR_rowHasPoint_56 : decode cR_rowHasPoint 56 = .ok (.iload 7, 2) := by decide +kernel
theorem dR_rowHasPoint_58 : decode cR_rowHasPoint 58 = .ok (.if_icmp .ne 15, 3) := by decide +kernel
theorem dR_rowHasPoint_61 : decode cR_rowHasPoint 61 = .ok (.aload_n 0, 1) := by decide +kernel
theorem dR_rowHasPoint_62 : decode cR_rowHasPoint 62 = .ok (.iload_n 1, 1) := by decide +kernel
theorem dR_rowHasPoint_63 : decode cR_rowHasPoint 63 = .ok (.iload 5, 2) := by decide +kernel
theorem dR_rowHasPoint_65 : decode cR_rowHasPoint 65 = .ok (.invokevirtual 73, 3) := by decide +kernel
theorem dR_rowHasPoint_68 : decode cR_rowHasPoint 68 = .ok (.ifCond .eq 5, 3) := by decide +kernel
theorem dR_rowHasPoint_71 : decode cR_rowHasPoint 71 = .ok (.iconst 0, 1) := by decide +kernel
theorem dR_rowHasPoint_72 : decode cR_rowHasPoint 72 = .ok (.ireturn, 1) := by decide +kernel
theorem dR_rowHasPoint_73 : decode cR_rowHasPoint 73 = .ok (.iinc 5 1, 3) := by decide +kernel
theorem dR_rowHasPoint_76 : decode cR_rowHasPoint 76 = .ok (.goto (-73), 3) := by decide +kernel
theorem dR_rowHasPoint_79 : decode cR_rowHasPoint 79 = .ok (.iconst 1, 1) := by decide +kernel
theorem dR_rowHasPoint_80 : decode cR_rowHasPoint 80 = .ok (.ireturn, 1) := by decide +kernel
