theorem dW_init_0 : decode cW_init 0 = .ok (.aload_n 0, 1) := by decide +kernel
theorem dW_init_1 : decode cW_init 1 = .ok (.invokespecial 1, 3) := by decide +kernel
theorem dW_init_4 : decode cW_init 4 = .ok (.aload_n 0, 1) := by decide +kernel
theorem dW_init_5 : decode cW_init 5 = .ok (.new 7, 3) := by decide +kernel
theorem dW_init_8 : decode cW_init 8 = .ok (.dup, 1) := by decide +kernel
theorem dW_init_9 : decode cW_init 9 = .ok (.invokespecial 9, 3) := by decide +kernel
theorem dW_init_12 : decode cW_init 12 = .ok (.putfield 10, 3) := by decide +kernel
theorem dW_init_15 : decode cW_init 15 = .ok (.aload_n 0, 1) := by decide +kernel
theorem dW_init_16 : decode cW_init 16 = .ok (.new 16, 3) := by decide +kernel
theorem dW_init_19 : decode cW_init 19 = .ok (.dup, 1) := by decide +kernel
theorem dW_init_20 : decode cW_init 20 = .ok (.invokespecial 18, 3) := by decide +kernel
theorem dW_init_23 : decode cW_init 23 = .ok (.putfield 19, 3) := by decide +kernel
theorem dW_init_26 : decode cW_init 26 = .ok (.aload_n 0, 1) := by decide +kernel
theorem dW_init_27 : decode cW_init 27 = .ok (.new 16, 3) := by decide +kernel
theorem dW_init_30 : decode cW_init 30 = .ok (.dup, 1) := by decide +kernel
theorem dW_init_31 : decode cW_init 31 = .ok (.invokespecial 18, 3) := by decide +kernel
theorem dW_init_34 : decode cW_init 34 = .ok (.putfield 23, 3) := by decide +kernel
theorem dW_init_37 : decode cW_init 37 = .ok (.aload_n 0, 1) := by decide +kernel
theorem dW_init_38 : decode cW_init 38 = .ok (.new 16, 3) := by decide +kernel
theorem dW_init_41 : decode cW_init 41 = .ok (.dup, 1) := by decide +kernel
theorem dW_init_42 : decode cW_init 42 = .ok (.invokespecial 18, 3) := by decide +kernel
theorem dW_init_45 : decode cW_init 45 = .ok (.putfield 26, 3) := by decide +kernel
theorem dW_init_48 : decode cW_init 48 = .ok (.return_, 1) := by decide +kernel
theorem dW_result_0 : decode cW_result 0 = .ok (.aload_n 0, 1) := by decide +kernel
theorem dW_result_1 : decode cW_result 1 = .ok (.getfield 23, 3) := by decide +kernel
theorem dW_result_4 : decode cW_result 4 = .ok (.areturn, 1) := by decide +kernel
theorem dW_intersect_0 : decode cW_intersect 0 = .ok (.aload_n 0, 1) := by decide +kernel
theorem dW_intersect_1 : decode cW_intersect 1 = .ok (.getfield 23, 3) := by decide +kernel
theorem dW_intersect_4 : decode cW_intersect 4 = .ok (.invokevirtual 29, 3) := by decide +kernel
theorem dW_intersect_7 : decode cW_intersect 7 = .ok (.iconst 0, 1) := by decide +kernel
theorem dW_intersect_8 : decode cW_intersect 8 = .ok (.istore_n 3, 1) := by decide +kernel
theorem dW_intersect_9 : decode cW_intersect 9 = .ok (.iload_n 3, 1) := by decide +kernel
theorem dW_intersect_10 : decode cW_intersect 10 = .ok (.aload_n 1, 1) := by decide +kernel
theorem dW_intersect_11 : decode cW_intersect 11 = .ok (.invokevirtual 32, 3) := by decide +kernel
theorem dW_intersect_14 : decode cW_intersect 14 = .ok (.if_icmp .ge 80, 3) := by decide +kernel
theorem dW_intersect_17 : decode cW_intersect 17 = .ok (.iconst 0, 1) := by decide +kernel
theorem dW_intersect_18 : decode cW_intersect 18 = .ok (.istore 4, 2) := by decide +kernel
theorem dW_intersect_20 : decode cW_intersect 20 = .ok (.iload 4, 2) := by decide +kernel
theorem dW_intersect_22 : decode cW_intersect 22 = .ok (.aload_n 2, 1) := by decide +kernel
theorem dW_intersect_23 : decode cW_intersect 23 = .ok (.invokevirtual 32, 3) := by decide +kernel
theorem dW_intersect_26 : decode cW_intersect 26 = .ok (.if_icmp .ge 62, 3) := by decide +kernel
theorem dW_intersect_29 : decode cW_intersect 29 = .ok (.aload_n 0, 1) := by decide +kernel
theorem dW_intersect_30 : decode cW_intersect 30 = .ok (.getfield 10, 3) := by decide +kernel
theorem dW_intersect_33 : decode cW_intersect 33 = .ok (.invokevirtual 36, 3) := by decide +kernel
theorem dW_intersect_36 : decode cW_intersect 36 = .ok (.aload_n 1, 1) := by decide +kernel
theorem dW_intersect_37 : decode cW_intersect 37 = .ok (.iload_n 3, 1) := by decide +kernel
theorem dW_intersect_38 : decode cW_intersect 38 = .ok (.aload_n 1, 1) := by decide +kernel
theorem dW_intersect_39 : decode cW_intersect 39 = .ok (.iload_n 3, 1) := by decide +kernel
theorem dW_intersect_40 : decode cW_intersect 40 = .ok (.invokevirtual 37, 3) := by decide +kernel
theorem dW_intersect_43 : decode cW_intersect 43 = .ok (.aload_n 0, 1) := by decide +kernel
theorem dW_intersect_44 : decode cW_intersect 44 = .ok (.getfield 10, 3) := by decide +kernel
theorem dW_intersect_47 : decode cW_intersect 47 = .ok (.invokevirtual 41, 3) := by decide +kernel
theorem dW_intersect_50 : decode cW_intersect 50 = .ok (.aload_n 2, 1) := by decide +kernel
theorem dW_intersect_51 : decode cW_intersect 51 = .ok (.iload 4, 2) := by decide +kernel
theorem dW_intersect_53 : decode cW_intersect 53 = .ok (.aload_n 2, 1) := by decide +kernel
theorem dW_intersect_54 : decode cW_intersect 54 = .ok (.iload 4, 2) := by decide +kernel
theorem dW_intersect_56 : decode cW_intersect 56 = .ok (.invokevirtual 37, 3) := by decide +kernel
theorem dW_intersect_59 : decode cW_intersect 59 = .ok (.aload_n 0, 1) := by decide +kernel
theorem dW_intersect_60 : decode cW_intersect 60 = .ok (.getfield 10, 3) := by decide +kernel
theorem dW_intersect_63 : decode cW_intersect 63 = .ok (.invokevirtual 41, 3) := by decide +kernel
theorem dW_intersect_66 : decode cW_intersect 66 = .ok (.aload_n 0, 1) := by decide +kernel
theorem dW_intersect_67 : decode cW_intersect 67 = .ok (.getfield 23, 3) := by decide +kernel
theorem dW_intersect_70 : decode cW_intersect 70 = .ok (.aload_n 0, 1) := by decide +kernel
theorem dW_intersect_71 : decode cW_intersect 71 = .ok (.getfield 10, 3) := by decide +kernel
theorem dW_intersect_74 : decode cW_intersect 74 = .ok (.invokevirtual 45, 3) := by decide +kernel
theorem dW_intersect_77 : decode cW_intersect 77 = .ok (.ifCond .ne 5, 3) := by decide +kernel
theorem dW_intersect_80 : decode cW_intersect 80 = .ok (.iconst 0, 1) := by decide +kernel
theorem dW_intersect_81 : decode cW_intersect 81 = .ok (.ireturn, 1) := by decide +kernel
theorem dW_intersect_82 : decode cW_intersect 82 = .ok (.iinc 4 1, 3) := by decide +kernel
theorem dW_intersect_85 : decode cW_intersect 85 = .ok (.goto (-65), 3) := by decide +kernel
theorem dW_intersect_88 : decode cW_intersect 88 = .ok (.iinc 3 1, 3) := by decide +kernel
theorem dW_intersect_91 : decode cW_intersect 91 = .ok (.goto (-82), 3) := by decide +kernel
theorem dW_intersect_94 : decode cW_intersect 94 = .ok (.iconst 1, 1) := by decide +kernel
theorem dW_intersect_95 : decode cW_intersect 95 = .ok (.ireturn, 1) := by decide +kernel
theorem dW_unite_0 : decode cW_unite 0 = .ok (.aload_n 0, 1) := by decide +kernel
theorem dW_unite_1 : decode cW_unite 1 = .ok (.getfield 23, 3) := by decide +kernel
theorem dW_unite_4 : decode cW_unite 4 = .ok (.aload_n 1, 1) := by decide +kernel
theorem dW_unite_5 : decode cW_unite 5 = .ok (.invokevirtual 49, 3) := by decide +kernel
theorem dW_unite_8 : decode cW_unite 8 = .ok (.iconst 0, 1) := by decide +kernel
theorem dW_unite_9 : decode cW_unite 9 = .ok (.istore_n 3, 1) := by decide +kernel
theorem dW_unite_10 : decode cW_unite 10 = .ok (.iload_n 3, 1) := by decide +kernel
theorem dW_unite_11 : decode cW_unite 11 = .ok (.aload_n 2, 1) := by decide +kernel
theorem dW_unite_12 : decode cW_unite 12 = .ok (.invokevirtual 32, 3) := by decide +kernel
theorem dW_unite_15 : decode cW_unite 15 = .ok (.if_icmp .ge 46, 3) := by decide +kernel
theorem dW_unite_18 : decode cW_unite 18 = .ok (.aload_n 0, 1) := by decide +kernel
theorem dW_unite_19 : decode cW_unite 19 = .ok (.getfield 10, 3) := by decide +kernel
theorem dW_unite_22 : decode cW_unite 22 = .ok (.invokevirtual 36, 3) := by decide +kernel
theorem dW_unite_25 : decode cW_unite 25 = .ok (.aload_n 2, 1) := by decide +kernel
theorem dW_unite_26 : decode cW_unite 26 = .ok (.iload_n 3, 1) := by decide +kernel
theorem dW_unite_27 : decode cW_unite 27 = .ok (.aload_n 2, 1) := by decide +kernel
theorem dW_unite_28 : decode cW_unite 28 = .ok (.iload_n 3, 1) := by decide +kernel
theorem dW_unite_29 : decode cW_unite 29 = .ok (.invokevirtual 37, 3) := by decide +kernel
theorem dW_unite_32 : decode cW_unite 32 = .ok (.aload_n 0, 1) := by decide +kernel
theorem dW_unite_33 : decode cW_unite 33 = .ok (.getfield 10, 3) := by decide +kernel
theorem dW_unite_36 : decode cW_unite 36 = .ok (.invokevirtual 41, 3) := by decide +kernel
theorem dW_unite_39 : decode cW_unite 39 = .ok (.aload_n 0, 1) := by decide +kernel
theorem dW_unite_40 : decode cW_unite 40 = .ok (.getfield 23, 3) := by decide +kernel
theorem dW_unite_43 : decode cW_unite 43 = .ok (.aload_n 0, 1) := by decide +kernel
theorem dW_unite_44 : decode cW_unite 44 = .ok (.getfield 10, 3) := by decide +kernel
theorem dW_unite_47 : decode cW_unite 47 = .ok (.invokevirtual 45, 3) := by decide +kernel
theorem dW_unite_50 : decode cW_unite 50 = .ok (.ifCond .ne 5, 3) := by decide +kernel
theorem dW_unite_53 : decode cW_unite 53 = .ok (.iconst 0, 1) := by decide +kernel
theorem dW_unite_54 : decode cW_unite 54 = .ok (.ireturn, 1) := by decide +kernel
theorem dW_unite_55 : decode cW_unite 55 = .ok (.iinc 3 1, 3) := by decide +kernel
theorem dW_unite_58 : decode cW_unite 58 = .ok (.goto (-48), 3) := by decide +kernel
theorem dW_unite_61 : decode cW_unite 61 = .ok (.iconst 1, 1) := by decide +kernel
theorem dW_unite_62 : decode cW_unite 62 = .ok (.ireturn, 1) := by decide +kernel
theorem dW_complement_0 : decode cW_complement 0 = .ok (.aload_n 0, 1) := by decide +kernel
theorem dW_complement_1 : decode cW_complement 1 = .ok (.getfield 23, 3) := by decide +kernel
theorem dW_complement_4 : decode cW_complement 4 = .ok (.invokevirtual 29, 3) := by decide +kernel
theorem dW_complement_7 : decode cW_complement 7 = .ok (.aload_n 0, 1) := by decide +kernel
theorem dW_complement_8 : decode cW_complement 8 = .ok (.getfield 10, 3) := by decide +kernel
theorem dW_complement_11 : decode cW_complement 11 = .ok (.invokevirtual 36, 3) := by decide +kernel
theorem dW_complement_14 : decode cW_complement 14 = .ok (.aload_n 0, 1) := by decide +kernel
theorem dW_complement_15 : decode cW_complement 15 = .ok (.getfield 23, 3) := by decide +kernel
theorem dW_complement_18 : decode cW_complement 18 = .ok (.aload_n 0, 1) := by decide +kernel
theorem dW_complement_19 : decode cW_complement 19 = .ok (.getfield 10, 3) := by decide +kernel
theorem dW_complement_22 : decode cW_complement 22 = .ok (.invokevirtual 45, 3) := by decide +kernel
theorem dW_complement_25 : decode cW_complement 25 = .ok (.pop, 1) := by decide +kernel
theorem dW_complement_26 : decode cW_complement 26 = .ok (.iconst 0, 1) := by decide +kernel
theorem dW_complement_27 : decode cW_complement 27 = .ok (.istore_n 2, 1) := by decide +kernel
theorem dW_complement_28 : decode cW_complement 28 = .ok (.iload_n 2, 1) := by decide +kernel
theorem dW_complement_29 : decode cW_complement 29 = .ok (.aload_n 1, 1) := by decide +kernel
theorem dW_complement_30 : decode cW_complement 30 = .ok (.invokevirtual 32, 3) := by decide +kernel
theorem dW_complement_33 : decode cW_complement 33 = .ok (.if_icmp .ge 32, 3) := by decide +kernel
theorem dW_complement_36 : decode cW_complement 36 = .ok (.aload_n 0, 1) := by decide +kernel
theorem dW_complement_37 : decode cW_complement 37 = .ok (.aload_n 1, 1) := by decide +kernel
theorem dW_complement_38 : decode cW_complement 38 = .ok (.iload_n 2, 1) := by decide +kernel
theorem dW_complement_39 : decode cW_complement 39 = .ok (.invokevirtual 53, 3) := by decide +kernel
theorem dW_complement_42 : decode cW_complement 42 = .ok (.aload_n 0, 1) := by decide +kernel
theorem dW_complement_43 : decode cW_complement 43 = .ok (.aload_n 0, 1) := by decide +kernel
theorem dW_complement_44 : decode cW_complement 44 = .ok (.invokevirtual 57, 3) := by decide +kernel
theorem dW_complement_47 : decode cW_complement 47 = .ok (.aload_n 0, 1) := by decide +kernel
theorem dW_complement_48 : decode cW_complement 48 = .ok (.getfield 19, 3) := by decide +kernel
theorem dW_complement_51 : decode cW_complement 51 = .ok (.invokevirtual 61, 3) := by decide +kernel
theorem dW_complement_54 : decode cW_complement 54 = .ok (.ifCond .ne 5, 3) := by decide +kernel
theorem dW_complement_57 : decode cW_complement 57 = .ok (.iconst 0, 1) := by decide +kernel
theorem dW_complement_58 : decode cW_complement 58 = .ok (.ireturn, 1) := by decide +kernel
theorem dW_complement_59 : decode cW_complement 59 = .ok (.iinc 2 1, 3) := by decide +kernel
theorem dW_complement_62 : decode cW_complement 62 = .ok (.goto (-34), 3) := by decide +kernel
theorem dW_complement_65 : decode cW_complement 65 = .ok (.iconst 1, 1) := by decide +kernel
theorem dW_complement_66 : decode cW_complement 66 = .ok (.ireturn, 1) := by decide +kernel
theorem dW_setAside_0 : decode cW_setAside 0 = .ok (.aload_n 0, 1) := by decide +kernel
theorem dW_setAside_1 : decode cW_setAside 1 = .ok (.getfield 26, 3) := by decide +kernel
theorem dW_setAside_4 : decode cW_setAside 4 = .ok (.astore_n 1, 1) := by decide +kernel
theorem dW_setAside_5 : decode cW_setAside 5 = .ok (.aload_n 0, 1) := by decide +kernel
theorem dW_setAside_6 : decode cW_setAside 6 = .ok (.aload_n 0, 1) := by decide +kernel
theorem dW_setAside_7 : decode cW_setAside 7 = .ok (.getfield 23, 3) := by decide +kernel
theorem dW_setAside_10 : decode cW_setAside 10 = .ok (.putfield 26, 3) := by decide +kernel
theorem dW_setAside_13 : decode cW_setAside 13 = .ok (.aload_n 0, 1) := by decide +kernel
theorem dW_setAside_14 : decode cW_setAside 14 = .ok (.aload_n 1, 1) := by decide +kernel
theorem dW_setAside_15 : decode cW_setAside 15 = .ok (.putfield 23, 3) := by decide +kernel
theorem dW_setAside_18 : decode cW_setAside 18 = .ok (.aload_n 0, 1) := by decide +kernel
theorem dW_setAside_19 : decode cW_setAside 19 = .ok (.getfield 26, 3) := by decide +kernel
theorem dW_setAside_22 : decode cW_setAside 22 = .ok (.areturn, 1) := by decide +kernel
theorem dW_cut_0 : decode cW_cut 0 = .ok (.aload_n 0, 1) := by decide +kernel
theorem dW_cut_1 : decode cW_cut 1 = .ok (.getfield 19, 3) := by decide +kernel
theorem dW_cut_4 : decode cW_cut 4 = .ok (.invokevirtual 29, 3) := by decide +kernel
theorem dW_cut_7 : decode cW_cut 7 = .ok (.iconst 0, 1) := by decide +kernel
theorem dW_cut_8 : decode cW_cut 8 = .ok (.istore_n 3, 1) := by decide +kernel
theorem dW_cut_9 : decode cW_cut 9 = .ok (.iload_n 3, 1) := by decide +kernel
theorem dW_cut_10 : decode cW_cut 10 = .ok (.aload_n 1, 1) := by decide +kernel
theorem dW_cut_11 : decode cW_cut 11 = .ok (.iload_n 2, 1) := by decide +kernel
theorem dW_cut_12 : decode cW_cut 12 = .ok (.invokevirtual 37, 3) := by decide +kernel
theorem dW_cut_15 : decode cW_cut 15 = .ok (.if_icmp .ge 48, 3) := by decide +kernel
theorem dW_cut_18 : decode cW_cut 18 = .ok (.aload_n 0, 1) := by decide +kernel
theorem dW_cut_19 : decode cW_cut 19 = .ok (.getfield 10, 3) := by decide +kernel
theorem dW_cut_22 : decode cW_cut 22 = .ok (.invokevirtual 36, 3) := by decide +kernel
theorem dW_cut_25 : decode cW_cut 25 = .ok (.aload_n 1, 1) := by decide +kernel
theorem dW_cut_26 : decode cW_cut 26 = .ok (.iload_n 2, 1) := by decide +kernel
theorem dW_cut_27 : decode cW_cut 27 = .ok (.iload_n 3, 1) := by decide +kernel
theorem dW_cut_28 : decode cW_cut 28 = .ok (.aload_n 0, 1) := by decide +kernel
theorem dW_cut_29 : decode cW_cut 29 = .ok (.getfield 10, 3) := by decide +kernel
theorem dW_cut_32 : decode cW_cut 32 = .ok (.invokevirtual 65, 3) := by decide +kernel
theorem dW_cut_35 : decode cW_cut 35 = .ok (.aload_n 1, 1) := by decide +kernel
theorem dW_cut_36 : decode cW_cut 36 = .ok (.iload_n 2, 1) := by decide +kernel
theorem dW_cut_37 : decode cW_cut 37 = .ok (.iload_n 3, 1) := by decide +kernel
theorem dW_cut_38 : decode cW_cut 38 = .ok (.aload_n 0, 1) := by decide +kernel
theorem dW_cut_39 : decode cW_cut 39 = .ok (.getfield 10, 3) := by decide +kernel
theorem dW_cut_42 : decode cW_cut 42 = .ok (.invokevirtual 41, 3) := by decide +kernel
theorem dW_cut_45 : decode cW_cut 45 = .ok (.aload_n 0, 1) := by decide +kernel
theorem dW_cut_46 : decode cW_cut 46 = .ok (.getfield 19, 3) := by decide +kernel
theorem dW_cut_49 : decode cW_cut 49 = .ok (.aload_n 0, 1) := by decide +kernel
theorem dW_cut_50 : decode cW_cut 50 = .ok (.getfield 10, 3) := by decide +kernel
theorem dW_cut_53 : decode cW_cut 53 = .ok (.invokevirtual 45, 3) := by decide +kernel
theorem dW_cut_56 : decode cW_cut 56 = .ok (.pop, 1) := by decide +kernel
theorem dW_cut_57 : decode cW_cut 57 = .ok (.iinc 3 1, 3) := by decide +kernel
theorem dW_cut_60 : decode cW_cut 60 = .ok (.goto (-51), 3) := by decide +kernel
theorem dW_cut_63 : decode cW_cut 63 = .ok (.return_, 1) := by decide +kernel
theorem dW_project_0 : decode cW_project 0 = .ok (.aload_n 0, 1) := by decide +kernel
theorem dW_project_1 : decode cW_project 1 = .ok (.getfield 23, 3) := by decide +kernel
theorem dW_project_4 : decode cW_project 4 = .ok (.invokevirtual 29, 3) := by decide +kernel
theorem dW_project_7 : decode cW_project 7 = .ok (.iconst 0, 1) := by decide +kernel
theorem dW_project_8 : decode cW_project 8 = .ok (.istore_n 3, 1) := by decide +kernel
theorem dW_project_9 : decode cW_project 9 = .ok (.iload_n 3, 1) := by decide +kernel
theorem dW_project_10 : decode cW_project 10 = .ok (.aload_n 1, 1) := by decide +kernel
theorem dW_project_11 : decode cW_project 11 = .ok (.invokevirtual 32, 3) := by decide +kernel
theorem dW_project_14 : decode cW_project 14 = .ok (.if_icmp .ge 60, 3) := by decide +kernel
theorem dW_project_17 : decode cW_project 17 = .ok (.aload_n 0, 1) := by decide +kernel
theorem dW_project_18 : decode cW_project 18 = .ok (.getfield 10, 3) := by decide +kernel
theorem dW_project_21 : decode cW_project 21 = .ok (.invokevirtual 36, 3) := by decide +kernel
theorem dW_project_24 : decode cW_project 24 = .ok (.iconst 0, 1) := by decide +kernel
theorem dW_project_25 : decode cW_project 25 = .ok (.istore 4, 2) := by decide +kernel
theorem dW_project_27 : decode cW_project 27 = .ok (.iload 4, 2) := by decide +kernel
theorem dW_project_29 : decode cW_project 29 = .ok (.aload_n 1, 1) := by decide +kernel
theorem dW_project_30 : decode cW_project 30 = .ok (.iload_n 3, 1) := by decide +kernel
theorem dW_project_31 : decode cW_project 31 = .ok (.invokevirtual 37, 3) := by decide +kernel
theorem dW_project_34 : decode cW_project 34 = .ok (.if_icmp .ge 18, 3) := by decide +kernel
theorem dW_project_37 : decode cW_project 37 = .ok (.aload_n 0, 1) := by decide +kernel
theorem dW_project_38 : decode cW_project 38 = .ok (.aload_n 1, 1) := by decide +kernel
theorem dW_project_39 : decode cW_project 39 = .ok (.iload_n 3, 1) := by decide +kernel
theorem dW_project_40 : decode cW_project 40 = .ok (.iload 4, 2) := by decide +kernel
theorem dW_project_42 : decode cW_project 42 = .ok (.iload_n 2, 1) := by decide +kernel
theorem dW_project_43 : decode cW_project 43 = .ok (.invokevirtual 68, 3) := by decide +kernel
theorem dW_project_46 : decode cW_project 46 = .ok (.iinc 4 1, 3) := by decide +kernel
theorem dW_project_49 : decode cW_project 49 = .ok (.goto (-22), 3) := by decide +kernel
theorem dW_project_52 : decode cW_project 52 = .ok (.aload_n 0, 1) := by decide +kernel
theorem dW_project_53 : decode cW_project 53 = .ok (.getfield 23, 3) := by decide +kernel
theorem dW_project_56 : decode cW_project 56 = .ok (.aload_n 0, 1) := by decide +kernel
theorem dW_project_57 : decode cW_project 57 = .ok (.getfield 10, 3) := by decide +kernel
theorem dW_project_60 : decode cW_project 60 = .ok (.invokevirtual 45, 3) := by decide +kernel
theorem dW_project_63 : decode cW_project 63 = .ok (.ifCond .ne 5, 3) := by decide +kernel
theorem dW_project_66 : decode cW_project 66 = .ok (.iconst 0, 1) := by decide +kernel
theorem dW_project_67 : decode cW_project 67 = .ok (.ireturn, 1) := by decide +kernel
theorem dW_project_68 : decode cW_project 68 = .ok (.iinc 3 1, 3) := by decide +kernel
theorem dW_project_71 : decode cW_project 71 = .ok (.goto (-62), 3) := by decide +kernel
theorem dW_project_74 : decode cW_project 74 = .ok (.iconst 1, 1) := by decide +kernel
theorem dW_project_75 : decode cW_project 75 = .ok (.ireturn, 1) := by decide +kernel
theorem dW_eliminate_0 : decode cW_eliminate 0 = .ok (.aload_n 1, 1) := by decide +kernel
theorem dW_eliminate_1 : decode cW_eliminate 1 = .ok (.iload_n 2, 1) := by decide +kernel
theorem dW_eliminate_2 : decode cW_eliminate 2 = .ok (.iload_n 3, 1) := by decide +kernel
theorem dW_eliminate_3 : decode cW_eliminate 3 = .ok (.iload 4, 2) := by decide +kernel
theorem dW_eliminate_5 : decode cW_eliminate 5 = .ok (.invokestatic 72, 3) := by decide +kernel
theorem dW_eliminate_8 : decode cW_eliminate 8 = .ok (.lstore 5, 2) := by decide +kernel
theorem dW_eliminate_10 : decode cW_eliminate 10 = .ok (.lload 5, 2) := by decide +kernel
theorem dW_eliminate_12 : decode cW_eliminate 12 = .ok (.lconst 0, 1) := by decide +kernel
theorem dW_eliminate_13 : decode cW_eliminate 13 = .ok (.lcmp, 1) := by decide +kernel
theorem dW_eliminate_14 : decode cW_eliminate 14 = .ok (.ifCond .ne 37, 3) := by decide +kernel
theorem dW_eliminate_17 : decode cW_eliminate 17 = .ok (.aload_n 0, 1) := by decide +kernel
theorem dW_eliminate_18 : decode cW_eliminate 18 = .ok (.getfield 10, 3) := by decide +kernel
theorem dW_eliminate_21 : decode cW_eliminate 21 = .ok (.aload_n 1, 1) := by decide +kernel
theorem dW_eliminate_22 : decode cW_eliminate 22 = .ok (.iload_n 2, 1) := by decide +kernel
theorem dW_eliminate_23 : decode cW_eliminate 23 = .ok (.iload_n 3, 1) := by decide +kernel
theorem dW_eliminate_24 : decode cW_eliminate 24 = .ok (.invokevirtual 76, 3) := by decide +kernel
theorem dW_eliminate_27 : decode cW_eliminate 27 = .ok (.i2l, 1) := by decide +kernel
theorem dW_eliminate_28 : decode cW_eliminate 28 = .ok (.aload_n 1, 1) := by decide +kernel
theorem dW_eliminate_29 : decode cW_eliminate 29 = .ok (.iload_n 2, 1) := by decide +kernel
theorem dW_eliminate_30 : decode cW_eliminate 30 = .ok (.iload_n 3, 1) := by decide +kernel
theorem dW_eliminate_31 : decode cW_eliminate 31 = .ok (.invokevirtual 80, 3) := by decide +kernel
theorem dW_eliminate_34 : decode cW_eliminate 34 = .ok (.i2l, 1) := by decide +kernel
theorem dW_eliminate_35 : decode cW_eliminate 35 = .ok (.aload_n 1, 1) := by decide +kernel
theorem dW_eliminate_36 : decode cW_eliminate 36 = .ok (.iload_n 2, 1) := by decide +kernel
theorem dW_eliminate_37 : decode cW_eliminate 37 = .ok (.iload_n 3, 1) := by decide +kernel
theorem dW_eliminate_38 : decode cW_eliminate 38 = .ok (.invokevirtual 83, 3) := by decide +kernel
theorem dW_eliminate_41 : decode cW_eliminate 41 = .ok (.i2l, 1) := by decide +kernel
theorem dW_eliminate_42 : decode cW_eliminate 42 = .ok (.aload_n 1, 1) := by decide +kernel
theorem dW_eliminate_43 : decode cW_eliminate 43 = .ok (.iload_n 2, 1) := by decide +kernel
theorem dW_eliminate_44 : decode cW_eliminate 44 = .ok (.iload_n 3, 1) := by decide +kernel
theorem dW_eliminate_45 : decode cW_eliminate 45 = .ok (.invokevirtual 86, 3) := by decide +kernel
theorem dW_eliminate_48 : decode cW_eliminate 48 = .ok (.invokevirtual 90, 3) := by decide +kernel
theorem dW_eliminate_51 : decode cW_eliminate 51 = .ok (.lload 5, 2) := by decide +kernel
theorem dW_eliminate_53 : decode cW_eliminate 53 = .ok (.lconst 0, 1) := by decide +kernel
theorem dW_eliminate_54 : decode cW_eliminate 54 = .ok (.lcmp, 1) := by decide +kernel
theorem dW_eliminate_55 : decode cW_eliminate 55 = .ok (.ifCond .gt 4, 3) := by decide +kernel
theorem dW_eliminate_58 : decode cW_eliminate 58 = .ok (.return_, 1) := by decide +kernel
theorem dW_eliminate_59 : decode cW_eliminate 59 = .ok (.iconst 0, 1) := by decide +kernel
theorem dW_eliminate_60 : decode cW_eliminate 60 = .ok (.istore 7, 2) := by decide +kernel
theorem dW_eliminate_62 : decode cW_eliminate 62 = .ok (.iload 7, 2) := by decide +kernel
theorem dW_eliminate_64 : decode cW_eliminate 64 = .ok (.aload_n 1, 1) := by decide +kernel
theorem dW_eliminate_65 : decode cW_eliminate 65 = .ok (.iload_n 2, 1) := by decide +kernel
theorem dW_eliminate_66 : decode cW_eliminate 66 = .ok (.invokevirtual 37, 3) := by decide +kernel
theorem dW_eliminate_69 : decode cW_eliminate 69 = .ok (.if_icmp .ge 125, 3) := by decide +kernel
theorem dW_eliminate_72 : decode cW_eliminate 72 = .ok (.aload_n 1, 1) := by decide +kernel
theorem dW_eliminate_73 : decode cW_eliminate 73 = .ok (.iload_n 2, 1) := by decide +kernel
theorem dW_eliminate_74 : decode cW_eliminate 74 = .ok (.iload 7, 2) := by decide +kernel
theorem dW_eliminate_76 : decode cW_eliminate 76 = .ok (.iload 4, 2) := by decide +kernel
theorem dW_eliminate_78 : decode cW_eliminate 78 = .ok (.invokestatic 72, 3) := by decide +kernel
theorem dW_eliminate_81 : decode cW_eliminate 81 = .ok (.lneg, 1) := by decide +kernel
theorem dW_eliminate_82 : decode cW_eliminate 82 = .ok (.lstore 8, 2) := by decide +kernel
theorem dW_eliminate_84 : decode cW_eliminate 84 = .ok (.lload 8, 2) := by decide +kernel
theorem dW_eliminate_86 : decode cW_eliminate 86 = .ok (.lconst 0, 1) := by decide +kernel
theorem dW_eliminate_87 : decode cW_eliminate 87 = .ok (.lcmp, 1) := by decide +kernel
theorem dW_eliminate_88 : decode cW_eliminate 88 = .ok (.ifCond .le 100, 3) := by decide +kernel
theorem dW_eliminate_91 : decode cW_eliminate 91 = .ok (.aload_n 0, 1) := by decide +kernel
theorem dW_eliminate_92 : decode cW_eliminate 92 = .ok (.getfield 10, 3) := by decide +kernel
theorem dW_eliminate_95 : decode cW_eliminate 95 = .ok (.lload 8, 2) := by decide +kernel
theorem dW_eliminate_97 : decode cW_eliminate 97 = .ok (.aload_n 1, 1) := by decide +kernel
theorem dW_eliminate_98 : decode cW_eliminate 98 = .ok (.iload_n 2, 1) := by decide +kernel
theorem dW_eliminate_99 : decode cW_eliminate 99 = .ok (.iload_n 3, 1) := by decide +kernel
theorem dW_eliminate_100 : decode cW_eliminate 100 = .ok (.invokevirtual 76, 3) := by decide +kernel
theorem dW_eliminate_103 : decode cW_eliminate 103 = .ok (.i2l, 1) := by decide +kernel
theorem dW_eliminate_104 : decode cW_eliminate 104 = .ok (.lmul, 1) := by decide +kernel
theorem dW_eliminate_105 : decode cW_eliminate 105 = .ok (.lload 5, 2) := by decide +kernel
theorem dW_eliminate_107 : decode cW_eliminate 107 = .ok (.aload_n 1, 1) := by decide +kernel
theorem dW_eliminate_108 : decode cW_eliminate 108 = .ok (.iload_n 2, 1) := by decide +kernel
theorem dW_eliminate_109 : decode cW_eliminate 109 = .ok (.iload 7, 2) := by decide +kernel
theorem dW_eliminate_111 : decode cW_eliminate 111 = .ok (.invokevirtual 76, 3) := by decide +kernel
theorem dW_eliminate_114 : decode cW_eliminate 114 = .ok (.i2l, 1) := by decide +kernel
theorem dW_eliminate_115 : decode cW_eliminate 115 = .ok (.lmul, 1) := by decide +kernel
theorem dW_eliminate_116 : decode cW_eliminate 116 = .ok (.ladd, 1) := by decide +kernel
theorem dW_eliminate_117 : decode cW_eliminate 117 = .ok (.lload 8, 2) := by decide +kernel
theorem dW_eliminate_119 : decode cW_eliminate 119 = .ok (.aload_n 1, 1) := by decide +kernel
theorem dW_eliminate_120 : decode cW_eliminate 120 = .ok (.iload_n 2, 1) := by decide +kernel
theorem dW_eliminate_121 : decode cW_eliminate 121 = .ok (.iload_n 3, 1) := by decide +kernel
theorem dW_eliminate_122 : decode cW_eliminate 122 = .ok (.invokevirtual 80, 3) := by decide +kernel
theorem dW_eliminate_125 : decode cW_eliminate 125 = .ok (.i2l, 1) := by decide +kernel
theorem dW_eliminate_126 : decode cW_eliminate 126 = .ok (.lmul, 1) := by decide +kernel
theorem dW_eliminate_127 : decode cW_eliminate 127 = .ok (.lload 5, 2) := by decide +kernel
theorem dW_eliminate_129 : decode cW_eliminate 129 = .ok (.aload_n 1, 1) := by decide +kernel
theorem dW_eliminate_130 : decode cW_eliminate 130 = .ok (.iload_n 2, 1) := by decide +kernel
theorem dW_eliminate_131 : decode cW_eliminate 131 = .ok (.iload 7, 2) := by decide +kernel
theorem dW_eliminate_133 : decode cW_eliminate 133 = .ok (.invokevirtual 80, 3) := by decide +kernel
theorem dW_eliminate_136 : decode cW_eliminate 136 = .ok (.i2l, 1) := by decide +kernel
theorem dW_eliminate_137 : decode cW_eliminate 137 = .ok (.lmul, 1) := by decide +kernel
theorem dW_eliminate_138 : decode cW_eliminate 138 = .ok (.ladd, 1) := by decide +kernel
theorem dW_eliminate_139 : decode cW_eliminate 139 = .ok (.lload 8, 2) := by decide +kernel
theorem dW_eliminate_141 : decode cW_eliminate 141 = .ok (.aload_n 1, 1) := by decide +kernel
theorem dW_eliminate_142 : decode cW_eliminate 142 = .ok (.iload_n 2, 1) := by decide +kernel
theorem dW_eliminate_143 : decode cW_eliminate 143 = .ok (.iload_n 3, 1) := by decide +kernel
theorem dW_eliminate_144 : decode cW_eliminate 144 = .ok (.invokevirtual 83, 3) := by decide +kernel
theorem dW_eliminate_147 : decode cW_eliminate 147 = .ok (.i2l, 1) := by decide +kernel
theorem dW_eliminate_148 : decode cW_eliminate 148 = .ok (.lmul, 1) := by decide +kernel
theorem dW_eliminate_149 : decode cW_eliminate 149 = .ok (.lload 5, 2) := by decide +kernel
theorem dW_eliminate_151 : decode cW_eliminate 151 = .ok (.aload_n 1, 1) := by decide +kernel
theorem dW_eliminate_152 : decode cW_eliminate 152 = .ok (.iload_n 2, 1) := by decide +kernel
theorem dW_eliminate_153 : decode cW_eliminate 153 = .ok (.iload 7, 2) := by decide +kernel
theorem dW_eliminate_155 : decode cW_eliminate 155 = .ok (.invokevirtual 83, 3) := by decide +kernel
theorem dW_eliminate_158 : decode cW_eliminate 158 = .ok (.i2l, 1) := by decide +kernel
theorem dW_eliminate_159 : decode cW_eliminate 159 = .ok (.lmul, 1) := by decide +kernel
theorem dW_eliminate_160 : decode cW_eliminate 160 = .ok (.ladd, 1) := by decide +kernel
theorem dW_eliminate_161 : decode cW_eliminate 161 = .ok (.aload_n 1, 1) := by decide +kernel
theorem dW_eliminate_162 : decode cW_eliminate 162 = .ok (.iload_n 2, 1) := by decide +kernel
theorem dW_eliminate_163 : decode cW_eliminate 163 = .ok (.iload_n 3, 1) := by decide +kernel
theorem dW_eliminate_164 : decode cW_eliminate 164 = .ok (.invokevirtual 86, 3) := by decide +kernel
theorem dW_eliminate_167 : decode cW_eliminate 167 = .ok (.ifCond .ne 13, 3) := by decide +kernel
theorem dW_eliminate_170 : decode cW_eliminate 170 = .ok (.aload_n 1, 1) := by decide +kernel
theorem dW_eliminate_171 : decode cW_eliminate 171 = .ok (.iload_n 2, 1) := by decide +kernel
theorem dW_eliminate_172 : decode cW_eliminate 172 = .ok (.iload 7, 2) := by decide +kernel
theorem dW_eliminate_174 : decode cW_eliminate 174 = .ok (.invokevirtual 86, 3) := by decide +kernel
theorem dW_eliminate_177 : decode cW_eliminate 177 = .ok (.ifCond .eq 7, 3) := by decide +kernel
theorem dW_eliminate_180 : decode cW_eliminate 180 = .ok (.iconst 1, 1) := by decide +kernel
theorem dW_eliminate_181 : decode cW_eliminate 181 = .ok (.goto 4, 3) := by decide +kernel
theorem dW_eliminate_184 : decode cW_eliminate 184 = .ok (.iconst 0, 1) := by decide +kernel
theorem dW_eliminate_185 : decode cW_eliminate 185 = .ok (.invokevirtual 90, 3) := by decide +kernel
theorem dW_eliminate_188 : decode cW_eliminate 188 = .ok (.iinc 7 1, 3) := by decide +kernel
theorem dW_eliminate_191 : decode cW_eliminate 191 = .ok (.goto (-129), 3) := by decide +kernel
theorem dW_eliminate_194 : decode cW_eliminate 194 = .ok (.return_, 1) := by decide +kernel
theorem dW_entry_0 : decode cW_entry 0 = .ok (.iload_n 3, 1) := by decide +kernel
theorem dW_entry_1 : decode cW_entry 1 = .ok (.ifCond .ne 13, 3) := by decide +kernel
theorem dW_entry_4 : decode cW_entry 4 = .ok (.aload_n 0, 1) := by decide +kernel
theorem dW_entry_5 : decode cW_entry 5 = .ok (.iload_n 1, 1) := by decide +kernel
theorem dW_entry_6 : decode cW_entry 6 = .ok (.iload_n 2, 1) := by decide +kernel
theorem dW_entry_7 : decode cW_entry 7 = .ok (.invokevirtual 76, 3) := by decide +kernel
theorem dW_entry_10 : decode cW_entry 10 = .ok (.i2l, 1) := by decide +kernel
theorem dW_entry_11 : decode cW_entry 11 = .ok (.goto 10, 3) := by decide +kernel
theorem dW_entry_14 : decode cW_entry 14 = .ok (.aload_n 0, 1) := by decide +kernel
theorem dW_entry_15 : decode cW_entry 15 = .ok (.iload_n 1, 1) := by decide +kernel
theorem dW_entry_16 : decode cW_entry 16 = .ok (.iload_n 2, 1) := by decide +kernel
theorem dW_entry_17 : decode cW_entry 17 = .ok (.invokevirtual 80, 3) := by decide +kernel
theorem dW_entry_20 : decode cW_entry 20 = .ok (.i2l, 1) := by decide +kernel
theorem dW_entry_21 : decode cW_entry 21 = .ok (.lreturn, 1) := by decide +kernel
