theorem dX0_with_0 : decode cX0_with 0 = .ok (.lload_n 0, 1) := by decide +kernel
theorem dX0_with_1 : decode cX0_with 1 = .ok (.lconst 1, 1) := by decide +kernel
theorem dX0_with_2 : decode cX0_with 2 = .ok (.iload_n 2, 1) := by decide +kernel
theorem dX0_with_3 : decode cX0_with 3 = .ok (.lshl, 1) := by decide +kernel
theorem dX0_with_4 : decode cX0_with 4 = .ok (.lor, 1) := by decide +kernel
theorem dX0_with_5 : decode cX0_with 5 = .ok (.lreturn, 1) := by decide +kernel
theorem dX0_without_0 : decode cX0_without 0 = .ok (.lload_n 0, 1) := by decide +kernel
theorem dX0_without_1 : decode cX0_without 1 = .ok (.lconst 1, 1) := by decide +kernel
theorem dX0_without_2 : decode cX0_without 2 = .ok (.iload_n 2, 1) := by decide +kernel
theorem dX0_without_3 : decode cX0_without 3 = .ok (.lshl, 1) := by decide +kernel
theorem dX0_without_4 : decode cX0_without 4 = .ok (.ldc2_w 7, 3) := by decide +kernel
theorem dX0_without_7 : decode cX0_without 7 = .ok (.lxor, 1) := by decide +kernel
theorem dX0_without_8 : decode cX0_without 8 = .ok (.land, 1) := by decide +kernel
theorem dX0_without_9 : decode cX0_without 9 = .ok (.lreturn, 1) := by decide +kernel
theorem dX0_has_0 : decode cX0_has 0 = .ok (.lload_n 0, 1) := by decide +kernel
theorem dX0_has_1 : decode cX0_has 1 = .ok (.lconst 1, 1) := by decide +kernel
theorem dX0_has_2 : decode cX0_has 2 = .ok (.iload_n 2, 1) := by decide +kernel
theorem dX0_has_3 : decode cX0_has 3 = .ok (.lshl, 1) := by decide +kernel
theorem dX0_has_4 : decode cX0_has 4 = .ok (.land, 1) := by decide +kernel
theorem dX0_has_5 : decode cX0_has 5 = .ok (.lconst 0, 1) := by decide +kernel
theorem dX0_has_6 : decode cX0_has 6 = .ok (.lcmp, 1) := by decide +kernel
theorem dX0_has_7 : decode cX0_has 7 = .ok (.ifCond .eq 7, 3) := by decide +kernel
theorem dX0_has_10 : decode cX0_has 10 = .ok (.iconst 1, 1) := by decide +kernel
theorem dX0_has_11 : decode cX0_has 11 = .ok (.goto 4, 3) := by decide +kernel
theorem dX0_has_14 : decode cX0_has 14 = .ok (.iconst 0, 1) := by decide +kernel
theorem dX0_has_15 : decode cX0_has 15 = .ok (.ireturn, 1) := by decide +kernel
theorem dX0_least_0 : decode cX0_least 0 = .ok (.lload_n 0, 1) := by decide +kernel
theorem dX0_least_1 : decode cX0_least 1 = .ok (.lload_n 0, 1) := by decide +kernel
theorem dX0_least_2 : decode cX0_least 2 = .ok (.lneg, 1) := by decide +kernel
theorem dX0_least_3 : decode cX0_least 3 = .ok (.land, 1) := by decide +kernel
theorem dX0_least_4 : decode cX0_least 4 = .ok (.lconst 1, 1) := by decide +kernel
theorem dX0_least_5 : decode cX0_least 5 = .ok (.lsub, 1) := by decide +kernel
theorem dX0_least_6 : decode cX0_least 6 = .ok (.invokestatic 9, 3) := by decide +kernel
theorem dX0_least_9 : decode cX0_least 9 = .ok (.ireturn, 1) := by decide +kernel
theorem dX1_init_0 : decode cX1_init 0 = .ok (.aload_n 0, 1) := by decide +kernel
theorem dX1_init_1 : decode cX1_init 1 = .ok (.invokespecial 1, 3) := by decide +kernel
theorem dX1_init_4 : decode cX1_init 4 = .ok (.aload_n 0, 1) := by decide +kernel
theorem dX1_init_5 : decode cX1_init 5 = .ok (.bipush 16, 2) := by decide +kernel
theorem dX1_init_7 : decode cX1_init 7 = .ok (.newarray .int, 2) := by decide +kernel
theorem dX1_init_9 : decode cX1_init 9 = .ok (.putfield 9, 3) := by decide +kernel
theorem dX1_init_12 : decode cX1_init 12 = .ok (.aload_n 0, 1) := by decide +kernel
theorem dX1_init_13 : decode cX1_init 13 = .ok (.bipush 16, 2) := by decide +kernel
theorem dX1_init_15 : decode cX1_init 15 = .ok (.newarray .int, 2) := by decide +kernel
theorem dX1_init_17 : decode cX1_init 17 = .ok (.putfield 13, 3) := by decide +kernel
theorem dX1_init_20 : decode cX1_init 20 = .ok (.aload_n 0, 1) := by decide +kernel
theorem dX1_init_21 : decode cX1_init 21 = .ok (.iconst 0, 1) := by decide +kernel
theorem dX1_init_22 : decode cX1_init 22 = .ok (.putfield 16, 3) := by decide +kernel
theorem dX1_init_25 : decode cX1_init 25 = .ok (.aload_n 0, 1) := by decide +kernel
theorem dX1_init_26 : decode cX1_init 26 = .ok (.iconst 0, 1) := by decide +kernel
theorem dX1_init_27 : decode cX1_init 27 = .ok (.putfield 20, 3) := by decide +kernel
theorem dX1_init_30 : decode cX1_init 30 = .ok (.aload_n 0, 1) := by decide +kernel
theorem dX1_init_31 : decode cX1_init 31 = .ok (.iconst 0, 1) := by decide +kernel
theorem dX1_init_32 : decode cX1_init 32 = .ok (.putfield 23, 3) := by decide +kernel
theorem dX1_init_35 : decode cX1_init 35 = .ok (.aload_n 0, 1) := by decide +kernel
theorem dX1_init_36 : decode cX1_init 36 = .ok (.iconst 0, 1) := by decide +kernel
theorem dX1_init_37 : decode cX1_init 37 = .ok (.putfield 26, 3) := by decide +kernel
theorem dX1_init_40 : decode cX1_init 40 = .ok (.return_, 1) := by decide +kernel
theorem dX1_add_0 : decode cX1_add 0 = .ok (.aload_n 0, 1) := by decide +kernel
theorem dX1_add_1 : decode cX1_add 1 = .ok (.getfield 9, 3) := by decide +kernel
theorem dX1_add_4 : decode cX1_add 4 = .ok (.aload_n 0, 1) := by decide +kernel
theorem dX1_add_5 : decode cX1_add 5 = .ok (.getfield 16, 3) := by decide +kernel
theorem dX1_add_8 : decode cX1_add 8 = .ok (.iload_n 1, 1) := by decide +kernel
theorem dX1_add_9 : decode cX1_add 9 = .ok (.iastore, 1) := by decide +kernel
theorem dX1_add_10 : decode cX1_add 10 = .ok (.aload_n 0, 1) := by decide +kernel
theorem dX1_add_11 : decode cX1_add 11 = .ok (.aload_n 0, 1) := by decide +kernel
theorem dX1_add_12 : decode cX1_add 12 = .ok (.getfield 16, 3) := by decide +kernel
theorem dX1_add_15 : decode cX1_add 15 = .ok (.iconst 1, 1) := by decide +kernel
theorem dX1_add_16 : decode cX1_add 16 = .ok (.iadd, 1) := by decide +kernel
theorem dX1_add_17 : decode cX1_add 17 = .ok (.bipush 16, 2) := by decide +kernel
theorem dX1_add_19 : decode cX1_add 19 = .ok (.if_icmp .ge 12, 3) := by decide +kernel
theorem dX1_add_22 : decode cX1_add 22 = .ok (.aload_n 0, 1) := by decide +kernel
theorem dX1_add_23 : decode cX1_add 23 = .ok (.getfield 16, 3) := by decide +kernel
theorem dX1_add_26 : decode cX1_add 26 = .ok (.iconst 1, 1) := by decide +kernel
theorem dX1_add_27 : decode cX1_add 27 = .ok (.iadd, 1) := by decide +kernel
theorem dX1_add_28 : decode cX1_add 28 = .ok (.goto 4, 3) := by decide +kernel
theorem dX1_add_31 : decode cX1_add 31 = .ok (.iconst 0, 1) := by decide +kernel
theorem dX1_add_32 : decode cX1_add 32 = .ok (.putfield 16, 3) := by decide +kernel
theorem dX1_add_35 : decode cX1_add 35 = .ok (.aload_n 0, 1) := by decide +kernel
theorem dX1_add_36 : decode cX1_add 36 = .ok (.aload_n 0, 1) := by decide +kernel
theorem dX1_add_37 : decode cX1_add 37 = .ok (.getfield 20, 3) := by decide +kernel
theorem dX1_add_40 : decode cX1_add 40 = .ok (.iconst 1, 1) := by decide +kernel
theorem dX1_add_41 : decode cX1_add 41 = .ok (.iadd, 1) := by decide +kernel
theorem dX1_add_42 : decode cX1_add 42 = .ok (.bipush 16, 2) := by decide +kernel
theorem dX1_add_44 : decode cX1_add 44 = .ok (.invokestatic 29, 3) := by decide +kernel
theorem dX1_add_47 : decode cX1_add 47 = .ok (.putfield 20, 3) := by decide +kernel
theorem dX1_add_50 : decode cX1_add 50 = .ok (.aload_n 0, 1) := by decide +kernel
theorem dX1_add_51 : decode cX1_add 51 = .ok (.invokevirtual 35, 3) := by decide +kernel
theorem dX1_add_54 : decode cX1_add 54 = .ok (.aload_n 0, 1) := by decide +kernel
theorem dX1_add_55 : decode cX1_add 55 = .ok (.aload_n 0, 1) := by decide +kernel
theorem dX1_add_56 : decode cX1_add 56 = .ok (.getfield 13, 3) := by decide +kernel
theorem dX1_add_59 : decode cX1_add 59 = .ok (.aload_n 0, 1) := by decide +kernel
theorem dX1_add_60 : decode cX1_add 60 = .ok (.getfield 20, 3) := by decide +kernel
theorem dX1_add_63 : decode cX1_add 63 = .ok (.iconst 3, 1) := by decide +kernel
theorem dX1_add_64 : decode cX1_add 64 = .ok (.idiv, 1) := by decide +kernel
theorem dX1_add_65 : decode cX1_add 65 = .ok (.iaload, 1) := by decide +kernel
theorem dX1_add_66 : decode cX1_add 66 = .ok (.putfield 23, 3) := by decide +kernel
theorem dX1_add_69 : decode cX1_add 69 = .ok (.aload_n 0, 1) := by decide +kernel
theorem dX1_add_70 : decode cX1_add 70 = .ok (.aload_n 0, 1) := by decide +kernel
theorem dX1_add_71 : decode cX1_add 71 = .ok (.getfield 13, 3) := by decide +kernel
theorem dX1_add_74 : decode cX1_add 74 = .ok (.iconst 2, 1) := by decide +kernel
theorem dX1_add_75 : decode cX1_add 75 = .ok (.aload_n 0, 1) := by decide +kernel
theorem dX1_add_76 : decode cX1_add 76 = .ok (.getfield 20, 3) := by decide +kernel
theorem dX1_add_79 : decode cX1_add 79 = .ok (.imul, 1) := by decide +kernel
theorem dX1_add_80 : decode cX1_add 80 = .ok (.iconst 3, 1) := by decide +kernel
theorem dX1_add_81 : decode cX1_add 81 = .ok (.idiv, 1) := by decide +kernel
theorem dX1_add_82 : decode cX1_add 82 = .ok (.iaload, 1) := by decide +kernel
theorem dX1_add_83 : decode cX1_add 83 = .ok (.putfield 26, 3) := by decide +kernel
theorem dX1_add_86 : decode cX1_add 86 = .ok (.return_, 1) := by decide +kernel
theorem dX1_sort_0 : decode cX1_sort 0 = .ok (.iconst 0, 1) := by decide +kernel
theorem dX1_sort_1 : decode cX1_sort 1 = .ok (.istore_n 1, 1) := by decide +kernel
theorem dX1_sort_2 : decode cX1_sort 2 = .ok (.iload_n 1, 1) := by decide +kernel
theorem dX1_sort_3 : decode cX1_sort 3 = .ok (.aload_n 0, 1) := by decide +kernel
theorem dX1_sort_4 : decode cX1_sort 4 = .ok (.getfield 20, 3) := by decide +kernel
theorem dX1_sort_7 : decode cX1_sort 7 = .ok (.if_icmp .ge 64, 3) := by decide +kernel
theorem dX1_sort_10 : decode cX1_sort 10 = .ok (.iload_n 1, 1) := by decide +kernel
theorem dX1_sort_11 : decode cX1_sort 11 = .ok (.istore_n 2, 1) := by decide +kernel
theorem dX1_sort_12 : decode cX1_sort 12 = .ok (.iload_n 2, 1) := by decide +kernel
theorem dX1_sort_13 : decode cX1_sort 13 = .ok (.ifCond .le 40, 3) := by decide +kernel
theorem dX1_sort_16 : decode cX1_sort 16 = .ok (.aload_n 0, 1) := by decide +kernel
theorem dX1_sort_17 : decode cX1_sort 17 = .ok (.getfield 13, 3) := by decide +kernel
theorem dX1_sort_20 : decode cX1_sort 20 = .ok (.iload_n 2, 1) := by decide +kernel
theorem dX1_sort_21 : decode cX1_sort 21 = .ok (.iconst 1, 1) := by decide +kernel
theorem dX1_sort_22 : decode cX1_sort 22 = .ok (.isub, 1) := by decide +kernel
theorem dX1_sort_23 : decode cX1_sort 23 = .ok (.iaload, 1) := by decide +kernel
theorem dX1_sort_24 : decode cX1_sort 24 = .ok (.aload_n 0, 1) := by decide +kernel
theorem dX1_sort_25 : decode cX1_sort 25 = .ok (.getfield 9, 3) := by decide +kernel
theorem dX1_sort_28 : decode cX1_sort 28 = .ok (.iload_n 1, 1) := by decide +kernel
theorem dX1_sort_29 : decode cX1_sort 29 = .ok (.iaload, 1) := by decide +kernel
theorem dX1_sort_30 : decode cX1_sort 30 = .ok (.if_icmp .le 23, 3) := by decide +kernel
theorem dX1_sort_33 : decode cX1_sort 33 = .ok (.aload_n 0, 1) := by decide +kernel
theorem dX1_sort_34 : decode cX1_sort 34 = .ok (.getfield 13, 3) := by decide +kernel
theorem dX1_sort_37 : decode cX1_sort 37 = .ok (.iload_n 2, 1) := by decide +kernel
theorem dX1_sort_38 : decode cX1_sort 38 = .ok (.aload_n 0, 1) := by decide +kernel
theorem dX1_sort_39 : decode cX1_sort 39 = .ok (.getfield 13, 3) := by decide +kernel
theorem dX1_sort_42 : decode cX1_sort 42 = .ok (.iload_n 2, 1) := by decide +kernel
theorem dX1_sort_43 : decode cX1_sort 43 = .ok (.iconst 1, 1) := by decide +kernel
theorem dX1_sort_44 : decode cX1_sort 44 = .ok (.isub, 1) := by decide +kernel
theorem dX1_sort_45 : decode cX1_sort 45 = .ok (.iaload, 1) := by decide +kernel
theorem dX1_sort_46 : decode cX1_sort 46 = .ok (.iastore, 1) := by decide +kernel
theorem dX1_sort_47 : decode cX1_sort 47 = .ok (.iinc 2 (-1), 3) := by decide +kernel
theorem dX1_sort_50 : decode cX1_sort 50 = .ok (.goto (-38), 3) := by decide +kernel
theorem dX1_sort_53 : decode cX1_sort 53 = .ok (.aload_n 0, 1) := by decide +kernel
theorem dX1_sort_54 : decode cX1_sort 54 = .ok (.getfield 13, 3) := by decide +kernel
theorem dX1_sort_57 : decode cX1_sort 57 = .ok (.iload_n 2, 1) := by decide +kernel
theorem dX1_sort_58 : decode cX1_sort 58 = .ok (.aload_n 0, 1) := by decide +kernel
theorem dX1_sort_59 : decode cX1_sort 59 = .ok (.getfield 9, 3) := by decide +kernel
theorem dX1_sort_62 : decode cX1_sort 62 = .ok (.iload_n 1, 1) := by decide +kernel
theorem dX1_sort_63 : decode cX1_sort 63 = .ok (.iaload, 1) := by decide +kernel
theorem dX1_sort_64 : decode cX1_sort 64 = .ok (.iastore, 1) := by decide +kernel
theorem dX1_sort_65 : decode cX1_sort 65 = .ok (.iinc 1 1, 3) := by decide +kernel
theorem dX1_sort_68 : decode cX1_sort 68 = .ok (.goto (-66), 3) := by decide +kernel
theorem dX1_sort_71 : decode cX1_sort 71 = .ok (.return_, 1) := by decide +kernel
theorem dX1_first_0 : decode cX1_first 0 = .ok (.aload_n 0, 1) := by decide +kernel
theorem dX1_first_1 : decode cX1_first 1 = .ok (.getfield 23, 3) := by decide +kernel
theorem dX1_first_4 : decode cX1_first 4 = .ok (.ireturn, 1) := by decide +kernel
theorem dX1_second_0 : decode cX1_second 0 = .ok (.aload_n 0, 1) := by decide +kernel
theorem dX1_second_1 : decode cX1_second 1 = .ok (.getfield 26, 3) := by decide +kernel
theorem dX1_second_4 : decode cX1_second 4 = .ok (.ireturn, 1) := by decide +kernel
theorem dX1_priorityFor_0 : decode cX1_priorityFor 0 = .ok (.iload_n 1, 1) := by decide +kernel
theorem dX1_priorityFor_1 : decode cX1_priorityFor 1 = .ok (.aload_n 0, 1) := by decide +kernel
theorem dX1_priorityFor_2 : decode cX1_priorityFor 2 = .ok (.getfield 23, 3) := by decide +kernel
theorem dX1_priorityFor_5 : decode cX1_priorityFor 5 = .ok (.if_icmp .gt 5, 3) := by decide +kernel
theorem dX1_priorityFor_8 : decode cX1_priorityFor 8 = .ok (.iconst 1, 1) := by decide +kernel
theorem dX1_priorityFor_9 : decode cX1_priorityFor 9 = .ok (.ireturn, 1) := by decide +kernel
theorem dX1_priorityFor_10 : decode cX1_priorityFor 10 = .ok (.iload_n 1, 1) := by decide +kernel
theorem dX1_priorityFor_11 : decode cX1_priorityFor 11 = .ok (.aload_n 0, 1) := by decide +kernel
theorem dX1_priorityFor_12 : decode cX1_priorityFor 12 = .ok (.getfield 26, 3) := by decide +kernel
theorem dX1_priorityFor_15 : decode cX1_priorityFor 15 = .ok (.if_icmp .gt 7, 3) := by decide +kernel
theorem dX1_priorityFor_18 : decode cX1_priorityFor 18 = .ok (.iconst 2, 1) := by decide +kernel
theorem dX1_priorityFor_19 : decode cX1_priorityFor 19 = .ok (.goto 4, 3) := by decide +kernel
theorem dX1_priorityFor_22 : decode cX1_priorityFor 22 = .ok (.iconst 3, 1) := by decide +kernel
theorem dX1_priorityFor_23 : decode cX1_priorityFor 23 = .ok (.ireturn, 1) := by decide +kernel
theorem dX2_init_0 : decode cX2_init 0 = .ok (.aload_n 0, 1) := by decide +kernel
theorem dX2_init_1 : decode cX2_init 1 = .ok (.invokespecial 3, 3) := by decide +kernel
theorem dX2_init_4 : decode cX2_init 4 = .ok (.aload_n 0, 1) := by decide +kernel
theorem dX2_init_5 : decode cX2_init 5 = .ok (.bipush 24, 2) := by decide +kernel
theorem dX2_init_7 : decode cX2_init 7 = .ok (.newarray .int, 2) := by decide +kernel
theorem dX2_init_9 : decode cX2_init 9 = .ok (.putfield 11, 3) := by decide +kernel
theorem dX2_init_12 : decode cX2_init 12 = .ok (.aload_n 0, 1) := by decide +kernel
theorem dX2_init_13 : decode cX2_init 13 = .ok (.bipush 24, 2) := by decide +kernel
theorem dX2_init_15 : decode cX2_init 15 = .ok (.newarray .int, 2) := by decide +kernel
theorem dX2_init_17 : decode cX2_init 17 = .ok (.putfield 15, 3) := by decide +kernel
theorem dX2_init_20 : decode cX2_init 20 = .ok (.aload_n 0, 1) := by decide +kernel
theorem dX2_init_21 : decode cX2_init 21 = .ok (.bipush 64, 2) := by decide +kernel
theorem dX2_init_23 : decode cX2_init 23 = .ok (.anewarray 18, 3) := by decide +kernel
theorem dX2_init_26 : decode cX2_init 26 = .ok (.putfield 20, 3) := by decide +kernel
theorem dX2_init_29 : decode cX2_init 29 = .ok (.aload_n 0, 1) := by decide +kernel
theorem dX2_init_30 : decode cX2_init 30 = .ok (.iconst 2, 1) := by decide +kernel
theorem dX2_init_31 : decode cX2_init 31 = .ok (.newarray .boolean, 2) := by decide +kernel
theorem dX2_init_33 : decode cX2_init 33 = .ok (.putfield 24, 3) := by decide +kernel
theorem dX2_init_36 : decode cX2_init 36 = .ok (.aload_n 0, 1) := by decide +kernel
theorem dX2_init_37 : decode cX2_init 37 = .ok (.iconst 2, 1) := by decide +kernel
theorem dX2_init_38 : decode cX2_init 38 = .ok (.newarray .int, 2) := by decide +kernel
theorem dX2_init_40 : decode cX2_init 40 = .ok (.putfield 28, 3) := by decide +kernel
theorem dX2_init_43 : decode cX2_init 43 = .ok (.aload_n 0, 1) := by decide +kernel
theorem dX2_init_44 : decode cX2_init 44 = .ok (.iconst 0, 1) := by decide +kernel
theorem dX2_init_45 : decode cX2_init 45 = .ok (.putfield 31, 3) := by decide +kernel
theorem dX2_init_48 : decode cX2_init 48 = .ok (.aload_n 0, 1) := by decide +kernel
theorem dX2_init_49 : decode cX2_init 49 = .ok (.iconst 0, 1) := by decide +kernel
theorem dX2_init_50 : decode cX2_init 50 = .ok (.putfield 35, 3) := by decide +kernel
theorem dX2_init_53 : decode cX2_init 53 = .ok (.aload_n 0, 1) := by decide +kernel
theorem dX2_init_54 : decode cX2_init 54 = .ok (.getfield 11, 3) := by decide +kernel
theorem dX2_init_57 : decode cX2_init 57 = .ok (.iconst (-1), 1) := by decide +kernel
theorem dX2_init_58 : decode cX2_init 58 = .ok (.invokestatic 40, 3) := by decide +kernel
theorem dX2_init_61 : decode cX2_init 61 = .ok (.iconst 0, 1) := by decide +kernel
theorem dX2_init_62 : decode cX2_init 62 = .ok (.istore_n 1, 1) := by decide +kernel
theorem dX2_init_63 : decode cX2_init 63 = .ok (.iload_n 1, 1) := by decide +kernel
theorem dX2_init_64 : decode cX2_init 64 = .ok (.aload_n 0, 1) := by decide +kernel
theorem dX2_init_65 : decode cX2_init 65 = .ok (.getfield 20, 3) := by decide +kernel
theorem dX2_init_68 : decode cX2_init 68 = .ok (.arraylength, 1) := by decide +kernel
theorem dX2_init_69 : decode cX2_init 69 = .ok (.if_icmp .ge 24, 3) := by decide +kernel
theorem dX2_init_72 : decode cX2_init 72 = .ok (.aload_n 0, 1) := by decide +kernel
theorem dX2_init_73 : decode cX2_init 73 = .ok (.getfield 20, 3) := by decide +kernel
theorem dX2_init_76 : decode cX2_init 76 = .ok (.iload_n 1, 1) := by decide +kernel
theorem dX2_init_77 : decode cX2_init 77 = .ok (.new 18, 3) := by decide +kernel
theorem dX2_init_80 : decode cX2_init 80 = .ok (.dup, 1) := by decide +kernel
theorem dX2_init_81 : decode cX2_init 81 = .ok (.bipush 8, 2) := by decide +kernel
theorem dX2_init_83 : decode cX2_init 83 = .ok (.invokespecial 46, 3) := by decide +kernel
theorem dX2_init_86 : decode cX2_init 86 = .ok (.aastore, 1) := by decide +kernel
theorem dX2_init_87 : decode cX2_init 87 = .ok (.iinc 1 1, 3) := by decide +kernel
theorem dX2_init_90 : decode cX2_init 90 = .ok (.goto (-27), 3) := by decide +kernel
theorem dX2_init_93 : decode cX2_init 93 = .ok (.iconst 0, 1) := by decide +kernel
theorem dX2_init_94 : decode cX2_init 94 = .ok (.istore_n 1, 1) := by decide +kernel
theorem dX2_init_95 : decode cX2_init 95 = .ok (.iload_n 1, 1) := by decide +kernel
theorem dX2_init_96 : decode cX2_init 96 = .ok (.iconst 2, 1) := by decide +kernel
theorem dX2_init_97 : decode cX2_init 97 = .ok (.if_icmp .ge 16, 3) := by decide +kernel
theorem dX2_init_100 : decode cX2_init 100 = .ok (.aload_n 0, 1) := by decide +kernel
theorem dX2_init_101 : decode cX2_init 101 = .ok (.getfield 24, 3) := by decide +kernel
theorem dX2_init_104 : decode cX2_init 104 = .ok (.iload_n 1, 1) := by decide +kernel
theorem dX2_init_105 : decode cX2_init 105 = .ok (.iconst 1, 1) := by decide +kernel
theorem dX2_init_106 : decode cX2_init 106 = .ok (.bastore, 1) := by decide +kernel
theorem dX2_init_107 : decode cX2_init 107 = .ok (.iinc 1 1, 3) := by decide +kernel
theorem dX2_init_110 : decode cX2_init 110 = .ok (.goto (-15), 3) := by decide +kernel
theorem dX2_init_113 : decode cX2_init 113 = .ok (.aload_n 0, 1) := by decide +kernel
theorem dX2_init_114 : decode cX2_init 114 = .ok (.getfield 28, 3) := by decide +kernel
theorem dX2_init_117 : decode cX2_init 117 = .ok (.iconst 1, 1) := by decide +kernel
theorem dX2_init_118 : decode cX2_init 118 = .ok (.invokestatic 40, 3) := by decide +kernel
theorem dX2_init_121 : decode cX2_init 121 = .ok (.return_, 1) := by decide +kernel
theorem dX2_isLink_0 : decode cX2_isLink 0 = .ok (.iload_n 0, 1) := by decide +kernel
theorem dX2_isLink_1 : decode cX2_isLink 1 = .ok (.ifCond .lt 13, 3) := by decide +kernel
theorem dX2_isLink_4 : decode cX2_isLink 4 = .ok (.iload_n 0, 1) := by decide +kernel
theorem dX2_isLink_5 : decode cX2_isLink 5 = .ok (.bipush 24, 2) := by decide +kernel
theorem dX2_isLink_7 : decode cX2_isLink 7 = .ok (.if_icmp .ge 7, 3) := by decide +kernel
theorem dX2_isLink_10 : decode cX2_isLink 10 = .ok (.iconst 1, 1) := by decide +kernel
theorem dX2_isLink_11 : decode cX2_isLink 11 = .ok (.goto 4, 3) := by decide +kernel
theorem dX2_isLink_14 : decode cX2_isLink 14 = .ok (.iconst 0, 1) := by decide +kernel
theorem dX2_isLink_15 : decode cX2_isLink 15 = .ok (.ireturn, 1) := by decide +kernel
theorem dX2_endsAtHost_0 : decode cX2_endsAtHost 0 = .ok (.iload_n 0, 1) := by decide +kernel
theorem dX2_endsAtHost_1 : decode cX2_endsAtHost 1 = .ok (.invokestatic 49, 3) := by decide +kernel
theorem dX2_endsAtHost_4 : decode cX2_endsAtHost 4 = .ok (.ifCond .eq 15, 3) := by decide +kernel
theorem dX2_endsAtHost_7 : decode cX2_endsAtHost 7 = .ok (.iload_n 0, 1) := by decide +kernel
theorem dX2_endsAtHost_8 : decode cX2_endsAtHost 8 = .ok (.invokestatic 53, 3) := by decide +kernel
theorem dX2_endsAtHost_11 : decode cX2_endsAtHost 11 = .ok (.iconst 4, 1) := by decide +kernel
theorem dX2_endsAtHost_12 : decode cX2_endsAtHost 12 = .ok (.if_icmp .ge 7, 3) := by decide +kernel
theorem dX2_endsAtHost_15 : decode cX2_endsAtHost 15 = .ok (.iconst 1, 1) := by decide +kernel
theorem dX2_endsAtHost_16 : decode cX2_endsAtHost 16 = .ok (.goto 4, 3) := by decide +kernel
theorem dX2_endsAtHost_19 : decode cX2_endsAtHost 19 = .ok (.iconst 0, 1) := by decide +kernel
theorem dX2_endsAtHost_20 : decode cX2_endsAtHost 20 = .ok (.ireturn, 1) := by decide +kernel
theorem dX2_endsAtSpine_0 : decode cX2_endsAtSpine 0 = .ok (.iload_n 0, 1) := by decide +kernel
theorem dX2_endsAtSpine_1 : decode cX2_endsAtSpine 1 = .ok (.invokestatic 49, 3) := by decide +kernel
theorem dX2_endsAtSpine_4 : decode cX2_endsAtSpine 4 = .ok (.ifCond .eq 15, 3) := by decide +kernel
theorem dX2_endsAtSpine_7 : decode cX2_endsAtSpine 7 = .ok (.iload_n 0, 1) := by decide +kernel
theorem dX2_endsAtSpine_8 : decode cX2_endsAtSpine 8 = .ok (.invokestatic 53, 3) := by decide +kernel
theorem dX2_endsAtSpine_11 : decode cX2_endsAtSpine 11 = .ok (.iconst 4, 1) := by decide +kernel
theorem dX2_endsAtSpine_12 : decode cX2_endsAtSpine 12 = .ok (.if_icmp .lt 7, 3) := by decide +kernel
theorem dX2_endsAtSpine_15 : decode cX2_endsAtSpine 15 = .ok (.iconst 1, 1) := by decide +kernel
theorem dX2_endsAtSpine_16 : decode cX2_endsAtSpine 16 = .ok (.goto 4, 3) := by decide +kernel
theorem dX2_endsAtSpine_19 : decode cX2_endsAtSpine 19 = .ok (.iconst 0, 1) := by decide +kernel
theorem dX2_endsAtSpine_20 : decode cX2_endsAtSpine 20 = .ok (.ireturn, 1) := by decide +kernel
theorem dX2_isFromLeaf_0 : decode cX2_isFromLeaf 0 = .ok (.iload_n 0, 1) := by decide +kernel
theorem dX2_isFromLeaf_1 : decode cX2_isFromLeaf 1 = .ok (.bipush 8, 2) := by decide +kernel
theorem dX2_isFromLeaf_3 : decode cX2_isFromLeaf 3 = .ok (.if_icmp .lt 13, 3) := by decide +kernel
theorem dX2_isFromLeaf_6 : decode cX2_isFromLeaf 6 = .ok (.iload_n 0, 1) := by decide +kernel
theorem dX2_isFromLeaf_7 : decode cX2_isFromLeaf 7 = .ok (.bipush 20, 2) := by decide +kernel
theorem dX2_isFromLeaf_9 : decode cX2_isFromLeaf 9 = .ok (.if_icmp .ge 7, 3) := by decide +kernel
theorem dX2_isFromLeaf_12 : decode cX2_isFromLeaf 12 = .ok (.iconst 1, 1) := by decide +kernel
theorem dX2_isFromLeaf_13 : decode cX2_isFromLeaf 13 = .ok (.goto 4, 3) := by decide +kernel
theorem dX2_isFromLeaf_16 : decode cX2_isFromLeaf 16 = .ok (.iconst 0, 1) := by decide +kernel
theorem dX2_isFromLeaf_17 : decode cX2_isFromLeaf 17 = .ok (.ireturn, 1) := by decide +kernel
theorem dX2_portOfLeaf_0 : decode cX2_portOfLeaf 0 = .ok (.iload_n 0, 1) := by decide +kernel
theorem dX2_portOfLeaf_1 : decode cX2_portOfLeaf 1 = .ok (.bipush 8, 2) := by decide +kernel
theorem dX2_portOfLeaf_3 : decode cX2_portOfLeaf 3 = .ok (.isub, 1) := by decide +kernel
theorem dX2_portOfLeaf_4 : decode cX2_portOfLeaf 4 = .ok (.bipush 6, 2) := by decide +kernel
theorem dX2_portOfLeaf_6 : decode cX2_portOfLeaf 6 = .ok (.irem, 1) := by decide +kernel
theorem dX2_portOfLeaf_7 : decode cX2_portOfLeaf 7 = .ok (.ireturn, 1) := by decide +kernel
theorem dX2_linkFromLeaf_0 : decode cX2_linkFromLeaf 0 = .ok (.bipush 8, 2) := by decide +kernel
theorem dX2_linkFromLeaf_2 : decode cX2_linkFromLeaf 2 = .ok (.bipush 6, 2) := by decide +kernel
theorem dX2_linkFromLeaf_4 : decode cX2_linkFromLeaf 4 = .ok (.iload_n 0, 1) := by decide +kernel
theorem dX2_linkFromLeaf_5 : decode cX2_linkFromLeaf 5 = .ok (.imul, 1) := by decide +kernel
theorem dX2_linkFromLeaf_6 : decode cX2_linkFromLeaf 6 = .ok (.iadd, 1) := by decide +kernel
theorem dX2_linkFromLeaf_7 : decode cX2_linkFromLeaf 7 = .ok (.iload_n 1, 1) := by decide +kernel
theorem dX2_linkFromLeaf_8 : decode cX2_linkFromLeaf 8 = .ok (.iadd, 1) := by decide +kernel
theorem dX2_linkFromLeaf_9 : decode cX2_linkFromLeaf 9 = .ok (.ireturn, 1) := by decide +kernel
theorem dX2_linkFromSpine_0 : decode cX2_linkFromSpine 0 = .ok (.bipush 20, 2) := by decide +kernel
theorem dX2_linkFromSpine_2 : decode cX2_linkFromSpine 2 = .ok (.iconst 2, 1) := by decide +kernel
theorem dX2_linkFromSpine_3 : decode cX2_linkFromSpine 3 = .ok (.iload_n 0, 1) := by decide +kernel
theorem dX2_linkFromSpine_4 : decode cX2_linkFromSpine 4 = .ok (.imul, 1) := by decide +kernel
theorem dX2_linkFromSpine_5 : decode cX2_linkFromSpine 5 = .ok (.iadd, 1) := by decide +kernel
theorem dX2_linkFromSpine_6 : decode cX2_linkFromSpine 6 = .ok (.iload_n 1, 1) := by decide +kernel
theorem dX2_linkFromSpine_7 : decode cX2_linkFromSpine 7 = .ok (.iadd, 1) := by decide +kernel
theorem dX2_linkFromSpine_8 : decode cX2_linkFromSpine 8 = .ok (.ireturn, 1) := by decide +kernel
theorem dX2_leafOfHost_0 : decode cX2_leafOfHost 0 = .ok (.iload_n 0, 1) := by decide +kernel
theorem dX2_leafOfHost_1 : decode cX2_leafOfHost 1 = .ok (.iconst 4, 1) := by decide +kernel
theorem dX2_leafOfHost_2 : decode cX2_leafOfHost 2 = .ok (.idiv, 1) := by decide +kernel
theorem dX2_leafOfHost_3 : decode cX2_leafOfHost 3 = .ok (.ireturn, 1) := by decide +kernel
theorem dX2_leafAtEnd_0 : decode cX2_leafAtEnd 0 = .ok (.iload_n 0, 1) := by decide +kernel
theorem dX2_leafAtEnd_1 : decode cX2_leafAtEnd 1 = .ok (.bipush 8, 2) := by decide +kernel
theorem dX2_leafAtEnd_3 : decode cX2_leafAtEnd 3 = .ok (.if_icmp .ge 10, 3) := by decide +kernel
theorem dX2_leafAtEnd_6 : decode cX2_leafAtEnd 6 = .ok (.iload_n 0, 1) := by decide +kernel
theorem dX2_leafAtEnd_7 : decode cX2_leafAtEnd 7 = .ok (.invokestatic 57, 3) := by decide +kernel
theorem dX2_leafAtEnd_10 : decode cX2_leafAtEnd 10 = .ok (.goto 9, 3) := by decide +kernel
theorem dX2_leafAtEnd_13 : decode cX2_leafAtEnd 13 = .ok (.iload_n 0, 1) := by decide +kernel
theorem dX2_leafAtEnd_14 : decode cX2_leafAtEnd 14 = .ok (.bipush 20, 2) := by decide +kernel
theorem dX2_leafAtEnd_16 : decode cX2_leafAtEnd 16 = .ok (.isub, 1) := by decide +kernel
theorem dX2_leafAtEnd_17 : decode cX2_leafAtEnd 17 = .ok (.iconst 2, 1) := by decide +kernel
theorem dX2_leafAtEnd_18 : decode cX2_leafAtEnd 18 = .ok (.irem, 1) := by decide +kernel
theorem dX2_leafAtEnd_19 : decode cX2_leafAtEnd 19 = .ok (.ireturn, 1) := by decide +kernel
theorem dX2_setToLose_0 : decode cX2_setToLose 0 = .ok (.aload_n 0, 1) := by decide +kernel
theorem dX2_setToLose_1 : decode cX2_setToLose 1 = .ok (.getfield 15, 3) := by decide +kernel
theorem dX2_setToLose_4 : decode cX2_setToLose 4 = .ok (.iload_n 1, 1) := by decide +kernel
theorem dX2_setToLose_5 : decode cX2_setToLose 5 = .ok (.iload_n 2, 1) := by decide +kernel
theorem dX2_setToLose_6 : decode cX2_setToLose 6 = .ok (.iastore, 1) := by decide +kernel
theorem dX2_setToLose_7 : decode cX2_setToLose 7 = .ok (.return_, 1) := by decide +kernel
theorem dX2_setSpine_0 : decode cX2_setSpine 0 = .ok (.aload_n 0, 1) := by decide +kernel
theorem dX2_setSpine_1 : decode cX2_setSpine 1 = .ok (.getfield 24, 3) := by decide +kernel
theorem dX2_setSpine_4 : decode cX2_setSpine 4 = .ok (.iload_n 1, 1) := by decide +kernel
theorem dX2_setSpine_5 : decode cX2_setSpine 5 = .ok (.iload_n 2, 1) := by decide +kernel
theorem dX2_setSpine_6 : decode cX2_setSpine 6 = .ok (.bastore, 1) := by decide +kernel
theorem dX2_setSpine_7 : decode cX2_setSpine 7 = .ok (.return_, 1) := by decide +kernel
theorem dX2_look_0 : decode cX2_look 0 = .ok (.iload_n 1, 1) := by decide +kernel
theorem dX2_look_1 : decode cX2_look 1 = .ok (.invokestatic 60, 3) := by decide +kernel
theorem dX2_look_4 : decode cX2_look 4 = .ok (.ifCond .eq 12, 3) := by decide +kernel
theorem dX2_look_7 : decode cX2_look 7 = .ok (.aload_n 0, 1) := by decide +kernel
theorem dX2_look_8 : decode cX2_look 8 = .ok (.getfield 11, 3) := by decide +kernel
theorem dX2_look_11 : decode cX2_look 11 = .ok (.iload_n 1, 1) := by decide +kernel
theorem dX2_look_12 : decode cX2_look 12 = .ok (.iaload, 1) := by decide +kernel
theorem dX2_look_13 : decode cX2_look 13 = .ok (.goto 4, 3) := by decide +kernel
theorem dX2_look_16 : decode cX2_look 16 = .ok (.iconst (-1), 1) := by decide +kernel
theorem dX2_look_17 : decode cX2_look 17 = .ok (.ireturn, 1) := by decide +kernel
theorem dX2_takeOff_0 : decode cX2_takeOff 0 = .ok (.aload_n 0, 1) := by decide +kernel
theorem dX2_takeOff_1 : decode cX2_takeOff 1 = .ok (.getfield 11, 3) := by decide +kernel
theorem dX2_takeOff_4 : decode cX2_takeOff 4 = .ok (.iload_n 1, 1) := by decide +kernel
theorem dX2_takeOff_5 : decode cX2_takeOff 5 = .ok (.iaload, 1) := by decide +kernel
theorem dX2_takeOff_6 : decode cX2_takeOff 6 = .ok (.istore_n 2, 1) := by decide +kernel
theorem dX2_takeOff_7 : decode cX2_takeOff 7 = .ok (.aload_n 0, 1) := by decide +kernel
theorem dX2_takeOff_8 : decode cX2_takeOff 8 = .ok (.getfield 11, 3) := by decide +kernel
theorem dX2_takeOff_11 : decode cX2_takeOff 11 = .ok (.iload_n 1, 1) := by decide +kernel
theorem dX2_takeOff_12 : decode cX2_takeOff 12 = .ok (.iconst (-1), 1) := by decide +kernel
theorem dX2_takeOff_13 : decode cX2_takeOff 13 = .ok (.iastore, 1) := by decide +kernel
theorem dX2_takeOff_14 : decode cX2_takeOff 14 = .ok (.iload_n 2, 1) := by decide +kernel
theorem dX2_takeOff_15 : decode cX2_takeOff 15 = .ok (.ireturn, 1) := by decide +kernel
theorem dX2_putOn_0 : decode cX2_putOn 0 = .ok (.aload_n 0, 1) := by decide +kernel
theorem dX2_putOn_1 : decode cX2_putOn 1 = .ok (.getfield 15, 3) := by decide +kernel
theorem dX2_putOn_4 : decode cX2_putOn 4 = .ok (.iload_n 1, 1) := by decide +kernel
theorem dX2_putOn_5 : decode cX2_putOn 5 = .ok (.iaload, 1) := by decide +kernel
theorem dX2_putOn_6 : decode cX2_putOn 6 = .ok (.ifCond .le 26, 3) := by decide +kernel
theorem dX2_putOn_9 : decode cX2_putOn 9 = .ok (.aload_n 0, 1) := by decide +kernel
theorem dX2_putOn_10 : decode cX2_putOn 10 = .ok (.getfield 15, 3) := by decide +kernel
theorem dX2_putOn_13 : decode cX2_putOn 13 = .ok (.iload_n 1, 1) := by decide +kernel
theorem dX2_putOn_14 : decode cX2_putOn 14 = .ok (.dup2, 1) := by decide +kernel
theorem dX2_putOn_15 : decode cX2_putOn 15 = .ok (.iaload, 1) := by decide +kernel
theorem dX2_putOn_16 : decode cX2_putOn 16 = .ok (.iconst 1, 1) := by decide +kernel
theorem dX2_putOn_17 : decode cX2_putOn 17 = .ok (.isub, 1) := by decide +kernel
theorem dX2_putOn_18 : decode cX2_putOn 18 = .ok (.iastore, 1) := by decide +kernel
theorem dX2_putOn_19 : decode cX2_putOn 19 = .ok (.aload_n 0, 1) := by decide +kernel
theorem dX2_putOn_20 : decode cX2_putOn 20 = .ok (.dup, 1) := by decide +kernel
theorem dX2_putOn_21 : decode cX2_putOn 21 = .ok (.getfield 35, 3) := by decide +kernel
theorem dX2_putOn_24 : decode cX2_putOn 24 = .ok (.iconst 1, 1) := by decide +kernel
theorem dX2_putOn_25 : decode cX2_putOn 25 = .ok (.iadd, 1) := by decide +kernel
theorem dX2_putOn_26 : decode cX2_putOn 26 = .ok (.putfield 35, 3) := by decide +kernel
theorem dX2_putOn_29 : decode cX2_putOn 29 = .ok (.goto 10, 3) := by decide +kernel
theorem dX2_putOn_32 : decode cX2_putOn 32 = .ok (.aload_n 0, 1) := by decide +kernel
theorem dX2_putOn_33 : decode cX2_putOn 33 = .ok (.getfield 11, 3) := by decide +kernel
theorem dX2_putOn_36 : decode cX2_putOn 36 = .ok (.iload_n 1, 1) := by decide +kernel
theorem dX2_putOn_37 : decode cX2_putOn 37 = .ok (.iload_n 2, 1) := by decide +kernel
theorem dX2_putOn_38 : decode cX2_putOn 38 = .ok (.iastore, 1) := by decide +kernel
theorem dX2_putOn_39 : decode cX2_putOn 39 = .ok (.return_, 1) := by decide +kernel
theorem dX2_passOn_0 : decode cX2_passOn 0 = .ok (.iload_n 1, 1) := by decide +kernel
theorem dX2_passOn_1 : decode cX2_passOn 1 = .ok (.invokestatic 63, 3) := by decide +kernel
theorem dX2_passOn_4 : decode cX2_passOn 4 = .ok (.ifCond .eq 12, 3) := by decide +kernel
theorem dX2_passOn_7 : decode cX2_passOn 7 = .ok (.aload_n 0, 1) := by decide +kernel
theorem dX2_passOn_8 : decode cX2_passOn 8 = .ok (.iload_n 1, 1) := by decide +kernel
theorem dX2_passOn_9 : decode cX2_passOn 9 = .ok (.iload_n 2, 1) := by decide +kernel
theorem dX2_passOn_10 : decode cX2_passOn 10 = .ok (.invokevirtual 66, 3) := by decide +kernel
theorem dX2_passOn_13 : decode cX2_passOn 13 = .ok (.goto 9, 3) := by decide +kernel
theorem dX2_passOn_16 : decode cX2_passOn 16 = .ok (.aload_n 0, 1) := by decide +kernel
theorem dX2_passOn_17 : decode cX2_passOn 17 = .ok (.iload_n 1, 1) := by decide +kernel
theorem dX2_passOn_18 : decode cX2_passOn 18 = .ok (.iload_n 2, 1) := by decide +kernel
theorem dX2_passOn_19 : decode cX2_passOn 19 = .ok (.invokevirtual 70, 3) := by decide +kernel
theorem dX2_passOn_22 : decode cX2_passOn 22 = .ok (.return_, 1) := by decide +kernel
theorem dX2_passLeaf_0 : decode cX2_passLeaf 0 = .ok (.iload_n 1, 1) := by decide +kernel
theorem dX2_passLeaf_1 : decode cX2_passLeaf 1 = .ok (.invokestatic 73, 3) := by decide +kernel
theorem dX2_passLeaf_4 : decode cX2_passLeaf 4 = .ok (.istore_n 3, 1) := by decide +kernel
theorem dX2_passLeaf_5 : decode cX2_passLeaf 5 = .ok (.iload_n 2, 1) := by decide +kernel
theorem dX2_passLeaf_6 : decode cX2_passLeaf 6 = .ok (.invokestatic 76, 3) := by decide +kernel
theorem dX2_passLeaf_9 : decode cX2_passLeaf 9 = .ok (.istore 4, 2) := by decide +kernel
theorem dX2_passLeaf_11 : decode cX2_passLeaf 11 = .ok (.iload 4, 2) := by decide +kernel
theorem dX2_passLeaf_13 : decode cX2_passLeaf 13 = .ok (.invokestatic 57, 3) := by decide +kernel
theorem dX2_passLeaf_16 : decode cX2_passLeaf 16 = .ok (.iload_n 3, 1) := by decide +kernel
theorem dX2_passLeaf_17 : decode cX2_passLeaf 17 = .ok (.if_icmp .ne 17, 3) := by decide +kernel
theorem dX2_passLeaf_20 : decode cX2_passLeaf 20 = .ok (.aload_n 0, 1) := by decide +kernel
theorem dX2_passLeaf_21 : decode cX2_passLeaf 21 = .ok (.iload_n 3, 1) := by decide +kernel
theorem dX2_passLeaf_22 : decode cX2_passLeaf 22 = .ok (.iload 4, 2) := by decide +kernel
theorem dX2_passLeaf_24 : decode cX2_passLeaf 24 = .ok (.iconst 4, 1) := by decide +kernel
theorem dX2_passLeaf_25 : decode cX2_passLeaf 25 = .ok (.irem, 1) := by decide +kernel
theorem dX2_passLeaf_26 : decode cX2_passLeaf 26 = .ok (.invokestatic 79, 3) := by decide +kernel
theorem dX2_passLeaf_29 : decode cX2_passLeaf 29 = .ok (.iload_n 2, 1) := by decide +kernel
theorem dX2_passLeaf_30 : decode cX2_passLeaf 30 = .ok (.invokevirtual 83, 3) := by decide +kernel
theorem dX2_passLeaf_33 : decode cX2_passLeaf 33 = .ok (.return_, 1) := by decide +kernel
theorem dX2_passLeaf_34 : decode cX2_passLeaf 34 = .ok (.aload_n 0, 1) := by decide +kernel
theorem dX2_passLeaf_35 : decode cX2_passLeaf 35 = .ok (.iload_n 3, 1) := by decide +kernel
theorem dX2_passLeaf_36 : decode cX2_passLeaf 36 = .ok (.invokevirtual 86, 3) := by decide +kernel
theorem dX2_passLeaf_39 : decode cX2_passLeaf 39 = .ok (.istore 5, 2) := by decide +kernel
theorem dX2_passLeaf_41 : decode cX2_passLeaf 41 = .ok (.iload 5, 2) := by decide +kernel
theorem dX2_passLeaf_43 : decode cX2_passLeaf 43 = .ok (.iconst (-1), 1) := by decide +kernel
theorem dX2_passLeaf_44 : decode cX2_passLeaf 44 = .ok (.if_icmp .ne 16, 3) := by decide +kernel
theorem dX2_passLeaf_47 : decode cX2_passLeaf 47 = .ok (.aload_n 0, 1) := by decide +kernel
theorem dX2_passLeaf_48 : decode cX2_passLeaf 48 = .ok (.dup, 1) := by decide +kernel
theorem dX2_passLeaf_49 : decode cX2_passLeaf 49 = .ok (.getfield 31, 3) := by decide +kernel
theorem dX2_passLeaf_52 : decode cX2_passLeaf 52 = .ok (.iconst 1, 1) := by decide +kernel
theorem dX2_passLeaf_53 : decode cX2_passLeaf 53 = .ok (.iadd, 1) := by decide +kernel
theorem dX2_passLeaf_54 : decode cX2_passLeaf 54 = .ok (.putfield 31, 3) := by decide +kernel
theorem dX2_passLeaf_57 : decode cX2_passLeaf 57 = .ok (.goto 16, 3) := by decide +kernel
theorem dX2_passLeaf_60 : decode cX2_passLeaf 60 = .ok (.aload_n 0, 1) := by decide +kernel
theorem dX2_passLeaf_61 : decode cX2_passLeaf 61 = .ok (.iload_n 3, 1) := by decide +kernel
theorem dX2_passLeaf_62 : decode cX2_passLeaf 62 = .ok (.iconst 4, 1) := by decide +kernel
theorem dX2_passLeaf_63 : decode cX2_passLeaf 63 = .ok (.iload 5, 2) := by decide +kernel
theorem dX2_passLeaf_65 : decode cX2_passLeaf 65 = .ok (.iadd, 1) := by decide +kernel
theorem dX2_passLeaf_66 : decode cX2_passLeaf 66 = .ok (.invokestatic 79, 3) := by decide +kernel
theorem dX2_passLeaf_69 : decode cX2_passLeaf 69 = .ok (.iload_n 2, 1) := by decide +kernel
theorem dX2_passLeaf_70 : decode cX2_passLeaf 70 = .ok (.invokevirtual 83, 3) := by decide +kernel
theorem dX2_passLeaf_73 : decode cX2_passLeaf 73 = .ok (.return_, 1) := by decide +kernel
theorem dX2_chooseSpine_0 : decode cX2_chooseSpine 0 = .ok (.iconst 1, 1) := by decide +kernel
theorem dX2_chooseSpine_1 : decode cX2_chooseSpine 1 = .ok (.aload_n 0, 1) := by decide +kernel
theorem dX2_chooseSpine_2 : decode cX2_chooseSpine 2 = .ok (.getfield 28, 3) := by decide +kernel
theorem dX2_chooseSpine_5 : decode cX2_chooseSpine 5 = .ok (.iload_n 1, 1) := by decide +kernel
theorem dX2_chooseSpine_6 : decode cX2_chooseSpine 6 = .ok (.iaload, 1) := by decide +kernel
theorem dX2_chooseSpine_7 : decode cX2_chooseSpine 7 = .ok (.isub, 1) := by decide +kernel
theorem dX2_chooseSpine_8 : decode cX2_chooseSpine 8 = .ok (.istore_n 2, 1) := by decide +kernel
theorem dX2_chooseSpine_9 : decode cX2_chooseSpine 9 = .ok (.aload_n 0, 1) := by decide +kernel
theorem dX2_chooseSpine_10 : decode cX2_chooseSpine 10 = .ok (.getfield 24, 3) := by decide +kernel
theorem dX2_chooseSpine_13 : decode cX2_chooseSpine 13 = .ok (.iload_n 2, 1) := by decide +kernel
theorem dX2_chooseSpine_14 : decode cX2_chooseSpine 14 = .ok (.baload, 1) := by decide +kernel
theorem dX2_chooseSpine_15 : decode cX2_chooseSpine 15 = .ok (.ifCond .eq 7, 3) := by decide +kernel
theorem dX2_chooseSpine_18 : decode cX2_chooseSpine 18 = .ok (.iload_n 2, 1) := by decide +kernel
theorem dX2_chooseSpine_19 : decode cX2_chooseSpine 19 = .ok (.goto 6, 3) := by decide +kernel
theorem dX2_chooseSpine_22 : decode cX2_chooseSpine 22 = .ok (.iconst 1, 1) := by decide +kernel
theorem dX2_chooseSpine_23 : decode cX2_chooseSpine 23 = .ok (.iload_n 2, 1) := by decide +kernel
theorem dX2_chooseSpine_24 : decode cX2_chooseSpine 24 = .ok (.isub, 1) := by decide +kernel
theorem dX2_chooseSpine_25 : decode cX2_chooseSpine 25 = .ok (.istore_n 3, 1) := by decide +kernel
theorem dX2_chooseSpine_26 : decode cX2_chooseSpine 26 = .ok (.aload_n 0, 1) := by decide +kernel
theorem dX2_chooseSpine_27 : decode cX2_chooseSpine 27 = .ok (.getfield 24, 3) := by decide +kernel
theorem dX2_chooseSpine_30 : decode cX2_chooseSpine 30 = .ok (.iload_n 3, 1) := by decide +kernel
theorem dX2_chooseSpine_31 : decode cX2_chooseSpine 31 = .ok (.baload, 1) := by decide +kernel
theorem dX2_chooseSpine_32 : decode cX2_chooseSpine 32 = .ok (.ifCond .ne 5, 3) := by decide +kernel
theorem dX2_chooseSpine_35 : decode cX2_chooseSpine 35 = .ok (.iconst (-1), 1) := by decide +kernel
theorem dX2_chooseSpine_36 : decode cX2_chooseSpine 36 = .ok (.ireturn, 1) := by decide +kernel
theorem dX2_chooseSpine_37 : decode cX2_chooseSpine 37 = .ok (.aload_n 0, 1) := by decide +kernel
theorem dX2_chooseSpine_38 : decode cX2_chooseSpine 38 = .ok (.getfield 28, 3) := by decide +kernel
theorem dX2_chooseSpine_41 : decode cX2_chooseSpine 41 = .ok (.iload_n 1, 1) := by decide +kernel
theorem dX2_chooseSpine_42 : decode cX2_chooseSpine 42 = .ok (.iload_n 3, 1) := by decide +kernel
theorem dX2_chooseSpine_43 : decode cX2_chooseSpine 43 = .ok (.iastore, 1) := by decide +kernel
theorem dX2_chooseSpine_44 : decode cX2_chooseSpine 44 = .ok (.iload_n 3, 1) := by decide +kernel
theorem dX2_chooseSpine_45 : decode cX2_chooseSpine 45 = .ok (.ireturn, 1) := by decide +kernel
theorem dX2_passSpine_0 : decode cX2_passSpine 0 = .ok (.iload_n 1, 1) := by decide +kernel
theorem dX2_passSpine_1 : decode cX2_passSpine 1 = .ok (.invokestatic 53, 3) := by decide +kernel
theorem dX2_passSpine_4 : decode cX2_passSpine 4 = .ok (.iconst 4, 1) := by decide +kernel
theorem dX2_passSpine_5 : decode cX2_passSpine 5 = .ok (.isub, 1) := by decide +kernel
theorem dX2_passSpine_6 : decode cX2_passSpine 6 = .ok (.istore_n 3, 1) := by decide +kernel
theorem dX2_passSpine_7 : decode cX2_passSpine 7 = .ok (.aload_n 0, 1) := by decide +kernel
theorem dX2_passSpine_8 : decode cX2_passSpine 8 = .ok (.getfield 24, 3) := by decide +kernel
theorem dX2_passSpine_11 : decode cX2_passSpine 11 = .ok (.iload_n 3, 1) := by decide +kernel
theorem dX2_passSpine_12 : decode cX2_passSpine 12 = .ok (.baload, 1) := by decide +kernel
theorem dX2_passSpine_13 : decode cX2_passSpine 13 = .ok (.ifCond .eq 22, 3) := by decide +kernel
theorem dX2_passSpine_16 : decode cX2_passSpine 16 = .ok (.aload_n 0, 1) := by decide +kernel
theorem dX2_passSpine_17 : decode cX2_passSpine 17 = .ok (.iload_n 3, 1) := by decide +kernel
theorem dX2_passSpine_18 : decode cX2_passSpine 18 = .ok (.iload_n 2, 1) := by decide +kernel
theorem dX2_passSpine_19 : decode cX2_passSpine 19 = .ok (.invokestatic 76, 3) := by decide +kernel
theorem dX2_passSpine_22 : decode cX2_passSpine 22 = .ok (.invokestatic 57, 3) := by decide +kernel
theorem dX2_passSpine_25 : decode cX2_passSpine 25 = .ok (.invokestatic 89, 3) := by decide +kernel
theorem dX2_passSpine_28 : decode cX2_passSpine 28 = .ok (.iload_n 2, 1) := by decide +kernel
theorem dX2_passSpine_29 : decode cX2_passSpine 29 = .ok (.invokevirtual 83, 3) := by decide +kernel
theorem dX2_passSpine_32 : decode cX2_passSpine 32 = .ok (.goto 13, 3) := by decide +kernel
theorem dX2_passSpine_35 : decode cX2_passSpine 35 = .ok (.aload_n 0, 1) := by decide +kernel
theorem dX2_passSpine_36 : decode cX2_passSpine 36 = .ok (.dup, 1) := by decide +kernel
theorem dX2_passSpine_37 : decode cX2_passSpine 37 = .ok (.getfield 31, 3) := by decide +kernel
theorem dX2_passSpine_40 : decode cX2_passSpine 40 = .ok (.iconst 1, 1) := by decide +kernel
theorem dX2_passSpine_41 : decode cX2_passSpine 41 = .ok (.iadd, 1) := by decide +kernel
theorem dX2_passSpine_42 : decode cX2_passSpine 42 = .ok (.putfield 31, 3) := by decide +kernel
theorem dX2_passSpine_45 : decode cX2_passSpine 45 = .ok (.return_, 1) := by decide +kernel
theorem dX2_enqueue_0 : decode cX2_enqueue 0 = .ok (.aload_n 0, 1) := by decide +kernel
theorem dX2_enqueue_1 : decode cX2_enqueue 1 = .ok (.iload_n 1, 1) := by decide +kernel
theorem dX2_enqueue_2 : decode cX2_enqueue 2 = .ok (.iload_n 2, 1) := by decide +kernel
theorem dX2_enqueue_3 : decode cX2_enqueue 3 = .ok (.invokestatic 92, 3) := by decide +kernel
theorem dX2_enqueue_6 : decode cX2_enqueue 6 = .ok (.invokevirtual 95, 3) := by decide +kernel
theorem dX2_enqueue_9 : decode cX2_enqueue 9 = .ok (.iload_n 2, 1) := by decide +kernel
theorem dX2_enqueue_10 : decode cX2_enqueue 10 = .ok (.invokevirtual 99, 3) := by decide +kernel
theorem dX2_enqueue_13 : decode cX2_enqueue 13 = .ok (.ifCond .ne 13, 3) := by decide +kernel
theorem dX2_enqueue_16 : decode cX2_enqueue 16 = .ok (.aload_n 0, 1) := by decide +kernel
theorem dX2_enqueue_17 : decode cX2_enqueue 17 = .ok (.dup, 1) := by decide +kernel
theorem dX2_enqueue_18 : decode cX2_enqueue 18 = .ok (.getfield 31, 3) := by decide +kernel
theorem dX2_enqueue_21 : decode cX2_enqueue 21 = .ok (.iconst 1, 1) := by decide +kernel
theorem dX2_enqueue_22 : decode cX2_enqueue 22 = .ok (.iadd, 1) := by decide +kernel
theorem dX2_enqueue_23 : decode cX2_enqueue 23 = .ok (.putfield 31, 3) := by decide +kernel
theorem dX2_enqueue_26 : decode cX2_enqueue 26 = .ok (.return_, 1) := by decide +kernel
theorem dX2_queueOf_0 : decode cX2_queueOf 0 = .ok (.aload_n 0, 1) := by decide +kernel
theorem dX2_queueOf_1 : decode cX2_queueOf 1 = .ok (.getfield 20, 3) := by decide +kernel
theorem dX2_queueOf_4 : decode cX2_queueOf 4 = .ok (.iload_n 1, 1) := by decide +kernel
theorem dX2_queueOf_5 : decode cX2_queueOf 5 = .ok (.bipush 8, 2) := by decide +kernel
theorem dX2_queueOf_7 : decode cX2_queueOf 7 = .ok (.isub, 1) := by decide +kernel
theorem dX2_queueOf_8 : decode cX2_queueOf 8 = .ok (.iconst 4, 1) := by decide +kernel
theorem dX2_queueOf_9 : decode cX2_queueOf 9 = .ok (.imul, 1) := by decide +kernel
theorem dX2_queueOf_10 : decode cX2_queueOf 10 = .ok (.iload_n 2, 1) := by decide +kernel
theorem dX2_queueOf_11 : decode cX2_queueOf 11 = .ok (.iadd, 1) := by decide +kernel
theorem dX2_queueOf_12 : decode cX2_queueOf 12 = .ok (.aaload, 1) := by decide +kernel
theorem dX2_queueOf_13 : decode cX2_queueOf 13 = .ok (.areturn, 1) := by decide +kernel
theorem dX2_fillLinks_0 : decode cX2_fillLinks 0 = .ok (.bipush 8, 2) := by decide +kernel
theorem dX2_fillLinks_2 : decode cX2_fillLinks 2 = .ok (.istore_n 1, 1) := by decide +kernel
theorem dX2_fillLinks_3 : decode cX2_fillLinks 3 = .ok (.iload_n 1, 1) := by decide +kernel
theorem dX2_fillLinks_4 : decode cX2_fillLinks 4 = .ok (.bipush 24, 2) := by decide +kernel
theorem dX2_fillLinks_6 : decode cX2_fillLinks 6 = .ok (.if_icmp .ge 22, 3) := by decide +kernel
theorem dX2_fillLinks_9 : decode cX2_fillLinks 9 = .ok (.aload_n 0, 1) := by decide +kernel
theorem dX2_fillLinks_10 : decode cX2_fillLinks 10 = .ok (.iload_n 1, 1) := by decide +kernel
theorem dX2_fillLinks_11 : decode cX2_fillLinks 11 = .ok (.invokevirtual 102, 3) := by decide +kernel
theorem dX2_fillLinks_14 : decode cX2_fillLinks 14 = .ok (.ifCond .eq 8, 3) := by decide +kernel
theorem dX2_fillLinks_17 : decode cX2_fillLinks 17 = .ok (.aload_n 0, 1) := by decide +kernel
theorem dX2_fillLinks_18 : decode cX2_fillLinks 18 = .ok (.iload_n 1, 1) := by decide +kernel
theorem dX2_fillLinks_19 : decode cX2_fillLinks 19 = .ok (.invokevirtual 105, 3) := by decide +kernel
theorem dX2_fillLinks_22 : decode cX2_fillLinks 22 = .ok (.iinc 1 1, 3) := by decide +kernel
theorem dX2_fillLinks_25 : decode cX2_fillLinks 25 = .ok (.goto (-22), 3) := by decide +kernel
theorem dX2_fillLinks_28 : decode cX2_fillLinks 28 = .ok (.return_, 1) := by decide +kernel
theorem dX2_isServed_0 : decode cX2_isServed 0 = .ok (.iload_n 1, 1) := by decide +kernel
theorem dX2_isServed_1 : decode cX2_isServed 1 = .ok (.bipush 20, 2) := by decide +kernel
theorem dX2_isServed_3 : decode cX2_isServed 3 = .ok (.if_icmp .lt 17, 3) := by decide +kernel
theorem dX2_isServed_6 : decode cX2_isServed 6 = .ok (.aload_n 0, 1) := by decide +kernel
theorem dX2_isServed_7 : decode cX2_isServed 7 = .ok (.getfield 24, 3) := by decide +kernel
theorem dX2_isServed_10 : decode cX2_isServed 10 = .ok (.iload_n 1, 1) := by decide +kernel
theorem dX2_isServed_11 : decode cX2_isServed 11 = .ok (.bipush 20, 2) := by decide +kernel
theorem dX2_isServed_13 : decode cX2_isServed 13 = .ok (.isub, 1) := by decide +kernel
theorem dX2_isServed_14 : decode cX2_isServed 14 = .ok (.iconst 2, 1) := by decide +kernel
theorem dX2_isServed_15 : decode cX2_isServed 15 = .ok (.idiv, 1) := by decide +kernel
theorem dX2_isServed_16 : decode cX2_isServed 16 = .ok (.baload, 1) := by decide +kernel
theorem dX2_isServed_17 : decode cX2_isServed 17 = .ok (.ifCond .eq 7, 3) := by decide +kernel
theorem dX2_isServed_20 : decode cX2_isServed 20 = .ok (.iconst 1, 1) := by decide +kernel
theorem dX2_isServed_21 : decode cX2_isServed 21 = .ok (.goto 4, 3) := by decide +kernel
theorem dX2_isServed_24 : decode cX2_isServed 24 = .ok (.iconst 0, 1) := by decide +kernel
theorem dX2_isServed_25 : decode cX2_isServed 25 = .ok (.ireturn, 1) := by decide +kernel
theorem dX2_fill_0 : decode cX2_fill 0 = .ok (.iconst 0, 1) := by decide +kernel
theorem dX2_fill_1 : decode cX2_fill 1 = .ok (.istore_n 2, 1) := by decide +kernel
theorem dX2_fill_2 : decode cX2_fill 2 = .ok (.iload_n 2, 1) := by decide +kernel
theorem dX2_fill_3 : decode cX2_fill 3 = .ok (.iconst 4, 1) := by decide +kernel
theorem dX2_fill_4 : decode cX2_fill 4 = .ok (.if_icmp .ge 31, 3) := by decide +kernel
theorem dX2_fill_7 : decode cX2_fill 7 = .ok (.aload_n 0, 1) := by decide +kernel
theorem dX2_fill_8 : decode cX2_fill 8 = .ok (.iload_n 1, 1) := by decide +kernel
theorem dX2_fill_9 : decode cX2_fill 9 = .ok (.iload_n 2, 1) := by decide +kernel
theorem dX2_fill_10 : decode cX2_fill 10 = .ok (.invokevirtual 95, 3) := by decide +kernel
theorem dX2_fill_13 : decode cX2_fill 13 = .ok (.invokevirtual 107, 3) := by decide +kernel
theorem dX2_fill_16 : decode cX2_fill 16 = .ok (.istore_n 3, 1) := by decide +kernel
theorem dX2_fill_17 : decode cX2_fill 17 = .ok (.iload_n 3, 1) := by decide +kernel
theorem dX2_fill_18 : decode cX2_fill 18 = .ok (.iconst (-1), 1) := by decide +kernel
theorem dX2_fill_19 : decode cX2_fill 19 = .ok (.if_icmp .eq 10, 3) := by decide +kernel
theorem dX2_fill_22 : decode cX2_fill 22 = .ok (.aload_n 0, 1) := by decide +kernel
theorem dX2_fill_23 : decode cX2_fill 23 = .ok (.iload_n 1, 1) := by decide +kernel
theorem dX2_fill_24 : decode cX2_fill 24 = .ok (.iload_n 3, 1) := by decide +kernel
theorem dX2_fill_25 : decode cX2_fill 25 = .ok (.invokevirtual 111, 3) := by decide +kernel
theorem dX2_fill_28 : decode cX2_fill 28 = .ok (.return_, 1) := by decide +kernel
theorem dX2_fill_29 : decode cX2_fill 29 = .ok (.iinc 2 1, 3) := by decide +kernel
theorem dX2_fill_32 : decode cX2_fill 32 = .ok (.goto (-30), 3) := by decide +kernel
theorem dX2_fill_35 : decode cX2_fill 35 = .ok (.return_, 1) := by decide +kernel
theorem dX2_waiting_0 : decode cX2_waiting 0 = .ok (.iload_n 1, 1) := by decide +kernel
theorem dX2_waiting_1 : decode cX2_waiting 1 = .ok (.invokestatic 60, 3) := by decide +kernel
theorem dX2_waiting_4 : decode cX2_waiting 4 = .ok (.ifCond .eq 22, 3) := by decide +kernel
theorem dX2_waiting_7 : decode cX2_waiting 7 = .ok (.iload_n 1, 1) := by decide +kernel
theorem dX2_waiting_8 : decode cX2_waiting 8 = .ok (.bipush 8, 2) := by decide +kernel
theorem dX2_waiting_10 : decode cX2_waiting 10 = .ok (.if_icmp .lt 16, 3) := by decide +kernel
theorem dX2_waiting_13 : decode cX2_waiting 13 = .ok (.iload_n 2, 1) := by decide +kernel
theorem dX2_waiting_14 : decode cX2_waiting 14 = .ok (.ifCond .lt 12, 3) := by decide +kernel
theorem dX2_waiting_17 : decode cX2_waiting 17 = .ok (.iload_n 2, 1) := by decide +kernel
theorem dX2_waiting_18 : decode cX2_waiting 18 = .ok (.iconst 4, 1) := by decide +kernel
theorem dX2_waiting_19 : decode cX2_waiting 19 = .ok (.if_icmp .ge 7, 3) := by decide +kernel
theorem dX2_waiting_22 : decode cX2_waiting 22 = .ok (.iconst 1, 1) := by decide +kernel
theorem dX2_waiting_23 : decode cX2_waiting 23 = .ok (.goto 4, 3) := by decide +kernel
theorem dX2_waiting_26 : decode cX2_waiting 26 = .ok (.iconst 0, 1) := by decide +kernel
theorem dX2_waiting_27 : decode cX2_waiting 27 = .ok (.istore_n 3, 1) := by decide +kernel
theorem dX2_waiting_28 : decode cX2_waiting 28 = .ok (.iload_n 3, 1) := by decide +kernel
theorem dX2_waiting_29 : decode cX2_waiting 29 = .ok (.ifCond .eq 15, 3) := by decide +kernel
theorem dX2_waiting_32 : decode cX2_waiting 32 = .ok (.aload_n 0, 1) := by decide +kernel
theorem dX2_waiting_33 : decode cX2_waiting 33 = .ok (.iload_n 1, 1) := by decide +kernel
theorem dX2_waiting_34 : decode cX2_waiting 34 = .ok (.iload_n 2, 1) := by decide +kernel
theorem dX2_waiting_35 : decode cX2_waiting 35 = .ok (.invokevirtual 95, 3) := by decide +kernel
theorem dX2_waiting_38 : decode cX2_waiting 38 = .ok (.invokevirtual 114, 3) := by decide +kernel
theorem dX2_waiting_41 : decode cX2_waiting 41 = .ok (.goto 4, 3) := by decide +kernel
theorem dX2_waiting_44 : decode cX2_waiting 44 = .ok (.iconst (-1), 1) := by decide +kernel
theorem dX2_waiting_45 : decode cX2_waiting 45 = .ok (.ireturn, 1) := by decide +kernel
theorem dX2_tell_0 : decode cX2_tell 0 = .ok (.iload_n 1, 1) := by decide +kernel
theorem dX2_tell_1 : decode cX2_tell 1 = .ok (.tableswitch 42 0 2 #[27, 32, 37], 27) := by decide +kernel
theorem dX2_tell_28 : decode cX2_tell 28 = .ok (.aload_n 0, 1) := by decide +kernel
theorem dX2_tell_29 : decode cX2_tell 29 = .ok (.getfield 31, 3) := by decide +kernel
theorem dX2_tell_32 : decode cX2_tell 32 = .ok (.ireturn, 1) := by decide +kernel
theorem dX2_tell_33 : decode cX2_tell 33 = .ok (.aload_n 0, 1) := by decide +kernel
theorem dX2_tell_34 : decode cX2_tell 34 = .ok (.getfield 35, 3) := by decide +kernel
theorem dX2_tell_37 : decode cX2_tell 37 = .ok (.ireturn, 1) := by decide +kernel
theorem dX2_tell_38 : decode cX2_tell 38 = .ok (.aload_n 0, 1) := by decide +kernel
theorem dX2_tell_39 : decode cX2_tell 39 = .ok (.invokevirtual 117, 3) := by decide +kernel
theorem dX2_tell_42 : decode cX2_tell 42 = .ok (.ireturn, 1) := by decide +kernel
theorem dX2_tell_43 : decode cX2_tell 43 = .ok (.iconst (-1), 1) := by decide +kernel
theorem dX2_tell_44 : decode cX2_tell 44 = .ok (.ireturn, 1) := by decide +kernel
theorem dX2_underWay_0 : decode cX2_underWay 0 = .ok (.iconst 0, 1) := by decide +kernel
theorem dX2_underWay_1 : decode cX2_underWay 1 = .ok (.istore_n 1, 1) := by decide +kernel
theorem dX2_underWay_2 : decode cX2_underWay 2 = .ok (.iconst 0, 1) := by decide +kernel
theorem dX2_underWay_3 : decode cX2_underWay 3 = .ok (.istore_n 2, 1) := by decide +kernel
theorem dX2_underWay_4 : decode cX2_underWay 4 = .ok (.iload_n 2, 1) := by decide +kernel
theorem dX2_underWay_5 : decode cX2_underWay 5 = .ok (.bipush 24, 2) := by decide +kernel
theorem dX2_underWay_7 : decode cX2_underWay 7 = .ok (.if_icmp .ge 27, 3) := by decide +kernel
theorem dX2_underWay_10 : decode cX2_underWay 10 = .ok (.iload_n 1, 1) := by decide +kernel
theorem dX2_underWay_11 : decode cX2_underWay 11 = .ok (.aload_n 0, 1) := by decide +kernel
theorem dX2_underWay_12 : decode cX2_underWay 12 = .ok (.getfield 11, 3) := by decide +kernel
theorem dX2_underWay_15 : decode cX2_underWay 15 = .ok (.iload_n 2, 1) := by decide +kernel
theorem dX2_underWay_16 : decode cX2_underWay 16 = .ok (.iaload, 1) := by decide +kernel
theorem dX2_underWay_17 : decode cX2_underWay 17 = .ok (.iconst (-1), 1) := by decide +kernel
theorem dX2_underWay_18 : decode cX2_underWay 18 = .ok (.if_icmp .ne 7, 3) := by decide +kernel
theorem dX2_underWay_21 : decode cX2_underWay 21 = .ok (.iconst 0, 1) := by decide +kernel
theorem dX2_underWay_22 : decode cX2_underWay 22 = .ok (.goto 4, 3) := by decide +kernel
theorem dX2_underWay_25 : decode cX2_underWay 25 = .ok (.iconst 1, 1) := by decide +kernel
theorem dX2_underWay_26 : decode cX2_underWay 26 = .ok (.iadd, 1) := by decide +kernel
theorem dX2_underWay_27 : decode cX2_underWay 27 = .ok (.istore_n 1, 1) := by decide +kernel
theorem dX2_underWay_28 : decode cX2_underWay 28 = .ok (.iinc 2 1, 3) := by decide +kernel
theorem dX2_underWay_31 : decode cX2_underWay 31 = .ok (.goto (-27), 3) := by decide +kernel
theorem dX2_underWay_34 : decode cX2_underWay 34 = .ok (.iconst 0, 1) := by decide +kernel
theorem dX2_underWay_35 : decode cX2_underWay 35 = .ok (.istore_n 2, 1) := by decide +kernel
theorem dX2_underWay_36 : decode cX2_underWay 36 = .ok (.iload_n 2, 1) := by decide +kernel
theorem dX2_underWay_37 : decode cX2_underWay 37 = .ok (.aload_n 0, 1) := by decide +kernel
theorem dX2_underWay_38 : decode cX2_underWay 38 = .ok (.getfield 20, 3) := by decide +kernel
theorem dX2_underWay_41 : decode cX2_underWay 41 = .ok (.arraylength, 1) := by decide +kernel
theorem dX2_underWay_42 : decode cX2_underWay 42 = .ok (.if_icmp .ge 21, 3) := by decide +kernel
theorem dX2_underWay_45 : decode cX2_underWay 45 = .ok (.iload_n 1, 1) := by decide +kernel
theorem dX2_underWay_46 : decode cX2_underWay 46 = .ok (.aload_n 0, 1) := by decide +kernel
theorem dX2_underWay_47 : decode cX2_underWay 47 = .ok (.getfield 20, 3) := by decide +kernel
theorem dX2_underWay_50 : decode cX2_underWay 50 = .ok (.iload_n 2, 1) := by decide +kernel
theorem dX2_underWay_51 : decode cX2_underWay 51 = .ok (.aaload, 1) := by decide +kernel
theorem dX2_underWay_52 : decode cX2_underWay 52 = .ok (.invokevirtual 114, 3) := by decide +kernel
theorem dX2_underWay_55 : decode cX2_underWay 55 = .ok (.iadd, 1) := by decide +kernel
theorem dX2_underWay_56 : decode cX2_underWay 56 = .ok (.istore_n 1, 1) := by decide +kernel
theorem dX2_underWay_57 : decode cX2_underWay 57 = .ok (.iinc 2 1, 3) := by decide +kernel
theorem dX2_underWay_60 : decode cX2_underWay 60 = .ok (.goto (-24), 3) := by decide +kernel
theorem dX2_underWay_63 : decode cX2_underWay 63 = .ok (.iload_n 1, 1) := by decide +kernel
theorem dX2_underWay_64 : decode cX2_underWay 64 = .ok (.ireturn, 1) := by decide +kernel
theorem dX3_init_0 : decode cX3_init 0 = .ok (.aload_n 0, 1) := by decide +kernel
theorem dX3_init_1 : decode cX3_init 1 = .ok (.invokespecial 3, 3) := by decide +kernel
theorem dX3_init_4 : decode cX3_init 4 = .ok (.aload_n 0, 1) := by decide +kernel
theorem dX3_init_5 : decode cX3_init 5 = .ok (.bipush 48, 2) := by decide +kernel
theorem dX3_init_7 : decode cX3_init 7 = .ok (.anewarray 9, 3) := by decide +kernel
theorem dX3_init_10 : decode cX3_init 10 = .ok (.putfield 11, 3) := by decide +kernel
theorem dX3_init_13 : decode cX3_init 13 = .ok (.aload_n 0, 1) := by decide +kernel
theorem dX3_init_14 : decode cX3_init 14 = .ok (.bipush 48, 2) := by decide +kernel
theorem dX3_init_16 : decode cX3_init 16 = .ok (.anewarray 9, 3) := by decide +kernel
theorem dX3_init_19 : decode cX3_init 19 = .ok (.putfield 17, 3) := by decide +kernel
theorem dX3_init_22 : decode cX3_init 22 = .ok (.aload_n 0, 1) := by decide +kernel
theorem dX3_init_23 : decode cX3_init 23 = .ok (.new 20, 3) := by decide +kernel
theorem dX3_init_26 : decode cX3_init 26 = .ok (.dup, 1) := by decide +kernel
theorem dX3_init_27 : decode cX3_init 27 = .ok (.invokespecial 22, 3) := by decide +kernel
theorem dX3_init_30 : decode cX3_init 30 = .ok (.putfield 23, 3) := by decide +kernel
theorem dX3_init_33 : decode cX3_init 33 = .ok (.aload_n 0, 1) := by decide +kernel
theorem dX3_init_34 : decode cX3_init 34 = .ok (.new 27, 3) := by decide +kernel
theorem dX3_init_37 : decode cX3_init 37 = .ok (.dup, 1) := by decide +kernel
theorem dX3_init_38 : decode cX3_init 38 = .ok (.bipush 24, 2) := by decide +kernel
theorem dX3_init_40 : decode cX3_init 40 = .ok (.invokespecial 29, 3) := by decide +kernel
theorem dX3_init_43 : decode cX3_init 43 = .ok (.putfield 32, 3) := by decide +kernel
theorem dX3_init_46 : decode cX3_init 46 = .ok (.aload_n 0, 1) := by decide +kernel
theorem dX3_init_47 : decode cX3_init 47 = .ok (.iconst 3, 1) := by decide +kernel
theorem dX3_init_48 : decode cX3_init 48 = .ok (.newarray .int, 2) := by decide +kernel
theorem dX3_init_50 : decode cX3_init 50 = .ok (.putfield 36, 3) := by decide +kernel
theorem dX3_init_53 : decode cX3_init 53 = .ok (.aload_n 0, 1) := by decide +kernel
theorem dX3_init_54 : decode cX3_init 54 = .ok (.bipush 64, 2) := by decide +kernel
theorem dX3_init_56 : decode cX3_init 56 = .ok (.newarray .int, 2) := by decide +kernel
theorem dX3_init_58 : decode cX3_init 58 = .ok (.putfield 40, 3) := by decide +kernel
theorem dX3_init_61 : decode cX3_init 61 = .ok (.aload_n 0, 1) := by decide +kernel
theorem dX3_init_62 : decode cX3_init 62 = .ok (.iconst 0, 1) := by decide +kernel
theorem dX3_init_63 : decode cX3_init 63 = .ok (.putfield 43, 3) := by decide +kernel
theorem dX3_init_66 : decode cX3_init 66 = .ok (.aload_n 0, 1) := by decide +kernel
theorem dX3_init_67 : decode cX3_init 67 = .ok (.iconst 0, 1) := by decide +kernel
theorem dX3_init_68 : decode cX3_init 68 = .ok (.putfield 47, 3) := by decide +kernel
theorem dX3_init_71 : decode cX3_init 71 = .ok (.aload_n 0, 1) := by decide +kernel
theorem dX3_init_72 : decode cX3_init 72 = .ok (.iconst 0, 1) := by decide +kernel
theorem dX3_init_73 : decode cX3_init 73 = .ok (.putfield 50, 3) := by decide +kernel
theorem dX3_init_76 : decode cX3_init 76 = .ok (.aload_n 0, 1) := by decide +kernel
theorem dX3_init_77 : decode cX3_init 77 = .ok (.iconst 0, 1) := by decide +kernel
theorem dX3_init_78 : decode cX3_init 78 = .ok (.putfield 53, 3) := by decide +kernel
theorem dX3_init_81 : decode cX3_init 81 = .ok (.aload_n 0, 1) := by decide +kernel
theorem dX3_init_82 : decode cX3_init 82 = .ok (.iconst 0, 1) := by decide +kernel
theorem dX3_init_83 : decode cX3_init 83 = .ok (.putfield 56, 3) := by decide +kernel
theorem dX3_init_86 : decode cX3_init 86 = .ok (.aload_n 0, 1) := by decide +kernel
theorem dX3_init_87 : decode cX3_init 87 = .ok (.getfield 36, 3) := by decide +kernel
theorem dX3_init_90 : decode cX3_init 90 = .ok (.iconst (-1), 1) := by decide +kernel
theorem dX3_init_91 : decode cX3_init 91 = .ok (.invokestatic 59, 3) := by decide +kernel
theorem dX3_init_94 : decode cX3_init 94 = .ok (.return_, 1) := by decide +kernel
theorem dX3_addOutgoing_0 : decode cX3_addOutgoing 0 = .ok (.aload_n 0, 1) := by decide +kernel
theorem dX3_addOutgoing_1 : decode cX3_addOutgoing 1 = .ok (.getfield 11, 3) := by decide +kernel
theorem dX3_addOutgoing_4 : decode cX3_addOutgoing 4 = .ok (.aload_n 0, 1) := by decide +kernel
theorem dX3_addOutgoing_5 : decode cX3_addOutgoing 5 = .ok (.getfield 43, 3) := by decide +kernel
theorem dX3_addOutgoing_8 : decode cX3_addOutgoing 8 = .ok (.aload_n 1, 1) := by decide +kernel
theorem dX3_addOutgoing_9 : decode cX3_addOutgoing 9 = .ok (.aastore, 1) := by decide +kernel
theorem dX3_addOutgoing_10 : decode cX3_addOutgoing 10 = .ok (.aload_n 0, 1) := by decide +kernel
theorem dX3_addOutgoing_11 : decode cX3_addOutgoing 11 = .ok (.dup, 1) := by decide +kernel
theorem dX3_addOutgoing_12 : decode cX3_addOutgoing 12 = .ok (.getfield 43, 3) := by decide +kernel
theorem dX3_addOutgoing_15 : decode cX3_addOutgoing 15 = .ok (.iconst 1, 1) := by decide +kernel
theorem dX3_addOutgoing_16 : decode cX3_addOutgoing 16 = .ok (.iadd, 1) := by decide +kernel
theorem dX3_addOutgoing_17 : decode cX3_addOutgoing 17 = .ok (.putfield 43, 3) := by decide +kernel
theorem dX3_addOutgoing_20 : decode cX3_addOutgoing 20 = .ok (.aload_n 0, 1) := by decide +kernel
theorem dX3_addOutgoing_21 : decode cX3_addOutgoing 21 = .ok (.getfield 23, 3) := by decide +kernel
theorem dX3_addOutgoing_24 : decode cX3_addOutgoing 24 = .ok (.aload_n 1, 1) := by decide +kernel
theorem dX3_addOutgoing_25 : decode cX3_addOutgoing 25 = .ok (.getfield 65, 3) := by decide +kernel
theorem dX3_addOutgoing_28 : decode cX3_addOutgoing 28 = .ok (.invokevirtual 68, 3) := by decide +kernel
theorem dX3_addOutgoing_31 : decode cX3_addOutgoing 31 = .ok (.return_, 1) := by decide +kernel
theorem dX3_addIncoming_0 : decode cX3_addIncoming 0 = .ok (.aload_n 0, 1) := by decide +kernel
theorem dX3_addIncoming_1 : decode cX3_addIncoming 1 = .ok (.getfield 17, 3) := by decide +kernel
theorem dX3_addIncoming_4 : decode cX3_addIncoming 4 = .ok (.aload_n 0, 1) := by decide +kernel
theorem dX3_addIncoming_5 : decode cX3_addIncoming 5 = .ok (.getfield 47, 3) := by decide +kernel
theorem dX3_addIncoming_8 : decode cX3_addIncoming 8 = .ok (.aload_n 1, 1) := by decide +kernel
theorem dX3_addIncoming_9 : decode cX3_addIncoming 9 = .ok (.aastore, 1) := by decide +kernel
theorem dX3_addIncoming_10 : decode cX3_addIncoming 10 = .ok (.aload_n 0, 1) := by decide +kernel
theorem dX3_addIncoming_11 : decode cX3_addIncoming 11 = .ok (.dup, 1) := by decide +kernel
theorem dX3_addIncoming_12 : decode cX3_addIncoming 12 = .ok (.getfield 47, 3) := by decide +kernel
theorem dX3_addIncoming_15 : decode cX3_addIncoming 15 = .ok (.iconst 1, 1) := by decide +kernel
theorem dX3_addIncoming_16 : decode cX3_addIncoming 16 = .ok (.iadd, 1) := by decide +kernel
theorem dX3_addIncoming_17 : decode cX3_addIncoming 17 = .ok (.putfield 47, 3) := by decide +kernel
theorem dX3_addIncoming_20 : decode cX3_addIncoming 20 = .ok (.return_, 1) := by decide +kernel
theorem dX3_takeData_0 : decode cX3_takeData 0 = .ok (.aload_n 1, 1) := by decide +kernel
theorem dX3_takeData_1 : decode cX3_takeData 1 = .ok (.getfield 71, 3) := by decide +kernel
theorem dX3_takeData_4 : decode cX3_takeData 4 = .ok (.astore 4, 2) := by decide +kernel
theorem dX3_takeData_6 : decode cX3_takeData 6 = .ok (.aload 4, 2) := by decide +kernel
theorem dX3_takeData_8 : decode cX3_takeData 8 = .ok (.invokevirtual 75, 3) := by decide +kernel
theorem dX3_takeData_11 : decode cX3_takeData 11 = .ok (.ifCond .eq 22, 3) := by decide +kernel
theorem dX3_takeData_14 : decode cX3_takeData 14 = .ok (.aload_n 0, 1) := by decide +kernel
theorem dX3_takeData_15 : decode cX3_takeData 15 = .ok (.dup, 1) := by decide +kernel
theorem dX3_takeData_16 : decode cX3_takeData 16 = .ok (.getfield 50, 3) := by decide +kernel
theorem dX3_takeData_19 : decode cX3_takeData 19 = .ok (.iconst 1, 1) := by decide +kernel
theorem dX3_takeData_20 : decode cX3_takeData 20 = .ok (.iadd, 1) := by decide +kernel
theorem dX3_takeData_21 : decode cX3_takeData 21 = .ok (.putfield 50, 3) := by decide +kernel
theorem dX3_takeData_24 : decode cX3_takeData 24 = .ok (.aload 4, 2) := by decide +kernel
theorem dX3_takeData_26 : decode cX3_takeData 26 = .ok (.aload_n 0, 1) := by decide +kernel
theorem dX3_takeData_27 : decode cX3_takeData 27 = .ok (.getfield 50, 3) := by decide +kernel
theorem dX3_takeData_30 : decode cX3_takeData 30 = .ok (.invokevirtual 81, 3) := by decide +kernel
theorem dX3_takeData_33 : decode cX3_takeData 33 = .ok (.aload 4, 2) := by decide +kernel
theorem dX3_takeData_35 : decode cX3_takeData 35 = .ok (.invokevirtual 84, 3) := by decide +kernel
theorem dX3_takeData_38 : decode cX3_takeData 38 = .ok (.ifCond .eq 23, 3) := by decide +kernel
theorem dX3_takeData_41 : decode cX3_takeData 41 = .ok (.aload 4, 2) := by decide +kernel
theorem dX3_takeData_43 : decode cX3_takeData 43 = .ok (.iload_n 2, 1) := by decide +kernel
theorem dX3_takeData_44 : decode cX3_takeData 44 = .ok (.iload_n 3, 1) := by decide +kernel
theorem dX3_takeData_45 : decode cX3_takeData 45 = .ok (.invokevirtual 87, 3) := by decide +kernel
theorem dX3_takeData_48 : decode cX3_takeData 48 = .ok (.aload 4, 2) := by decide +kernel
theorem dX3_takeData_50 : decode cX3_takeData 50 = .ok (.invokevirtual 91, 3) := by decide +kernel
theorem dX3_takeData_53 : decode cX3_takeData 53 = .ok (.ifCond .eq 8, 3) := by decide +kernel
theorem dX3_takeData_56 : decode cX3_takeData 56 = .ok (.aload_n 0, 1) := by decide +kernel
theorem dX3_takeData_57 : decode cX3_takeData 57 = .ok (.aload_n 1, 1) := by decide +kernel
theorem dX3_takeData_58 : decode cX3_takeData 58 = .ok (.invokevirtual 94, 3) := by decide +kernel
theorem dX3_takeData_61 : decode cX3_takeData 61 = .ok (.aload 4, 2) := by decide +kernel
theorem dX3_takeData_63 : decode cX3_takeData 63 = .ok (.invokevirtual 91, 3) := by decide +kernel
theorem dX3_takeData_66 : decode cX3_takeData 66 = .ok (.ifCond .eq 10, 3) := by decide +kernel
theorem dX3_takeData_69 : decode cX3_takeData 69 = .ok (.aload_n 0, 1) := by decide +kernel
theorem dX3_takeData_70 : decode cX3_takeData 70 = .ok (.iconst 3, 1) := by decide +kernel
theorem dX3_takeData_71 : decode cX3_takeData 71 = .ok (.aload_n 1, 1) := by decide +kernel
theorem dX3_takeData_72 : decode cX3_takeData 72 = .ok (.iconst 0, 1) := by decide +kernel
theorem dX3_takeData_73 : decode cX3_takeData 73 = .ok (.invokevirtual 100, 3) := by decide +kernel
theorem dX3_takeData_76 : decode cX3_takeData 76 = .ok (.return_, 1) := by decide +kernel
theorem dX3_noteFinished_0 : decode cX3_noteFinished 0 = .ok (.aload_n 0, 1) := by decide +kernel
theorem dX3_noteFinished_1 : decode cX3_noteFinished 1 = .ok (.getfield 40, 3) := by decide +kernel
theorem dX3_noteFinished_4 : decode cX3_noteFinished 4 = .ok (.aload_n 0, 1) := by decide +kernel
theorem dX3_noteFinished_5 : decode cX3_noteFinished 5 = .ok (.getfield 53, 3) := by decide +kernel
theorem dX3_noteFinished_8 : decode cX3_noteFinished 8 = .ok (.bipush 64, 2) := by decide +kernel
theorem dX3_noteFinished_10 : decode cX3_noteFinished 10 = .ok (.invokestatic 104, 3) := by decide +kernel
theorem dX3_noteFinished_13 : decode cX3_noteFinished 13 = .ok (.aload_n 1, 1) := by decide +kernel
theorem dX3_noteFinished_14 : decode cX3_noteFinished 14 = .ok (.getfield 110, 3) := by decide +kernel
theorem dX3_noteFinished_17 : decode cX3_noteFinished 17 = .ok (.iastore, 1) := by decide +kernel
theorem dX3_noteFinished_18 : decode cX3_noteFinished 18 = .ok (.aload_n 0, 1) := by decide +kernel
theorem dX3_noteFinished_19 : decode cX3_noteFinished 19 = .ok (.dup, 1) := by decide +kernel
theorem dX3_noteFinished_20 : decode cX3_noteFinished 20 = .ok (.getfield 53, 3) := by decide +kernel
theorem dX3_noteFinished_23 : decode cX3_noteFinished 23 = .ok (.iconst 1, 1) := by decide +kernel
theorem dX3_noteFinished_24 : decode cX3_noteFinished 24 = .ok (.iadd, 1) := by decide +kernel
theorem dX3_noteFinished_25 : decode cX3_noteFinished 25 = .ok (.putfield 53, 3) := by decide +kernel
theorem dX3_noteFinished_28 : decode cX3_noteFinished 28 = .ok (.return_, 1) := by decide +kernel
theorem dX3_putDue_0 : decode cX3_putDue 0 = .ok (.aload_n 0, 1) := by decide +kernel
theorem dX3_putDue_1 : decode cX3_putDue 1 = .ok (.getfield 32, 3) := by decide +kernel
theorem dX3_putDue_4 : decode cX3_putDue 4 = .ok (.iload_n 1, 1) := by decide +kernel
theorem dX3_putDue_5 : decode cX3_putDue 5 = .ok (.aload_n 2, 1) := by decide +kernel
theorem dX3_putDue_6 : decode cX3_putDue 6 = .ok (.iload_n 3, 1) := by decide +kernel
theorem dX3_putDue_7 : decode cX3_putDue 7 = .ok (.iconst 0, 1) := by decide +kernel
theorem dX3_putDue_8 : decode cX3_putDue 8 = .ok (.aload_n 2, 1) := by decide +kernel
theorem dX3_putDue_9 : decode cX3_putDue 9 = .ok (.getfield 113, 3) := by decide +kernel
theorem dX3_putDue_12 : decode cX3_putDue 12 = .ok (.invokestatic 116, 3) := by decide +kernel
theorem dX3_putDue_15 : decode cX3_putDue 15 = .ok (.invokevirtual 120, 3) := by decide +kernel
theorem dX3_putDue_18 : decode cX3_putDue 18 = .ok (.pop, 1) := by decide +kernel
theorem dX3_putDue_19 : decode cX3_putDue 19 = .ok (.return_, 1) := by decide +kernel
theorem dX3_workAsReceiver_0 : decode cX3_workAsReceiver 0 = .ok (.iconst 0, 1) := by decide +kernel
theorem dX3_workAsReceiver_1 : decode cX3_workAsReceiver 1 = .ok (.istore_n 2, 1) := by decide +kernel
theorem dX3_workAsReceiver_2 : decode cX3_workAsReceiver 2 = .ok (.iload_n 2, 1) := by decide +kernel
theorem dX3_workAsReceiver_3 : decode cX3_workAsReceiver 3 = .ok (.aload_n 0, 1) := by decide +kernel
theorem dX3_workAsReceiver_4 : decode cX3_workAsReceiver 4 = .ok (.getfield 47, 3) := by decide +kernel
theorem dX3_workAsReceiver_7 : decode cX3_workAsReceiver 7 = .ok (.if_icmp .ge 19, 3) := by decide +kernel
theorem dX3_workAsReceiver_10 : decode cX3_workAsReceiver 10 = .ok (.aload_n 0, 1) := by decide +kernel
theorem dX3_workAsReceiver_11 : decode cX3_workAsReceiver 11 = .ok (.aload_n 0, 1) := by decide +kernel
theorem dX3_workAsReceiver_12 : decode cX3_workAsReceiver 12 = .ok (.getfield 17, 3) := by decide +kernel
theorem dX3_workAsReceiver_15 : decode cX3_workAsReceiver 15 = .ok (.iload_n 2, 1) := by decide +kernel
theorem dX3_workAsReceiver_16 : decode cX3_workAsReceiver 16 = .ok (.aaload, 1) := by decide +kernel
theorem dX3_workAsReceiver_17 : decode cX3_workAsReceiver 17 = .ok (.invokevirtual 124, 3) := by decide +kernel
theorem dX3_workAsReceiver_20 : decode cX3_workAsReceiver 20 = .ok (.iinc 2 1, 3) := by decide +kernel
theorem dX3_workAsReceiver_23 : decode cX3_workAsReceiver 23 = .ok (.goto (-21), 3) := by decide +kernel
theorem dX3_workAsReceiver_26 : decode cX3_workAsReceiver 26 = .ok (.iconst 0, 1) := by decide +kernel
theorem dX3_workAsReceiver_27 : decode cX3_workAsReceiver 27 = .ok (.istore_n 2, 1) := by decide +kernel
theorem dX3_workAsReceiver_28 : decode cX3_workAsReceiver 28 = .ok (.iload_n 2, 1) := by decide +kernel
theorem dX3_workAsReceiver_29 : decode cX3_workAsReceiver 29 = .ok (.aload_n 0, 1) := by decide +kernel
theorem dX3_workAsReceiver_30 : decode cX3_workAsReceiver 30 = .ok (.getfield 47, 3) := by decide +kernel
theorem dX3_workAsReceiver_33 : decode cX3_workAsReceiver 33 = .ok (.if_icmp .ge 22, 3) := by decide +kernel
theorem dX3_workAsReceiver_36 : decode cX3_workAsReceiver 36 = .ok (.aload_n 0, 1) := by decide +kernel
theorem dX3_workAsReceiver_37 : decode cX3_workAsReceiver 37 = .ok (.getfield 17, 3) := by decide +kernel
theorem dX3_workAsReceiver_40 : decode cX3_workAsReceiver 40 = .ok (.iload_n 2, 1) := by decide +kernel
theorem dX3_workAsReceiver_41 : decode cX3_workAsReceiver 41 = .ok (.aaload, 1) := by decide +kernel
theorem dX3_workAsReceiver_42 : decode cX3_workAsReceiver 42 = .ok (.getfield 71, 3) := by decide +kernel
theorem dX3_workAsReceiver_45 : decode cX3_workAsReceiver 45 = .ok (.iload_n 1, 1) := by decide +kernel
theorem dX3_workAsReceiver_46 : decode cX3_workAsReceiver 46 = .ok (.invokevirtual 127, 3) := by decide +kernel
theorem dX3_workAsReceiver_49 : decode cX3_workAsReceiver 49 = .ok (.iinc 2 1, 3) := by decide +kernel
theorem dX3_workAsReceiver_52 : decode cX3_workAsReceiver 52 = .ok (.goto (-24), 3) := by decide +kernel
theorem dX3_workAsReceiver_55 : decode cX3_workAsReceiver 55 = .ok (.aload_n 0, 1) := by decide +kernel
theorem dX3_workAsReceiver_56 : decode cX3_workAsReceiver 56 = .ok (.invokevirtual 130, 3) := by decide +kernel
theorem dX3_workAsReceiver_59 : decode cX3_workAsReceiver 59 = .ok (.return_, 1) := by decide +kernel
theorem dX3_listen_0 : decode cX3_listen 0 = .ok (.aload_n 1, 1) := by decide +kernel
theorem dX3_listen_1 : decode cX3_listen 1 = .ok (.getfield 71, 3) := by decide +kernel
theorem dX3_listen_4 : decode cX3_listen 4 = .ok (.invokevirtual 84, 3) := by decide +kernel
theorem dX3_listen_7 : decode cX3_listen 7 = .ok (.ifCond .eq 26, 3) := by decide +kernel
theorem dX3_listen_10 : decode cX3_listen 10 = .ok (.aload_n 1, 1) := by decide +kernel
theorem dX3_listen_11 : decode cX3_listen 11 = .ok (.getfield 71, 3) := by decide +kernel
theorem dX3_listen_14 : decode cX3_listen 14 = .ok (.invokevirtual 133, 3) := by decide +kernel
theorem dX3_listen_17 : decode cX3_listen 17 = .ok (.ifCond .eq 16, 3) := by decide +kernel
theorem dX3_listen_20 : decode cX3_listen 20 = .ok (.aload_n 0, 1) := by decide +kernel
theorem dX3_listen_21 : decode cX3_listen 21 = .ok (.iconst 2, 1) := by decide +kernel
theorem dX3_listen_22 : decode cX3_listen 22 = .ok (.aload_n 1, 1) := by decide +kernel
theorem dX3_listen_23 : decode cX3_listen 23 = .ok (.aload_n 1, 1) := by decide +kernel
theorem dX3_listen_24 : decode cX3_listen 24 = .ok (.getfield 71, 3) := by decide +kernel
theorem dX3_listen_27 : decode cX3_listen 27 = .ok (.invokevirtual 136, 3) := by decide +kernel
theorem dX3_listen_30 : decode cX3_listen 30 = .ok (.invokevirtual 100, 3) := by decide +kernel
theorem dX3_listen_33 : decode cX3_listen 33 = .ok (.return_, 1) := by decide +kernel
theorem dX3_choose_0 : decode cX3_choose 0 = .ok (.aconst_null, 1) := by decide +kernel
theorem dX3_choose_1 : decode cX3_choose 1 = .ok (.astore_n 1, 1) := by decide +kernel
theorem dX3_choose_2 : decode cX3_choose 2 = .ok (.iconst 0, 1) := by decide +kernel
theorem dX3_choose_3 : decode cX3_choose 3 = .ok (.istore_n 2, 1) := by decide +kernel
theorem dX3_choose_4 : decode cX3_choose 4 = .ok (.iload_n 2, 1) := by decide +kernel
theorem dX3_choose_5 : decode cX3_choose 5 = .ok (.iconst 3, 1) := by decide +kernel
theorem dX3_choose_6 : decode cX3_choose 6 = .ok (.if_icmp .ge 75, 3) := by decide +kernel
theorem dX3_choose_9 : decode cX3_choose 9 = .ok (.iload_n 2, 1) := by decide +kernel
theorem dX3_choose_10 : decode cX3_choose 10 = .ok (.ifCond .le 11, 3) := by decide +kernel
theorem dX3_choose_13 : decode cX3_choose 13 = .ok (.aload_n 1, 1) := by decide +kernel
theorem dX3_choose_14 : decode cX3_choose 14 = .ok (.ifnonnull 7, 3) := by decide +kernel
theorem dX3_choose_17 : decode cX3_choose 17 = .ok (.aconst_null, 1) := by decide +kernel
theorem dX3_choose_18 : decode cX3_choose 18 = .ok (.goto 8, 3) := by decide +kernel
theorem dX3_choose_21 : decode cX3_choose 21 = .ok (.aload_n 0, 1) := by decide +kernel
theorem dX3_choose_22 : decode cX3_choose 22 = .ok (.aload_n 1, 1) := by decide +kernel
theorem dX3_choose_23 : decode cX3_choose 23 = .ok (.invokevirtual 140, 3) := by decide +kernel
theorem dX3_choose_26 : decode cX3_choose 26 = .ok (.astore_n 3, 1) := by decide +kernel
theorem dX3_choose_27 : decode cX3_choose 27 = .ok (.aload_n 0, 1) := by decide +kernel
theorem dX3_choose_28 : decode cX3_choose 28 = .ok (.getfield 36, 3) := by decide +kernel
theorem dX3_choose_31 : decode cX3_choose 31 = .ok (.iload_n 2, 1) := by decide +kernel
theorem dX3_choose_32 : decode cX3_choose 32 = .ok (.aload_n 3, 1) := by decide +kernel
theorem dX3_choose_33 : decode cX3_choose 33 = .ok (.ifnonnull 7, 3) := by decide +kernel
theorem dX3_choose_36 : decode cX3_choose 36 = .ok (.iconst (-1), 1) := by decide +kernel
theorem dX3_choose_37 : decode cX3_choose 37 = .ok (.goto 7, 3) := by decide +kernel
theorem dX3_choose_40 : decode cX3_choose 40 = .ok (.aload_n 3, 1) := by decide +kernel
theorem dX3_choose_41 : decode cX3_choose 41 = .ok (.getfield 110, 3) := by decide +kernel
theorem dX3_choose_44 : decode cX3_choose 44 = .ok (.iastore, 1) := by decide +kernel
theorem dX3_choose_45 : decode cX3_choose 45 = .ok (.aload_n 3, 1) := by decide +kernel
theorem dX3_choose_46 : decode cX3_choose 46 = .ok (.ifnull 27, 3) := by decide +kernel
theorem dX3_choose_49 : decode cX3_choose 49 = .ok (.aload_n 3, 1) := by decide +kernel
theorem dX3_choose_50 : decode cX3_choose 50 = .ok (.getfield 71, 3) := by decide +kernel
theorem dX3_choose_53 : decode cX3_choose 53 = .ok (.invokevirtual 144, 3) := by decide +kernel
theorem dX3_choose_56 : decode cX3_choose 56 = .ok (.ifCond .eq 17, 3) := by decide +kernel
theorem dX3_choose_59 : decode cX3_choose 59 = .ok (.aload_n 0, 1) := by decide +kernel
theorem dX3_choose_60 : decode cX3_choose 60 = .ok (.iconst 1, 1) := by decide +kernel
theorem dX3_choose_61 : decode cX3_choose 61 = .ok (.aload_n 3, 1) := by decide +kernel
theorem dX3_choose_62 : decode cX3_choose 62 = .ok (.aload_n 3, 1) := by decide +kernel
theorem dX3_choose_63 : decode cX3_choose 63 = .ok (.getfield 71, 3) := by decide +kernel
theorem dX3_choose_66 : decode cX3_choose 66 = .ok (.iload_n 2, 1) := by decide +kernel
theorem dX3_choose_67 : decode cX3_choose 67 = .ok (.invokevirtual 147, 3) := by decide +kernel
theorem dX3_choose_70 : decode cX3_choose 70 = .ok (.invokevirtual 100, 3) := by decide +kernel
theorem dX3_choose_73 : decode cX3_choose 73 = .ok (.aload_n 3, 1) := by decide +kernel
theorem dX3_choose_74 : decode cX3_choose 74 = .ok (.astore_n 1, 1) := by decide +kernel
theorem dX3_choose_75 : decode cX3_choose 75 = .ok (.iinc 2 1, 3) := by decide +kernel
theorem dX3_choose_78 : decode cX3_choose 78 = .ok (.goto (-74), 3) := by decide +kernel
theorem dX3_choose_81 : decode cX3_choose 81 = .ok (.return_, 1) := by decide +kernel
theorem dX3_bestBehind_0 : decode cX3_bestBehind 0 = .ok (.aconst_null, 1) := by decide +kernel
theorem dX3_bestBehind_1 : decode cX3_bestBehind 1 = .ok (.astore_n 2, 1) := by decide +kernel
theorem dX3_bestBehind_2 : decode cX3_bestBehind 2 = .ok (.iconst 0, 1) := by decide +kernel
theorem dX3_bestBehind_3 : decode cX3_bestBehind 3 = .ok (.istore_n 3, 1) := by decide +kernel
theorem dX3_bestBehind_4 : decode cX3_bestBehind 4 = .ok (.iload_n 3, 1) := by decide +kernel
theorem dX3_bestBehind_5 : decode cX3_bestBehind 5 = .ok (.aload_n 0, 1) := by decide +kernel
theorem dX3_bestBehind_6 : decode cX3_bestBehind 6 = .ok (.getfield 47, 3) := by decide +kernel
theorem dX3_bestBehind_9 : decode cX3_bestBehind 9 = .ok (.if_icmp .ge 79, 3) := by decide +kernel
theorem dX3_bestBehind_12 : decode cX3_bestBehind 12 = .ok (.aload_n 0, 1) := by decide +kernel
theorem dX3_bestBehind_13 : decode cX3_bestBehind 13 = .ok (.getfield 17, 3) := by decide +kernel
theorem dX3_bestBehind_16 : decode cX3_bestBehind 16 = .ok (.iload_n 3, 1) := by decide +kernel
theorem dX3_bestBehind_17 : decode cX3_bestBehind 17 = .ok (.aaload, 1) := by decide +kernel
theorem dX3_bestBehind_18 : decode cX3_bestBehind 18 = .ok (.getfield 71, 3) := by decide +kernel
theorem dX3_bestBehind_21 : decode cX3_bestBehind 21 = .ok (.astore 4, 2) := by decide +kernel
theorem dX3_bestBehind_23 : decode cX3_bestBehind 23 = .ok (.aload 4, 2) := by decide +kernel
theorem dX3_bestBehind_25 : decode cX3_bestBehind 25 = .ok (.invokevirtual 84, 3) := by decide +kernel
theorem dX3_bestBehind_28 : decode cX3_bestBehind 28 = .ok (.ifCond .eq 23, 3) := by decide +kernel
theorem dX3_bestBehind_31 : decode cX3_bestBehind 31 = .ok (.aload_n 1, 1) := by decide +kernel
theorem dX3_bestBehind_32 : decode cX3_bestBehind 32 = .ok (.ifnull 15, 3) := by decide +kernel
theorem dX3_bestBehind_35 : decode cX3_bestBehind 35 = .ok (.aload_n 1, 1) := by decide +kernel
theorem dX3_bestBehind_36 : decode cX3_bestBehind 36 = .ok (.getfield 71, 3) := by decide +kernel
theorem dX3_bestBehind_39 : decode cX3_bestBehind 39 = .ok (.aload 4, 2) := by decide +kernel
theorem dX3_bestBehind_41 : decode cX3_bestBehind 41 = .ok (.invokevirtual 151, 3) := by decide +kernel
theorem dX3_bestBehind_44 : decode cX3_bestBehind 44 = .ok (.ifCond .eq 7, 3) := by decide +kernel
theorem dX3_bestBehind_47 : decode cX3_bestBehind 47 = .ok (.iconst 1, 1) := by decide +kernel
theorem dX3_bestBehind_48 : decode cX3_bestBehind 48 = .ok (.goto 4, 3) := by decide +kernel
theorem dX3_bestBehind_51 : decode cX3_bestBehind 51 = .ok (.iconst 0, 1) := by decide +kernel
theorem dX3_bestBehind_52 : decode cX3_bestBehind 52 = .ok (.istore 5, 2) := by decide +kernel
theorem dX3_bestBehind_54 : decode cX3_bestBehind 54 = .ok (.iload 5, 2) := by decide +kernel
theorem dX3_bestBehind_56 : decode cX3_bestBehind 56 = .ok (.ifCond .eq 26, 3) := by decide +kernel
theorem dX3_bestBehind_59 : decode cX3_bestBehind 59 = .ok (.aload_n 2, 1) := by decide +kernel
theorem dX3_bestBehind_60 : decode cX3_bestBehind 60 = .ok (.ifnull 15, 3) := by decide +kernel
theorem dX3_bestBehind_63 : decode cX3_bestBehind 63 = .ok (.aload 4, 2) := by decide +kernel
theorem dX3_bestBehind_65 : decode cX3_bestBehind 65 = .ok (.aload_n 2, 1) := by decide +kernel
theorem dX3_bestBehind_66 : decode cX3_bestBehind 66 = .ok (.getfield 71, 3) := by decide +kernel
theorem dX3_bestBehind_69 : decode cX3_bestBehind 69 = .ok (.invokevirtual 151, 3) := by decide +kernel
theorem dX3_bestBehind_72 : decode cX3_bestBehind 72 = .ok (.ifCond .eq 10, 3) := by decide +kernel
theorem dX3_bestBehind_75 : decode cX3_bestBehind 75 = .ok (.aload_n 0, 1) := by decide +kernel
theorem dX3_bestBehind_76 : decode cX3_bestBehind 76 = .ok (.getfield 17, 3) := by decide +kernel
theorem dX3_bestBehind_79 : decode cX3_bestBehind 79 = .ok (.iload_n 3, 1) := by decide +kernel
theorem dX3_bestBehind_80 : decode cX3_bestBehind 80 = .ok (.aaload, 1) := by decide +kernel
theorem dX3_bestBehind_81 : decode cX3_bestBehind 81 = .ok (.astore_n 2, 1) := by decide +kernel
theorem dX3_bestBehind_82 : decode cX3_bestBehind 82 = .ok (.iinc 3 1, 3) := by decide +kernel
theorem dX3_bestBehind_85 : decode cX3_bestBehind 85 = .ok (.goto (-81), 3) := by decide +kernel
theorem dX3_bestBehind_88 : decode cX3_bestBehind 88 = .ok (.aload_n 2, 1) := by decide +kernel
theorem dX3_bestBehind_89 : decode cX3_bestBehind 89 = .ok (.areturn, 1) := by decide +kernel
theorem dX3_workAsSender_0 : decode cX3_workAsSender 0 = .ok (.iconst 0, 1) := by decide +kernel
theorem dX3_workAsSender_1 : decode cX3_workAsSender 1 = .ok (.istore_n 2, 1) := by decide +kernel
theorem dX3_workAsSender_2 : decode cX3_workAsSender 2 = .ok (.iload_n 2, 1) := by decide +kernel
theorem dX3_workAsSender_3 : decode cX3_workAsSender 3 = .ok (.aload_n 0, 1) := by decide +kernel
theorem dX3_workAsSender_4 : decode cX3_workAsSender 4 = .ok (.getfield 43, 3) := by decide +kernel
theorem dX3_workAsSender_7 : decode cX3_workAsSender 7 = .ok (.if_icmp .ge 22, 3) := by decide +kernel
theorem dX3_workAsSender_10 : decode cX3_workAsSender 10 = .ok (.aload_n 0, 1) := by decide +kernel
theorem dX3_workAsSender_11 : decode cX3_workAsSender 11 = .ok (.getfield 11, 3) := by decide +kernel
theorem dX3_workAsSender_14 : decode cX3_workAsSender 14 = .ok (.iload_n 2, 1) := by decide +kernel
theorem dX3_workAsSender_15 : decode cX3_workAsSender 15 = .ok (.aaload, 1) := by decide +kernel
theorem dX3_workAsSender_16 : decode cX3_workAsSender 16 = .ok (.getfield 155, 3) := by decide +kernel
theorem dX3_workAsSender_19 : decode cX3_workAsSender 19 = .ok (.iload_n 1, 1) := by decide +kernel
theorem dX3_workAsSender_20 : decode cX3_workAsSender 20 = .ok (.invokevirtual 159, 3) := by decide +kernel
theorem dX3_workAsSender_23 : decode cX3_workAsSender 23 = .ok (.iinc 2 1, 3) := by decide +kernel
theorem dX3_workAsSender_26 : decode cX3_workAsSender 26 = .ok (.goto (-24), 3) := by decide +kernel
theorem dX3_workAsSender_29 : decode cX3_workAsSender 29 = .ok (.return_, 1) := by decide +kernel
theorem dX3_nextPacket_0 : decode cX3_nextPacket 0 = .ok (.aload_n 0, 1) := by decide +kernel
theorem dX3_nextPacket_1 : decode cX3_nextPacket 1 = .ok (.getfield 32, 3) := by decide +kernel
theorem dX3_nextPacket_4 : decode cX3_nextPacket 4 = .ok (.invokevirtual 164, 3) := by decide +kernel
theorem dX3_nextPacket_7 : decode cX3_nextPacket 7 = .ok (.ifCond .le 13, 3) := by decide +kernel
theorem dX3_nextPacket_10 : decode cX3_nextPacket 10 = .ok (.aload_n 0, 1) := by decide +kernel
theorem dX3_nextPacket_11 : decode cX3_nextPacket 11 = .ok (.getfield 32, 3) := by decide +kernel
theorem dX3_nextPacket_14 : decode cX3_nextPacket 14 = .ok (.invokevirtual 167, 3) := by decide +kernel
theorem dX3_nextPacket_17 : decode cX3_nextPacket 17 = .ok (.goto 7, 3) := by decide +kernel
theorem dX3_nextPacket_20 : decode cX3_nextPacket 20 = .ok (.aload_n 0, 1) := by decide +kernel
theorem dX3_nextPacket_21 : decode cX3_nextPacket 21 = .ok (.invokevirtual 169, 3) := by decide +kernel
theorem dX3_nextPacket_24 : decode cX3_nextPacket 24 = .ok (.istore_n 1, 1) := by decide +kernel
theorem dX3_nextPacket_25 : decode cX3_nextPacket 25 = .ok (.iload_n 1, 1) := by decide +kernel
theorem dX3_nextPacket_26 : decode cX3_nextPacket 26 = .ok (.iconst (-1), 1) := by decide +kernel
theorem dX3_nextPacket_27 : decode cX3_nextPacket 27 = .ok (.if_icmp .eq 13, 3) := by decide +kernel
theorem dX3_nextPacket_30 : decode cX3_nextPacket 30 = .ok (.aload_n 0, 1) := by decide +kernel
theorem dX3_nextPacket_31 : decode cX3_nextPacket 31 = .ok (.dup, 1) := by decide +kernel
theorem dX3_nextPacket_32 : decode cX3_nextPacket 32 = .ok (.getfield 56, 3) := by decide +kernel
theorem dX3_nextPacket_35 : decode cX3_nextPacket 35 = .ok (.iconst 1, 1) := by decide +kernel
theorem dX3_nextPacket_36 : decode cX3_nextPacket 36 = .ok (.iadd, 1) := by decide +kernel
theorem dX3_nextPacket_37 : decode cX3_nextPacket 37 = .ok (.putfield 56, 3) := by decide +kernel
theorem dX3_nextPacket_40 : decode cX3_nextPacket 40 = .ok (.iload_n 1, 1) := by decide +kernel
theorem dX3_nextPacket_41 : decode cX3_nextPacket 41 = .ok (.ireturn, 1) := by decide +kernel
theorem dX3_nextData_0 : decode cX3_nextData 0 = .ok (.aload_n 0, 1) := by decide +kernel
theorem dX3_nextData_1 : decode cX3_nextData 1 = .ok (.invokevirtual 172, 3) := by decide +kernel
theorem dX3_nextData_4 : decode cX3_nextData 4 = .ok (.astore_n 1, 1) := by decide +kernel
theorem dX3_nextData_5 : decode cX3_nextData 5 = .ok (.aload_n 1, 1) := by decide +kernel
theorem dX3_nextData_6 : decode cX3_nextData 6 = .ok (.ifnonnull 5, 3) := by decide +kernel
theorem dX3_nextData_9 : decode cX3_nextData 9 = .ok (.iconst (-1), 1) := by decide +kernel
theorem dX3_nextData_10 : decode cX3_nextData 10 = .ok (.ireturn, 1) := by decide +kernel
theorem dX3_nextData_11 : decode cX3_nextData 11 = .ok (.aload_n 1, 1) := by decide +kernel
theorem dX3_nextData_12 : decode cX3_nextData 12 = .ok (.getfield 155, 3) := by decide +kernel
theorem dX3_nextData_15 : decode cX3_nextData 15 = .ok (.invokevirtual 176, 3) := by decide +kernel
theorem dX3_nextData_18 : decode cX3_nextData 18 = .ok (.istore_n 2, 1) := by decide +kernel
theorem dX3_nextData_19 : decode cX3_nextData 19 = .ok (.iload_n 2, 1) := by decide +kernel
theorem dX3_nextData_20 : decode cX3_nextData 20 = .ok (.iconst 4, 1) := by decide +kernel
theorem dX3_nextData_21 : decode cX3_nextData 21 = .ok (.if_icmp .ge 17, 3) := by decide +kernel
theorem dX3_nextData_24 : decode cX3_nextData 24 = .ok (.aload_n 0, 1) := by decide +kernel
theorem dX3_nextData_25 : decode cX3_nextData 25 = .ok (.getfield 23, 3) := by decide +kernel
theorem dX3_nextData_28 : decode cX3_nextData 28 = .ok (.aload_n 1, 1) := by decide +kernel
theorem dX3_nextData_29 : decode cX3_nextData 29 = .ok (.getfield 65, 3) := by decide +kernel
theorem dX3_nextData_32 : decode cX3_nextData 32 = .ok (.invokevirtual 179, 3) := by decide +kernel
theorem dX3_nextData_35 : decode cX3_nextData 35 = .ok (.goto 10, 3) := by decide +kernel
theorem dX3_nextData_38 : decode cX3_nextData 38 = .ok (.aload_n 1, 1) := by decide +kernel
theorem dX3_nextData_39 : decode cX3_nextData 39 = .ok (.getfield 155, 3) := by decide +kernel
theorem dX3_nextData_42 : decode cX3_nextData 42 = .ok (.invokevirtual 182, 3) := by decide +kernel
theorem dX3_nextData_45 : decode cX3_nextData 45 = .ok (.istore_n 3, 1) := by decide +kernel
theorem dX3_nextData_46 : decode cX3_nextData 46 = .ok (.iconst 0, 1) := by decide +kernel
theorem dX3_nextData_47 : decode cX3_nextData 47 = .ok (.aload_n 1, 1) := by decide +kernel
theorem dX3_nextData_48 : decode cX3_nextData 48 = .ok (.iload_n 2, 1) := by decide +kernel
theorem dX3_nextData_49 : decode cX3_nextData 49 = .ok (.iload_n 3, 1) := by decide +kernel
theorem dX3_nextData_50 : decode cX3_nextData 50 = .ok (.aload_n 1, 1) := by decide +kernel
theorem dX3_nextData_51 : decode cX3_nextData 51 = .ok (.getfield 185, 3) := by decide +kernel
theorem dX3_nextData_54 : decode cX3_nextData 54 = .ok (.invokestatic 116, 3) := by decide +kernel
theorem dX3_nextData_57 : decode cX3_nextData 57 = .ok (.ireturn, 1) := by decide +kernel
theorem dX3_shortestToSend_0 : decode cX3_shortestToSend 0 = .ok (.aconst_null, 1) := by decide +kernel
theorem dX3_shortestToSend_1 : decode cX3_shortestToSend 1 = .ok (.astore_n 1, 1) := by decide +kernel
theorem dX3_shortestToSend_2 : decode cX3_shortestToSend 2 = .ok (.iconst 0, 1) := by decide +kernel
theorem dX3_shortestToSend_3 : decode cX3_shortestToSend 3 = .ok (.istore_n 2, 1) := by decide +kernel
theorem dX3_shortestToSend_4 : decode cX3_shortestToSend 4 = .ok (.iload_n 2, 1) := by decide +kernel
theorem dX3_shortestToSend_5 : decode cX3_shortestToSend 5 = .ok (.aload_n 0, 1) := by decide +kernel
theorem dX3_shortestToSend_6 : decode cX3_shortestToSend 6 = .ok (.getfield 43, 3) := by decide +kernel
theorem dX3_shortestToSend_9 : decode cX3_shortestToSend 9 = .ok (.if_icmp .ge 49, 3) := by decide +kernel
theorem dX3_shortestToSend_12 : decode cX3_shortestToSend 12 = .ok (.aload_n 0, 1) := by decide +kernel
theorem dX3_shortestToSend_13 : decode cX3_shortestToSend 13 = .ok (.getfield 11, 3) := by decide +kernel
theorem dX3_shortestToSend_16 : decode cX3_shortestToSend 16 = .ok (.iload_n 2, 1) := by decide +kernel
theorem dX3_shortestToSend_17 : decode cX3_shortestToSend 17 = .ok (.aaload, 1) := by decide +kernel
theorem dX3_shortestToSend_18 : decode cX3_shortestToSend 18 = .ok (.astore_n 3, 1) := by decide +kernel
theorem dX3_shortestToSend_19 : decode cX3_shortestToSend 19 = .ok (.aload_n 3, 1) := by decide +kernel
theorem dX3_shortestToSend_20 : decode cX3_shortestToSend 20 = .ok (.getfield 155, 3) := by decide +kernel
theorem dX3_shortestToSend_23 : decode cX3_shortestToSend 23 = .ok (.invokevirtual 188, 3) := by decide +kernel
theorem dX3_shortestToSend_26 : decode cX3_shortestToSend 26 = .ok (.ifCond .eq 26, 3) := by decide +kernel
theorem dX3_shortestToSend_29 : decode cX3_shortestToSend 29 = .ok (.aload_n 1, 1) := by decide +kernel
theorem dX3_shortestToSend_30 : decode cX3_shortestToSend 30 = .ok (.ifnull 20, 3) := by decide +kernel
theorem dX3_shortestToSend_33 : decode cX3_shortestToSend 33 = .ok (.aload_n 3, 1) := by decide +kernel
theorem dX3_shortestToSend_34 : decode cX3_shortestToSend 34 = .ok (.getfield 155, 3) := by decide +kernel
theorem dX3_shortestToSend_37 : decode cX3_shortestToSend 37 = .ok (.invokevirtual 191, 3) := by decide +kernel
theorem dX3_shortestToSend_40 : decode cX3_shortestToSend 40 = .ok (.aload_n 1, 1) := by decide +kernel
theorem dX3_shortestToSend_41 : decode cX3_shortestToSend 41 = .ok (.getfield 155, 3) := by decide +kernel
theorem dX3_shortestToSend_44 : decode cX3_shortestToSend 44 = .ok (.invokevirtual 191, 3) := by decide +kernel
theorem dX3_shortestToSend_47 : decode cX3_shortestToSend 47 = .ok (.if_icmp .ge 5, 3) := by decide +kernel
theorem dX3_shortestToSend_50 : decode cX3_shortestToSend 50 = .ok (.aload_n 3, 1) := by decide +kernel
theorem dX3_shortestToSend_51 : decode cX3_shortestToSend 51 = .ok (.astore_n 1, 1) := by decide +kernel
theorem dX3_shortestToSend_52 : decode cX3_shortestToSend 52 = .ok (.iinc 2 1, 3) := by decide +kernel
theorem dX3_shortestToSend_55 : decode cX3_shortestToSend 55 = .ok (.goto (-51), 3) := by decide +kernel
theorem dX3_shortestToSend_58 : decode cX3_shortestToSend 58 = .ok (.aload_n 1, 1) := by decide +kernel
theorem dX3_shortestToSend_59 : decode cX3_shortestToSend 59 = .ok (.areturn, 1) := by decide +kernel
theorem dX3_latestFinished_0 : decode cX3_latestFinished 0 = .ok (.iload_n 1, 1) := by decide +kernel
theorem dX3_latestFinished_1 : decode cX3_latestFinished 1 = .ok (.ifCond .lt 21, 3) := by decide +kernel
theorem dX3_latestFinished_4 : decode cX3_latestFinished 4 = .ok (.iload_n 1, 1) := by decide +kernel
theorem dX3_latestFinished_5 : decode cX3_latestFinished 5 = .ok (.bipush 64, 2) := by decide +kernel
theorem dX3_latestFinished_7 : decode cX3_latestFinished 7 = .ok (.if_icmp .ge 15, 3) := by decide +kernel
theorem dX3_latestFinished_10 : decode cX3_latestFinished 10 = .ok (.iload_n 1, 1) := by decide +kernel
theorem dX3_latestFinished_11 : decode cX3_latestFinished 11 = .ok (.aload_n 0, 1) := by decide +kernel
theorem dX3_latestFinished_12 : decode cX3_latestFinished 12 = .ok (.getfield 53, 3) := by decide +kernel
theorem dX3_latestFinished_15 : decode cX3_latestFinished 15 = .ok (.if_icmp .ge 7, 3) := by decide +kernel
theorem dX3_latestFinished_18 : decode cX3_latestFinished 18 = .ok (.iconst 1, 1) := by decide +kernel
theorem dX3_latestFinished_19 : decode cX3_latestFinished 19 = .ok (.goto 4, 3) := by decide +kernel
theorem dX3_latestFinished_22 : decode cX3_latestFinished 22 = .ok (.iconst 0, 1) := by decide +kernel
theorem dX3_latestFinished_23 : decode cX3_latestFinished 23 = .ok (.istore_n 2, 1) := by decide +kernel
theorem dX3_latestFinished_24 : decode cX3_latestFinished 24 = .ok (.iload_n 2, 1) := by decide +kernel
theorem dX3_latestFinished_25 : decode cX3_latestFinished 25 = .ok (.ifCond .eq 24, 3) := by decide +kernel
theorem dX3_latestFinished_28 : decode cX3_latestFinished 28 = .ok (.aload_n 0, 1) := by decide +kernel
theorem dX3_latestFinished_29 : decode cX3_latestFinished 29 = .ok (.getfield 40, 3) := by decide +kernel
theorem dX3_latestFinished_32 : decode cX3_latestFinished 32 = .ok (.aload_n 0, 1) := by decide +kernel
theorem dX3_latestFinished_33 : decode cX3_latestFinished 33 = .ok (.getfield 53, 3) := by decide +kernel
theorem dX3_latestFinished_36 : decode cX3_latestFinished 36 = .ok (.iconst 1, 1) := by decide +kernel
theorem dX3_latestFinished_37 : decode cX3_latestFinished 37 = .ok (.isub, 1) := by decide +kernel
theorem dX3_latestFinished_38 : decode cX3_latestFinished 38 = .ok (.iload_n 1, 1) := by decide +kernel
theorem dX3_latestFinished_39 : decode cX3_latestFinished 39 = .ok (.isub, 1) := by decide +kernel
theorem dX3_latestFinished_40 : decode cX3_latestFinished 40 = .ok (.bipush 64, 2) := by decide +kernel
theorem dX3_latestFinished_42 : decode cX3_latestFinished 42 = .ok (.invokestatic 104, 3) := by decide +kernel
theorem dX3_latestFinished_45 : decode cX3_latestFinished 45 = .ok (.iaload, 1) := by decide +kernel
theorem dX3_latestFinished_46 : decode cX3_latestFinished 46 = .ok (.goto 4, 3) := by decide +kernel
theorem dX3_latestFinished_49 : decode cX3_latestFinished 49 = .ok (.iconst (-1), 1) := by decide +kernel
theorem dX3_latestFinished_50 : decode cX3_latestFinished 50 = .ok (.ireturn, 1) := by decide +kernel
theorem dX3_choice_0 : decode cX3_choice 0 = .ok (.iload_n 1, 1) := by decide +kernel
theorem dX3_choice_1 : decode cX3_choice 1 = .ok (.ifCond .lt 17, 3) := by decide +kernel
theorem dX3_choice_4 : decode cX3_choice 4 = .ok (.iload_n 1, 1) := by decide +kernel
theorem dX3_choice_5 : decode cX3_choice 5 = .ok (.iconst 3, 1) := by decide +kernel
theorem dX3_choice_6 : decode cX3_choice 6 = .ok (.if_icmp .ge 12, 3) := by decide +kernel
theorem dX3_choice_9 : decode cX3_choice 9 = .ok (.aload_n 0, 1) := by decide +kernel
theorem dX3_choice_10 : decode cX3_choice 10 = .ok (.getfield 36, 3) := by decide +kernel
theorem dX3_choice_13 : decode cX3_choice 13 = .ok (.iload_n 1, 1) := by decide +kernel
theorem dX3_choice_14 : decode cX3_choice 14 = .ok (.iaload, 1) := by decide +kernel
theorem dX3_choice_15 : decode cX3_choice 15 = .ok (.goto 4, 3) := by decide +kernel
theorem dX3_choice_18 : decode cX3_choice 18 = .ok (.iconst (-1), 1) := by decide +kernel
theorem dX3_choice_19 : decode cX3_choice 19 = .ok (.ireturn, 1) := by decide +kernel
theorem dX3_tell_0 : decode cX3_tell 0 = .ok (.iload_n 1, 1) := by decide +kernel
theorem dX3_tell_1 : decode cX3_tell 1 = .ok (.tableswitch 78 0 5 #[39, 44, 52, 60, 68, 73], 39) := by decide +kernel
theorem dX3_tell_40 : decode cX3_tell 40 = .ok (.aload_n 0, 1) := by decide +kernel
theorem dX3_tell_41 : decode cX3_tell 41 = .ok (.invokevirtual 194, 3) := by decide +kernel
theorem dX3_tell_44 : decode cX3_tell 44 = .ok (.ireturn, 1) := by decide +kernel
theorem dX3_tell_45 : decode cX3_tell 45 = .ok (.aload_n 0, 1) := by decide +kernel
theorem dX3_tell_46 : decode cX3_tell 46 = .ok (.getfield 32, 3) := by decide +kernel
theorem dX3_tell_49 : decode cX3_tell 49 = .ok (.invokevirtual 164, 3) := by decide +kernel
theorem dX3_tell_52 : decode cX3_tell 52 = .ok (.ireturn, 1) := by decide +kernel
theorem dX3_tell_53 : decode cX3_tell 53 = .ok (.aload_n 0, 1) := by decide +kernel
theorem dX3_tell_54 : decode cX3_tell 54 = .ok (.getfield 23, 3) := by decide +kernel
theorem dX3_tell_57 : decode cX3_tell 57 = .ok (.invokevirtual 197, 3) := by decide +kernel
theorem dX3_tell_60 : decode cX3_tell 60 = .ok (.ireturn, 1) := by decide +kernel
theorem dX3_tell_61 : decode cX3_tell 61 = .ok (.aload_n 0, 1) := by decide +kernel
theorem dX3_tell_62 : decode cX3_tell 62 = .ok (.getfield 23, 3) := by decide +kernel
theorem dX3_tell_65 : decode cX3_tell 65 = .ok (.invokevirtual 200, 3) := by decide +kernel
theorem dX3_tell_68 : decode cX3_tell 68 = .ok (.ireturn, 1) := by decide +kernel
theorem dX3_tell_69 : decode cX3_tell 69 = .ok (.aload_n 0, 1) := by decide +kernel
theorem dX3_tell_70 : decode cX3_tell 70 = .ok (.getfield 56, 3) := by decide +kernel
theorem dX3_tell_73 : decode cX3_tell 73 = .ok (.ireturn, 1) := by decide +kernel
theorem dX3_tell_74 : decode cX3_tell 74 = .ok (.aload_n 0, 1) := by decide +kernel
theorem dX3_tell_75 : decode cX3_tell 75 = .ok (.getfield 53, 3) := by decide +kernel
theorem dX3_tell_78 : decode cX3_tell 78 = .ok (.ireturn, 1) := by decide +kernel
theorem dX3_tell_79 : decode cX3_tell 79 = .ok (.iconst (-1), 1) := by decide +kernel
theorem dX3_tell_80 : decode cX3_tell 80 = .ok (.ireturn, 1) := by decide +kernel
theorem dX3_grantedAndNotIn_0 : decode cX3_grantedAndNotIn 0 = .ok (.iconst 0, 1) := by decide +kernel
theorem dX3_grantedAndNotIn_1 : decode cX3_grantedAndNotIn 1 = .ok (.istore_n 1, 1) := by decide +kernel
theorem dX3_grantedAndNotIn_2 : decode cX3_grantedAndNotIn 2 = .ok (.iconst 0, 1) := by decide +kernel
theorem dX3_grantedAndNotIn_3 : decode cX3_grantedAndNotIn 3 = .ok (.istore_n 2, 1) := by decide +kernel
theorem dX3_grantedAndNotIn_4 : decode cX3_grantedAndNotIn 4 = .ok (.iload_n 2, 1) := by decide +kernel
theorem dX3_grantedAndNotIn_5 : decode cX3_grantedAndNotIn 5 = .ok (.aload_n 0, 1) := by decide +kernel
theorem dX3_grantedAndNotIn_6 : decode cX3_grantedAndNotIn 6 = .ok (.getfield 47, 3) := by decide +kernel
theorem dX3_grantedAndNotIn_9 : decode cX3_grantedAndNotIn 9 = .ok (.if_icmp .ge 24, 3) := by decide +kernel
theorem dX3_grantedAndNotIn_12 : decode cX3_grantedAndNotIn 12 = .ok (.iload_n 1, 1) := by decide +kernel
theorem dX3_grantedAndNotIn_13 : decode cX3_grantedAndNotIn 13 = .ok (.aload_n 0, 1) := by decide +kernel
theorem dX3_grantedAndNotIn_14 : decode cX3_grantedAndNotIn 14 = .ok (.getfield 17, 3) := by decide +kernel
theorem dX3_grantedAndNotIn_17 : decode cX3_grantedAndNotIn 17 = .ok (.iload_n 2, 1) := by decide +kernel
theorem dX3_grantedAndNotIn_18 : decode cX3_grantedAndNotIn 18 = .ok (.aaload, 1) := by decide +kernel
theorem dX3_grantedAndNotIn_19 : decode cX3_grantedAndNotIn 19 = .ok (.getfield 71, 3) := by decide +kernel
theorem dX3_grantedAndNotIn_22 : decode cX3_grantedAndNotIn 22 = .ok (.invokevirtual 203, 3) := by decide +kernel
theorem dX3_grantedAndNotIn_25 : decode cX3_grantedAndNotIn 25 = .ok (.iadd, 1) := by decide +kernel
theorem dX3_grantedAndNotIn_26 : decode cX3_grantedAndNotIn 26 = .ok (.istore_n 1, 1) := by decide +kernel
theorem dX3_grantedAndNotIn_27 : decode cX3_grantedAndNotIn 27 = .ok (.iinc 2 1, 3) := by decide +kernel
theorem dX3_grantedAndNotIn_30 : decode cX3_grantedAndNotIn 30 = .ok (.goto (-26), 3) := by decide +kernel
theorem dX3_grantedAndNotIn_33 : decode cX3_grantedAndNotIn 33 = .ok (.iload_n 1, 1) := by decide +kernel
theorem dX3_grantedAndNotIn_34 : decode cX3_grantedAndNotIn 34 = .ok (.ireturn, 1) := by decide +kernel
theorem dX4_init_0 : decode cX4_init 0 = .ok (.aload_n 0, 1) := by decide +kernel
theorem dX4_init_1 : decode cX4_init 1 = .ok (.invokespecial 1, 3) := by decide +kernel
theorem dX4_init_4 : decode cX4_init 4 = .ok (.aload_n 0, 1) := by decide +kernel
theorem dX4_init_5 : decode cX4_init 5 = .ok (.iload_n 1, 1) := by decide +kernel
theorem dX4_init_6 : decode cX4_init 6 = .ok (.putfield 7, 3) := by decide +kernel
theorem dX4_init_9 : decode cX4_init 9 = .ok (.aload_n 0, 1) := by decide +kernel
theorem dX4_init_10 : decode cX4_init 10 = .ok (.iload_n 2, 1) := by decide +kernel
theorem dX4_init_11 : decode cX4_init 11 = .ok (.putfield 13, 3) := by decide +kernel
theorem dX4_init_14 : decode cX4_init 14 = .ok (.aload_n 0, 1) := by decide +kernel
theorem dX4_init_15 : decode cX4_init 15 = .ok (.iload_n 3, 1) := by decide +kernel
theorem dX4_init_16 : decode cX4_init 16 = .ok (.putfield 16, 3) := by decide +kernel
theorem dX4_init_19 : decode cX4_init 19 = .ok (.aload_n 0, 1) := by decide +kernel
theorem dX4_init_20 : decode cX4_init 20 = .ok (.iload 4, 2) := by decide +kernel
theorem dX4_init_22 : decode cX4_init 22 = .ok (.putfield 19, 3) := by decide +kernel
theorem dX4_init_25 : decode cX4_init 25 = .ok (.aload_n 0, 1) := by decide +kernel
theorem dX4_init_26 : decode cX4_init 26 = .ok (.new 22, 3) := by decide +kernel
theorem dX4_init_29 : decode cX4_init 29 = .ok (.dup, 1) := by decide +kernel
theorem dX4_init_30 : decode cX4_init 30 = .ok (.iload 4, 2) := by decide +kernel
theorem dX4_init_32 : decode cX4_init 32 = .ok (.invokespecial 24, 3) := by decide +kernel
theorem dX4_init_35 : decode cX4_init 35 = .ok (.putfield 27, 3) := by decide +kernel
theorem dX4_init_38 : decode cX4_init 38 = .ok (.aload_n 0, 1) := by decide +kernel
theorem dX4_init_39 : decode cX4_init 39 = .ok (.new 31, 3) := by decide +kernel
theorem dX4_init_42 : decode cX4_init 42 = .ok (.dup, 1) := by decide +kernel
theorem dX4_init_43 : decode cX4_init 43 = .ok (.iload 4, 2) := by decide +kernel
theorem dX4_init_45 : decode cX4_init 45 = .ok (.iload 5, 2) := by decide +kernel
theorem dX4_init_47 : decode cX4_init 47 = .ok (.iconst 1, 1) := by decide +kernel
theorem dX4_init_48 : decode cX4_init 48 = .ok (.if_icmp .ne 7, 3) := by decide +kernel
theorem dX4_init_51 : decode cX4_init 51 = .ok (.iconst 1, 1) := by decide +kernel
theorem dX4_init_52 : decode cX4_init 52 = .ok (.goto 4, 3) := by decide +kernel
theorem dX4_init_55 : decode cX4_init 55 = .ok (.iconst 0, 1) := by decide +kernel
theorem dX4_init_56 : decode cX4_init 56 = .ok (.invokespecial 33, 3) := by decide +kernel
theorem dX4_init_59 : decode cX4_init 59 = .ok (.putfield 36, 3) := by decide +kernel
theorem dX4_init_62 : decode cX4_init 62 = .ok (.return_, 1) := by decide +kernel
theorem dX5_pack_0 : decode cX5_pack 0 = .ok (.iload_n 0, 1) := by decide +kernel
theorem dX5_pack_1 : decode cX5_pack 1 = .ok (.istore 5, 2) := by decide +kernel
theorem dX5_pack_3 : decode cX5_pack 3 = .ok (.iload 5, 2) := by decide +kernel
theorem dX5_pack_5 : decode cX5_pack 5 = .ok (.iconst 2, 1) := by decide +kernel
theorem dX5_pack_6 : decode cX5_pack 6 = .ok (.ishl, 1) := by decide +kernel
theorem dX5_pack_7 : decode cX5_pack 7 = .ok (.iload_n 3, 1) := by decide +kernel
theorem dX5_pack_8 : decode cX5_pack 8 = .ok (.ior, 1) := by decide +kernel
theorem dX5_pack_9 : decode cX5_pack 9 = .ok (.istore 5, 2) := by decide +kernel
theorem dX5_pack_11 : decode cX5_pack 11 = .ok (.iload 5, 2) := by decide +kernel
theorem dX5_pack_13 : decode cX5_pack 13 = .ok (.iconst 3, 1) := by decide +kernel
theorem dX5_pack_14 : decode cX5_pack 14 = .ok (.ishl, 1) := by decide +kernel
theorem dX5_pack_15 : decode cX5_pack 15 = .ok (.iload 4, 2) := by decide +kernel
theorem dX5_pack_17 : decode cX5_pack 17 = .ok (.ior, 1) := by decide +kernel
theorem dX5_pack_18 : decode cX5_pack 18 = .ok (.istore 5, 2) := by decide +kernel
theorem dX5_pack_20 : decode cX5_pack 20 = .ok (.iload 5, 2) := by decide +kernel
theorem dX5_pack_22 : decode cX5_pack 22 = .ok (.bipush 6, 2) := by decide +kernel
theorem dX5_pack_24 : decode cX5_pack 24 = .ok (.ishl, 1) := by decide +kernel
theorem dX5_pack_25 : decode cX5_pack 25 = .ok (.aload_n 1, 1) := by decide +kernel
theorem dX5_pack_26 : decode cX5_pack 26 = .ok (.getfield 11, 3) := by decide +kernel
theorem dX5_pack_29 : decode cX5_pack 29 = .ok (.ior, 1) := by decide +kernel
theorem dX5_pack_30 : decode cX5_pack 30 = .ok (.istore 5, 2) := by decide +kernel
theorem dX5_pack_32 : decode cX5_pack 32 = .ok (.iload 5, 2) := by decide +kernel
theorem dX5_pack_34 : decode cX5_pack 34 = .ok (.bipush 12, 2) := by decide +kernel
theorem dX5_pack_36 : decode cX5_pack 36 = .ok (.ishl, 1) := by decide +kernel
theorem dX5_pack_37 : decode cX5_pack 37 = .ok (.iload_n 2, 1) := by decide +kernel
theorem dX5_pack_38 : decode cX5_pack 38 = .ok (.ior, 1) := by decide +kernel
theorem dX5_pack_39 : decode cX5_pack 39 = .ok (.ireturn, 1) := by decide +kernel
theorem dX5_countOf_0 : decode cX5_countOf 0 = .ok (.iload_n 0, 1) := by decide +kernel
theorem dX5_countOf_1 : decode cX5_countOf 1 = .ok (.sipush 4095, 3) := by decide +kernel
theorem dX5_countOf_4 : decode cX5_countOf 4 = .ok (.iand, 1) := by decide +kernel
theorem dX5_countOf_5 : decode cX5_countOf 5 = .ok (.ireturn, 1) := by decide +kernel
theorem dX5_messageOf_0 : decode cX5_messageOf 0 = .ok (.iload_n 0, 1) := by decide +kernel
theorem dX5_messageOf_1 : decode cX5_messageOf 1 = .ok (.bipush 12, 2) := by decide +kernel
theorem dX5_messageOf_3 : decode cX5_messageOf 3 = .ok (.ishr, 1) := by decide +kernel
theorem dX5_messageOf_4 : decode cX5_messageOf 4 = .ok (.bipush 63, 2) := by decide +kernel
theorem dX5_messageOf_6 : decode cX5_messageOf 6 = .ok (.iand, 1) := by decide +kernel
theorem dX5_messageOf_7 : decode cX5_messageOf 7 = .ok (.ireturn, 1) := by decide +kernel
theorem dX5_goalOf_0 : decode cX5_goalOf 0 = .ok (.iload_n 0, 1) := by decide +kernel
theorem dX5_goalOf_1 : decode cX5_goalOf 1 = .ok (.bipush 18, 2) := by decide +kernel
theorem dX5_goalOf_3 : decode cX5_goalOf 3 = .ok (.ishr, 1) := by decide +kernel
theorem dX5_goalOf_4 : decode cX5_goalOf 4 = .ok (.bipush 7, 2) := by decide +kernel
theorem dX5_goalOf_6 : decode cX5_goalOf 6 = .ok (.iand, 1) := by decide +kernel
theorem dX5_goalOf_7 : decode cX5_goalOf 7 = .ok (.ireturn, 1) := by decide +kernel
theorem dX5_priorityOf_0 : decode cX5_priorityOf 0 = .ok (.iload_n 0, 1) := by decide +kernel
theorem dX5_priorityOf_1 : decode cX5_priorityOf 1 = .ok (.bipush 21, 2) := by decide +kernel
theorem dX5_priorityOf_3 : decode cX5_priorityOf 3 = .ok (.ishr, 1) := by decide +kernel
theorem dX5_priorityOf_4 : decode cX5_priorityOf 4 = .ok (.iconst 3, 1) := by decide +kernel
theorem dX5_priorityOf_5 : decode cX5_priorityOf 5 = .ok (.iand, 1) := by decide +kernel
theorem dX5_priorityOf_6 : decode cX5_priorityOf 6 = .ok (.ireturn, 1) := by decide +kernel
theorem dX5_kindOf_0 : decode cX5_kindOf 0 = .ok (.iload_n 0, 1) := by decide +kernel
theorem dX5_kindOf_1 : decode cX5_kindOf 1 = .ok (.bipush 23, 2) := by decide +kernel
theorem dX5_kindOf_3 : decode cX5_kindOf 3 = .ok (.ishr, 1) := by decide +kernel
theorem dX5_kindOf_4 : decode cX5_kindOf 4 = .ok (.ireturn, 1) := by decide +kernel
theorem dX5_tell_0 : decode cX5_tell 0 = .ok (.iload_n 0, 1) := by decide +kernel
theorem dX5_tell_1 : decode cX5_tell 1 = .ok (.iconst (-1), 1) := by decide +kernel
theorem dX5_tell_2 : decode cX5_tell 2 = .ok (.if_icmp .ne 5, 3) := by decide +kernel
theorem dX5_tell_5 : decode cX5_tell 5 = .ok (.iconst (-1), 1) := by decide +kernel
theorem dX5_tell_6 : decode cX5_tell 6 = .ok (.ireturn, 1) := by decide +kernel
theorem dX5_tell_7 : decode cX5_tell 7 = .ok (.iload_n 1, 1) := by decide +kernel
theorem dX5_tell_8 : decode cX5_tell 8 = .ok (.tableswitch 52 0 3 #[32, 37, 42, 47], 32) := by decide +kernel
theorem dX5_tell_40 : decode cX5_tell 40 = .ok (.iload_n 0, 1) := by decide +kernel
theorem dX5_tell_41 : decode cX5_tell 41 = .ok (.invokestatic 17, 3) := by decide +kernel
theorem dX5_tell_44 : decode cX5_tell 44 = .ok (.ireturn, 1) := by decide +kernel
theorem dX5_tell_45 : decode cX5_tell 45 = .ok (.iload_n 0, 1) := by decide +kernel
theorem dX5_tell_46 : decode cX5_tell 46 = .ok (.invokestatic 21, 3) := by decide +kernel
theorem dX5_tell_49 : decode cX5_tell 49 = .ok (.ireturn, 1) := by decide +kernel
theorem dX5_tell_50 : decode cX5_tell 50 = .ok (.iload_n 0, 1) := by decide +kernel
theorem dX5_tell_51 : decode cX5_tell 51 = .ok (.invokestatic 24, 3) := by decide +kernel
theorem dX5_tell_54 : decode cX5_tell 54 = .ok (.ireturn, 1) := by decide +kernel
theorem dX5_tell_55 : decode cX5_tell 55 = .ok (.iload_n 0, 1) := by decide +kernel
theorem dX5_tell_56 : decode cX5_tell 56 = .ok (.invokestatic 27, 3) := by decide +kernel
theorem dX5_tell_59 : decode cX5_tell 59 = .ok (.ireturn, 1) := by decide +kernel
theorem dX5_tell_60 : decode cX5_tell 60 = .ok (.iconst (-1), 1) := by decide +kernel
theorem dX5_tell_61 : decode cX5_tell 61 = .ok (.ireturn, 1) := by decide +kernel
theorem dX6_init_0 : decode cX6_init 0 = .ok (.aload_n 0, 1) := by decide +kernel
theorem dX6_init_1 : decode cX6_init 1 = .ok (.invokespecial 3, 3) := by decide +kernel
theorem dX6_init_4 : decode cX6_init 4 = .ok (.aload_n 0, 1) := by decide +kernel
theorem dX6_init_5 : decode cX6_init 5 = .ok (.iconst 0, 1) := by decide +kernel
theorem dX6_init_6 : decode cX6_init 6 = .ok (.putfield 11, 3) := by decide +kernel
theorem dX6_init_9 : decode cX6_init 9 = .ok (.aload_n 0, 1) := by decide +kernel
theorem dX6_init_10 : decode cX6_init 10 = .ok (.iconst 0, 1) := by decide +kernel
theorem dX6_init_11 : decode cX6_init 11 = .ok (.putfield 15, 3) := by decide +kernel
theorem dX6_init_14 : decode cX6_init 14 = .ok (.aload_n 0, 1) := by decide +kernel
theorem dX6_init_15 : decode cX6_init 15 = .ok (.lconst 0, 1) := by decide +kernel
theorem dX6_init_16 : decode cX6_init 16 = .ok (.putfield 18, 3) := by decide +kernel
theorem dX6_init_19 : decode cX6_init 19 = .ok (.aload_n 0, 1) := by decide +kernel
theorem dX6_init_20 : decode cX6_init 20 = .ok (.iconst 0, 1) := by decide +kernel
theorem dX6_init_21 : decode cX6_init 21 = .ok (.putfield 22, 3) := by decide +kernel
theorem dX6_init_24 : decode cX6_init 24 = .ok (.aload_n 0, 1) := by decide +kernel
theorem dX6_init_25 : decode cX6_init 25 = .ok (.iconst 0, 1) := by decide +kernel
theorem dX6_init_26 : decode cX6_init 26 = .ok (.putfield 25, 3) := by decide +kernel
theorem dX6_init_29 : decode cX6_init 29 = .ok (.aload_n 0, 1) := by decide +kernel
theorem dX6_init_30 : decode cX6_init 30 = .ok (.iconst 0, 1) := by decide +kernel
theorem dX6_init_31 : decode cX6_init 31 = .ok (.putfield 28, 3) := by decide +kernel
theorem dX6_init_34 : decode cX6_init 34 = .ok (.aload_n 0, 1) := by decide +kernel
theorem dX6_init_35 : decode cX6_init 35 = .ok (.iconst 0, 1) := by decide +kernel
theorem dX6_init_36 : decode cX6_init 36 = .ok (.putfield 31, 3) := by decide +kernel
theorem dX6_init_39 : decode cX6_init 39 = .ok (.aload_n 0, 1) := by decide +kernel
theorem dX6_init_40 : decode cX6_init 40 = .ok (.iconst 0, 1) := by decide +kernel
theorem dX6_init_41 : decode cX6_init 41 = .ok (.putfield 34, 3) := by decide +kernel
theorem dX6_init_44 : decode cX6_init 44 = .ok (.aload_n 0, 1) := by decide +kernel
theorem dX6_init_45 : decode cX6_init 45 = .ok (.iload_n 1, 1) := by decide +kernel
theorem dX6_init_46 : decode cX6_init 46 = .ok (.putfield 37, 3) := by decide +kernel
theorem dX6_init_49 : decode cX6_init 49 = .ok (.aload_n 0, 1) := by decide +kernel
theorem dX6_init_50 : decode cX6_init 50 = .ok (.iload_n 2, 1) := by decide +kernel
theorem dX6_init_51 : decode cX6_init 51 = .ok (.putfield 40, 3) := by decide +kernel
theorem dX6_init_54 : decode cX6_init 54 = .ok (.return_, 1) := by decide +kernel
theorem dX6_targetOfGrant_0 : decode cX6_targetOfGrant 0 = .ok (.iload_n 0, 1) := by decide +kernel
theorem dX6_targetOfGrant_1 : decode cX6_targetOfGrant 1 = .ok (.iconst 4, 1) := by decide +kernel
theorem dX6_targetOfGrant_2 : decode cX6_targetOfGrant 2 = .ok (.idiv, 1) := by decide +kernel
theorem dX6_targetOfGrant_3 : decode cX6_targetOfGrant 3 = .ok (.ireturn, 1) := by decide +kernel
theorem dX6_levelOfGrant_0 : decode cX6_levelOfGrant 0 = .ok (.iload_n 0, 1) := by decide +kernel
theorem dX6_levelOfGrant_1 : decode cX6_levelOfGrant 1 = .ok (.iconst 4, 1) := by decide +kernel
theorem dX6_levelOfGrant_2 : decode cX6_levelOfGrant 2 = .ok (.irem, 1) := by decide +kernel
theorem dX6_levelOfGrant_3 : decode cX6_levelOfGrant 3 = .ok (.ireturn, 1) := by decide +kernel
theorem dX6_grantedOfAsk_0 : decode cX6_grantedOfAsk 0 = .ok (.iload_n 0, 1) := by decide +kernel
theorem dX6_grantedOfAsk_1 : decode cX6_grantedOfAsk 1 = .ok (.bipush 64, 2) := by decide +kernel
theorem dX6_grantedOfAsk_3 : decode cX6_grantedOfAsk 3 = .ok (.idiv, 1) := by decide +kernel
theorem dX6_grantedOfAsk_4 : decode cX6_grantedOfAsk 4 = .ok (.ireturn, 1) := by decide +kernel
theorem dX6_placeOfAsk_0 : decode cX6_placeOfAsk 0 = .ok (.iload_n 0, 1) := by decide +kernel
theorem dX6_placeOfAsk_1 : decode cX6_placeOfAsk 1 = .ok (.bipush 64, 2) := by decide +kernel
theorem dX6_placeOfAsk_3 : decode cX6_placeOfAsk 3 = .ok (.irem, 1) := by decide +kernel
theorem dX6_placeOfAsk_4 : decode cX6_placeOfAsk 4 = .ok (.ireturn, 1) := by decide +kernel
theorem dX6_isUnknown_0 : decode cX6_isUnknown 0 = .ok (.aload_n 0, 1) := by decide +kernel
theorem dX6_isUnknown_1 : decode cX6_isUnknown 1 = .ok (.getfield 11, 3) := by decide +kernel
theorem dX6_isUnknown_4 : decode cX6_isUnknown 4 = .ok (.ifCond .ne 7, 3) := by decide +kernel
theorem dX6_isUnknown_7 : decode cX6_isUnknown 7 = .ok (.iconst 1, 1) := by decide +kernel
theorem dX6_isUnknown_8 : decode cX6_isUnknown 8 = .ok (.goto 4, 3) := by decide +kernel
theorem dX6_isUnknown_11 : decode cX6_isUnknown 11 = .ok (.iconst 0, 1) := by decide +kernel
theorem dX6_isUnknown_12 : decode cX6_isUnknown 12 = .ok (.ireturn, 1) := by decide +kernel
theorem dX6_isKnown_0 : decode cX6_isKnown 0 = .ok (.aload_n 0, 1) := by decide +kernel
theorem dX6_isKnown_1 : decode cX6_isKnown 1 = .ok (.getfield 11, 3) := by decide +kernel
theorem dX6_isKnown_4 : decode cX6_isKnown 4 = .ok (.iconst 1, 1) := by decide +kernel
theorem dX6_isKnown_5 : decode cX6_isKnown 5 = .ok (.if_icmp .ne 7, 3) := by decide +kernel
theorem dX6_isKnown_8 : decode cX6_isKnown 8 = .ok (.iconst 1, 1) := by decide +kernel
theorem dX6_isKnown_9 : decode cX6_isKnown 9 = .ok (.goto 4, 3) := by decide +kernel
theorem dX6_isKnown_12 : decode cX6_isKnown 12 = .ok (.iconst 0, 1) := by decide +kernel
theorem dX6_isKnown_13 : decode cX6_isKnown 13 = .ok (.ireturn, 1) := by decide +kernel
theorem dX6_isFinished_0 : decode cX6_isFinished 0 = .ok (.aload_n 0, 1) := by decide +kernel
theorem dX6_isFinished_1 : decode cX6_isFinished 1 = .ok (.getfield 11, 3) := by decide +kernel
theorem dX6_isFinished_4 : decode cX6_isFinished 4 = .ok (.iconst 2, 1) := by decide +kernel
theorem dX6_isFinished_5 : decode cX6_isFinished 5 = .ok (.if_icmp .ne 7, 3) := by decide +kernel
theorem dX6_isFinished_8 : decode cX6_isFinished 8 = .ok (.iconst 1, 1) := by decide +kernel
theorem dX6_isFinished_9 : decode cX6_isFinished 9 = .ok (.goto 4, 3) := by decide +kernel
theorem dX6_isFinished_12 : decode cX6_isFinished 12 = .ok (.iconst 0, 1) := by decide +kernel
theorem dX6_isFinished_13 : decode cX6_isFinished 13 = .ok (.ireturn, 1) := by decide +kernel
theorem dX6_holds_0 : decode cX6_holds 0 = .ok (.iload_n 1, 1) := by decide +kernel
theorem dX6_holds_1 : decode cX6_holds 1 = .ok (.ifCond .lt 26, 3) := by decide +kernel
theorem dX6_holds_4 : decode cX6_holds 4 = .ok (.iload_n 1, 1) := by decide +kernel
theorem dX6_holds_5 : decode cX6_holds 5 = .ok (.aload_n 0, 1) := by decide +kernel
theorem dX6_holds_6 : decode cX6_holds 6 = .ok (.getfield 37, 3) := by decide +kernel
theorem dX6_holds_9 : decode cX6_holds 9 = .ok (.if_icmp .ge 18, 3) := by decide +kernel
theorem dX6_holds_12 : decode cX6_holds 12 = .ok (.aload_n 0, 1) := by decide +kernel
theorem dX6_holds_13 : decode cX6_holds 13 = .ok (.getfield 18, 3) := by decide +kernel
theorem dX6_holds_16 : decode cX6_holds 16 = .ok (.iload_n 1, 1) := by decide +kernel
theorem dX6_holds_17 : decode cX6_holds 17 = .ok (.invokestatic 44, 3) := by decide +kernel
theorem dX6_holds_20 : decode cX6_holds 20 = .ok (.ifCond .eq 7, 3) := by decide +kernel
theorem dX6_holds_23 : decode cX6_holds 23 = .ok (.iconst 1, 1) := by decide +kernel
theorem dX6_holds_24 : decode cX6_holds 24 = .ok (.goto 4, 3) := by decide +kernel
theorem dX6_holds_27 : decode cX6_holds 27 = .ok (.iconst 0, 1) := by decide +kernel
theorem dX6_holds_28 : decode cX6_holds 28 = .ok (.ireturn, 1) := by decide +kernel
theorem dX6_missing_0 : decode cX6_missing 0 = .ok (.aload_n 0, 1) := by decide +kernel
theorem dX6_missing_1 : decode cX6_missing 1 = .ok (.getfield 37, 3) := by decide +kernel
theorem dX6_missing_4 : decode cX6_missing 4 = .ok (.aload_n 0, 1) := by decide +kernel
theorem dX6_missing_5 : decode cX6_missing 5 = .ok (.getfield 18, 3) := by decide +kernel
theorem dX6_missing_8 : decode cX6_missing 8 = .ok (.invokestatic 50, 3) := by decide +kernel
theorem dX6_missing_11 : decode cX6_missing 11 = .ok (.isub, 1) := by decide +kernel
theorem dX6_missing_12 : decode cX6_missing 12 = .ok (.ireturn, 1) := by decide +kernel
theorem dX6_grantedAndNotIn_0 : decode cX6_grantedAndNotIn 0 = .ok (.aload_n 0, 1) := by decide +kernel
theorem dX6_grantedAndNotIn_1 : decode cX6_grantedAndNotIn 1 = .ok (.invokevirtual 56, 3) := by decide +kernel
theorem dX6_grantedAndNotIn_4 : decode cX6_grantedAndNotIn 4 = .ok (.ifCond .eq 22, 3) := by decide +kernel
theorem dX6_grantedAndNotIn_7 : decode cX6_grantedAndNotIn 7 = .ok (.iconst 0, 1) := by decide +kernel
theorem dX6_grantedAndNotIn_8 : decode cX6_grantedAndNotIn 8 = .ok (.aload_n 0, 1) := by decide +kernel
theorem dX6_grantedAndNotIn_9 : decode cX6_grantedAndNotIn 9 = .ok (.getfield 22, 3) := by decide +kernel
theorem dX6_grantedAndNotIn_12 : decode cX6_grantedAndNotIn 12 = .ok (.aload_n 0, 1) := by decide +kernel
theorem dX6_grantedAndNotIn_13 : decode cX6_grantedAndNotIn 13 = .ok (.getfield 18, 3) := by decide +kernel
theorem dX6_grantedAndNotIn_16 : decode cX6_grantedAndNotIn 16 = .ok (.invokestatic 50, 3) := by decide +kernel
theorem dX6_grantedAndNotIn_19 : decode cX6_grantedAndNotIn 19 = .ok (.isub, 1) := by decide +kernel
theorem dX6_grantedAndNotIn_20 : decode cX6_grantedAndNotIn 20 = .ok (.invokestatic 60, 3) := by decide +kernel
theorem dX6_grantedAndNotIn_23 : decode cX6_grantedAndNotIn 23 = .ok (.goto 4, 3) := by decide +kernel
theorem dX6_grantedAndNotIn_26 : decode cX6_grantedAndNotIn 26 = .ok (.iconst 0, 1) := by decide +kernel
theorem dX6_grantedAndNotIn_27 : decode cX6_grantedAndNotIn 27 = .ok (.ireturn, 1) := by decide +kernel
theorem dX6_begin_0 : decode cX6_begin 0 = .ok (.aload_n 0, 1) := by decide +kernel
theorem dX6_begin_1 : decode cX6_begin 1 = .ok (.iconst 1, 1) := by decide +kernel
theorem dX6_begin_2 : decode cX6_begin 2 = .ok (.putfield 11, 3) := by decide +kernel
theorem dX6_begin_5 : decode cX6_begin 5 = .ok (.aload_n 0, 1) := by decide +kernel
theorem dX6_begin_6 : decode cX6_begin 6 = .ok (.iload_n 1, 1) := by decide +kernel
theorem dX6_begin_7 : decode cX6_begin 7 = .ok (.putfield 31, 3) := by decide +kernel
theorem dX6_begin_10 : decode cX6_begin 10 = .ok (.aload_n 0, 1) := by decide +kernel
theorem dX6_begin_11 : decode cX6_begin 11 = .ok (.lconst 0, 1) := by decide +kernel
theorem dX6_begin_12 : decode cX6_begin 12 = .ok (.putfield 18, 3) := by decide +kernel
theorem dX6_begin_15 : decode cX6_begin 15 = .ok (.aload_n 0, 1) := by decide +kernel
theorem dX6_begin_16 : decode cX6_begin 16 = .ok (.iconst 4, 1) := by decide +kernel
theorem dX6_begin_17 : decode cX6_begin 17 = .ok (.aload_n 0, 1) := by decide +kernel
theorem dX6_begin_18 : decode cX6_begin 18 = .ok (.getfield 37, 3) := by decide +kernel
theorem dX6_begin_21 : decode cX6_begin 21 = .ok (.invokestatic 66, 3) := by decide +kernel
theorem dX6_begin_24 : decode cX6_begin 24 = .ok (.putfield 22, 3) := by decide +kernel
theorem dX6_begin_27 : decode cX6_begin 27 = .ok (.return_, 1) := by decide +kernel
theorem dX6_take_0 : decode cX6_take 0 = .ok (.aload_n 0, 1) := by decide +kernel
theorem dX6_take_1 : decode cX6_take 1 = .ok (.iconst 0, 1) := by decide +kernel
theorem dX6_take_2 : decode cX6_take 2 = .ok (.putfield 25, 3) := by decide +kernel
theorem dX6_take_5 : decode cX6_take 5 = .ok (.aload_n 0, 1) := by decide +kernel
theorem dX6_take_6 : decode cX6_take 6 = .ok (.iconst 0, 1) := by decide +kernel
theorem dX6_take_7 : decode cX6_take 7 = .ok (.putfield 28, 3) := by decide +kernel
theorem dX6_take_10 : decode cX6_take 10 = .ok (.aload_n 0, 1) := by decide +kernel
theorem dX6_take_11 : decode cX6_take 11 = .ok (.aload_n 0, 1) := by decide +kernel
theorem dX6_take_12 : decode cX6_take 12 = .ok (.getfield 18, 3) := by decide +kernel
theorem dX6_take_15 : decode cX6_take 15 = .ok (.iload_n 1, 1) := by decide +kernel
theorem dX6_take_16 : decode cX6_take 16 = .ok (.invokestatic 69, 3) := by decide +kernel
theorem dX6_take_19 : decode cX6_take 19 = .ok (.putfield 18, 3) := by decide +kernel
theorem dX6_take_22 : decode cX6_take 22 = .ok (.aload_n 0, 1) := by decide +kernel
theorem dX6_take_23 : decode cX6_take 23 = .ok (.invokevirtual 73, 3) := by decide +kernel
theorem dX6_take_26 : decode cX6_take 26 = .ok (.ifCond .ne 23, 3) := by decide +kernel
theorem dX6_take_29 : decode cX6_take 29 = .ok (.aload_n 0, 1) := by decide +kernel
theorem dX6_take_30 : decode cX6_take 30 = .ok (.iconst 2, 1) := by decide +kernel
theorem dX6_take_31 : decode cX6_take 31 = .ok (.putfield 11, 3) := by decide +kernel
theorem dX6_take_34 : decode cX6_take 34 = .ok (.aload_n 0, 1) := by decide +kernel
theorem dX6_take_35 : decode cX6_take 35 = .ok (.dup, 1) := by decide +kernel
theorem dX6_take_36 : decode cX6_take 36 = .ok (.getfield 15, 3) := by decide +kernel
theorem dX6_take_39 : decode cX6_take 39 = .ok (.iconst 1, 1) := by decide +kernel
theorem dX6_take_40 : decode cX6_take 40 = .ok (.iadd, 1) := by decide +kernel
theorem dX6_take_41 : decode cX6_take 41 = .ok (.putfield 15, 3) := by decide +kernel
theorem dX6_take_44 : decode cX6_take 44 = .ok (.aload_n 0, 1) := by decide +kernel
theorem dX6_take_45 : decode cX6_take 45 = .ok (.iload_n 2, 1) := by decide +kernel
theorem dX6_take_46 : decode cX6_take 46 = .ok (.putfield 34, 3) := by decide +kernel
theorem dX6_take_49 : decode cX6_take 49 = .ok (.return_, 1) := by decide +kernel
theorem dX6_growSilence_0 : decode cX6_growSilence 0 = .ok (.aload_n 0, 1) := by decide +kernel
theorem dX6_growSilence_1 : decode cX6_growSilence 1 = .ok (.dup, 1) := by decide +kernel
theorem dX6_growSilence_2 : decode cX6_growSilence 2 = .ok (.getfield 25, 3) := by decide +kernel
theorem dX6_growSilence_5 : decode cX6_growSilence 5 = .ok (.iconst 1, 1) := by decide +kernel
theorem dX6_growSilence_6 : decode cX6_growSilence 6 = .ok (.iadd, 1) := by decide +kernel
theorem dX6_growSilence_7 : decode cX6_growSilence 7 = .ok (.putfield 25, 3) := by decide +kernel
theorem dX6_growSilence_10 : decode cX6_growSilence 10 = .ok (.aload_n 0, 1) := by decide +kernel
theorem dX6_growSilence_11 : decode cX6_growSilence 11 = .ok (.getfield 25, 3) := by decide +kernel
theorem dX6_growSilence_14 : decode cX6_growSilence 14 = .ok (.bipush 16, 2) := by decide +kernel
theorem dX6_growSilence_16 : decode cX6_growSilence 16 = .ok (.if_icmp .ge 5, 3) := by decide +kernel
theorem dX6_growSilence_19 : decode cX6_growSilence 19 = .ok (.iconst 0, 1) := by decide +kernel
theorem dX6_growSilence_20 : decode cX6_growSilence 20 = .ok (.ireturn, 1) := by decide +kernel
theorem dX6_growSilence_21 : decode cX6_growSilence 21 = .ok (.aload_n 0, 1) := by decide +kernel
theorem dX6_growSilence_22 : decode cX6_growSilence 22 = .ok (.iconst 0, 1) := by decide +kernel
theorem dX6_growSilence_23 : decode cX6_growSilence 23 = .ok (.putfield 25, 3) := by decide +kernel
theorem dX6_growSilence_26 : decode cX6_growSilence 26 = .ok (.aload_n 0, 1) := by decide +kernel
theorem dX6_growSilence_27 : decode cX6_growSilence 27 = .ok (.dup, 1) := by decide +kernel
theorem dX6_growSilence_28 : decode cX6_growSilence 28 = .ok (.getfield 28, 3) := by decide +kernel
theorem dX6_growSilence_31 : decode cX6_growSilence 31 = .ok (.iconst 1, 1) := by decide +kernel
theorem dX6_growSilence_32 : decode cX6_growSilence 32 = .ok (.iadd, 1) := by decide +kernel
theorem dX6_growSilence_33 : decode cX6_growSilence 33 = .ok (.putfield 28, 3) := by decide +kernel
theorem dX6_growSilence_36 : decode cX6_growSilence 36 = .ok (.aload_n 0, 1) := by decide +kernel
theorem dX6_growSilence_37 : decode cX6_growSilence 37 = .ok (.getfield 28, 3) := by decide +kernel
theorem dX6_growSilence_40 : decode cX6_growSilence 40 = .ok (.bipush 8, 2) := by decide +kernel
theorem dX6_growSilence_42 : decode cX6_growSilence 42 = .ok (.if_icmp .lt 9, 3) := by decide +kernel
theorem dX6_growSilence_45 : decode cX6_growSilence 45 = .ok (.aload_n 0, 1) := by decide +kernel
theorem dX6_growSilence_46 : decode cX6_growSilence 46 = .ok (.invokevirtual 77, 3) := by decide +kernel
theorem dX6_growSilence_49 : decode cX6_growSilence 49 = .ok (.iconst 0, 1) := by decide +kernel
theorem dX6_growSilence_50 : decode cX6_growSilence 50 = .ok (.ireturn, 1) := by decide +kernel
theorem dX6_growSilence_51 : decode cX6_growSilence 51 = .ok (.iconst 1, 1) := by decide +kernel
theorem dX6_growSilence_52 : decode cX6_growSilence 52 = .ok (.ireturn, 1) := by decide +kernel
theorem dX6_countOfAsk_0 : decode cX6_countOfAsk 0 = .ok (.bipush 64, 2) := by decide +kernel
theorem dX6_countOfAsk_2 : decode cX6_countOfAsk 2 = .ok (.aload_n 0, 1) := by decide +kernel
theorem dX6_countOfAsk_3 : decode cX6_countOfAsk 3 = .ok (.getfield 22, 3) := by decide +kernel
theorem dX6_countOfAsk_6 : decode cX6_countOfAsk 6 = .ok (.imul, 1) := by decide +kernel
theorem dX6_countOfAsk_7 : decode cX6_countOfAsk 7 = .ok (.aload_n 0, 1) := by decide +kernel
theorem dX6_countOfAsk_8 : decode cX6_countOfAsk 8 = .ok (.getfield 18, 3) := by decide +kernel
theorem dX6_countOfAsk_11 : decode cX6_countOfAsk 11 = .ok (.ldc2_w 80, 3) := by decide +kernel
theorem dX6_countOfAsk_14 : decode cX6_countOfAsk 14 = .ok (.lxor, 1) := by decide +kernel
theorem dX6_countOfAsk_15 : decode cX6_countOfAsk 15 = .ok (.invokestatic 82, 3) := by decide +kernel
theorem dX6_countOfAsk_18 : decode cX6_countOfAsk 18 = .ok (.iadd, 1) := by decide +kernel
theorem dX6_countOfAsk_19 : decode cX6_countOfAsk 19 = .ok (.ireturn, 1) := by decide +kernel
theorem dX6_forgetIfOld_0 : decode cX6_forgetIfOld 0 = .ok (.aload_n 0, 1) := by decide +kernel
theorem dX6_forgetIfOld_1 : decode cX6_forgetIfOld 1 = .ok (.getfield 40, 3) := by decide +kernel
theorem dX6_forgetIfOld_4 : decode cX6_forgetIfOld 4 = .ok (.ifCond .eq 25, 3) := by decide +kernel
theorem dX6_forgetIfOld_7 : decode cX6_forgetIfOld 7 = .ok (.aload_n 0, 1) := by decide +kernel
theorem dX6_forgetIfOld_8 : decode cX6_forgetIfOld 8 = .ok (.invokevirtual 85, 3) := by decide +kernel
theorem dX6_forgetIfOld_11 : decode cX6_forgetIfOld 11 = .ok (.ifCond .eq 18, 3) := by decide +kernel
theorem dX6_forgetIfOld_14 : decode cX6_forgetIfOld 14 = .ok (.iload_n 1, 1) := by decide +kernel
theorem dX6_forgetIfOld_15 : decode cX6_forgetIfOld 15 = .ok (.aload_n 0, 1) := by decide +kernel
theorem dX6_forgetIfOld_16 : decode cX6_forgetIfOld 16 = .ok (.getfield 34, 3) := by decide +kernel
theorem dX6_forgetIfOld_19 : decode cX6_forgetIfOld 19 = .ok (.isub, 1) := by decide +kernel
theorem dX6_forgetIfOld_20 : decode cX6_forgetIfOld 20 = .ok (.bipush 30, 2) := by decide +kernel
theorem dX6_forgetIfOld_22 : decode cX6_forgetIfOld 22 = .ok (.if_icmp .lt 7, 3) := by decide +kernel
theorem dX6_forgetIfOld_25 : decode cX6_forgetIfOld 25 = .ok (.aload_n 0, 1) := by decide +kernel
theorem dX6_forgetIfOld_26 : decode cX6_forgetIfOld 26 = .ok (.invokevirtual 77, 3) := by decide +kernel
theorem dX6_forgetIfOld_29 : decode cX6_forgetIfOld 29 = .ok (.return_, 1) := by decide +kernel
theorem dX6_forget_0 : decode cX6_forget 0 = .ok (.aload_n 0, 1) := by decide +kernel
theorem dX6_forget_1 : decode cX6_forget 1 = .ok (.iconst 0, 1) := by decide +kernel
theorem dX6_forget_2 : decode cX6_forget 2 = .ok (.putfield 11, 3) := by decide +kernel
theorem dX6_forget_5 : decode cX6_forget 5 = .ok (.aload_n 0, 1) := by decide +kernel
theorem dX6_forget_6 : decode cX6_forget 6 = .ok (.lconst 0, 1) := by decide +kernel
theorem dX6_forget_7 : decode cX6_forget 7 = .ok (.putfield 18, 3) := by decide +kernel
theorem dX6_forget_10 : decode cX6_forget 10 = .ok (.return_, 1) := by decide +kernel
theorem dX6_isAheadOf_0 : decode cX6_isAheadOf 0 = .ok (.aload_n 0, 1) := by decide +kernel
theorem dX6_isAheadOf_1 : decode cX6_isAheadOf 1 = .ok (.invokevirtual 73, 3) := by decide +kernel
theorem dX6_isAheadOf_4 : decode cX6_isAheadOf 4 = .ok (.aload_n 1, 1) := by decide +kernel
theorem dX6_isAheadOf_5 : decode cX6_isAheadOf 5 = .ok (.invokevirtual 73, 3) := by decide +kernel
theorem dX6_isAheadOf_8 : decode cX6_isAheadOf 8 = .ok (.if_icmp .eq 20, 3) := by decide +kernel
theorem dX6_isAheadOf_11 : decode cX6_isAheadOf 11 = .ok (.aload_n 0, 1) := by decide +kernel
theorem dX6_isAheadOf_12 : decode cX6_isAheadOf 12 = .ok (.invokevirtual 73, 3) := by decide +kernel
theorem dX6_isAheadOf_15 : decode cX6_isAheadOf 15 = .ok (.aload_n 1, 1) := by decide +kernel
theorem dX6_isAheadOf_16 : decode cX6_isAheadOf 16 = .ok (.invokevirtual 73, 3) := by decide +kernel
theorem dX6_isAheadOf_19 : decode cX6_isAheadOf 19 = .ok (.if_icmp .ge 7, 3) := by decide +kernel
theorem dX6_isAheadOf_22 : decode cX6_isAheadOf 22 = .ok (.iconst 1, 1) := by decide +kernel
theorem dX6_isAheadOf_23 : decode cX6_isAheadOf 23 = .ok (.goto 4, 3) := by decide +kernel
theorem dX6_isAheadOf_26 : decode cX6_isAheadOf 26 = .ok (.iconst 0, 1) := by decide +kernel
theorem dX6_isAheadOf_27 : decode cX6_isAheadOf 27 = .ok (.ireturn, 1) := by decide +kernel
theorem dX6_isAheadOf_28 : decode cX6_isAheadOf 28 = .ok (.aload_n 0, 1) := by decide +kernel
theorem dX6_isAheadOf_29 : decode cX6_isAheadOf 29 = .ok (.getfield 31, 3) := by decide +kernel
theorem dX6_isAheadOf_32 : decode cX6_isAheadOf 32 = .ok (.aload_n 1, 1) := by decide +kernel
theorem dX6_isAheadOf_33 : decode cX6_isAheadOf 33 = .ok (.getfield 31, 3) := by decide +kernel
theorem dX6_isAheadOf_36 : decode cX6_isAheadOf 36 = .ok (.if_icmp .ge 7, 3) := by decide +kernel
theorem dX6_isAheadOf_39 : decode cX6_isAheadOf 39 = .ok (.iconst 1, 1) := by decide +kernel
theorem dX6_isAheadOf_40 : decode cX6_isAheadOf 40 = .ok (.goto 4, 3) := by decide +kernel
theorem dX6_isAheadOf_43 : decode cX6_isAheadOf 43 = .ok (.iconst 0, 1) := by decide +kernel
theorem dX6_isAheadOf_44 : decode cX6_isAheadOf 44 = .ok (.ireturn, 1) := by decide +kernel
theorem dX6_growGranted_0 : decode cX6_growGranted 0 = .ok (.aload_n 0, 1) := by decide +kernel
theorem dX6_growGranted_1 : decode cX6_growGranted 1 = .ok (.getfield 37, 3) := by decide +kernel
theorem dX6_growGranted_4 : decode cX6_growGranted 4 = .ok (.aload_n 0, 1) := by decide +kernel
theorem dX6_growGranted_5 : decode cX6_growGranted 5 = .ok (.invokevirtual 73, 3) := by decide +kernel
theorem dX6_growGranted_8 : decode cX6_growGranted 8 = .ok (.isub, 1) := by decide +kernel
theorem dX6_growGranted_9 : decode cX6_growGranted 9 = .ok (.bipush 6, 2) := by decide +kernel
theorem dX6_growGranted_11 : decode cX6_growGranted 11 = .ok (.iadd, 1) := by decide +kernel
theorem dX6_growGranted_12 : decode cX6_growGranted 12 = .ok (.aload_n 0, 1) := by decide +kernel
theorem dX6_growGranted_13 : decode cX6_growGranted 13 = .ok (.getfield 37, 3) := by decide +kernel
theorem dX6_growGranted_16 : decode cX6_growGranted 16 = .ok (.invokestatic 66, 3) := by decide +kernel
theorem dX6_growGranted_19 : decode cX6_growGranted 19 = .ok (.istore_n 1, 1) := by decide +kernel
theorem dX6_growGranted_20 : decode cX6_growGranted 20 = .ok (.iload_n 1, 1) := by decide +kernel
theorem dX6_growGranted_21 : decode cX6_growGranted 21 = .ok (.aload_n 0, 1) := by decide +kernel
theorem dX6_growGranted_22 : decode cX6_growGranted 22 = .ok (.getfield 22, 3) := by decide +kernel
theorem dX6_growGranted_25 : decode cX6_growGranted 25 = .ok (.if_icmp .gt 5, 3) := by decide +kernel
theorem dX6_growGranted_28 : decode cX6_growGranted 28 = .ok (.iconst 0, 1) := by decide +kernel
theorem dX6_growGranted_29 : decode cX6_growGranted 29 = .ok (.ireturn, 1) := by decide +kernel
theorem dX6_growGranted_30 : decode cX6_growGranted 30 = .ok (.aload_n 0, 1) := by decide +kernel
theorem dX6_growGranted_31 : decode cX6_growGranted 31 = .ok (.iload_n 1, 1) := by decide +kernel
theorem dX6_growGranted_32 : decode cX6_growGranted 32 = .ok (.putfield 22, 3) := by decide +kernel
theorem dX6_growGranted_35 : decode cX6_growGranted 35 = .ok (.iconst 1, 1) := by decide +kernel
theorem dX6_growGranted_36 : decode cX6_growGranted 36 = .ok (.ireturn, 1) := by decide +kernel
theorem dX6_countOfGrant_0 : decode cX6_countOfGrant 0 = .ok (.iconst 4, 1) := by decide +kernel
theorem dX6_countOfGrant_1 : decode cX6_countOfGrant 1 = .ok (.aload_n 0, 1) := by decide +kernel
theorem dX6_countOfGrant_2 : decode cX6_countOfGrant 2 = .ok (.getfield 22, 3) := by decide +kernel
theorem dX6_countOfGrant_5 : decode cX6_countOfGrant 5 = .ok (.imul, 1) := by decide +kernel
theorem dX6_countOfGrant_6 : decode cX6_countOfGrant 6 = .ok (.iconst 1, 1) := by decide +kernel
theorem dX6_countOfGrant_7 : decode cX6_countOfGrant 7 = .ok (.iadd, 1) := by decide +kernel
theorem dX6_countOfGrant_8 : decode cX6_countOfGrant 8 = .ok (.iload_n 1, 1) := by decide +kernel
theorem dX6_countOfGrant_9 : decode cX6_countOfGrant 9 = .ok (.iadd, 1) := by decide +kernel
theorem dX6_countOfGrant_10 : decode cX6_countOfGrant 10 = .ok (.ireturn, 1) := by decide +kernel
theorem dX6_tell_0 : decode cX6_tell 0 = .ok (.iload_n 1, 1) := by decide +kernel
theorem dX6_tell_1 : decode cX6_tell 1 = .ok (.tableswitch 133 0 6 #[43, 48, 53, 69, 85, 101, 117], 43) := by decide +kernel
theorem dX6_tell_44 : decode cX6_tell 44 = .ok (.aload_n 0, 1) := by decide +kernel
theorem dX6_tell_45 : decode cX6_tell 45 = .ok (.getfield 11, 3) := by decide +kernel
theorem dX6_tell_48 : decode cX6_tell 48 = .ok (.ireturn, 1) := by decide +kernel
theorem dX6_tell_49 : decode cX6_tell 49 = .ok (.aload_n 0, 1) := by decide +kernel
theorem dX6_tell_50 : decode cX6_tell 50 = .ok (.getfield 15, 3) := by decide +kernel
theorem dX6_tell_53 : decode cX6_tell 53 = .ok (.ireturn, 1) := by decide +kernel
theorem dX6_tell_54 : decode cX6_tell 54 = .ok (.aload_n 0, 1) := by decide +kernel
theorem dX6_tell_55 : decode cX6_tell 55 = .ok (.invokevirtual 56, 3) := by decide +kernel
theorem dX6_tell_58 : decode cX6_tell 58 = .ok (.ifCond .eq 10, 3) := by decide +kernel
theorem dX6_tell_61 : decode cX6_tell 61 = .ok (.aload_n 0, 1) := by decide +kernel
theorem dX6_tell_62 : decode cX6_tell 62 = .ok (.invokevirtual 73, 3) := by decide +kernel
theorem dX6_tell_65 : decode cX6_tell 65 = .ok (.goto 4, 3) := by decide +kernel
theorem dX6_tell_68 : decode cX6_tell 68 = .ok (.iconst 0, 1) := by decide +kernel
theorem dX6_tell_69 : decode cX6_tell 69 = .ok (.ireturn, 1) := by decide +kernel
theorem dX6_tell_70 : decode cX6_tell 70 = .ok (.aload_n 0, 1) := by decide +kernel
theorem dX6_tell_71 : decode cX6_tell 71 = .ok (.invokevirtual 56, 3) := by decide +kernel
theorem dX6_tell_74 : decode cX6_tell 74 = .ok (.ifCond .eq 10, 3) := by decide +kernel
theorem dX6_tell_77 : decode cX6_tell 77 = .ok (.aload_n 0, 1) := by decide +kernel
theorem dX6_tell_78 : decode cX6_tell 78 = .ok (.getfield 22, 3) := by decide +kernel
theorem dX6_tell_81 : decode cX6_tell 81 = .ok (.goto 4, 3) := by decide +kernel
theorem dX6_tell_84 : decode cX6_tell 84 = .ok (.iconst 0, 1) := by decide +kernel
theorem dX6_tell_85 : decode cX6_tell 85 = .ok (.ireturn, 1) := by decide +kernel
theorem dX6_tell_86 : decode cX6_tell 86 = .ok (.aload_n 0, 1) := by decide +kernel
theorem dX6_tell_87 : decode cX6_tell 87 = .ok (.invokevirtual 56, 3) := by decide +kernel
theorem dX6_tell_90 : decode cX6_tell 90 = .ok (.ifCond .eq 10, 3) := by decide +kernel
theorem dX6_tell_93 : decode cX6_tell 93 = .ok (.aload_n 0, 1) := by decide +kernel
theorem dX6_tell_94 : decode cX6_tell 94 = .ok (.getfield 25, 3) := by decide +kernel
theorem dX6_tell_97 : decode cX6_tell 97 = .ok (.goto 4, 3) := by decide +kernel
theorem dX6_tell_100 : decode cX6_tell 100 = .ok (.iconst 0, 1) := by decide +kernel
theorem dX6_tell_101 : decode cX6_tell 101 = .ok (.ireturn, 1) := by decide +kernel
theorem dX6_tell_102 : decode cX6_tell 102 = .ok (.aload_n 0, 1) := by decide +kernel
theorem dX6_tell_103 : decode cX6_tell 103 = .ok (.invokevirtual 56, 3) := by decide +kernel
theorem dX6_tell_106 : decode cX6_tell 106 = .ok (.ifCond .eq 10, 3) := by decide +kernel
theorem dX6_tell_109 : decode cX6_tell 109 = .ok (.aload_n 0, 1) := by decide +kernel
theorem dX6_tell_110 : decode cX6_tell 110 = .ok (.getfield 28, 3) := by decide +kernel
theorem dX6_tell_113 : decode cX6_tell 113 = .ok (.goto 4, 3) := by decide +kernel
theorem dX6_tell_116 : decode cX6_tell 116 = .ok (.iconst 0, 1) := by decide +kernel
theorem dX6_tell_117 : decode cX6_tell 117 = .ok (.ireturn, 1) := by decide +kernel
theorem dX6_tell_118 : decode cX6_tell 118 = .ok (.aload_n 0, 1) := by decide +kernel
theorem dX6_tell_119 : decode cX6_tell 119 = .ok (.invokevirtual 56, 3) := by decide +kernel
theorem dX6_tell_122 : decode cX6_tell 122 = .ok (.ifCond .eq 10, 3) := by decide +kernel
theorem dX6_tell_125 : decode cX6_tell 125 = .ok (.aload_n 0, 1) := by decide +kernel
theorem dX6_tell_126 : decode cX6_tell 126 = .ok (.getfield 31, 3) := by decide +kernel
theorem dX6_tell_129 : decode cX6_tell 129 = .ok (.goto 4, 3) := by decide +kernel
theorem dX6_tell_132 : decode cX6_tell 132 = .ok (.iconst 0, 1) := by decide +kernel
theorem dX6_tell_133 : decode cX6_tell 133 = .ok (.ireturn, 1) := by decide +kernel
theorem dX6_tell_134 : decode cX6_tell 134 = .ok (.iconst (-1), 1) := by decide +kernel
theorem dX6_tell_135 : decode cX6_tell 135 = .ok (.ireturn, 1) := by decide +kernel
theorem dX7_init_0 : decode cX7_init 0 = .ok (.aload_n 0, 1) := by decide +kernel
theorem dX7_init_1 : decode cX7_init 1 = .ok (.invokespecial 1, 3) := by decide +kernel
theorem dX7_init_4 : decode cX7_init 4 = .ok (.aload_n 0, 1) := by decide +kernel
theorem dX7_init_5 : decode cX7_init 5 = .ok (.iconst 0, 1) := by decide +kernel
theorem dX7_init_6 : decode cX7_init 6 = .ok (.putfield 7, 3) := by decide +kernel
theorem dX7_init_9 : decode cX7_init 9 = .ok (.aload_n 0, 1) := by decide +kernel
theorem dX7_init_10 : decode cX7_init 10 = .ok (.iconst 0, 1) := by decide +kernel
theorem dX7_init_11 : decode cX7_init 11 = .ok (.putfield 13, 3) := by decide +kernel
theorem dX7_init_14 : decode cX7_init 14 = .ok (.aload_n 0, 1) := by decide +kernel
theorem dX7_init_15 : decode cX7_init 15 = .ok (.iload_n 1, 1) := by decide +kernel
theorem dX7_init_16 : decode cX7_init 16 = .ok (.newarray .int, 2) := by decide +kernel
theorem dX7_init_18 : decode cX7_init 18 = .ok (.putfield 16, 3) := by decide +kernel
theorem dX7_init_21 : decode cX7_init 21 = .ok (.return_, 1) := by decide +kernel
theorem dX7_size_0 : decode cX7_size 0 = .ok (.aload_n 0, 1) := by decide +kernel
theorem dX7_size_1 : decode cX7_size 1 = .ok (.getfield 13, 3) := by decide +kernel
theorem dX7_size_4 : decode cX7_size 4 = .ok (.ireturn, 1) := by decide +kernel
theorem dX7_put_0 : decode cX7_put 0 = .ok (.aload_n 0, 1) := by decide +kernel
theorem dX7_put_1 : decode cX7_put 1 = .ok (.getfield 13, 3) := by decide +kernel
theorem dX7_put_4 : decode cX7_put 4 = .ok (.aload_n 0, 1) := by decide +kernel
theorem dX7_put_5 : decode cX7_put 5 = .ok (.getfield 16, 3) := by decide +kernel
theorem dX7_put_8 : decode cX7_put 8 = .ok (.arraylength, 1) := by decide +kernel
theorem dX7_put_9 : decode cX7_put 9 = .ok (.if_icmp .lt 5, 3) := by decide +kernel
theorem dX7_put_12 : decode cX7_put 12 = .ok (.iconst 0, 1) := by decide +kernel
theorem dX7_put_13 : decode cX7_put 13 = .ok (.ireturn, 1) := by decide +kernel
theorem dX7_put_14 : decode cX7_put 14 = .ok (.aload_n 0, 1) := by decide +kernel
theorem dX7_put_15 : decode cX7_put 15 = .ok (.getfield 7, 3) := by decide +kernel
theorem dX7_put_18 : decode cX7_put 18 = .ok (.aload_n 0, 1) := by decide +kernel
theorem dX7_put_19 : decode cX7_put 19 = .ok (.getfield 13, 3) := by decide +kernel
theorem dX7_put_22 : decode cX7_put 22 = .ok (.iadd, 1) := by decide +kernel
theorem dX7_put_23 : decode cX7_put 23 = .ok (.istore_n 2, 1) := by decide +kernel
theorem dX7_put_24 : decode cX7_put 24 = .ok (.aload_n 0, 1) := by decide +kernel
theorem dX7_put_25 : decode cX7_put 25 = .ok (.getfield 16, 3) := by decide +kernel
theorem dX7_put_28 : decode cX7_put 28 = .ok (.iload_n 2, 1) := by decide +kernel
theorem dX7_put_29 : decode cX7_put 29 = .ok (.aload_n 0, 1) := by decide +kernel
theorem dX7_put_30 : decode cX7_put 30 = .ok (.getfield 16, 3) := by decide +kernel
theorem dX7_put_33 : decode cX7_put 33 = .ok (.arraylength, 1) := by decide +kernel
theorem dX7_put_34 : decode cX7_put 34 = .ok (.if_icmp .ge 7, 3) := by decide +kernel
theorem dX7_put_37 : decode cX7_put 37 = .ok (.iload_n 2, 1) := by decide +kernel
theorem dX7_put_38 : decode cX7_put 38 = .ok (.goto 10, 3) := by decide +kernel
theorem dX7_put_41 : decode cX7_put 41 = .ok (.iload_n 2, 1) := by decide +kernel
theorem dX7_put_42 : decode cX7_put 42 = .ok (.aload_n 0, 1) := by decide +kernel
theorem dX7_put_43 : decode cX7_put 43 = .ok (.getfield 16, 3) := by decide +kernel
theorem dX7_put_46 : decode cX7_put 46 = .ok (.arraylength, 1) := by decide +kernel
theorem dX7_put_47 : decode cX7_put 47 = .ok (.isub, 1) := by decide +kernel
theorem dX7_put_48 : decode cX7_put 48 = .ok (.iload_n 1, 1) := by decide +kernel
theorem dX7_put_49 : decode cX7_put 49 = .ok (.iastore, 1) := by decide +kernel
theorem dX7_put_50 : decode cX7_put 50 = .ok (.aload_n 0, 1) := by decide +kernel
theorem dX7_put_51 : decode cX7_put 51 = .ok (.dup, 1) := by decide +kernel
theorem dX7_put_52 : decode cX7_put 52 = .ok (.getfield 13, 3) := by decide +kernel
theorem dX7_put_55 : decode cX7_put 55 = .ok (.iconst 1, 1) := by decide +kernel
theorem dX7_put_56 : decode cX7_put 56 = .ok (.iadd, 1) := by decide +kernel
theorem dX7_put_57 : decode cX7_put 57 = .ok (.putfield 13, 3) := by decide +kernel
theorem dX7_put_60 : decode cX7_put 60 = .ok (.iconst 1, 1) := by decide +kernel
theorem dX7_put_61 : decode cX7_put 61 = .ok (.ireturn, 1) := by decide +kernel
theorem dX7_take_0 : decode cX7_take 0 = .ok (.aload_n 0, 1) := by decide +kernel
theorem dX7_take_1 : decode cX7_take 1 = .ok (.getfield 13, 3) := by decide +kernel
theorem dX7_take_4 : decode cX7_take 4 = .ok (.ifCond .ne 5, 3) := by decide +kernel
theorem dX7_take_7 : decode cX7_take 7 = .ok (.iconst (-1), 1) := by decide +kernel
theorem dX7_take_8 : decode cX7_take 8 = .ok (.ireturn, 1) := by decide +kernel
theorem dX7_take_9 : decode cX7_take 9 = .ok (.aload_n 0, 1) := by decide +kernel
theorem dX7_take_10 : decode cX7_take 10 = .ok (.getfield 16, 3) := by decide +kernel
theorem dX7_take_13 : decode cX7_take 13 = .ok (.aload_n 0, 1) := by decide +kernel
theorem dX7_take_14 : decode cX7_take 14 = .ok (.getfield 7, 3) := by decide +kernel
theorem dX7_take_17 : decode cX7_take 17 = .ok (.iaload, 1) := by decide +kernel
theorem dX7_take_18 : decode cX7_take 18 = .ok (.istore_n 1, 1) := by decide +kernel
theorem dX7_take_19 : decode cX7_take 19 = .ok (.aload_n 0, 1) := by decide +kernel
theorem dX7_take_20 : decode cX7_take 20 = .ok (.aload_n 0, 1) := by decide +kernel
theorem dX7_take_21 : decode cX7_take 21 = .ok (.getfield 7, 3) := by decide +kernel
theorem dX7_take_24 : decode cX7_take 24 = .ok (.iconst 1, 1) := by decide +kernel
theorem dX7_take_25 : decode cX7_take 25 = .ok (.iadd, 1) := by decide +kernel
theorem dX7_take_26 : decode cX7_take 26 = .ok (.aload_n 0, 1) := by decide +kernel
theorem dX7_take_27 : decode cX7_take 27 = .ok (.getfield 16, 3) := by decide +kernel
theorem dX7_take_30 : decode cX7_take 30 = .ok (.arraylength, 1) := by decide +kernel
theorem dX7_take_31 : decode cX7_take 31 = .ok (.if_icmp .ge 12, 3) := by decide +kernel
theorem dX7_take_34 : decode cX7_take 34 = .ok (.aload_n 0, 1) := by decide +kernel
theorem dX7_take_35 : decode cX7_take 35 = .ok (.getfield 7, 3) := by decide +kernel
theorem dX7_take_38 : decode cX7_take 38 = .ok (.iconst 1, 1) := by decide +kernel
theorem dX7_take_39 : decode cX7_take 39 = .ok (.iadd, 1) := by decide +kernel
theorem dX7_take_40 : decode cX7_take 40 = .ok (.goto 4, 3) := by decide +kernel
theorem dX7_take_43 : decode cX7_take 43 = .ok (.iconst 0, 1) := by decide +kernel
theorem dX7_take_44 : decode cX7_take 44 = .ok (.putfield 7, 3) := by decide +kernel
theorem dX7_take_47 : decode cX7_take 47 = .ok (.aload_n 0, 1) := by decide +kernel
theorem dX7_take_48 : decode cX7_take 48 = .ok (.dup, 1) := by decide +kernel
theorem dX7_take_49 : decode cX7_take 49 = .ok (.getfield 13, 3) := by decide +kernel
theorem dX7_take_52 : decode cX7_take 52 = .ok (.iconst 1, 1) := by decide +kernel
theorem dX7_take_53 : decode cX7_take 53 = .ok (.isub, 1) := by decide +kernel
theorem dX7_take_54 : decode cX7_take 54 = .ok (.putfield 13, 3) := by decide +kernel
theorem dX7_take_57 : decode cX7_take 57 = .ok (.iload_n 1, 1) := by decide +kernel
theorem dX7_take_58 : decode cX7_take 58 = .ok (.ireturn, 1) := by decide +kernel
theorem dX8_init_0 : decode cX8_init 0 = .ok (.aload_n 0, 1) := by decide +kernel
theorem dX8_init_1 : decode cX8_init 1 = .ok (.invokespecial 3, 3) := by decide +kernel
theorem dX8_init_4 : decode cX8_init 4 = .ok (.aload_n 0, 1) := by decide +kernel
theorem dX8_init_5 : decode cX8_init 5 = .ok (.iconst 0, 1) := by decide +kernel
theorem dX8_init_6 : decode cX8_init 6 = .ok (.putfield 11, 3) := by decide +kernel
theorem dX8_init_9 : decode cX8_init 9 = .ok (.aload_n 0, 1) := by decide +kernel
theorem dX8_init_10 : decode cX8_init 10 = .ok (.iconst 0, 1) := by decide +kernel
theorem dX8_init_11 : decode cX8_init 11 = .ok (.putfield 15, 3) := by decide +kernel
theorem dX8_init_14 : decode cX8_init 14 = .ok (.aload_n 0, 1) := by decide +kernel
theorem dX8_init_15 : decode cX8_init 15 = .ok (.iconst 3, 1) := by decide +kernel
theorem dX8_init_16 : decode cX8_init 16 = .ok (.putfield 18, 3) := by decide +kernel
theorem dX8_init_19 : decode cX8_init 19 = .ok (.aload_n 0, 1) := by decide +kernel
theorem dX8_init_20 : decode cX8_init 20 = .ok (.lconst 0, 1) := by decide +kernel
theorem dX8_init_21 : decode cX8_init 21 = .ok (.putfield 21, 3) := by decide +kernel
theorem dX8_init_24 : decode cX8_init 24 = .ok (.aload_n 0, 1) := by decide +kernel
theorem dX8_init_25 : decode cX8_init 25 = .ok (.iconst 0, 1) := by decide +kernel
theorem dX8_init_26 : decode cX8_init 26 = .ok (.putfield 25, 3) := by decide +kernel
theorem dX8_init_29 : decode cX8_init 29 = .ok (.aload_n 0, 1) := by decide +kernel
theorem dX8_init_30 : decode cX8_init 30 = .ok (.iconst 0, 1) := by decide +kernel
theorem dX8_init_31 : decode cX8_init 31 = .ok (.putfield 28, 3) := by decide +kernel
theorem dX8_init_34 : decode cX8_init 34 = .ok (.aload_n 0, 1) := by decide +kernel
theorem dX8_init_35 : decode cX8_init 35 = .ok (.iconst 0, 1) := by decide +kernel
theorem dX8_init_36 : decode cX8_init 36 = .ok (.putfield 31, 3) := by decide +kernel
theorem dX8_init_39 : decode cX8_init 39 = .ok (.aload_n 0, 1) := by decide +kernel
theorem dX8_init_40 : decode cX8_init 40 = .ok (.iload_n 1, 1) := by decide +kernel
theorem dX8_init_41 : decode cX8_init 41 = .ok (.putfield 34, 3) := by decide +kernel
theorem dX8_init_44 : decode cX8_init 44 = .ok (.aload_n 0, 1) := by decide +kernel
theorem dX8_init_45 : decode cX8_init 45 = .ok (.iconst 4, 1) := by decide +kernel
theorem dX8_init_46 : decode cX8_init 46 = .ok (.iload_n 1, 1) := by decide +kernel
theorem dX8_init_47 : decode cX8_init 47 = .ok (.invokestatic 37, 3) := by decide +kernel
theorem dX8_init_50 : decode cX8_init 50 = .ok (.putfield 43, 3) := by decide +kernel
theorem dX8_init_53 : decode cX8_init 53 = .ok (.return_, 1) := by decide +kernel
theorem dX8_left_0 : decode cX8_left 0 = .ok (.aload_n 0, 1) := by decide +kernel
theorem dX8_left_1 : decode cX8_left 1 = .ok (.getfield 34, 3) := by decide +kernel
theorem dX8_left_4 : decode cX8_left 4 = .ok (.aload_n 0, 1) := by decide +kernel
theorem dX8_left_5 : decode cX8_left 5 = .ok (.getfield 15, 3) := by decide +kernel
theorem dX8_left_8 : decode cX8_left 8 = .ok (.isub, 1) := by decide +kernel
theorem dX8_left_9 : decode cX8_left 9 = .ok (.aload_n 0, 1) := by decide +kernel
theorem dX8_left_10 : decode cX8_left 10 = .ok (.getfield 21, 3) := by decide +kernel
theorem dX8_left_13 : decode cX8_left 13 = .ok (.invokestatic 46, 3) := by decide +kernel
theorem dX8_left_16 : decode cX8_left 16 = .ok (.iadd, 1) := by decide +kernel
theorem dX8_left_17 : decode cX8_left 17 = .ok (.ireturn, 1) := by decide +kernel
theorem dX8_level_0 : decode cX8_level 0 = .ok (.aload_n 0, 1) := by decide +kernel
theorem dX8_level_1 : decode cX8_level 1 = .ok (.getfield 18, 3) := by decide +kernel
theorem dX8_level_4 : decode cX8_level 4 = .ok (.ireturn, 1) := by decide +kernel
theorem dX8_canSend_0 : decode cX8_canSend 0 = .ok (.aload_n 0, 1) := by decide +kernel
theorem dX8_canSend_1 : decode cX8_canSend 1 = .ok (.getfield 11, 3) := by decide +kernel
theorem dX8_canSend_4 : decode cX8_canSend 4 = .ok (.ifCond .ne 27, 3) := by decide +kernel
theorem dX8_canSend_7 : decode cX8_canSend 7 = .ok (.aload_n 0, 1) := by decide +kernel
theorem dX8_canSend_8 : decode cX8_canSend 8 = .ok (.getfield 21, 3) := by decide +kernel
theorem dX8_canSend_11 : decode cX8_canSend 11 = .ok (.lconst 0, 1) := by decide +kernel
theorem dX8_canSend_12 : decode cX8_canSend 12 = .ok (.lcmp, 1) := by decide +kernel
theorem dX8_canSend_13 : decode cX8_canSend 13 = .ok (.ifCond .ne 14, 3) := by decide +kernel
theorem dX8_canSend_16 : decode cX8_canSend 16 = .ok (.aload_n 0, 1) := by decide +kernel
theorem dX8_canSend_17 : decode cX8_canSend 17 = .ok (.getfield 15, 3) := by decide +kernel
theorem dX8_canSend_20 : decode cX8_canSend 20 = .ok (.aload_n 0, 1) := by decide +kernel
theorem dX8_canSend_21 : decode cX8_canSend 21 = .ok (.getfield 43, 3) := by decide +kernel
theorem dX8_canSend_24 : decode cX8_canSend 24 = .ok (.if_icmp .ge 7, 3) := by decide +kernel
theorem dX8_canSend_27 : decode cX8_canSend 27 = .ok (.iconst 1, 1) := by decide +kernel
theorem dX8_canSend_28 : decode cX8_canSend 28 = .ok (.goto 4, 3) := by decide +kernel
theorem dX8_canSend_31 : decode cX8_canSend 31 = .ok (.iconst 0, 1) := by decide +kernel
theorem dX8_canSend_32 : decode cX8_canSend 32 = .ok (.ireturn, 1) := by decide +kernel
theorem dX8_takePlace_0 : decode cX8_takePlace 0 = .ok (.aload_n 0, 1) := by decide +kernel
theorem dX8_takePlace_1 : decode cX8_takePlace 1 = .ok (.getfield 21, 3) := by decide +kernel
theorem dX8_takePlace_4 : decode cX8_takePlace 4 = .ok (.lconst 0, 1) := by decide +kernel
theorem dX8_takePlace_5 : decode cX8_takePlace 5 = .ok (.lcmp, 1) := by decide +kernel
theorem dX8_takePlace_6 : decode cX8_takePlace 6 = .ok (.ifCond .ne 20, 3) := by decide +kernel
theorem dX8_takePlace_9 : decode cX8_takePlace 9 = .ok (.aload_n 0, 1) := by decide +kernel
theorem dX8_takePlace_10 : decode cX8_takePlace 10 = .ok (.dup, 1) := by decide +kernel
theorem dX8_takePlace_11 : decode cX8_takePlace 11 = .ok (.getfield 15, 3) := by decide +kernel
theorem dX8_takePlace_14 : decode cX8_takePlace 14 = .ok (.iconst 1, 1) := by decide +kernel
theorem dX8_takePlace_15 : decode cX8_takePlace 15 = .ok (.iadd, 1) := by decide +kernel
