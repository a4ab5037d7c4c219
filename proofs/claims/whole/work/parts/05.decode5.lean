theorem dX10_isChosen_13 : decode cX10_isChosen 13 = .ok (.getfield 122, 3) := by decide +kernel
theorem dX10_isChosen_16 : decode cX10_isChosen 16 = .ok (.iconst 3, 1) := by decide +kernel
theorem dX10_isChosen_17 : decode cX10_isChosen 17 = .ok (.iload_n 1, 1) := by decide +kernel
theorem dX10_isChosen_18 : decode cX10_isChosen 18 = .ok (.imul, 1) := by decide +kernel
theorem dX10_isChosen_19 : decode cX10_isChosen 19 = .ok (.iload_n 3, 1) := by decide +kernel
theorem dX10_isChosen_20 : decode cX10_isChosen 20 = .ok (.iadd, 1) := by decide +kernel
theorem dX10_isChosen_21 : decode cX10_isChosen 21 = .ok (.iaload, 1) := by decide +kernel
theorem dX10_isChosen_22 : decode cX10_isChosen 22 = .ok (.iload_n 2, 1) := by decide +kernel
theorem dX10_isChosen_23 : decode cX10_isChosen 23 = .ok (.if_icmp .ne 5, 3) := by decide +kernel
theorem dX10_isChosen_26 : decode cX10_isChosen 26 = .ok (.iconst 1, 1) := by decide +kernel
theorem dX10_isChosen_27 : decode cX10_isChosen 27 = .ok (.ireturn, 1) := by decide +kernel
theorem dX10_isChosen_28 : decode cX10_isChosen 28 = .ok (.iinc 3 1, 3) := by decide +kernel
theorem dX10_isChosen_31 : decode cX10_isChosen 31 = .ok (.goto (-29), 3) := by decide +kernel
theorem dX10_isChosen_34 : decode cX10_isChosen 34 = .ok (.iconst 0, 1) := by decide +kernel
theorem dX10_isChosen_35 : decode cX10_isChosen 35 = .ok (.ireturn, 1) := by decide +kernel
theorem dX10_isAhead_0 : decode cX10_isAhead 0 = .ok (.aload_n 0, 1) := by decide +kernel
theorem dX10_isAhead_1 : decode cX10_isAhead 1 = .ok (.iload_n 1, 1) := by decide +kernel
theorem dX10_isAhead_2 : decode cX10_isAhead 2 = .ok (.invokevirtual 173, 3) := by decide +kernel
theorem dX10_isAhead_5 : decode cX10_isAhead 5 = .ok (.istore_n 3, 1) := by decide +kernel
theorem dX10_isAhead_6 : decode cX10_isAhead 6 = .ok (.aload_n 0, 1) := by decide +kernel
theorem dX10_isAhead_7 : decode cX10_isAhead 7 = .ok (.iload_n 2, 1) := by decide +kernel
theorem dX10_isAhead_8 : decode cX10_isAhead 8 = .ok (.invokevirtual 173, 3) := by decide +kernel
theorem dX10_isAhead_11 : decode cX10_isAhead 11 = .ok (.istore 4, 2) := by decide +kernel
theorem dX10_isAhead_13 : decode cX10_isAhead 13 = .ok (.iload_n 3, 1) := by decide +kernel
theorem dX10_isAhead_14 : decode cX10_isAhead 14 = .ok (.iload 4, 2) := by decide +kernel
theorem dX10_isAhead_16 : decode cX10_isAhead 16 = .ok (.if_icmp .eq 17, 3) := by decide +kernel
theorem dX10_isAhead_19 : decode cX10_isAhead 19 = .ok (.iload_n 3, 1) := by decide +kernel
theorem dX10_isAhead_20 : decode cX10_isAhead 20 = .ok (.iload 4, 2) := by decide +kernel
theorem dX10_isAhead_22 : decode cX10_isAhead 22 = .ok (.if_icmp .ge 7, 3) := by decide +kernel
theorem dX10_isAhead_25 : decode cX10_isAhead 25 = .ok (.iconst 1, 1) := by decide +kernel
theorem dX10_isAhead_26 : decode cX10_isAhead 26 = .ok (.goto 27, 3) := by decide +kernel
theorem dX10_isAhead_29 : decode cX10_isAhead 29 = .ok (.iconst 0, 1) := by decide +kernel
theorem dX10_isAhead_30 : decode cX10_isAhead 30 = .ok (.goto 23, 3) := by decide +kernel
theorem dX10_isAhead_33 : decode cX10_isAhead 33 = .ok (.aload_n 0, 1) := by decide +kernel
theorem dX10_isAhead_34 : decode cX10_isAhead 34 = .ok (.getfield 95, 3) := by decide +kernel
theorem dX10_isAhead_37 : decode cX10_isAhead 37 = .ok (.iload_n 1, 1) := by decide +kernel
theorem dX10_isAhead_38 : decode cX10_isAhead 38 = .ok (.iaload, 1) := by decide +kernel
theorem dX10_isAhead_39 : decode cX10_isAhead 39 = .ok (.aload_n 0, 1) := by decide +kernel
theorem dX10_isAhead_40 : decode cX10_isAhead 40 = .ok (.getfield 95, 3) := by decide +kernel
theorem dX10_isAhead_43 : decode cX10_isAhead 43 = .ok (.iload_n 2, 1) := by decide +kernel
theorem dX10_isAhead_44 : decode cX10_isAhead 44 = .ok (.iaload, 1) := by decide +kernel
theorem dX10_isAhead_45 : decode cX10_isAhead 45 = .ok (.if_icmp .ge 7, 3) := by decide +kernel
theorem dX10_isAhead_48 : decode cX10_isAhead 48 = .ok (.iconst 1, 1) := by decide +kernel
theorem dX10_isAhead_49 : decode cX10_isAhead 49 = .ok (.goto 4, 3) := by decide +kernel
theorem dX10_isAhead_52 : decode cX10_isAhead 52 = .ok (.iconst 0, 1) := by decide +kernel
theorem dX10_isAhead_53 : decode cX10_isAhead 53 = .ok (.ireturn, 1) := by decide +kernel
theorem dX10_answer_0 : decode cX10_answer 0 = .ok (.aload_n 0, 1) := by decide +kernel
theorem dX10_answer_1 : decode cX10_answer 1 = .ok (.getfield 56, 3) := by decide +kernel
theorem dX10_answer_4 : decode cX10_answer 4 = .ok (.iload_n 2, 1) := by decide +kernel
theorem dX10_answer_5 : decode cX10_answer 5 = .ok (.iaload, 1) := by decide +kernel
theorem dX10_answer_6 : decode cX10_answer 6 = .ok (.ifCond .eq 4, 3) := by decide +kernel
theorem dX10_answer_9 : decode cX10_answer 9 = .ok (.return_, 1) := by decide +kernel
theorem dX10_answer_10 : decode cX10_answer 10 = .ok (.aload_n 0, 1) := by decide +kernel
theorem dX10_answer_11 : decode cX10_answer 11 = .ok (.getfield 68, 3) := by decide +kernel
theorem dX10_answer_14 : decode cX10_answer 14 = .ok (.iload_n 2, 1) := by decide +kernel
theorem dX10_answer_15 : decode cX10_answer 15 = .ok (.iconst 0, 1) := by decide +kernel
theorem dX10_answer_16 : decode cX10_answer 16 = .ok (.iastore, 1) := by decide +kernel
theorem dX10_answer_17 : decode cX10_answer 17 = .ok (.aload_n 0, 1) := by decide +kernel
theorem dX10_answer_18 : decode cX10_answer 18 = .ok (.getfield 71, 3) := by decide +kernel
theorem dX10_answer_21 : decode cX10_answer 21 = .ok (.iload_n 2, 1) := by decide +kernel
theorem dX10_answer_22 : decode cX10_answer 22 = .ok (.iconst 0, 1) := by decide +kernel
theorem dX10_answer_23 : decode cX10_answer 23 = .ok (.iastore, 1) := by decide +kernel
theorem dX10_answer_24 : decode cX10_answer 24 = .ok (.iload_n 1, 1) := by decide +kernel
theorem dX10_answer_25 : decode cX10_answer 25 = .ok (.iconst 1, 1) := by decide +kernel
theorem dX10_answer_26 : decode cX10_answer 26 = .ok (.if_icmp .ne 45, 3) := by decide +kernel
theorem dX10_answer_29 : decode cX10_answer 29 = .ok (.aload_n 0, 1) := by decide +kernel
theorem dX10_answer_30 : decode cX10_answer 30 = .ok (.getfield 62, 3) := by decide +kernel
theorem dX10_answer_33 : decode cX10_answer 33 = .ok (.iload_n 2, 1) := by decide +kernel
theorem dX10_answer_34 : decode cX10_answer 34 = .ok (.iload_n 3, 1) := by decide +kernel
theorem dX10_answer_35 : decode cX10_answer 35 = .ok (.iconst 4, 1) := by decide +kernel
theorem dX10_answer_36 : decode cX10_answer 36 = .ok (.idiv, 1) := by decide +kernel
theorem dX10_answer_37 : decode cX10_answer 37 = .ok (.aload_n 0, 1) := by decide +kernel
theorem dX10_answer_38 : decode cX10_answer 38 = .ok (.getfield 62, 3) := by decide +kernel
theorem dX10_answer_41 : decode cX10_answer 41 = .ok (.iload_n 2, 1) := by decide +kernel
theorem dX10_answer_42 : decode cX10_answer 42 = .ok (.iaload, 1) := by decide +kernel
theorem dX10_answer_43 : decode cX10_answer 43 = .ok (.if_icmp .le 9, 3) := by decide +kernel
theorem dX10_answer_46 : decode cX10_answer 46 = .ok (.iload_n 3, 1) := by decide +kernel
theorem dX10_answer_47 : decode cX10_answer 47 = .ok (.iconst 4, 1) := by decide +kernel
theorem dX10_answer_48 : decode cX10_answer 48 = .ok (.idiv, 1) := by decide +kernel
theorem dX10_answer_49 : decode cX10_answer 49 = .ok (.goto 9, 3) := by decide +kernel
theorem dX10_answer_52 : decode cX10_answer 52 = .ok (.aload_n 0, 1) := by decide +kernel
theorem dX10_answer_53 : decode cX10_answer 53 = .ok (.getfield 62, 3) := by decide +kernel
theorem dX10_answer_56 : decode cX10_answer 56 = .ok (.iload_n 2, 1) := by decide +kernel
theorem dX10_answer_57 : decode cX10_answer 57 = .ok (.iaload, 1) := by decide +kernel
theorem dX10_answer_58 : decode cX10_answer 58 = .ok (.iastore, 1) := by decide +kernel
theorem dX10_answer_59 : decode cX10_answer 59 = .ok (.aload_n 0, 1) := by decide +kernel
theorem dX10_answer_60 : decode cX10_answer 60 = .ok (.getfield 65, 3) := by decide +kernel
theorem dX10_answer_63 : decode cX10_answer 63 = .ok (.iload_n 2, 1) := by decide +kernel
theorem dX10_answer_64 : decode cX10_answer 64 = .ok (.iload_n 3, 1) := by decide +kernel
theorem dX10_answer_65 : decode cX10_answer 65 = .ok (.iconst 4, 1) := by decide +kernel
theorem dX10_answer_66 : decode cX10_answer 66 = .ok (.irem, 1) := by decide +kernel
theorem dX10_answer_67 : decode cX10_answer 67 = .ok (.iastore, 1) := by decide +kernel
theorem dX10_answer_68 : decode cX10_answer 68 = .ok (.goto 69, 3) := by decide +kernel
theorem dX10_answer_71 : decode cX10_answer 71 = .ok (.iload_n 1, 1) := by decide +kernel
theorem dX10_answer_72 : decode cX10_answer 72 = .ok (.iconst 2, 1) := by decide +kernel
theorem dX10_answer_73 : decode cX10_answer 73 = .ok (.if_icmp .ne 47, 3) := by decide +kernel
theorem dX10_answer_76 : decode cX10_answer 76 = .ok (.aload_n 0, 1) := by decide +kernel
theorem dX10_answer_77 : decode cX10_answer 77 = .ok (.getfield 62, 3) := by decide +kernel
theorem dX10_answer_80 : decode cX10_answer 80 = .ok (.iload_n 2, 1) := by decide +kernel
theorem dX10_answer_81 : decode cX10_answer 81 = .ok (.iload_n 3, 1) := by decide +kernel
theorem dX10_answer_82 : decode cX10_answer 82 = .ok (.bipush 64, 2) := by decide +kernel
theorem dX10_answer_84 : decode cX10_answer 84 = .ok (.idiv, 1) := by decide +kernel
theorem dX10_answer_85 : decode cX10_answer 85 = .ok (.aload_n 0, 1) := by decide +kernel
theorem dX10_answer_86 : decode cX10_answer 86 = .ok (.getfield 62, 3) := by decide +kernel
theorem dX10_answer_89 : decode cX10_answer 89 = .ok (.iload_n 2, 1) := by decide +kernel
theorem dX10_answer_90 : decode cX10_answer 90 = .ok (.iaload, 1) := by decide +kernel
theorem dX10_answer_91 : decode cX10_answer 91 = .ok (.if_icmp .le 10, 3) := by decide +kernel
theorem dX10_answer_94 : decode cX10_answer 94 = .ok (.iload_n 3, 1) := by decide +kernel
theorem dX10_answer_95 : decode cX10_answer 95 = .ok (.bipush 64, 2) := by decide +kernel
theorem dX10_answer_97 : decode cX10_answer 97 = .ok (.idiv, 1) := by decide +kernel
theorem dX10_answer_98 : decode cX10_answer 98 = .ok (.goto 9, 3) := by decide +kernel
theorem dX10_answer_101 : decode cX10_answer 101 = .ok (.aload_n 0, 1) := by decide +kernel
theorem dX10_answer_102 : decode cX10_answer 102 = .ok (.getfield 62, 3) := by decide +kernel
theorem dX10_answer_105 : decode cX10_answer 105 = .ok (.iload_n 2, 1) := by decide +kernel
theorem dX10_answer_106 : decode cX10_answer 106 = .ok (.iaload, 1) := by decide +kernel
theorem dX10_answer_107 : decode cX10_answer 107 = .ok (.iastore, 1) := by decide +kernel
theorem dX10_answer_108 : decode cX10_answer 108 = .ok (.aload_n 0, 1) := by decide +kernel
theorem dX10_answer_109 : decode cX10_answer 109 = .ok (.iload_n 2, 1) := by decide +kernel
theorem dX10_answer_110 : decode cX10_answer 110 = .ok (.iload_n 3, 1) := by decide +kernel
theorem dX10_answer_111 : decode cX10_answer 111 = .ok (.bipush 64, 2) := by decide +kernel
theorem dX10_answer_113 : decode cX10_answer 113 = .ok (.irem, 1) := by decide +kernel
theorem dX10_answer_114 : decode cX10_answer 114 = .ok (.invokevirtual 194, 3) := by decide +kernel
theorem dX10_answer_117 : decode cX10_answer 117 = .ok (.goto 20, 3) := by decide +kernel
theorem dX10_answer_120 : decode cX10_answer 120 = .ok (.aload_n 0, 1) := by decide +kernel
theorem dX10_answer_121 : decode cX10_answer 121 = .ok (.getfield 56, 3) := by decide +kernel
theorem dX10_answer_124 : decode cX10_answer 124 = .ok (.iload_n 2, 1) := by decide +kernel
theorem dX10_answer_125 : decode cX10_answer 125 = .ok (.iconst 1, 1) := by decide +kernel
theorem dX10_answer_126 : decode cX10_answer 126 = .ok (.iastore, 1) := by decide +kernel
theorem dX10_answer_127 : decode cX10_answer 127 = .ok (.aload_n 0, 1) := by decide +kernel
theorem dX10_answer_128 : decode cX10_answer 128 = .ok (.getfield 74, 3) := by decide +kernel
theorem dX10_answer_131 : decode cX10_answer 131 = .ok (.iload_n 2, 1) := by decide +kernel
theorem dX10_answer_132 : decode cX10_answer 132 = .ok (.aload_n 0, 1) := by decide +kernel
theorem dX10_answer_133 : decode cX10_answer 133 = .ok (.getfield 177, 3) := by decide +kernel
theorem dX10_answer_136 : decode cX10_answer 136 = .ok (.iastore, 1) := by decide +kernel
theorem dX10_answer_137 : decode cX10_answer 137 = .ok (.return_, 1) := by decide +kernel
theorem dX10_want_0 : decode cX10_want 0 = .ok (.iload_n 2, 1) := by decide +kernel
theorem dX10_want_1 : decode cX10_want 1 = .ok (.aload_n 0, 1) := by decide +kernel
theorem dX10_want_2 : decode cX10_want 2 = .ok (.getfield 59, 3) := by decide +kernel
theorem dX10_want_5 : decode cX10_want 5 = .ok (.iload_n 1, 1) := by decide +kernel
theorem dX10_want_6 : decode cX10_want 6 = .ok (.iaload, 1) := by decide +kernel
theorem dX10_want_7 : decode cX10_want 7 = .ok (.if_icmp .ge 15, 3) := by decide +kernel
theorem dX10_want_10 : decode cX10_want 10 = .ok (.aload_n 0, 1) := by decide +kernel
theorem dX10_want_11 : decode cX10_want 11 = .ok (.getfield 77, 3) := by decide +kernel
theorem dX10_want_14 : decode cX10_want 14 = .ok (.bipush 60, 2) := by decide +kernel
theorem dX10_want_16 : decode cX10_want 16 = .ok (.iload_n 1, 1) := by decide +kernel
theorem dX10_want_17 : decode cX10_want 17 = .ok (.imul, 1) := by decide +kernel
theorem dX10_want_18 : decode cX10_want 18 = .ok (.iload_n 2, 1) := by decide +kernel
theorem dX10_want_19 : decode cX10_want 19 = .ok (.iadd, 1) := by decide +kernel
theorem dX10_want_20 : decode cX10_want 20 = .ok (.iconst 1, 1) := by decide +kernel
theorem dX10_want_21 : decode cX10_want 21 = .ok (.bastore, 1) := by decide +kernel
theorem dX10_want_22 : decode cX10_want 22 = .ok (.return_, 1) := by decide +kernel
theorem dX10_least_0 : decode cX10_least 0 = .ok (.iconst 0, 1) := by decide +kernel
theorem dX10_least_1 : decode cX10_least 1 = .ok (.istore_n 2, 1) := by decide +kernel
theorem dX10_least_2 : decode cX10_least 2 = .ok (.iload_n 2, 1) := by decide +kernel
theorem dX10_least_3 : decode cX10_least 3 = .ok (.bipush 60, 2) := by decide +kernel
theorem dX10_least_5 : decode cX10_least 5 = .ok (.if_icmp .ge 25, 3) := by decide +kernel
theorem dX10_least_8 : decode cX10_least 8 = .ok (.aload_n 0, 1) := by decide +kernel
theorem dX10_least_9 : decode cX10_least 9 = .ok (.getfield 77, 3) := by decide +kernel
theorem dX10_least_12 : decode cX10_least 12 = .ok (.bipush 60, 2) := by decide +kernel
theorem dX10_least_14 : decode cX10_least 14 = .ok (.iload_n 1, 1) := by decide +kernel
theorem dX10_least_15 : decode cX10_least 15 = .ok (.imul, 1) := by decide +kernel
theorem dX10_least_16 : decode cX10_least 16 = .ok (.iload_n 2, 1) := by decide +kernel
theorem dX10_least_17 : decode cX10_least 17 = .ok (.iadd, 1) := by decide +kernel
theorem dX10_least_18 : decode cX10_least 18 = .ok (.baload, 1) := by decide +kernel
theorem dX10_least_19 : decode cX10_least 19 = .ok (.ifCond .eq 5, 3) := by decide +kernel
theorem dX10_least_22 : decode cX10_least 22 = .ok (.iload_n 2, 1) := by decide +kernel
theorem dX10_least_23 : decode cX10_least 23 = .ok (.ireturn, 1) := by decide +kernel
theorem dX10_least_24 : decode cX10_least 24 = .ok (.iinc 2 1, 3) := by decide +kernel
theorem dX10_least_27 : decode cX10_least 27 = .ok (.goto (-25), 3) := by decide +kernel
theorem dX10_least_30 : decode cX10_least 30 = .ok (.iconst (-1), 1) := by decide +kernel
theorem dX10_least_31 : decode cX10_least 31 = .ok (.ireturn, 1) := by decide +kernel
theorem dX10_left_0 : decode cX10_left 0 = .ok (.aload_n 0, 1) := by decide +kernel
theorem dX10_left_1 : decode cX10_left 1 = .ok (.getfield 50, 3) := by decide +kernel
theorem dX10_left_4 : decode cX10_left 4 = .ok (.iload_n 1, 1) := by decide +kernel
theorem dX10_left_5 : decode cX10_left 5 = .ok (.iaload, 1) := by decide +kernel
theorem dX10_left_6 : decode cX10_left 6 = .ok (.aload_n 0, 1) := by decide +kernel
theorem dX10_left_7 : decode cX10_left 7 = .ok (.getfield 59, 3) := by decide +kernel
theorem dX10_left_10 : decode cX10_left 10 = .ok (.iload_n 1, 1) := by decide +kernel
theorem dX10_left_11 : decode cX10_left 11 = .ok (.iaload, 1) := by decide +kernel
theorem dX10_left_12 : decode cX10_left 12 = .ok (.isub, 1) := by decide +kernel
theorem dX10_left_13 : decode cX10_left 13 = .ok (.istore_n 2, 1) := by decide +kernel
theorem dX10_left_14 : decode cX10_left 14 = .ok (.iconst 0, 1) := by decide +kernel
theorem dX10_left_15 : decode cX10_left 15 = .ok (.istore_n 3, 1) := by decide +kernel
theorem dX10_left_16 : decode cX10_left 16 = .ok (.iload_n 3, 1) := by decide +kernel
theorem dX10_left_17 : decode cX10_left 17 = .ok (.bipush 60, 2) := by decide +kernel
theorem dX10_left_19 : decode cX10_left 19 = .ok (.if_icmp .ge 31, 3) := by decide +kernel
theorem dX10_left_22 : decode cX10_left 22 = .ok (.iload_n 2, 1) := by decide +kernel
theorem dX10_left_23 : decode cX10_left 23 = .ok (.aload_n 0, 1) := by decide +kernel
theorem dX10_left_24 : decode cX10_left 24 = .ok (.getfield 77, 3) := by decide +kernel
theorem dX10_left_27 : decode cX10_left 27 = .ok (.bipush 60, 2) := by decide +kernel
theorem dX10_left_29 : decode cX10_left 29 = .ok (.iload_n 1, 1) := by decide +kernel
theorem dX10_left_30 : decode cX10_left 30 = .ok (.imul, 1) := by decide +kernel
theorem dX10_left_31 : decode cX10_left 31 = .ok (.iload_n 3, 1) := by decide +kernel
theorem dX10_left_32 : decode cX10_left 32 = .ok (.iadd, 1) := by decide +kernel
theorem dX10_left_33 : decode cX10_left 33 = .ok (.baload, 1) := by decide +kernel
theorem dX10_left_34 : decode cX10_left 34 = .ok (.ifCond .eq 7, 3) := by decide +kernel
theorem dX10_left_37 : decode cX10_left 37 = .ok (.iconst 1, 1) := by decide +kernel
theorem dX10_left_38 : decode cX10_left 38 = .ok (.goto 4, 3) := by decide +kernel
theorem dX10_left_41 : decode cX10_left 41 = .ok (.iconst 0, 1) := by decide +kernel
theorem dX10_left_42 : decode cX10_left 42 = .ok (.iadd, 1) := by decide +kernel
theorem dX10_left_43 : decode cX10_left 43 = .ok (.istore_n 2, 1) := by decide +kernel
theorem dX10_left_44 : decode cX10_left 44 = .ok (.iinc 3 1, 3) := by decide +kernel
theorem dX10_left_47 : decode cX10_left 47 = .ok (.goto (-31), 3) := by decide +kernel
theorem dX10_left_50 : decode cX10_left 50 = .ok (.iload_n 2, 1) := by decide +kernel
theorem dX10_left_51 : decode cX10_left 51 = .ok (.ireturn, 1) := by decide +kernel
theorem dX10_watch_0 : decode cX10_watch 0 = .ok (.iconst 0, 1) := by decide +kernel
theorem dX10_watch_1 : decode cX10_watch 1 = .ok (.istore_n 2, 1) := by decide +kernel
theorem dX10_watch_2 : decode cX10_watch 2 = .ok (.iload_n 2, 1) := by decide +kernel
theorem dX10_watch_3 : decode cX10_watch 3 = .ok (.aload_n 0, 1) := by decide +kernel
theorem dX10_watch_4 : decode cX10_watch 4 = .ok (.getfield 138, 3) := by decide +kernel
theorem dX10_watch_7 : decode cX10_watch 7 = .ok (.if_icmp .ge 109, 3) := by decide +kernel
theorem dX10_watch_10 : decode cX10_watch 10 = .ok (.aload_n 0, 1) := by decide +kernel
theorem dX10_watch_11 : decode cX10_watch 11 = .ok (.getfield 44, 3) := by decide +kernel
theorem dX10_watch_14 : decode cX10_watch 14 = .ok (.iload_n 2, 1) := by decide +kernel
theorem dX10_watch_15 : decode cX10_watch 15 = .ok (.iaload, 1) := by decide +kernel
theorem dX10_watch_16 : decode cX10_watch 16 = .ok (.iload_n 1, 1) := by decide +kernel
theorem dX10_watch_17 : decode cX10_watch 17 = .ok (.if_icmp .ne 93, 3) := by decide +kernel
theorem dX10_watch_20 : decode cX10_watch 20 = .ok (.aload_n 0, 1) := by decide +kernel
theorem dX10_watch_21 : decode cX10_watch 21 = .ok (.getfield 56, 3) := by decide +kernel
theorem dX10_watch_24 : decode cX10_watch 24 = .ok (.iload_n 2, 1) := by decide +kernel
theorem dX10_watch_25 : decode cX10_watch 25 = .ok (.iaload, 1) := by decide +kernel
theorem dX10_watch_26 : decode cX10_watch 26 = .ok (.ifCond .eq 6, 3) := by decide +kernel
theorem dX10_watch_29 : decode cX10_watch 29 = .ok (.goto 81, 3) := by decide +kernel
theorem dX10_watch_32 : decode cX10_watch 32 = .ok (.aload_n 0, 1) := by decide +kernel
theorem dX10_watch_33 : decode cX10_watch 33 = .ok (.getfield 68, 3) := by decide +kernel
theorem dX10_watch_36 : decode cX10_watch 36 = .ok (.iload_n 2, 1) := by decide +kernel
theorem dX10_watch_37 : decode cX10_watch 37 = .ok (.dup2, 1) := by decide +kernel
theorem dX10_watch_38 : decode cX10_watch 38 = .ok (.iaload, 1) := by decide +kernel
theorem dX10_watch_39 : decode cX10_watch 39 = .ok (.iconst 1, 1) := by decide +kernel
theorem dX10_watch_40 : decode cX10_watch 40 = .ok (.iadd, 1) := by decide +kernel
theorem dX10_watch_41 : decode cX10_watch 41 = .ok (.iastore, 1) := by decide +kernel
theorem dX10_watch_42 : decode cX10_watch 42 = .ok (.aload_n 0, 1) := by decide +kernel
theorem dX10_watch_43 : decode cX10_watch 43 = .ok (.getfield 68, 3) := by decide +kernel
theorem dX10_watch_46 : decode cX10_watch 46 = .ok (.iload_n 2, 1) := by decide +kernel
theorem dX10_watch_47 : decode cX10_watch 47 = .ok (.iaload, 1) := by decide +kernel
theorem dX10_watch_48 : decode cX10_watch 48 = .ok (.bipush 40, 2) := by decide +kernel
theorem dX10_watch_50 : decode cX10_watch 50 = .ok (.if_icmp .ge 6, 3) := by decide +kernel
theorem dX10_watch_53 : decode cX10_watch 53 = .ok (.goto 57, 3) := by decide +kernel
theorem dX10_watch_56 : decode cX10_watch 56 = .ok (.aload_n 0, 1) := by decide +kernel
theorem dX10_watch_57 : decode cX10_watch 57 = .ok (.getfield 68, 3) := by decide +kernel
theorem dX10_watch_60 : decode cX10_watch 60 = .ok (.iload_n 2, 1) := by decide +kernel
theorem dX10_watch_61 : decode cX10_watch 61 = .ok (.iconst 0, 1) := by decide +kernel
theorem dX10_watch_62 : decode cX10_watch 62 = .ok (.iastore, 1) := by decide +kernel
theorem dX10_watch_63 : decode cX10_watch 63 = .ok (.aload_n 0, 1) := by decide +kernel
theorem dX10_watch_64 : decode cX10_watch 64 = .ok (.getfield 71, 3) := by decide +kernel
theorem dX10_watch_67 : decode cX10_watch 67 = .ok (.iload_n 2, 1) := by decide +kernel
theorem dX10_watch_68 : decode cX10_watch 68 = .ok (.dup2, 1) := by decide +kernel
theorem dX10_watch_69 : decode cX10_watch 69 = .ok (.iaload, 1) := by decide +kernel
theorem dX10_watch_70 : decode cX10_watch 70 = .ok (.iconst 1, 1) := by decide +kernel
theorem dX10_watch_71 : decode cX10_watch 71 = .ok (.iadd, 1) := by decide +kernel
theorem dX10_watch_72 : decode cX10_watch 72 = .ok (.iastore, 1) := by decide +kernel
theorem dX10_watch_73 : decode cX10_watch 73 = .ok (.aload_n 0, 1) := by decide +kernel
theorem dX10_watch_74 : decode cX10_watch 74 = .ok (.getfield 71, 3) := by decide +kernel
theorem dX10_watch_77 : decode cX10_watch 77 = .ok (.iload_n 2, 1) := by decide +kernel
theorem dX10_watch_78 : decode cX10_watch 78 = .ok (.iaload, 1) := by decide +kernel
theorem dX10_watch_79 : decode cX10_watch 79 = .ok (.bipush 6, 2) := by decide +kernel
theorem dX10_watch_81 : decode cX10_watch 81 = .ok (.if_icmp .ne 23, 3) := by decide +kernel
theorem dX10_watch_84 : decode cX10_watch 84 = .ok (.aload_n 0, 1) := by decide +kernel
theorem dX10_watch_85 : decode cX10_watch 85 = .ok (.getfield 56, 3) := by decide +kernel
theorem dX10_watch_88 : decode cX10_watch 88 = .ok (.iload_n 2, 1) := by decide +kernel
theorem dX10_watch_89 : decode cX10_watch 89 = .ok (.iconst 2, 1) := by decide +kernel
theorem dX10_watch_90 : decode cX10_watch 90 = .ok (.iastore, 1) := by decide +kernel
theorem dX10_watch_91 : decode cX10_watch 91 = .ok (.aload_n 0, 1) := by decide +kernel
theorem dX10_watch_92 : decode cX10_watch 92 = .ok (.getfield 74, 3) := by decide +kernel
theorem dX10_watch_95 : decode cX10_watch 95 = .ok (.iload_n 2, 1) := by decide +kernel
theorem dX10_watch_96 : decode cX10_watch 96 = .ok (.aload_n 0, 1) := by decide +kernel
theorem dX10_watch_97 : decode cX10_watch 97 = .ok (.getfield 177, 3) := by decide +kernel
theorem dX10_watch_100 : decode cX10_watch 100 = .ok (.iastore, 1) := by decide +kernel
theorem dX10_watch_101 : decode cX10_watch 101 = .ok (.goto 9, 3) := by decide +kernel
theorem dX10_watch_104 : decode cX10_watch 104 = .ok (.aload_n 0, 1) := by decide +kernel
theorem dX10_watch_105 : decode cX10_watch 105 = .ok (.iload_n 2, 1) := by decide +kernel
theorem dX10_watch_106 : decode cX10_watch 106 = .ok (.iconst 0, 1) := by decide +kernel
theorem dX10_watch_107 : decode cX10_watch 107 = .ok (.invokevirtual 194, 3) := by decide +kernel
theorem dX10_watch_110 : decode cX10_watch 110 = .ok (.iinc 2 1, 3) := by decide +kernel
theorem dX10_watch_113 : decode cX10_watch 113 = .ok (.goto (-111), 3) := by decide +kernel
theorem dX10_watch_116 : decode cX10_watch 116 = .ok (.return_, 1) := by decide +kernel
theorem dX10_send_0 : decode cX10_send 0 = .ok (.aload_n 0, 1) := by decide +kernel
theorem dX10_send_1 : decode cX10_send 1 = .ok (.getfield 107, 3) := by decide +kernel
theorem dX10_send_4 : decode cX10_send 4 = .ok (.iload_n 1, 1) := by decide +kernel
theorem dX10_send_5 : decode cX10_send 5 = .ok (.iaload, 1) := by decide +kernel
theorem dX10_send_6 : decode cX10_send 6 = .ok (.ifCond .le 133, 3) := by decide +kernel
theorem dX10_send_9 : decode cX10_send 9 = .ok (.bipush 24, 2) := by decide +kernel
theorem dX10_send_11 : decode cX10_send 11 = .ok (.iload_n 1, 1) := by decide +kernel
theorem dX10_send_12 : decode cX10_send 12 = .ok (.imul, 1) := by decide +kernel
theorem dX10_send_13 : decode cX10_send 13 = .ok (.istore_n 2, 1) := by decide +kernel
theorem dX10_send_14 : decode cX10_send 14 = .ok (.aload_n 0, 1) := by decide +kernel
theorem dX10_send_15 : decode cX10_send 15 = .ok (.getfield 110, 3) := by decide +kernel
theorem dX10_send_18 : decode cX10_send 18 = .ok (.iload_n 2, 1) := by decide +kernel
theorem dX10_send_19 : decode cX10_send 19 = .ok (.iaload, 1) := by decide +kernel
theorem dX10_send_20 : decode cX10_send 20 = .ok (.istore_n 3, 1) := by decide +kernel
theorem dX10_send_21 : decode cX10_send 21 = .ok (.aload_n 0, 1) := by decide +kernel
theorem dX10_send_22 : decode cX10_send 22 = .ok (.getfield 113, 3) := by decide +kernel
theorem dX10_send_25 : decode cX10_send 25 = .ok (.iload_n 2, 1) := by decide +kernel
theorem dX10_send_26 : decode cX10_send 26 = .ok (.iaload, 1) := by decide +kernel
theorem dX10_send_27 : decode cX10_send 27 = .ok (.istore 4, 2) := by decide +kernel
theorem dX10_send_29 : decode cX10_send 29 = .ok (.aload_n 0, 1) := by decide +kernel
theorem dX10_send_30 : decode cX10_send 30 = .ok (.getfield 116, 3) := by decide +kernel
theorem dX10_send_33 : decode cX10_send 33 = .ok (.iload_n 2, 1) := by decide +kernel
theorem dX10_send_34 : decode cX10_send 34 = .ok (.iaload, 1) := by decide +kernel
theorem dX10_send_35 : decode cX10_send 35 = .ok (.istore 5, 2) := by decide +kernel
theorem dX10_send_37 : decode cX10_send 37 = .ok (.aload_n 0, 1) := by decide +kernel
theorem dX10_send_38 : decode cX10_send 38 = .ok (.getfield 107, 3) := by decide +kernel
theorem dX10_send_41 : decode cX10_send 41 = .ok (.iload_n 1, 1) := by decide +kernel
theorem dX10_send_42 : decode cX10_send 42 = .ok (.dup2, 1) := by decide +kernel
theorem dX10_send_43 : decode cX10_send 43 = .ok (.iaload, 1) := by decide +kernel
theorem dX10_send_44 : decode cX10_send 44 = .ok (.iconst 1, 1) := by decide +kernel
theorem dX10_send_45 : decode cX10_send 45 = .ok (.isub, 1) := by decide +kernel
theorem dX10_send_46 : decode cX10_send 46 = .ok (.iastore, 1) := by decide +kernel
theorem dX10_send_47 : decode cX10_send 47 = .ok (.iload_n 2, 1) := by decide +kernel
theorem dX10_send_48 : decode cX10_send 48 = .ok (.istore 6, 2) := by decide +kernel
theorem dX10_send_50 : decode cX10_send 50 = .ok (.iload 6, 2) := by decide +kernel
theorem dX10_send_52 : decode cX10_send 52 = .ok (.iload_n 2, 1) := by decide +kernel
theorem dX10_send_53 : decode cX10_send 53 = .ok (.aload_n 0, 1) := by decide +kernel
theorem dX10_send_54 : decode cX10_send 54 = .ok (.getfield 107, 3) := by decide +kernel
theorem dX10_send_57 : decode cX10_send 57 = .ok (.iload_n 1, 1) := by decide +kernel
theorem dX10_send_58 : decode cX10_send 58 = .ok (.iaload, 1) := by decide +kernel
theorem dX10_send_59 : decode cX10_send 59 = .ok (.iadd, 1) := by decide +kernel
theorem dX10_send_60 : decode cX10_send 60 = .ok (.if_icmp .ge 57, 3) := by decide +kernel
theorem dX10_send_63 : decode cX10_send 63 = .ok (.aload_n 0, 1) := by decide +kernel
theorem dX10_send_64 : decode cX10_send 64 = .ok (.getfield 110, 3) := by decide +kernel
theorem dX10_send_67 : decode cX10_send 67 = .ok (.iload 6, 2) := by decide +kernel
theorem dX10_send_69 : decode cX10_send 69 = .ok (.aload_n 0, 1) := by decide +kernel
theorem dX10_send_70 : decode cX10_send 70 = .ok (.getfield 110, 3) := by decide +kernel
theorem dX10_send_73 : decode cX10_send 73 = .ok (.iload 6, 2) := by decide +kernel
theorem dX10_send_75 : decode cX10_send 75 = .ok (.iconst 1, 1) := by decide +kernel
theorem dX10_send_76 : decode cX10_send 76 = .ok (.iadd, 1) := by decide +kernel
theorem dX10_send_77 : decode cX10_send 77 = .ok (.iaload, 1) := by decide +kernel
theorem dX10_send_78 : decode cX10_send 78 = .ok (.iastore, 1) := by decide +kernel
theorem dX10_send_79 : decode cX10_send 79 = .ok (.aload_n 0, 1) := by decide +kernel
theorem dX10_send_80 : decode cX10_send 80 = .ok (.getfield 113, 3) := by decide +kernel
theorem dX10_send_83 : decode cX10_send 83 = .ok (.iload 6, 2) := by decide +kernel
theorem dX10_send_85 : decode cX10_send 85 = .ok (.aload_n 0, 1) := by decide +kernel
theorem dX10_send_86 : decode cX10_send 86 = .ok (.getfield 113, 3) := by decide +kernel
theorem dX10_send_89 : decode cX10_send 89 = .ok (.iload 6, 2) := by decide +kernel
theorem dX10_send_91 : decode cX10_send 91 = .ok (.iconst 1, 1) := by decide +kernel
theorem dX10_send_92 : decode cX10_send 92 = .ok (.iadd, 1) := by decide +kernel
theorem dX10_send_93 : decode cX10_send 93 = .ok (.iaload, 1) := by decide +kernel
theorem dX10_send_94 : decode cX10_send 94 = .ok (.iastore, 1) := by decide +kernel
theorem dX10_send_95 : decode cX10_send 95 = .ok (.aload_n 0, 1) := by decide +kernel
theorem dX10_send_96 : decode cX10_send 96 = .ok (.getfield 116, 3) := by decide +kernel
theorem dX10_send_99 : decode cX10_send 99 = .ok (.iload 6, 2) := by decide +kernel
theorem dX10_send_101 : decode cX10_send 101 = .ok (.aload_n 0, 1) := by decide +kernel
theorem dX10_send_102 : decode cX10_send 102 = .ok (.getfield 116, 3) := by decide +kernel
theorem dX10_send_105 : decode cX10_send 105 = .ok (.iload 6, 2) := by decide +kernel
theorem dX10_send_107 : decode cX10_send 107 = .ok (.iconst 1, 1) := by decide +kernel
theorem dX10_send_108 : decode cX10_send 108 = .ok (.iadd, 1) := by decide +kernel
theorem dX10_send_109 : decode cX10_send 109 = .ok (.iaload, 1) := by decide +kernel
theorem dX10_send_110 : decode cX10_send 110 = .ok (.iastore, 1) := by decide +kernel
theorem dX10_send_111 : decode cX10_send 111 = .ok (.iinc 6 1, 3) := by decide +kernel
theorem dX10_send_114 : decode cX10_send 114 = .ok (.goto (-64), 3) := by decide +kernel
theorem dX10_send_117 : decode cX10_send 117 = .ok (.aload_n 0, 1) := by decide +kernel
theorem dX10_send_118 : decode cX10_send 118 = .ok (.getfield 119, 3) := by decide +kernel
theorem dX10_send_121 : decode cX10_send 121 = .ok (.iload_n 1, 1) := by decide +kernel
theorem dX10_send_122 : decode cX10_send 122 = .ok (.dup2, 1) := by decide +kernel
theorem dX10_send_123 : decode cX10_send 123 = .ok (.iaload, 1) := by decide +kernel
theorem dX10_send_124 : decode cX10_send 124 = .ok (.iconst 1, 1) := by decide +kernel
theorem dX10_send_125 : decode cX10_send 125 = .ok (.iadd, 1) := by decide +kernel
theorem dX10_send_126 : decode cX10_send 126 = .ok (.iastore, 1) := by decide +kernel
theorem dX10_send_127 : decode cX10_send 127 = .ok (.aload_n 0, 1) := by decide +kernel
theorem dX10_send_128 : decode cX10_send 128 = .ok (.iload_n 1, 1) := by decide +kernel
theorem dX10_send_129 : decode cX10_send 129 = .ok (.iload_n 3, 1) := by decide +kernel
theorem dX10_send_130 : decode cX10_send 130 = .ok (.iload 4, 2) := by decide +kernel
theorem dX10_send_132 : decode cX10_send 132 = .ok (.iload 5, 2) := by decide +kernel
theorem dX10_send_134 : decode cX10_send 134 = .ok (.iconst 0, 1) := by decide +kernel
theorem dX10_send_135 : decode cX10_send 135 = .ok (.invokevirtual 166, 3) := by decide +kernel
theorem dX10_send_138 : decode cX10_send 138 = .ok (.return_, 1) := by decide +kernel
theorem dX10_send_139 : decode cX10_send 139 = .ok (.iconst (-1), 1) := by decide +kernel
theorem dX10_send_140 : decode cX10_send 140 = .ok (.istore_n 2, 1) := by decide +kernel
theorem dX10_send_141 : decode cX10_send 141 = .ok (.iconst 0, 1) := by decide +kernel
theorem dX10_send_142 : decode cX10_send 142 = .ok (.istore_n 3, 1) := by decide +kernel
theorem dX10_send_143 : decode cX10_send 143 = .ok (.iload_n 3, 1) := by decide +kernel
theorem dX10_send_144 : decode cX10_send 144 = .ok (.aload_n 0, 1) := by decide +kernel
theorem dX10_send_145 : decode cX10_send 145 = .ok (.getfield 138, 3) := by decide +kernel
theorem dX10_send_148 : decode cX10_send 148 = .ok (.if_icmp .ge 84, 3) := by decide +kernel
theorem dX10_send_151 : decode cX10_send 151 = .ok (.aload_n 0, 1) := by decide +kernel
theorem dX10_send_152 : decode cX10_send 152 = .ok (.getfield 44, 3) := by decide +kernel
theorem dX10_send_155 : decode cX10_send 155 = .ok (.iload_n 3, 1) := by decide +kernel
theorem dX10_send_156 : decode cX10_send 156 = .ok (.iaload, 1) := by decide +kernel
theorem dX10_send_157 : decode cX10_send 157 = .ok (.iload_n 1, 1) := by decide +kernel
theorem dX10_send_158 : decode cX10_send 158 = .ok (.if_icmp .ne 40, 3) := by decide +kernel
theorem dX10_send_161 : decode cX10_send 161 = .ok (.aload_n 0, 1) := by decide +kernel
theorem dX10_send_162 : decode cX10_send 162 = .ok (.getfield 56, 3) := by decide +kernel
theorem dX10_send_165 : decode cX10_send 165 = .ok (.iload_n 3, 1) := by decide +kernel
theorem dX10_send_166 : decode cX10_send 166 = .ok (.iaload, 1) := by decide +kernel
theorem dX10_send_167 : decode cX10_send 167 = .ok (.ifCond .ne 31, 3) := by decide +kernel
theorem dX10_send_170 : decode cX10_send 170 = .ok (.aload_n 0, 1) := by decide +kernel
theorem dX10_send_171 : decode cX10_send 171 = .ok (.iload_n 3, 1) := by decide +kernel
theorem dX10_send_172 : decode cX10_send 172 = .ok (.invokevirtual 197, 3) := by decide +kernel
theorem dX10_send_175 : decode cX10_send 175 = .ok (.iconst (-1), 1) := by decide +kernel
theorem dX10_send_176 : decode cX10_send 176 = .ok (.if_icmp .ne 18, 3) := by decide +kernel
theorem dX10_send_179 : decode cX10_send 179 = .ok (.aload_n 0, 1) := by decide +kernel
theorem dX10_send_180 : decode cX10_send 180 = .ok (.getfield 59, 3) := by decide +kernel
theorem dX10_send_183 : decode cX10_send 183 = .ok (.iload_n 3, 1) := by decide +kernel
theorem dX10_send_184 : decode cX10_send 184 = .ok (.iaload, 1) := by decide +kernel
theorem dX10_send_185 : decode cX10_send 185 = .ok (.aload_n 0, 1) := by decide +kernel
theorem dX10_send_186 : decode cX10_send 186 = .ok (.getfield 62, 3) := by decide +kernel
theorem dX10_send_189 : decode cX10_send 189 = .ok (.iload_n 3, 1) := by decide +kernel
theorem dX10_send_190 : decode cX10_send 190 = .ok (.iaload, 1) := by decide +kernel
theorem dX10_send_191 : decode cX10_send 191 = .ok (.if_icmp .ge 7, 3) := by decide +kernel
theorem dX10_send_194 : decode cX10_send 194 = .ok (.iconst 1, 1) := by decide +kernel
theorem dX10_send_195 : decode cX10_send 195 = .ok (.goto 4, 3) := by decide +kernel
theorem dX10_send_198 : decode cX10_send 198 = .ok (.iconst 0, 1) := by decide +kernel
theorem dX10_send_199 : decode cX10_send 199 = .ok (.istore 4, 2) := by decide +kernel
theorem dX10_send_201 : decode cX10_send 201 = .ok (.iload 4, 2) := by decide +kernel
theorem dX10_send_203 : decode cX10_send 203 = .ok (.ifCond .eq 23, 3) := by decide +kernel
theorem dX10_send_206 : decode cX10_send 206 = .ok (.iload_n 2, 1) := by decide +kernel
theorem dX10_send_207 : decode cX10_send 207 = .ok (.iconst (-1), 1) := by decide +kernel
theorem dX10_send_208 : decode cX10_send 208 = .ok (.if_icmp .eq 16, 3) := by decide +kernel
theorem dX10_send_211 : decode cX10_send 211 = .ok (.aload_n 0, 1) := by decide +kernel
theorem dX10_send_212 : decode cX10_send 212 = .ok (.iload_n 3, 1) := by decide +kernel
theorem dX10_send_213 : decode cX10_send 213 = .ok (.invokevirtual 200, 3) := by decide +kernel
theorem dX10_send_216 : decode cX10_send 216 = .ok (.aload_n 0, 1) := by decide +kernel
theorem dX10_send_217 : decode cX10_send 217 = .ok (.iload_n 2, 1) := by decide +kernel
theorem dX10_send_218 : decode cX10_send 218 = .ok (.invokevirtual 200, 3) := by decide +kernel
theorem dX10_send_221 : decode cX10_send 221 = .ok (.if_icmp .ge 5, 3) := by decide +kernel
theorem dX10_send_224 : decode cX10_send 224 = .ok (.iload_n 3, 1) := by decide +kernel
theorem dX10_send_225 : decode cX10_send 225 = .ok (.istore_n 2, 1) := by decide +kernel
theorem dX10_send_226 : decode cX10_send 226 = .ok (.iinc 3 1, 3) := by decide +kernel
theorem dX10_send_229 : decode cX10_send 229 = .ok (.goto (-86), 3) := by decide +kernel
theorem dX10_send_232 : decode cX10_send 232 = .ok (.iload_n 2, 1) := by decide +kernel
theorem dX10_send_233 : decode cX10_send 233 = .ok (.iconst (-1), 1) := by decide +kernel
theorem dX10_send_234 : decode cX10_send 234 = .ok (.if_icmp .ne 4, 3) := by decide +kernel
theorem dX10_send_237 : decode cX10_send 237 = .ok (.return_, 1) := by decide +kernel
theorem dX10_send_238 : decode cX10_send 238 = .ok (.aload_n 0, 1) := by decide +kernel
theorem dX10_send_239 : decode cX10_send 239 = .ok (.iload_n 2, 1) := by decide +kernel
theorem dX10_send_240 : decode cX10_send 240 = .ok (.invokevirtual 197, 3) := by decide +kernel
theorem dX10_send_243 : decode cX10_send 243 = .ok (.istore_n 3, 1) := by decide +kernel
theorem dX10_send_244 : decode cX10_send 244 = .ok (.iload_n 3, 1) := by decide +kernel
theorem dX10_send_245 : decode cX10_send 245 = .ok (.iconst (-1), 1) := by decide +kernel
theorem dX10_send_246 : decode cX10_send 246 = .ok (.if_icmp .ne 23, 3) := by decide +kernel
theorem dX10_send_249 : decode cX10_send 249 = .ok (.aload_n 0, 1) := by decide +kernel
theorem dX10_send_250 : decode cX10_send 250 = .ok (.getfield 59, 3) := by decide +kernel
theorem dX10_send_253 : decode cX10_send 253 = .ok (.iload_n 2, 1) := by decide +kernel
theorem dX10_send_254 : decode cX10_send 254 = .ok (.iaload, 1) := by decide +kernel
theorem dX10_send_255 : decode cX10_send 255 = .ok (.istore_n 3, 1) := by decide +kernel
theorem dX10_send_256 : decode cX10_send 256 = .ok (.aload_n 0, 1) := by decide +kernel
theorem dX10_send_257 : decode cX10_send 257 = .ok (.getfield 59, 3) := by decide +kernel
theorem dX10_send_260 : decode cX10_send 260 = .ok (.iload_n 2, 1) := by decide +kernel
theorem dX10_send_261 : decode cX10_send 261 = .ok (.dup2, 1) := by decide +kernel
theorem dX10_send_262 : decode cX10_send 262 = .ok (.iaload, 1) := by decide +kernel
theorem dX10_send_263 : decode cX10_send 263 = .ok (.iconst 1, 1) := by decide +kernel
theorem dX10_send_264 : decode cX10_send 264 = .ok (.iadd, 1) := by decide +kernel
theorem dX10_send_265 : decode cX10_send 265 = .ok (.iastore, 1) := by decide +kernel
theorem dX10_send_266 : decode cX10_send 266 = .ok (.goto 15, 3) := by decide +kernel
theorem dX10_send_269 : decode cX10_send 269 = .ok (.aload_n 0, 1) := by decide +kernel
theorem dX10_send_270 : decode cX10_send 270 = .ok (.getfield 77, 3) := by decide +kernel
theorem dX10_send_273 : decode cX10_send 273 = .ok (.bipush 60, 2) := by decide +kernel
theorem dX10_send_275 : decode cX10_send 275 = .ok (.iload_n 2, 1) := by decide +kernel
theorem dX10_send_276 : decode cX10_send 276 = .ok (.imul, 1) := by decide +kernel
theorem dX10_send_277 : decode cX10_send 277 = .ok (.iload_n 3, 1) := by decide +kernel
theorem dX10_send_278 : decode cX10_send 278 = .ok (.iadd, 1) := by decide +kernel
theorem dX10_send_279 : decode cX10_send 279 = .ok (.iconst 0, 1) := by decide +kernel
theorem dX10_send_280 : decode cX10_send 280 = .ok (.bastore, 1) := by decide +kernel
theorem dX10_send_281 : decode cX10_send 281 = .ok (.iload_n 3, 1) := by decide +kernel
theorem dX10_send_282 : decode cX10_send 282 = .ok (.iconst 4, 1) := by decide +kernel
theorem dX10_send_283 : decode cX10_send 283 = .ok (.if_icmp .lt 12, 3) := by decide +kernel
theorem dX10_send_286 : decode cX10_send 286 = .ok (.aload_n 0, 1) := by decide +kernel
theorem dX10_send_287 : decode cX10_send 287 = .ok (.getfield 65, 3) := by decide +kernel
theorem dX10_send_290 : decode cX10_send 290 = .ok (.iload_n 2, 1) := by decide +kernel
theorem dX10_send_291 : decode cX10_send 291 = .ok (.iaload, 1) := by decide +kernel
theorem dX10_send_292 : decode cX10_send 292 = .ok (.goto 42, 3) := by decide +kernel
theorem dX10_send_295 : decode cX10_send 295 = .ok (.aload_n 0, 1) := by decide +kernel
theorem dX10_send_296 : decode cX10_send 296 = .ok (.getfield 50, 3) := by decide +kernel
theorem dX10_send_299 : decode cX10_send 299 = .ok (.iload_n 2, 1) := by decide +kernel
theorem dX10_send_300 : decode cX10_send 300 = .ok (.iaload, 1) := by decide +kernel
theorem dX10_send_301 : decode cX10_send 301 = .ok (.aload_n 0, 1) := by decide +kernel
theorem dX10_send_302 : decode cX10_send 302 = .ok (.iload_n 1, 1) := by decide +kernel
theorem dX10_send_303 : decode cX10_send 303 = .ok (.iconst 1, 1) := by decide +kernel
theorem dX10_send_304 : decode cX10_send 304 = .ok (.invokevirtual 203, 3) := by decide +kernel
theorem dX10_send_307 : decode cX10_send 307 = .ok (.if_icmp .gt 7, 3) := by decide +kernel
theorem dX10_send_310 : decode cX10_send 310 = .ok (.iconst 1, 1) := by decide +kernel
theorem dX10_send_311 : decode cX10_send 311 = .ok (.goto 23, 3) := by decide +kernel
theorem dX10_send_314 : decode cX10_send 314 = .ok (.aload_n 0, 1) := by decide +kernel
theorem dX10_send_315 : decode cX10_send 315 = .ok (.getfield 50, 3) := by decide +kernel
theorem dX10_send_318 : decode cX10_send 318 = .ok (.iload_n 2, 1) := by decide +kernel
theorem dX10_send_319 : decode cX10_send 319 = .ok (.iaload, 1) := by decide +kernel
theorem dX10_send_320 : decode cX10_send 320 = .ok (.aload_n 0, 1) := by decide +kernel
theorem dX10_send_321 : decode cX10_send 321 = .ok (.iload_n 1, 1) := by decide +kernel
theorem dX10_send_322 : decode cX10_send 322 = .ok (.iconst 2, 1) := by decide +kernel
theorem dX10_send_323 : decode cX10_send 323 = .ok (.invokevirtual 203, 3) := by decide +kernel
theorem dX10_send_326 : decode cX10_send 326 = .ok (.if_icmp .gt 7, 3) := by decide +kernel
theorem dX10_send_329 : decode cX10_send 329 = .ok (.iconst 2, 1) := by decide +kernel
theorem dX10_send_330 : decode cX10_send 330 = .ok (.goto 4, 3) := by decide +kernel
theorem dX10_send_333 : decode cX10_send 333 = .ok (.iconst 3, 1) := by decide +kernel
theorem dX10_send_334 : decode cX10_send 334 = .ok (.istore 4, 2) := by decide +kernel
theorem dX10_send_336 : decode cX10_send 336 = .ok (.aload_n 0, 1) := by decide +kernel
theorem dX10_send_337 : decode cX10_send 337 = .ok (.getfield 119, 3) := by decide +kernel
theorem dX10_send_340 : decode cX10_send 340 = .ok (.iload_n 1, 1) := by decide +kernel
theorem dX10_send_341 : decode cX10_send 341 = .ok (.dup2, 1) := by decide +kernel
theorem dX10_send_342 : decode cX10_send 342 = .ok (.iaload, 1) := by decide +kernel
theorem dX10_send_343 : decode cX10_send 343 = .ok (.iconst 1, 1) := by decide +kernel
theorem dX10_send_344 : decode cX10_send 344 = .ok (.iadd, 1) := by decide +kernel
theorem dX10_send_345 : decode cX10_send 345 = .ok (.iastore, 1) := by decide +kernel
theorem dX10_send_346 : decode cX10_send 346 = .ok (.aload_n 0, 1) := by decide +kernel
theorem dX10_send_347 : decode cX10_send 347 = .ok (.iload_n 1, 1) := by decide +kernel
theorem dX10_send_348 : decode cX10_send 348 = .ok (.iconst 0, 1) := by decide +kernel
theorem dX10_send_349 : decode cX10_send 349 = .ok (.iload_n 2, 1) := by decide +kernel
theorem dX10_send_350 : decode cX10_send 350 = .ok (.iload_n 3, 1) := by decide +kernel
theorem dX10_send_351 : decode cX10_send 351 = .ok (.iload 4, 2) := by decide +kernel
theorem dX10_send_353 : decode cX10_send 353 = .ok (.invokevirtual 166, 3) := by decide +kernel
theorem dX10_send_356 : decode cX10_send 356 = .ok (.return_, 1) := by decide +kernel
theorem dX10_rankOf_0 : decode cX10_rankOf 0 = .ok (.iconst 0, 1) := by decide +kernel
theorem dX10_rankOf_1 : decode cX10_rankOf 1 = .ok (.istore 4, 2) := by decide +kernel
theorem dX10_rankOf_3 : decode cX10_rankOf 3 = .ok (.iload_n 2, 1) := by decide +kernel
theorem dX10_rankOf_4 : decode cX10_rankOf 4 = .ok (.istore 5, 2) := by decide +kernel
theorem dX10_rankOf_6 : decode cX10_rankOf 6 = .ok (.iload 5, 2) := by decide +kernel
theorem dX10_rankOf_8 : decode cX10_rankOf 8 = .ok (.aload_n 0, 1) := by decide +kernel
theorem dX10_rankOf_9 : decode cX10_rankOf 9 = .ok (.getfield 138, 3) := by decide +kernel
theorem dX10_rankOf_12 : decode cX10_rankOf 12 = .ok (.if_icmp .ge 68, 3) := by decide +kernel
theorem dX10_rankOf_15 : decode cX10_rankOf 15 = .ok (.iload 4, 2) := by decide +kernel
theorem dX10_rankOf_17 : decode cX10_rankOf 17 = .ok (.aload_n 0, 1) := by decide +kernel
theorem dX10_rankOf_18 : decode cX10_rankOf 18 = .ok (.getfield 44, 3) := by decide +kernel
theorem dX10_rankOf_21 : decode cX10_rankOf 21 = .ok (.iload 5, 2) := by decide +kernel
theorem dX10_rankOf_23 : decode cX10_rankOf 23 = .ok (.iaload, 1) := by decide +kernel
theorem dX10_rankOf_24 : decode cX10_rankOf 24 = .ok (.iload_n 1, 1) := by decide +kernel
theorem dX10_rankOf_25 : decode cX10_rankOf 25 = .ok (.if_icmp .ne 45, 3) := by decide +kernel
theorem dX10_rankOf_28 : decode cX10_rankOf 28 = .ok (.aload_n 0, 1) := by decide +kernel
theorem dX10_rankOf_29 : decode cX10_rankOf 29 = .ok (.getfield 50, 3) := by decide +kernel
theorem dX10_rankOf_32 : decode cX10_rankOf 32 = .ok (.iload 5, 2) := by decide +kernel
theorem dX10_rankOf_34 : decode cX10_rankOf 34 = .ok (.iaload, 1) := by decide +kernel
theorem dX10_rankOf_35 : decode cX10_rankOf 35 = .ok (.aload_n 0, 1) := by decide +kernel
theorem dX10_rankOf_36 : decode cX10_rankOf 36 = .ok (.getfield 50, 3) := by decide +kernel
theorem dX10_rankOf_39 : decode cX10_rankOf 39 = .ok (.iload_n 3, 1) := by decide +kernel
theorem dX10_rankOf_40 : decode cX10_rankOf 40 = .ok (.iaload, 1) := by decide +kernel
theorem dX10_rankOf_41 : decode cX10_rankOf 41 = .ok (.if_icmp .lt 25, 3) := by decide +kernel
theorem dX10_rankOf_44 : decode cX10_rankOf 44 = .ok (.aload_n 0, 1) := by decide +kernel
theorem dX10_rankOf_45 : decode cX10_rankOf 45 = .ok (.getfield 50, 3) := by decide +kernel
theorem dX10_rankOf_48 : decode cX10_rankOf 48 = .ok (.iload 5, 2) := by decide +kernel
theorem dX10_rankOf_50 : decode cX10_rankOf 50 = .ok (.iaload, 1) := by decide +kernel
theorem dX10_rankOf_51 : decode cX10_rankOf 51 = .ok (.aload_n 0, 1) := by decide +kernel
theorem dX10_rankOf_52 : decode cX10_rankOf 52 = .ok (.getfield 50, 3) := by decide +kernel
theorem dX10_rankOf_55 : decode cX10_rankOf 55 = .ok (.iload_n 3, 1) := by decide +kernel
theorem dX10_rankOf_56 : decode cX10_rankOf 56 = .ok (.iaload, 1) := by decide +kernel
theorem dX10_rankOf_57 : decode cX10_rankOf 57 = .ok (.if_icmp .ne 13, 3) := by decide +kernel
theorem dX10_rankOf_60 : decode cX10_rankOf 60 = .ok (.iload 5, 2) := by decide +kernel
theorem dX10_rankOf_62 : decode cX10_rankOf 62 = .ok (.iload_n 3, 1) := by decide +kernel
theorem dX10_rankOf_63 : decode cX10_rankOf 63 = .ok (.if_icmp .ge 7, 3) := by decide +kernel
theorem dX10_rankOf_66 : decode cX10_rankOf 66 = .ok (.iconst 1, 1) := by decide +kernel
theorem dX10_rankOf_67 : decode cX10_rankOf 67 = .ok (.goto 4, 3) := by decide +kernel
theorem dX10_rankOf_70 : decode cX10_rankOf 70 = .ok (.iconst 0, 1) := by decide +kernel
theorem dX10_rankOf_71 : decode cX10_rankOf 71 = .ok (.iadd, 1) := by decide +kernel
theorem dX10_rankOf_72 : decode cX10_rankOf 72 = .ok (.istore 4, 2) := by decide +kernel
theorem dX10_rankOf_74 : decode cX10_rankOf 74 = .ok (.iinc 5 1, 3) := by decide +kernel
theorem dX10_rankOf_77 : decode cX10_rankOf 77 = .ok (.goto (-71), 3) := by decide +kernel
theorem dX10_rankOf_80 : decode cX10_rankOf 80 = .ok (.iload 4, 2) := by decide +kernel
theorem dX10_rankOf_82 : decode cX10_rankOf 82 = .ok (.ireturn, 1) := by decide +kernel
theorem dX10_cutoff_0 : decode cX10_cutoff 0 = .ok (.iconst 0, 1) := by decide +kernel
theorem dX10_cutoff_1 : decode cX10_cutoff 1 = .ok (.istore_n 3, 1) := by decide +kernel
theorem dX10_cutoff_2 : decode cX10_cutoff 2 = .ok (.aload_n 0, 1) := by decide +kernel
theorem dX10_cutoff_3 : decode cX10_cutoff 3 = .ok (.getfield 138, 3) := by decide +kernel
theorem dX10_cutoff_6 : decode cX10_cutoff 6 = .ok (.istore 4, 2) := by decide +kernel
theorem dX10_cutoff_8 : decode cX10_cutoff 8 = .ok (.iload 4, 2) := by decide +kernel
theorem dX10_cutoff_10 : decode cX10_cutoff 10 = .ok (.ifCond .le 34, 3) := by decide +kernel
theorem dX10_cutoff_13 : decode cX10_cutoff 13 = .ok (.iload_n 3, 1) := by decide +kernel
theorem dX10_cutoff_14 : decode cX10_cutoff 14 = .ok (.bipush 16, 2) := by decide +kernel
theorem dX10_cutoff_16 : decode cX10_cutoff 16 = .ok (.if_icmp .ge 28, 3) := by decide +kernel
theorem dX10_cutoff_19 : decode cX10_cutoff 19 = .ok (.iinc 4 (-1), 3) := by decide +kernel
theorem dX10_cutoff_22 : decode cX10_cutoff 22 = .ok (.iload_n 3, 1) := by decide +kernel
theorem dX10_cutoff_23 : decode cX10_cutoff 23 = .ok (.aload_n 0, 1) := by decide +kernel
theorem dX10_cutoff_24 : decode cX10_cutoff 24 = .ok (.getfield 44, 3) := by decide +kernel
theorem dX10_cutoff_27 : decode cX10_cutoff 27 = .ok (.iload 4, 2) := by decide +kernel
theorem dX10_cutoff_29 : decode cX10_cutoff 29 = .ok (.iaload, 1) := by decide +kernel
theorem dX10_cutoff_30 : decode cX10_cutoff 30 = .ok (.iload_n 1, 1) := by decide +kernel
theorem dX10_cutoff_31 : decode cX10_cutoff 31 = .ok (.if_icmp .ne 7, 3) := by decide +kernel
theorem dX10_cutoff_34 : decode cX10_cutoff 34 = .ok (.iconst 1, 1) := by decide +kernel
theorem dX10_cutoff_35 : decode cX10_cutoff 35 = .ok (.goto 4, 3) := by decide +kernel
theorem dX10_cutoff_38 : decode cX10_cutoff 38 = .ok (.iconst 0, 1) := by decide +kernel
theorem dX10_cutoff_39 : decode cX10_cutoff 39 = .ok (.iadd, 1) := by decide +kernel
theorem dX10_cutoff_40 : decode cX10_cutoff 40 = .ok (.istore_n 3, 1) := by decide +kernel
theorem dX10_cutoff_41 : decode cX10_cutoff 41 = .ok (.goto (-33), 3) := by decide +kernel
theorem dX10_cutoff_44 : decode cX10_cutoff 44 = .ok (.iload 4, 2) := by decide +kernel
theorem dX10_cutoff_46 : decode cX10_cutoff 46 = .ok (.istore 5, 2) := by decide +kernel
theorem dX10_cutoff_48 : decode cX10_cutoff 48 = .ok (.iload 5, 2) := by decide +kernel
theorem dX10_cutoff_50 : decode cX10_cutoff 50 = .ok (.aload_n 0, 1) := by decide +kernel
theorem dX10_cutoff_51 : decode cX10_cutoff 51 = .ok (.getfield 138, 3) := by decide +kernel
theorem dX10_cutoff_54 : decode cX10_cutoff 54 = .ok (.if_icmp .ge 45, 3) := by decide +kernel
theorem dX10_cutoff_57 : decode cX10_cutoff 57 = .ok (.aload_n 0, 1) := by decide +kernel
theorem dX10_cutoff_58 : decode cX10_cutoff 58 = .ok (.getfield 44, 3) := by decide +kernel
theorem dX10_cutoff_61 : decode cX10_cutoff 61 = .ok (.iload 5, 2) := by decide +kernel
theorem dX10_cutoff_63 : decode cX10_cutoff 63 = .ok (.iaload, 1) := by decide +kernel
theorem dX10_cutoff_64 : decode cX10_cutoff 64 = .ok (.iload_n 1, 1) := by decide +kernel
theorem dX10_cutoff_65 : decode cX10_cutoff 65 = .ok (.if_icmp .ne 28, 3) := by decide +kernel
theorem dX10_cutoff_68 : decode cX10_cutoff 68 = .ok (.aload_n 0, 1) := by decide +kernel
theorem dX10_cutoff_69 : decode cX10_cutoff 69 = .ok (.iload_n 1, 1) := by decide +kernel
theorem dX10_cutoff_70 : decode cX10_cutoff 70 = .ok (.iload 4, 2) := by decide +kernel
theorem dX10_cutoff_72 : decode cX10_cutoff 72 = .ok (.iload 5, 2) := by decide +kernel
theorem dX10_cutoff_74 : decode cX10_cutoff 74 = .ok (.invokevirtual 206, 3) := by decide +kernel
theorem dX10_cutoff_77 : decode cX10_cutoff 77 = .ok (.iload_n 2, 1) := by decide +kernel
theorem dX10_cutoff_78 : decode cX10_cutoff 78 = .ok (.iload_n 3, 1) := by decide +kernel
theorem dX10_cutoff_79 : decode cX10_cutoff 79 = .ok (.imul, 1) := by decide +kernel
theorem dX10_cutoff_80 : decode cX10_cutoff 80 = .ok (.iconst 3, 1) := by decide +kernel
theorem dX10_cutoff_81 : decode cX10_cutoff 81 = .ok (.idiv, 1) := by decide +kernel
theorem dX10_cutoff_82 : decode cX10_cutoff 82 = .ok (.if_icmp .ne 11, 3) := by decide +kernel
theorem dX10_cutoff_85 : decode cX10_cutoff 85 = .ok (.aload_n 0, 1) := by decide +kernel
theorem dX10_cutoff_86 : decode cX10_cutoff 86 = .ok (.getfield 50, 3) := by decide +kernel
theorem dX10_cutoff_89 : decode cX10_cutoff 89 = .ok (.iload 5, 2) := by decide +kernel
theorem dX10_cutoff_91 : decode cX10_cutoff 91 = .ok (.iaload, 1) := by decide +kernel
theorem dX10_cutoff_92 : decode cX10_cutoff 92 = .ok (.ireturn, 1) := by decide +kernel
theorem dX10_cutoff_93 : decode cX10_cutoff 93 = .ok (.iinc 5 1, 3) := by decide +kernel
theorem dX10_cutoff_96 : decode cX10_cutoff 96 = .ok (.goto (-48), 3) := by decide +kernel
theorem dX10_cutoff_99 : decode cX10_cutoff 99 = .ok (.iconst 0, 1) := by decide +kernel
theorem dX10_cutoff_100 : decode cX10_cutoff 100 = .ok (.ireturn, 1) := by decide +kernel
theorem dX10_slot_0 : decode cX10_slot 0 = .ok (.aload_n 0, 1) := by decide +kernel
theorem dX10_slot_1 : decode cX10_slot 1 = .ok (.iload_n 1, 1) := by decide +kernel
theorem dX10_slot_2 : decode cX10_slot 2 = .ok (.iconst 1, 1) := by decide +kernel
theorem dX10_slot_3 : decode cX10_slot 3 = .ok (.if_icmp .lt 10, 3) := by decide +kernel
theorem dX10_slot_6 : decode cX10_slot 6 = .ok (.iload_n 1, 1) := by decide +kernel
theorem dX10_slot_7 : decode cX10_slot 7 = .ok (.sipush 200, 3) := by decide +kernel
theorem dX10_slot_10 : decode cX10_slot 10 = .ok (.if_icmp .le 7, 3) := by decide +kernel
theorem dX10_slot_13 : decode cX10_slot 13 = .ok (.iconst 1, 1) := by decide +kernel
theorem dX10_slot_14 : decode cX10_slot 14 = .ok (.goto 4, 3) := by decide +kernel
theorem dX10_slot_17 : decode cX10_slot 17 = .ok (.iconst 0, 1) := by decide +kernel
theorem dX10_slot_18 : decode cX10_slot 18 = .ok (.putfield 134, 3) := by decide +kernel
theorem dX10_slot_21 : decode cX10_slot 21 = .ok (.aload_n 0, 1) := by decide +kernel
theorem dX10_slot_22 : decode cX10_slot 22 = .ok (.getfield 134, 3) := by decide +kernel
theorem dX10_slot_25 : decode cX10_slot 25 = .ok (.ifCond .eq 5, 3) := by decide +kernel
theorem dX10_slot_28 : decode cX10_slot 28 = .ok (.iconst 0, 1) := by decide +kernel
theorem dX10_slot_29 : decode cX10_slot 29 = .ok (.ireturn, 1) := by decide +kernel
theorem dX10_slot_30 : decode cX10_slot 30 = .ok (.iconst 0, 1) := by decide +kernel
theorem dX10_slot_31 : decode cX10_slot 31 = .ok (.istore_n 2, 1) := by decide +kernel
theorem dX10_slot_32 : decode cX10_slot 32 = .ok (.iload_n 2, 1) := by decide +kernel
theorem dX10_slot_33 : decode cX10_slot 33 = .ok (.iload_n 1, 1) := by decide +kernel
theorem dX10_slot_34 : decode cX10_slot 34 = .ok (.if_icmp .ge 97, 3) := by decide +kernel
theorem dX10_slot_37 : decode cX10_slot 37 = .ok (.aload_n 0, 1) := by decide +kernel
theorem dX10_slot_38 : decode cX10_slot 38 = .ok (.dup, 1) := by decide +kernel
theorem dX10_slot_39 : decode cX10_slot 39 = .ok (.getfield 177, 3) := by decide +kernel
theorem dX10_slot_42 : decode cX10_slot 42 = .ok (.iconst 1, 1) := by decide +kernel
theorem dX10_slot_43 : decode cX10_slot 43 = .ok (.iadd, 1) := by decide +kernel
theorem dX10_slot_44 : decode cX10_slot 44 = .ok (.putfield 177, 3) := by decide +kernel
theorem dX10_slot_47 : decode cX10_slot 47 = .ok (.iconst 0, 1) := by decide +kernel
theorem dX10_slot_48 : decode cX10_slot 48 = .ok (.istore_n 3, 1) := by decide +kernel
theorem dX10_slot_49 : decode cX10_slot 49 = .ok (.iload_n 3, 1) := by decide +kernel
theorem dX10_slot_50 : decode cX10_slot 50 = .ok (.bipush 24, 2) := by decide +kernel
theorem dX10_slot_52 : decode cX10_slot 52 = .ok (.if_icmp .ge 24, 3) := by decide +kernel
theorem dX10_slot_55 : decode cX10_slot 55 = .ok (.aload_n 0, 1) := by decide +kernel
theorem dX10_slot_56 : decode cX10_slot 56 = .ok (.getfield 7, 3) := by decide +kernel
theorem dX10_slot_59 : decode cX10_slot 59 = .ok (.iload_n 3, 1) := by decide +kernel
theorem dX10_slot_60 : decode cX10_slot 60 = .ok (.iaload, 1) := by decide +kernel
theorem dX10_slot_61 : decode cX10_slot 61 = .ok (.iconst (-1), 1) := by decide +kernel
theorem dX10_slot_62 : decode cX10_slot 62 = .ok (.if_icmp .eq 8, 3) := by decide +kernel
theorem dX10_slot_65 : decode cX10_slot 65 = .ok (.aload_n 0, 1) := by decide +kernel
theorem dX10_slot_66 : decode cX10_slot 66 = .ok (.iload_n 3, 1) := by decide +kernel
theorem dX10_slot_67 : decode cX10_slot 67 = .ok (.invokevirtual 210, 3) := by decide +kernel
theorem dX10_slot_70 : decode cX10_slot 70 = .ok (.iinc 3 1, 3) := by decide +kernel
theorem dX10_slot_73 : decode cX10_slot 73 = .ok (.goto (-24), 3) := by decide +kernel
theorem dX10_slot_76 : decode cX10_slot 76 = .ok (.bipush 8, 2) := by decide +kernel
theorem dX10_slot_78 : decode cX10_slot 78 = .ok (.istore_n 3, 1) := by decide +kernel
theorem dX10_slot_79 : decode cX10_slot 79 = .ok (.iload_n 3, 1) := by decide +kernel
theorem dX10_slot_80 : decode cX10_slot 80 = .ok (.bipush 24, 2) := by decide +kernel
theorem dX10_slot_82 : decode cX10_slot 82 = .ok (.if_icmp .ge 14, 3) := by decide +kernel
theorem dX10_slot_85 : decode cX10_slot 85 = .ok (.aload_n 0, 1) := by decide +kernel
theorem dX10_slot_86 : decode cX10_slot 86 = .ok (.iload_n 3, 1) := by decide +kernel
theorem dX10_slot_87 : decode cX10_slot 87 = .ok (.invokevirtual 213, 3) := by decide +kernel
theorem dX10_slot_90 : decode cX10_slot 90 = .ok (.iinc 3 1, 3) := by decide +kernel
theorem dX10_slot_93 : decode cX10_slot 93 = .ok (.goto (-14), 3) := by decide +kernel
theorem dX10_slot_96 : decode cX10_slot 96 = .ok (.iconst 0, 1) := by decide +kernel
theorem dX10_slot_97 : decode cX10_slot 97 = .ok (.istore_n 3, 1) := by decide +kernel
theorem dX10_slot_98 : decode cX10_slot 98 = .ok (.iload_n 3, 1) := by decide +kernel
theorem dX10_slot_99 : decode cX10_slot 99 = .ok (.bipush 8, 2) := by decide +kernel
theorem dX10_slot_101 : decode cX10_slot 101 = .ok (.if_icmp .ge 24, 3) := by decide +kernel
theorem dX10_slot_104 : decode cX10_slot 104 = .ok (.aload_n 0, 1) := by decide +kernel
theorem dX10_slot_105 : decode cX10_slot 105 = .ok (.iload_n 3, 1) := by decide +kernel
theorem dX10_slot_106 : decode cX10_slot 106 = .ok (.invokevirtual 216, 3) := by decide +kernel
theorem dX10_slot_109 : decode cX10_slot 109 = .ok (.aload_n 0, 1) := by decide +kernel
theorem dX10_slot_110 : decode cX10_slot 110 = .ok (.iload_n 3, 1) := by decide +kernel
theorem dX10_slot_111 : decode cX10_slot 111 = .ok (.invokevirtual 219, 3) := by decide +kernel
theorem dX10_slot_114 : decode cX10_slot 114 = .ok (.aload_n 0, 1) := by decide +kernel
theorem dX10_slot_115 : decode cX10_slot 115 = .ok (.iload_n 3, 1) := by decide +kernel
theorem dX10_slot_116 : decode cX10_slot 116 = .ok (.invokevirtual 222, 3) := by decide +kernel
theorem dX10_slot_119 : decode cX10_slot 119 = .ok (.iinc 3 1, 3) := by decide +kernel
theorem dX10_slot_122 : decode cX10_slot 122 = .ok (.goto (-24), 3) := by decide +kernel
theorem dX10_slot_125 : decode cX10_slot 125 = .ok (.iinc 2 1, 3) := by decide +kernel
theorem dX10_slot_128 : decode cX10_slot 128 = .ok (.goto (-96), 3) := by decide +kernel
theorem dX10_slot_131 : decode cX10_slot 131 = .ok (.aload_n 0, 1) := by decide +kernel
theorem dX10_slot_132 : decode cX10_slot 132 = .ok (.getfield 177, 3) := by decide +kernel
theorem dX10_slot_135 : decode cX10_slot 135 = .ok (.ireturn, 1) := by decide +kernel
theorem dX10_lose_0 : decode cX10_lose 0 = .ok (.aload_n 0, 1) := by decide +kernel
theorem dX10_lose_1 : decode cX10_lose 1 = .ok (.iconst 0, 1) := by decide +kernel
theorem dX10_lose_2 : decode cX10_lose 2 = .ok (.putfield 134, 3) := by decide +kernel
theorem dX10_lose_5 : decode cX10_lose 5 = .ok (.iload_n 1, 1) := by decide +kernel
theorem dX10_lose_6 : decode cX10_lose 6 = .ok (.ifCond .lt 19, 3) := by decide +kernel
theorem dX10_lose_9 : decode cX10_lose 9 = .ok (.iload_n 1, 1) := by decide +kernel
theorem dX10_lose_10 : decode cX10_lose 10 = .ok (.bipush 24, 2) := by decide +kernel
theorem dX10_lose_12 : decode cX10_lose 12 = .ok (.if_icmp .ge 13, 3) := by decide +kernel
theorem dX10_lose_15 : decode cX10_lose 15 = .ok (.iload_n 2, 1) := by decide +kernel
theorem dX10_lose_16 : decode cX10_lose 16 = .ok (.ifCond .lt 9, 3) := by decide +kernel
theorem dX10_lose_19 : decode cX10_lose 19 = .ok (.iload_n 2, 1) := by decide +kernel
theorem dX10_lose_20 : decode cX10_lose 20 = .ok (.bipush 100, 2) := by decide +kernel
theorem dX10_lose_22 : decode cX10_lose 22 = .ok (.if_icmp .le 5, 3) := by decide +kernel
theorem dX10_lose_25 : decode cX10_lose 25 = .ok (.iconst 0, 1) := by decide +kernel
theorem dX10_lose_26 : decode cX10_lose 26 = .ok (.ireturn, 1) := by decide +kernel
theorem dX10_lose_27 : decode cX10_lose 27 = .ok (.aload_n 0, 1) := by decide +kernel
theorem dX10_lose_28 : decode cX10_lose 28 = .ok (.getfield 22, 3) := by decide +kernel
theorem dX10_lose_31 : decode cX10_lose 31 = .ok (.iload_n 1, 1) := by decide +kernel
theorem dX10_lose_32 : decode cX10_lose 32 = .ok (.iload_n 2, 1) := by decide +kernel
theorem dX10_lose_33 : decode cX10_lose 33 = .ok (.iastore, 1) := by decide +kernel
theorem dX10_lose_34 : decode cX10_lose 34 = .ok (.iconst 1, 1) := by decide +kernel
theorem dX10_lose_35 : decode cX10_lose 35 = .ok (.ireturn, 1) := by decide +kernel
theorem dX10_spine_0 : decode cX10_spine 0 = .ok (.aload_n 0, 1) := by decide +kernel
theorem dX10_spine_1 : decode cX10_spine 1 = .ok (.iconst 0, 1) := by decide +kernel
theorem dX10_spine_2 : decode cX10_spine 2 = .ok (.putfield 134, 3) := by decide +kernel
theorem dX10_spine_5 : decode cX10_spine 5 = .ok (.iload_n 1, 1) := by decide +kernel
theorem dX10_spine_6 : decode cX10_spine 6 = .ok (.ifCond .eq 10, 3) := by decide +kernel
theorem dX10_spine_9 : decode cX10_spine 9 = .ok (.iload_n 1, 1) := by decide +kernel
theorem dX10_spine_10 : decode cX10_spine 10 = .ok (.iconst 1, 1) := by decide +kernel
theorem dX10_spine_11 : decode cX10_spine 11 = .ok (.if_icmp .eq 5, 3) := by decide +kernel
theorem dX10_spine_14 : decode cX10_spine 14 = .ok (.iconst 0, 1) := by decide +kernel
theorem dX10_spine_15 : decode cX10_spine 15 = .ok (.ireturn, 1) := by decide +kernel
theorem dX10_spine_16 : decode cX10_spine 16 = .ok (.aload_n 0, 1) := by decide +kernel
theorem dX10_spine_17 : decode cX10_spine 17 = .ok (.getfield 37, 3) := by decide +kernel
theorem dX10_spine_20 : decode cX10_spine 20 = .ok (.iload_n 1, 1) := by decide +kernel
theorem dX10_spine_21 : decode cX10_spine 21 = .ok (.iload_n 2, 1) := by decide +kernel
theorem dX10_spine_22 : decode cX10_spine 22 = .ok (.ifCond .ne 7, 3) := by decide +kernel
theorem dX10_spine_25 : decode cX10_spine 25 = .ok (.iconst 1, 1) := by decide +kernel
theorem dX10_spine_26 : decode cX10_spine 26 = .ok (.goto 4, 3) := by decide +kernel
theorem dX10_spine_29 : decode cX10_spine 29 = .ok (.iconst 0, 1) := by decide +kernel
theorem dX10_spine_30 : decode cX10_spine 30 = .ok (.bastore, 1) := by decide +kernel
theorem dX10_spine_31 : decode cX10_spine 31 = .ok (.iconst 1, 1) := by decide +kernel
theorem dX10_spine_32 : decode cX10_spine 32 = .ok (.ireturn, 1) := by decide +kernel
theorem dX10_isMessage_0 : decode cX10_isMessage 0 = .ok (.iload_n 1, 1) := by decide +kernel
theorem dX10_isMessage_1 : decode cX10_isMessage 1 = .ok (.ifCond .lt 15, 3) := by decide +kernel
theorem dX10_isMessage_4 : decode cX10_isMessage 4 = .ok (.iload_n 1, 1) := by decide +kernel
theorem dX10_isMessage_5 : decode cX10_isMessage 5 = .ok (.aload_n 0, 1) := by decide +kernel
theorem dX10_isMessage_6 : decode cX10_isMessage 6 = .ok (.getfield 138, 3) := by decide +kernel
theorem dX10_isMessage_9 : decode cX10_isMessage 9 = .ok (.if_icmp .ge 7, 3) := by decide +kernel
theorem dX10_isMessage_12 : decode cX10_isMessage 12 = .ok (.iconst 1, 1) := by decide +kernel
theorem dX10_isMessage_13 : decode cX10_isMessage 13 = .ok (.goto 4, 3) := by decide +kernel
theorem dX10_isMessage_16 : decode cX10_isMessage 16 = .ok (.iconst 0, 1) := by decide +kernel
theorem dX10_isMessage_17 : decode cX10_isMessage 17 = .ok (.ireturn, 1) := by decide +kernel
theorem dX10_sent_0 : decode cX10_sent 0 = .ok (.aload_n 0, 1) := by decide +kernel
theorem dX10_sent_1 : decode cX10_sent 1 = .ok (.iconst 0, 1) := by decide +kernel
theorem dX10_sent_2 : decode cX10_sent 2 = .ok (.putfield 134, 3) := by decide +kernel
theorem dX10_sent_5 : decode cX10_sent 5 = .ok (.aload_n 0, 1) := by decide +kernel
theorem dX10_sent_6 : decode cX10_sent 6 = .ok (.iload_n 1, 1) := by decide +kernel
theorem dX10_sent_7 : decode cX10_sent 7 = .ok (.invokevirtual 225, 3) := by decide +kernel
theorem dX10_sent_10 : decode cX10_sent 10 = .ok (.ifCond .ne 5, 3) := by decide +kernel
theorem dX10_sent_13 : decode cX10_sent 13 = .ok (.iconst (-1), 1) := by decide +kernel
theorem dX10_sent_14 : decode cX10_sent 14 = .ok (.ireturn, 1) := by decide +kernel
theorem dX10_sent_15 : decode cX10_sent 15 = .ok (.iload_n 2, 1) := by decide +kernel
theorem dX10_sent_16 : decode cX10_sent 16 = .ok (.tableswitch 103 0 7 #[48, 55, 62, 69, 75, 82, 89, 96], 48) := by decide +kernel
theorem dX10_sent_64 : decode cX10_sent 64 = .ok (.aload_n 0, 1) := by decide +kernel
theorem dX10_sent_65 : decode cX10_sent 65 = .ok (.getfield 56, 3) := by decide +kernel
theorem dX10_sent_68 : decode cX10_sent 68 = .ok (.iload_n 1, 1) := by decide +kernel
theorem dX10_sent_69 : decode cX10_sent 69 = .ok (.iaload, 1) := by decide +kernel
theorem dX10_sent_70 : decode cX10_sent 70 = .ok (.ireturn, 1) := by decide +kernel
theorem dX10_sent_71 : decode cX10_sent 71 = .ok (.aload_n 0, 1) := by decide +kernel
theorem dX10_sent_72 : decode cX10_sent 72 = .ok (.getfield 59, 3) := by decide +kernel
theorem dX10_sent_75 : decode cX10_sent 75 = .ok (.iload_n 1, 1) := by decide +kernel
theorem dX10_sent_76 : decode cX10_sent 76 = .ok (.iaload, 1) := by decide +kernel
theorem dX10_sent_77 : decode cX10_sent 77 = .ok (.ireturn, 1) := by decide +kernel
theorem dX10_sent_78 : decode cX10_sent 78 = .ok (.aload_n 0, 1) := by decide +kernel
theorem dX10_sent_79 : decode cX10_sent 79 = .ok (.getfield 62, 3) := by decide +kernel
theorem dX10_sent_82 : decode cX10_sent 82 = .ok (.iload_n 1, 1) := by decide +kernel
theorem dX10_sent_83 : decode cX10_sent 83 = .ok (.iaload, 1) := by decide +kernel
theorem dX10_sent_84 : decode cX10_sent 84 = .ok (.ireturn, 1) := by decide +kernel
theorem dX10_sent_85 : decode cX10_sent 85 = .ok (.aload_n 0, 1) := by decide +kernel
theorem dX10_sent_86 : decode cX10_sent 86 = .ok (.iload_n 1, 1) := by decide +kernel
theorem dX10_sent_87 : decode cX10_sent 87 = .ok (.invokevirtual 200, 3) := by decide +kernel
theorem dX10_sent_90 : decode cX10_sent 90 = .ok (.ireturn, 1) := by decide +kernel
theorem dX10_sent_91 : decode cX10_sent 91 = .ok (.aload_n 0, 1) := by decide +kernel
theorem dX10_sent_92 : decode cX10_sent 92 = .ok (.getfield 68, 3) := by decide +kernel
theorem dX10_sent_95 : decode cX10_sent 95 = .ok (.iload_n 1, 1) := by decide +kernel
theorem dX10_sent_96 : decode cX10_sent 96 = .ok (.iaload, 1) := by decide +kernel
theorem dX10_sent_97 : decode cX10_sent 97 = .ok (.ireturn, 1) := by decide +kernel
theorem dX10_sent_98 : decode cX10_sent 98 = .ok (.aload_n 0, 1) := by decide +kernel
theorem dX10_sent_99 : decode cX10_sent 99 = .ok (.getfield 71, 3) := by decide +kernel
theorem dX10_sent_102 : decode cX10_sent 102 = .ok (.iload_n 1, 1) := by decide +kernel
theorem dX10_sent_103 : decode cX10_sent 103 = .ok (.iaload, 1) := by decide +kernel
theorem dX10_sent_104 : decode cX10_sent 104 = .ok (.ireturn, 1) := by decide +kernel
theorem dX10_sent_105 : decode cX10_sent 105 = .ok (.aload_n 0, 1) := by decide +kernel
theorem dX10_sent_106 : decode cX10_sent 106 = .ok (.getfield 65, 3) := by decide +kernel
theorem dX10_sent_109 : decode cX10_sent 109 = .ok (.iload_n 1, 1) := by decide +kernel
theorem dX10_sent_110 : decode cX10_sent 110 = .ok (.iaload, 1) := by decide +kernel
theorem dX10_sent_111 : decode cX10_sent 111 = .ok (.ireturn, 1) := by decide +kernel
theorem dX10_sent_112 : decode cX10_sent 112 = .ok (.aload_n 0, 1) := by decide +kernel
theorem dX10_sent_113 : decode cX10_sent 113 = .ok (.getfield 74, 3) := by decide +kernel
theorem dX10_sent_116 : decode cX10_sent 116 = .ok (.iload_n 1, 1) := by decide +kernel
theorem dX10_sent_117 : decode cX10_sent 117 = .ok (.iaload, 1) := by decide +kernel
theorem dX10_sent_118 : decode cX10_sent 118 = .ok (.ireturn, 1) := by decide +kernel
theorem dX10_sent_119 : decode cX10_sent 119 = .ok (.iconst (-1), 1) := by decide +kernel
theorem dX10_sent_120 : decode cX10_sent 120 = .ok (.ireturn, 1) := by decide +kernel
theorem dX10_received_0 : decode cX10_received 0 = .ok (.aload_n 0, 1) := by decide +kernel
theorem dX10_received_1 : decode cX10_received 1 = .ok (.iconst 0, 1) := by decide +kernel
theorem dX10_received_2 : decode cX10_received 2 = .ok (.putfield 134, 3) := by decide +kernel
theorem dX10_received_5 : decode cX10_received 5 = .ok (.aload_n 0, 1) := by decide +kernel
theorem dX10_received_6 : decode cX10_received 6 = .ok (.iload_n 1, 1) := by decide +kernel
theorem dX10_received_7 : decode cX10_received 7 = .ok (.invokevirtual 225, 3) := by decide +kernel
theorem dX10_received_10 : decode cX10_received 10 = .ok (.ifCond .eq 13, 3) := by decide +kernel
theorem dX10_received_13 : decode cX10_received 13 = .ok (.iload_n 2, 1) := by decide +kernel
theorem dX10_received_14 : decode cX10_received 14 = .ok (.ifCond .lt 9, 3) := by decide +kernel
theorem dX10_received_17 : decode cX10_received 17 = .ok (.iload_n 2, 1) := by decide +kernel
theorem dX10_received_18 : decode cX10_received 18 = .ok (.bipush 6, 2) := by decide +kernel
theorem dX10_received_20 : decode cX10_received 20 = .ok (.if_icmp .le 5, 3) := by decide +kernel
theorem dX10_received_23 : decode cX10_received 23 = .ok (.iconst (-1), 1) := by decide +kernel
theorem dX10_received_24 : decode cX10_received 24 = .ok (.ireturn, 1) := by decide +kernel
theorem dX10_received_25 : decode cX10_received 25 = .ok (.iload_n 2, 1) := by decide +kernel
theorem dX10_received_26 : decode cX10_received 26 = .ok (.ifCond .ne 10, 3) := by decide +kernel
theorem dX10_received_29 : decode cX10_received 29 = .ok (.aload_n 0, 1) := by decide +kernel
theorem dX10_received_30 : decode cX10_received 30 = .ok (.getfield 80, 3) := by decide +kernel
theorem dX10_received_33 : decode cX10_received 33 = .ok (.iload_n 1, 1) := by decide +kernel
theorem dX10_received_34 : decode cX10_received 34 = .ok (.iaload, 1) := by decide +kernel
theorem dX10_received_35 : decode cX10_received 35 = .ok (.ireturn, 1) := by decide +kernel
theorem dX10_received_36 : decode cX10_received 36 = .ok (.iload_n 2, 1) := by decide +kernel
theorem dX10_received_37 : decode cX10_received 37 = .ok (.iconst 1, 1) := by decide +kernel
theorem dX10_received_38 : decode cX10_received 38 = .ok (.if_icmp .ne 10, 3) := by decide +kernel
theorem dX10_received_41 : decode cX10_received 41 = .ok (.aload_n 0, 1) := by decide +kernel
theorem dX10_received_42 : decode cX10_received 42 = .ok (.getfield 83, 3) := by decide +kernel
theorem dX10_received_45 : decode cX10_received 45 = .ok (.iload_n 1, 1) := by decide +kernel
theorem dX10_received_46 : decode cX10_received 46 = .ok (.iaload, 1) := by decide +kernel
theorem dX10_received_47 : decode cX10_received 47 = .ok (.ireturn, 1) := by decide +kernel
theorem dX10_received_48 : decode cX10_received 48 = .ok (.aload_n 0, 1) := by decide +kernel
theorem dX10_received_49 : decode cX10_received 49 = .ok (.getfield 80, 3) := by decide +kernel
theorem dX10_received_52 : decode cX10_received 52 = .ok (.iload_n 1, 1) := by decide +kernel
theorem dX10_received_53 : decode cX10_received 53 = .ok (.iaload, 1) := by decide +kernel
theorem dX10_received_54 : decode cX10_received 54 = .ok (.iconst 1, 1) := by decide +kernel
theorem dX10_received_55 : decode cX10_received 55 = .ok (.if_icmp .eq 5, 3) := by decide +kernel
theorem dX10_received_58 : decode cX10_received 58 = .ok (.iconst 0, 1) := by decide +kernel
theorem dX10_received_59 : decode cX10_received 59 = .ok (.ireturn, 1) := by decide +kernel
theorem dX10_received_60 : decode cX10_received 60 = .ok (.iload_n 2, 1) := by decide +kernel
theorem dX10_received_61 : decode cX10_received 61 = .ok (.iconst 2, 1) := by decide +kernel
theorem dX10_received_62 : decode cX10_received 62 = .ok (.if_icmp .ne 11, 3) := by decide +kernel
theorem dX10_received_65 : decode cX10_received 65 = .ok (.aload_n 0, 1) := by decide +kernel
theorem dX10_received_66 : decode cX10_received 66 = .ok (.iload_n 1, 1) := by decide +kernel
theorem dX10_received_67 : decode cX10_received 67 = .ok (.invokevirtual 173, 3) := by decide +kernel
theorem dX10_received_70 : decode cX10_received 70 = .ok (.goto 51, 3) := by decide +kernel
theorem dX10_received_73 : decode cX10_received 73 = .ok (.iload_n 2, 1) := by decide +kernel
theorem dX10_received_74 : decode cX10_received 74 = .ok (.iconst 3, 1) := by decide +kernel
theorem dX10_received_75 : decode cX10_received 75 = .ok (.if_icmp .ne 12, 3) := by decide +kernel
theorem dX10_received_78 : decode cX10_received 78 = .ok (.aload_n 0, 1) := by decide +kernel
theorem dX10_received_79 : decode cX10_received 79 = .ok (.getfield 86, 3) := by decide +kernel
theorem dX10_received_82 : decode cX10_received 82 = .ok (.iload_n 1, 1) := by decide +kernel
theorem dX10_received_83 : decode cX10_received 83 = .ok (.iaload, 1) := by decide +kernel
theorem dX10_received_84 : decode cX10_received 84 = .ok (.goto 37, 3) := by decide +kernel
theorem dX10_received_87 : decode cX10_received 87 = .ok (.iload_n 2, 1) := by decide +kernel
theorem dX10_received_88 : decode cX10_received 88 = .ok (.iconst 4, 1) := by decide +kernel
theorem dX10_received_89 : decode cX10_received 89 = .ok (.if_icmp .ne 12, 3) := by decide +kernel
theorem dX10_received_92 : decode cX10_received 92 = .ok (.aload_n 0, 1) := by decide +kernel
theorem dX10_received_93 : decode cX10_received 93 = .ok (.getfield 89, 3) := by decide +kernel
theorem dX10_received_96 : decode cX10_received 96 = .ok (.iload_n 1, 1) := by decide +kernel
theorem dX10_received_97 : decode cX10_received 97 = .ok (.iaload, 1) := by decide +kernel
theorem dX10_received_98 : decode cX10_received 98 = .ok (.goto 23, 3) := by decide +kernel
theorem dX10_received_101 : decode cX10_received 101 = .ok (.iload_n 2, 1) := by decide +kernel
theorem dX10_received_102 : decode cX10_received 102 = .ok (.iconst 5, 1) := by decide +kernel
theorem dX10_received_103 : decode cX10_received 103 = .ok (.if_icmp .ne 12, 3) := by decide +kernel
theorem dX10_received_106 : decode cX10_received 106 = .ok (.aload_n 0, 1) := by decide +kernel
theorem dX10_received_107 : decode cX10_received 107 = .ok (.getfield 92, 3) := by decide +kernel
theorem dX10_received_110 : decode cX10_received 110 = .ok (.iload_n 1, 1) := by decide +kernel
theorem dX10_received_111 : decode cX10_received 111 = .ok (.iaload, 1) := by decide +kernel
theorem dX10_received_112 : decode cX10_received 112 = .ok (.goto 9, 3) := by decide +kernel
theorem dX10_received_115 : decode cX10_received 115 = .ok (.aload_n 0, 1) := by decide +kernel
theorem dX10_received_116 : decode cX10_received 116 = .ok (.getfield 95, 3) := by decide +kernel
theorem dX10_received_119 : decode cX10_received 119 = .ok (.iload_n 1, 1) := by decide +kernel
theorem dX10_received_120 : decode cX10_received 120 = .ok (.iaload, 1) := by decide +kernel
theorem dX10_received_121 : decode cX10_received 121 = .ok (.ireturn, 1) := by decide +kernel
theorem dX10_in_0 : decode cX10_in 0 = .ok (.aload_n 0, 1) := by decide +kernel
theorem dX10_in_1 : decode cX10_in 1 = .ok (.iconst 0, 1) := by decide +kernel
theorem dX10_in_2 : decode cX10_in 2 = .ok (.putfield 134, 3) := by decide +kernel
theorem dX10_in_5 : decode cX10_in 5 = .ok (.aload_n 0, 1) := by decide +kernel
theorem dX10_in_6 : decode cX10_in 6 = .ok (.iload_n 1, 1) := by decide +kernel
theorem dX10_in_7 : decode cX10_in 7 = .ok (.invokevirtual 225, 3) := by decide +kernel
theorem dX10_in_10 : decode cX10_in 10 = .ok (.ifCond .eq 35, 3) := by decide +kernel
theorem dX10_in_13 : decode cX10_in 13 = .ok (.iload_n 2, 1) := by decide +kernel
theorem dX10_in_14 : decode cX10_in 14 = .ok (.ifCond .lt 31, 3) := by decide +kernel
theorem dX10_in_17 : decode cX10_in 17 = .ok (.iload_n 2, 1) := by decide +kernel
theorem dX10_in_18 : decode cX10_in 18 = .ok (.aload_n 0, 1) := by decide +kernel
theorem dX10_in_19 : decode cX10_in 19 = .ok (.getfield 50, 3) := by decide +kernel
theorem dX10_in_22 : decode cX10_in 22 = .ok (.iload_n 1, 1) := by decide +kernel
theorem dX10_in_23 : decode cX10_in 23 = .ok (.iaload, 1) := by decide +kernel
theorem dX10_in_24 : decode cX10_in 24 = .ok (.if_icmp .ge 21, 3) := by decide +kernel
theorem dX10_in_27 : decode cX10_in 27 = .ok (.aload_n 0, 1) := by decide +kernel
theorem dX10_in_28 : decode cX10_in 28 = .ok (.getfield 101, 3) := by decide +kernel
theorem dX10_in_31 : decode cX10_in 31 = .ok (.bipush 60, 2) := by decide +kernel
theorem dX10_in_33 : decode cX10_in 33 = .ok (.iload_n 1, 1) := by decide +kernel
theorem dX10_in_34 : decode cX10_in 34 = .ok (.imul, 1) := by decide +kernel
theorem dX10_in_35 : decode cX10_in 35 = .ok (.iload_n 2, 1) := by decide +kernel
theorem dX10_in_36 : decode cX10_in 36 = .ok (.iadd, 1) := by decide +kernel
theorem dX10_in_37 : decode cX10_in 37 = .ok (.baload, 1) := by decide +kernel
theorem dX10_in_38 : decode cX10_in 38 = .ok (.ifCond .eq 7, 3) := by decide +kernel
theorem dX10_in_41 : decode cX10_in 41 = .ok (.iconst 1, 1) := by decide +kernel
theorem dX10_in_42 : decode cX10_in 42 = .ok (.goto 4, 3) := by decide +kernel
theorem dX10_in_45 : decode cX10_in 45 = .ok (.iconst 0, 1) := by decide +kernel
theorem dX10_in_46 : decode cX10_in 46 = .ok (.ireturn, 1) := by decide +kernel
theorem dX10_finished_0 : decode cX10_finished 0 = .ok (.aload_n 0, 1) := by decide +kernel
theorem dX10_finished_1 : decode cX10_finished 1 = .ok (.iconst 0, 1) := by decide +kernel
theorem dX10_finished_2 : decode cX10_finished 2 = .ok (.putfield 134, 3) := by decide +kernel
theorem dX10_finished_5 : decode cX10_finished 5 = .ok (.iload_n 1, 1) := by decide +kernel
theorem dX10_finished_6 : decode cX10_finished 6 = .ok (.ifCond .lt 29, 3) := by decide +kernel
theorem dX10_finished_9 : decode cX10_finished 9 = .ok (.iload_n 1, 1) := by decide +kernel
theorem dX10_finished_10 : decode cX10_finished 10 = .ok (.bipush 8, 2) := by decide +kernel
theorem dX10_finished_12 : decode cX10_finished 12 = .ok (.if_icmp .ge 23, 3) := by decide +kernel
theorem dX10_finished_15 : decode cX10_finished 15 = .ok (.iload_n 2, 1) := by decide +kernel
theorem dX10_finished_16 : decode cX10_finished 16 = .ok (.ifCond .lt 19, 3) := by decide +kernel
theorem dX10_finished_19 : decode cX10_finished 19 = .ok (.iload_n 2, 1) := by decide +kernel
theorem dX10_finished_20 : decode cX10_finished 20 = .ok (.bipush 63, 2) := by decide +kernel
theorem dX10_finished_22 : decode cX10_finished 22 = .ok (.if_icmp .gt 13, 3) := by decide +kernel
theorem dX10_finished_25 : decode cX10_finished 25 = .ok (.iload_n 2, 1) := by decide +kernel
theorem dX10_finished_26 : decode cX10_finished 26 = .ok (.aload_n 0, 1) := by decide +kernel
theorem dX10_finished_27 : decode cX10_finished 27 = .ok (.getfield 128, 3) := by decide +kernel
theorem dX10_finished_30 : decode cX10_finished 30 = .ok (.iload_n 1, 1) := by decide +kernel
theorem dX10_finished_31 : decode cX10_finished 31 = .ok (.iaload, 1) := by decide +kernel
theorem dX10_finished_32 : decode cX10_finished 32 = .ok (.if_icmp .lt 5, 3) := by decide +kernel
theorem dX10_finished_35 : decode cX10_finished 35 = .ok (.iconst (-1), 1) := by decide +kernel
theorem dX10_finished_36 : decode cX10_finished 36 = .ok (.ireturn, 1) := by decide +kernel
theorem dX10_finished_37 : decode cX10_finished 37 = .ok (.aload_n 0, 1) := by decide +kernel
theorem dX10_finished_38 : decode cX10_finished 38 = .ok (.getfield 131, 3) := by decide +kernel
theorem dX10_finished_41 : decode cX10_finished 41 = .ok (.bipush 64, 2) := by decide +kernel
theorem dX10_finished_43 : decode cX10_finished 43 = .ok (.iload_n 1, 1) := by decide +kernel
theorem dX10_finished_44 : decode cX10_finished 44 = .ok (.imul, 1) := by decide +kernel
theorem dX10_finished_45 : decode cX10_finished 45 = .ok (.aload_n 0, 1) := by decide +kernel
theorem dX10_finished_46 : decode cX10_finished 46 = .ok (.getfield 128, 3) := by decide +kernel
theorem dX10_finished_49 : decode cX10_finished 49 = .ok (.iload_n 1, 1) := by decide +kernel
theorem dX10_finished_50 : decode cX10_finished 50 = .ok (.iaload, 1) := by decide +kernel
theorem dX10_finished_51 : decode cX10_finished 51 = .ok (.iconst 1, 1) := by decide +kernel
theorem dX10_finished_52 : decode cX10_finished 52 = .ok (.isub, 1) := by decide +kernel
theorem dX10_finished_53 : decode cX10_finished 53 = .ok (.iload_n 2, 1) := by decide +kernel
theorem dX10_finished_54 : decode cX10_finished 54 = .ok (.isub, 1) := by decide +kernel
theorem dX10_finished_55 : decode cX10_finished 55 = .ok (.bipush 64, 2) := by decide +kernel
theorem dX10_finished_57 : decode cX10_finished 57 = .ok (.irem, 1) := by decide +kernel
theorem dX10_finished_58 : decode cX10_finished 58 = .ok (.iadd, 1) := by decide +kernel
theorem dX10_finished_59 : decode cX10_finished 59 = .ok (.iaload, 1) := by decide +kernel
theorem dX10_finished_60 : decode cX10_finished 60 = .ok (.ireturn, 1) := by decide +kernel
theorem dX10_chosen_0 : decode cX10_chosen 0 = .ok (.aload_n 0, 1) := by decide +kernel
theorem dX10_chosen_1 : decode cX10_chosen 1 = .ok (.iconst 0, 1) := by decide +kernel
theorem dX10_chosen_2 : decode cX10_chosen 2 = .ok (.putfield 134, 3) := by decide +kernel
theorem dX10_chosen_5 : decode cX10_chosen 5 = .ok (.iload_n 1, 1) := by decide +kernel
theorem dX10_chosen_6 : decode cX10_chosen 6 = .ok (.ifCond .lt 23, 3) := by decide +kernel
theorem dX10_chosen_9 : decode cX10_chosen 9 = .ok (.iload_n 1, 1) := by decide +kernel
theorem dX10_chosen_10 : decode cX10_chosen 10 = .ok (.bipush 8, 2) := by decide +kernel
theorem dX10_chosen_12 : decode cX10_chosen 12 = .ok (.if_icmp .ge 17, 3) := by decide +kernel
theorem dX10_chosen_15 : decode cX10_chosen 15 = .ok (.iload_n 2, 1) := by decide +kernel
theorem dX10_chosen_16 : decode cX10_chosen 16 = .ok (.ifCond .lt 13, 3) := by decide +kernel
theorem dX10_chosen_19 : decode cX10_chosen 19 = .ok (.iload_n 2, 1) := by decide +kernel
theorem dX10_chosen_20 : decode cX10_chosen 20 = .ok (.aload_n 0, 1) := by decide +kernel
theorem dX10_chosen_21 : decode cX10_chosen 21 = .ok (.getfield 125, 3) := by decide +kernel
theorem dX10_chosen_24 : decode cX10_chosen 24 = .ok (.iload_n 1, 1) := by decide +kernel
theorem dX10_chosen_25 : decode cX10_chosen 25 = .ok (.iaload, 1) := by decide +kernel
theorem dX10_chosen_26 : decode cX10_chosen 26 = .ok (.if_icmp .lt 7, 3) := by decide +kernel
theorem dX10_chosen_29 : decode cX10_chosen 29 = .ok (.iconst (-1), 1) := by decide +kernel
theorem dX10_chosen_30 : decode cX10_chosen 30 = .ok (.goto 13, 3) := by decide +kernel
theorem dX10_chosen_33 : decode cX10_chosen 33 = .ok (.aload_n 0, 1) := by decide +kernel
theorem dX10_chosen_34 : decode cX10_chosen 34 = .ok (.getfield 122, 3) := by decide +kernel
theorem dX10_chosen_37 : decode cX10_chosen 37 = .ok (.iconst 3, 1) := by decide +kernel
theorem dX10_chosen_38 : decode cX10_chosen 38 = .ok (.iload_n 1, 1) := by decide +kernel
theorem dX10_chosen_39 : decode cX10_chosen 39 = .ok (.imul, 1) := by decide +kernel
theorem dX10_chosen_40 : decode cX10_chosen 40 = .ok (.iload_n 2, 1) := by decide +kernel
theorem dX10_chosen_41 : decode cX10_chosen 41 = .ok (.iadd, 1) := by decide +kernel
theorem dX10_chosen_42 : decode cX10_chosen 42 = .ok (.iaload, 1) := by decide +kernel
theorem dX10_chosen_43 : decode cX10_chosen 43 = .ok (.ireturn, 1) := by decide +kernel
theorem dX10_host_0 : decode cX10_host 0 = .ok (.aload_n 0, 1) := by decide +kernel
theorem dX10_host_1 : decode cX10_host 1 = .ok (.iconst 0, 1) := by decide +kernel
theorem dX10_host_2 : decode cX10_host 2 = .ok (.putfield 134, 3) := by decide +kernel
theorem dX10_host_5 : decode cX10_host 5 = .ok (.iload_n 1, 1) := by decide +kernel
theorem dX10_host_6 : decode cX10_host 6 = .ok (.ifCond .lt 18, 3) := by decide +kernel
theorem dX10_host_9 : decode cX10_host 9 = .ok (.iload_n 1, 1) := by decide +kernel
theorem dX10_host_10 : decode cX10_host 10 = .ok (.bipush 8, 2) := by decide +kernel
theorem dX10_host_12 : decode cX10_host 12 = .ok (.if_icmp .ge 12, 3) := by decide +kernel
theorem dX10_host_15 : decode cX10_host 15 = .ok (.iload_n 2, 1) := by decide +kernel
theorem dX10_host_16 : decode cX10_host 16 = .ok (.ifCond .lt 8, 3) := by decide +kernel
theorem dX10_host_19 : decode cX10_host 19 = .ok (.iload_n 2, 1) := by decide +kernel
theorem dX10_host_20 : decode cX10_host 20 = .ok (.iconst 5, 1) := by decide +kernel
theorem dX10_host_21 : decode cX10_host 21 = .ok (.if_icmp .le 5, 3) := by decide +kernel
theorem dX10_host_24 : decode cX10_host 24 = .ok (.iconst (-1), 1) := by decide +kernel
theorem dX10_host_25 : decode cX10_host 25 = .ok (.ireturn, 1) := by decide +kernel
theorem dX10_host_26 : decode cX10_host 26 = .ok (.iconst 0, 1) := by decide +kernel
theorem dX10_host_27 : decode cX10_host 27 = .ok (.istore_n 3, 1) := by decide +kernel
theorem dX10_host_28 : decode cX10_host 28 = .ok (.iload_n 2, 1) := by decide +kernel
theorem dX10_host_29 : decode cX10_host 29 = .ok (.ifCond .ne 90, 3) := by decide +kernel
theorem dX10_host_32 : decode cX10_host 32 = .ok (.iconst 0, 1) := by decide +kernel
theorem dX10_host_33 : decode cX10_host 33 = .ok (.istore 4, 2) := by decide +kernel
theorem dX10_host_35 : decode cX10_host 35 = .ok (.iload 4, 2) := by decide +kernel
theorem dX10_host_37 : decode cX10_host 37 = .ok (.aload_n 0, 1) := by decide +kernel
theorem dX10_host_38 : decode cX10_host 38 = .ok (.getfield 138, 3) := by decide +kernel
theorem dX10_host_41 : decode cX10_host 41 = .ok (.if_icmp .ge 76, 3) := by decide +kernel
theorem dX10_host_44 : decode cX10_host 44 = .ok (.aload_n 0, 1) := by decide +kernel
theorem dX10_host_45 : decode cX10_host 45 = .ok (.getfield 50, 3) := by decide +kernel
theorem dX10_host_48 : decode cX10_host 48 = .ok (.iload 4, 2) := by decide +kernel
theorem dX10_host_50 : decode cX10_host 50 = .ok (.iaload, 1) := by decide +kernel
theorem dX10_host_51 : decode cX10_host 51 = .ok (.aload_n 0, 1) := by decide +kernel
theorem dX10_host_52 : decode cX10_host 52 = .ok (.iload 4, 2) := by decide +kernel
theorem dX10_host_54 : decode cX10_host 54 = .ok (.invokevirtual 173, 3) := by decide +kernel
theorem dX10_host_57 : decode cX10_host 57 = .ok (.isub, 1) := by decide +kernel
theorem dX10_host_58 : decode cX10_host 58 = .ok (.istore 5, 2) := by decide +kernel
theorem dX10_host_60 : decode cX10_host 60 = .ok (.iload_n 3, 1) := by decide +kernel
theorem dX10_host_61 : decode cX10_host 61 = .ok (.aload_n 0, 1) := by decide +kernel
theorem dX10_host_62 : decode cX10_host 62 = .ok (.getfield 47, 3) := by decide +kernel
theorem dX10_host_65 : decode cX10_host 65 = .ok (.iload 4, 2) := by decide +kernel
theorem dX10_host_67 : decode cX10_host 67 = .ok (.iaload, 1) := by decide +kernel
theorem dX10_host_68 : decode cX10_host 68 = .ok (.iload_n 1, 1) := by decide +kernel
theorem dX10_host_69 : decode cX10_host 69 = .ok (.if_icmp .ne 39, 3) := by decide +kernel
theorem dX10_host_72 : decode cX10_host 72 = .ok (.aload_n 0, 1) := by decide +kernel
theorem dX10_host_73 : decode cX10_host 73 = .ok (.getfield 80, 3) := by decide +kernel
theorem dX10_host_76 : decode cX10_host 76 = .ok (.iload 4, 2) := by decide +kernel
theorem dX10_host_78 : decode cX10_host 78 = .ok (.iaload, 1) := by decide +kernel
theorem dX10_host_79 : decode cX10_host 79 = .ok (.iconst 1, 1) := by decide +kernel
theorem dX10_host_80 : decode cX10_host 80 = .ok (.if_icmp .ne 28, 3) := by decide +kernel
theorem dX10_host_83 : decode cX10_host 83 = .ok (.aload_n 0, 1) := by decide +kernel
theorem dX10_host_84 : decode cX10_host 84 = .ok (.getfield 86, 3) := by decide +kernel
theorem dX10_host_87 : decode cX10_host 87 = .ok (.iload 4, 2) := by decide +kernel
theorem dX10_host_89 : decode cX10_host 89 = .ok (.iaload, 1) := by decide +kernel
theorem dX10_host_90 : decode cX10_host 90 = .ok (.iload 5, 2) := by decide +kernel
theorem dX10_host_92 : decode cX10_host 92 = .ok (.if_icmp .le 16, 3) := by decide +kernel
theorem dX10_host_95 : decode cX10_host 95 = .ok (.aload_n 0, 1) := by decide +kernel
theorem dX10_host_96 : decode cX10_host 96 = .ok (.getfield 86, 3) := by decide +kernel
theorem dX10_host_99 : decode cX10_host 99 = .ok (.iload 4, 2) := by decide +kernel
theorem dX10_host_101 : decode cX10_host 101 = .ok (.iaload, 1) := by decide +kernel
theorem dX10_host_102 : decode cX10_host 102 = .ok (.iload 5, 2) := by decide +kernel
theorem dX10_host_104 : decode cX10_host 104 = .ok (.isub, 1) := by decide +kernel
theorem dX10_host_105 : decode cX10_host 105 = .ok (.goto 4, 3) := by decide +kernel
theorem dX10_host_108 : decode cX10_host 108 = .ok (.iconst 0, 1) := by decide +kernel
theorem dX10_host_109 : decode cX10_host 109 = .ok (.iadd, 1) := by decide +kernel
theorem dX10_host_110 : decode cX10_host 110 = .ok (.istore_n 3, 1) := by decide +kernel
theorem dX10_host_111 : decode cX10_host 111 = .ok (.iinc 4 1, 3) := by decide +kernel
theorem dX10_host_114 : decode cX10_host 114 = .ok (.goto (-79), 3) := by decide +kernel
theorem dX10_host_117 : decode cX10_host 117 = .ok (.iload_n 3, 1) := by decide +kernel
theorem dX10_host_118 : decode cX10_host 118 = .ok (.ireturn, 1) := by decide +kernel
theorem dX10_host_119 : decode cX10_host 119 = .ok (.iload_n 2, 1) := by decide +kernel
theorem dX10_host_120 : decode cX10_host 120 = .ok (.iconst 1, 1) := by decide +kernel
theorem dX10_host_121 : decode cX10_host 121 = .ok (.if_icmp .ne 12, 3) := by decide +kernel
theorem dX10_host_124 : decode cX10_host 124 = .ok (.aload_n 0, 1) := by decide +kernel
theorem dX10_host_125 : decode cX10_host 125 = .ok (.getfield 107, 3) := by decide +kernel
theorem dX10_host_128 : decode cX10_host 128 = .ok (.iload_n 1, 1) := by decide +kernel
theorem dX10_host_129 : decode cX10_host 129 = .ok (.iaload, 1) := by decide +kernel
theorem dX10_host_130 : decode cX10_host 130 = .ok (.goto 39, 3) := by decide +kernel
theorem dX10_host_133 : decode cX10_host 133 = .ok (.iload_n 2, 1) := by decide +kernel
theorem dX10_host_134 : decode cX10_host 134 = .ok (.iconst 4, 1) := by decide +kernel
theorem dX10_host_135 : decode cX10_host 135 = .ok (.if_icmp .ge 14, 3) := by decide +kernel
theorem dX10_host_138 : decode cX10_host 138 = .ok (.aload_n 0, 1) := by decide +kernel
theorem dX10_host_139 : decode cX10_host 139 = .ok (.iload_n 1, 1) := by decide +kernel
theorem dX10_host_140 : decode cX10_host 140 = .ok (.iload_n 2, 1) := by decide +kernel
theorem dX10_host_141 : decode cX10_host 141 = .ok (.iconst 1, 1) := by decide +kernel
theorem dX10_host_142 : decode cX10_host 142 = .ok (.isub, 1) := by decide +kernel
theorem dX10_host_143 : decode cX10_host 143 = .ok (.invokevirtual 203, 3) := by decide +kernel
theorem dX10_host_146 : decode cX10_host 146 = .ok (.goto 23, 3) := by decide +kernel
theorem dX10_host_149 : decode cX10_host 149 = .ok (.iload_n 2, 1) := by decide +kernel
theorem dX10_host_150 : decode cX10_host 150 = .ok (.iconst 4, 1) := by decide +kernel
theorem dX10_host_151 : decode cX10_host 151 = .ok (.if_icmp .ne 12, 3) := by decide +kernel
theorem dX10_host_154 : decode cX10_host 154 = .ok (.aload_n 0, 1) := by decide +kernel
theorem dX10_host_155 : decode cX10_host 155 = .ok (.getfield 119, 3) := by decide +kernel
theorem dX10_host_158 : decode cX10_host 158 = .ok (.iload_n 1, 1) := by decide +kernel
theorem dX10_host_159 : decode cX10_host 159 = .ok (.iaload, 1) := by decide +kernel
theorem dX10_host_160 : decode cX10_host 160 = .ok (.goto 9, 3) := by decide +kernel
theorem dX10_host_163 : decode cX10_host 163 = .ok (.aload_n 0, 1) := by decide +kernel
theorem dX10_host_164 : decode cX10_host 164 = .ok (.getfield 128, 3) := by decide +kernel
theorem dX10_host_167 : decode cX10_host 167 = .ok (.iload_n 1, 1) := by decide +kernel
theorem dX10_host_168 : decode cX10_host 168 = .ok (.iaload, 1) := by decide +kernel
theorem dX10_host_169 : decode cX10_host 169 = .ok (.ireturn, 1) := by decide +kernel
theorem dX10_queue_0 : decode cX10_queue 0 = .ok (.aload_n 0, 1) := by decide +kernel
theorem dX10_queue_1 : decode cX10_queue 1 = .ok (.iconst 0, 1) := by decide +kernel
theorem dX10_queue_2 : decode cX10_queue 2 = .ok (.putfield 134, 3) := by decide +kernel
theorem dX10_queue_5 : decode cX10_queue 5 = .ok (.iload_n 1, 1) := by decide +kernel
theorem dX10_queue_6 : decode cX10_queue 6 = .ok (.bipush 8, 2) := by decide +kernel
theorem dX10_queue_8 : decode cX10_queue 8 = .ok (.if_icmp .lt 18, 3) := by decide +kernel
theorem dX10_queue_11 : decode cX10_queue 11 = .ok (.iload_n 1, 1) := by decide +kernel
theorem dX10_queue_12 : decode cX10_queue 12 = .ok (.bipush 24, 2) := by decide +kernel
theorem dX10_queue_14 : decode cX10_queue 14 = .ok (.if_icmp .ge 12, 3) := by decide +kernel
theorem dX10_queue_17 : decode cX10_queue 17 = .ok (.iload_n 2, 1) := by decide +kernel
theorem dX10_queue_18 : decode cX10_queue 18 = .ok (.ifCond .lt 8, 3) := by decide +kernel
theorem dX10_queue_21 : decode cX10_queue 21 = .ok (.iload_n 2, 1) := by decide +kernel
theorem dX10_queue_22 : decode cX10_queue 22 = .ok (.iconst 3, 1) := by decide +kernel
theorem dX10_queue_23 : decode cX10_queue 23 = .ok (.if_icmp .le 7, 3) := by decide +kernel
theorem dX10_queue_26 : decode cX10_queue 26 = .ok (.iconst (-1), 1) := by decide +kernel
theorem dX10_queue_27 : decode cX10_queue 27 = .ok (.goto 13, 3) := by decide +kernel
theorem dX10_queue_30 : decode cX10_queue 30 = .ok (.aload_n 0, 1) := by decide +kernel
theorem dX10_queue_31 : decode cX10_queue 31 = .ok (.getfield 25, 3) := by decide +kernel
theorem dX10_queue_34 : decode cX10_queue 34 = .ok (.iconst 4, 1) := by decide +kernel
theorem dX10_queue_35 : decode cX10_queue 35 = .ok (.iload_n 1, 1) := by decide +kernel
theorem dX10_queue_36 : decode cX10_queue 36 = .ok (.imul, 1) := by decide +kernel
theorem dX10_queue_37 : decode cX10_queue 37 = .ok (.iload_n 2, 1) := by decide +kernel
theorem dX10_queue_38 : decode cX10_queue 38 = .ok (.iadd, 1) := by decide +kernel
theorem dX10_queue_39 : decode cX10_queue 39 = .ok (.iaload, 1) := by decide +kernel
theorem dX10_queue_40 : decode cX10_queue 40 = .ok (.ireturn, 1) := by decide +kernel
theorem dX10_packet_0 : decode cX10_packet 0 = .ok (.aload_n 0, 1) := by decide +kernel
theorem dX10_packet_1 : decode cX10_packet 1 = .ok (.iconst 0, 1) := by decide +kernel
theorem dX10_packet_2 : decode cX10_packet 2 = .ok (.putfield 134, 3) := by decide +kernel
theorem dX10_packet_5 : decode cX10_packet 5 = .ok (.iload_n 1, 1) := by decide +kernel
theorem dX10_packet_6 : decode cX10_packet 6 = .ok (.ifCond .lt 28, 3) := by decide +kernel
theorem dX10_packet_9 : decode cX10_packet 9 = .ok (.iload_n 1, 1) := by decide +kernel
theorem dX10_packet_10 : decode cX10_packet 10 = .ok (.bipush 24, 2) := by decide +kernel
theorem dX10_packet_12 : decode cX10_packet 12 = .ok (.if_icmp .ge 22, 3) := by decide +kernel
theorem dX10_packet_15 : decode cX10_packet 15 = .ok (.aload_n 0, 1) := by decide +kernel
theorem dX10_packet_16 : decode cX10_packet 16 = .ok (.getfield 7, 3) := by decide +kernel
theorem dX10_packet_19 : decode cX10_packet 19 = .ok (.iload_n 1, 1) := by decide +kernel
theorem dX10_packet_20 : decode cX10_packet 20 = .ok (.iaload, 1) := by decide +kernel
theorem dX10_packet_21 : decode cX10_packet 21 = .ok (.iconst (-1), 1) := by decide +kernel
theorem dX10_packet_22 : decode cX10_packet 22 = .ok (.if_icmp .eq 12, 3) := by decide +kernel
theorem dX10_packet_25 : decode cX10_packet 25 = .ok (.iload_n 2, 1) := by decide +kernel
theorem dX10_packet_26 : decode cX10_packet 26 = .ok (.ifCond .lt 8, 3) := by decide +kernel
theorem dX10_packet_29 : decode cX10_packet 29 = .ok (.iload_n 2, 1) := by decide +kernel
theorem dX10_packet_30 : decode cX10_packet 30 = .ok (.iconst 3, 1) := by decide +kernel
theorem dX10_packet_31 : decode cX10_packet 31 = .ok (.if_icmp .le 5, 3) := by decide +kernel
theorem dX10_packet_34 : decode cX10_packet 34 = .ok (.iconst (-1), 1) := by decide +kernel
theorem dX10_packet_35 : decode cX10_packet 35 = .ok (.ireturn, 1) := by decide +kernel
theorem dX10_packet_36 : decode cX10_packet 36 = .ok (.iload_n 2, 1) := by decide +kernel
theorem dX10_packet_37 : decode cX10_packet 37 = .ok (.ifCond .ne 12, 3) := by decide +kernel
theorem dX10_packet_40 : decode cX10_packet 40 = .ok (.aload_n 0, 1) := by decide +kernel
theorem dX10_packet_41 : decode cX10_packet 41 = .ok (.getfield 7, 3) := by decide +kernel
theorem dX10_packet_44 : decode cX10_packet 44 = .ok (.iload_n 1, 1) := by decide +kernel
theorem dX10_packet_45 : decode cX10_packet 45 = .ok (.iaload, 1) := by decide +kernel
theorem dX10_packet_46 : decode cX10_packet 46 = .ok (.goto 37, 3) := by decide +kernel
theorem dX10_packet_49 : decode cX10_packet 49 = .ok (.iload_n 2, 1) := by decide +kernel
theorem dX10_packet_50 : decode cX10_packet 50 = .ok (.iconst 1, 1) := by decide +kernel
theorem dX10_packet_51 : decode cX10_packet 51 = .ok (.if_icmp .ne 12, 3) := by decide +kernel
theorem dX10_packet_54 : decode cX10_packet 54 = .ok (.aload_n 0, 1) := by decide +kernel
theorem dX10_packet_55 : decode cX10_packet 55 = .ok (.getfield 13, 3) := by decide +kernel
theorem dX10_packet_58 : decode cX10_packet 58 = .ok (.iload_n 1, 1) := by decide +kernel
theorem dX10_packet_59 : decode cX10_packet 59 = .ok (.iaload, 1) := by decide +kernel
theorem dX10_packet_60 : decode cX10_packet 60 = .ok (.goto 23, 3) := by decide +kernel
theorem dX10_packet_63 : decode cX10_packet 63 = .ok (.iload_n 2, 1) := by decide +kernel
theorem dX10_packet_64 : decode cX10_packet 64 = .ok (.iconst 2, 1) := by decide +kernel
theorem dX10_packet_65 : decode cX10_packet 65 = .ok (.if_icmp .ne 12, 3) := by decide +kernel
theorem dX10_packet_68 : decode cX10_packet 68 = .ok (.aload_n 0, 1) := by decide +kernel
theorem dX10_packet_69 : decode cX10_packet 69 = .ok (.getfield 16, 3) := by decide +kernel
theorem dX10_packet_72 : decode cX10_packet 72 = .ok (.iload_n 1, 1) := by decide +kernel
theorem dX10_packet_73 : decode cX10_packet 73 = .ok (.iaload, 1) := by decide +kernel
theorem dX10_packet_74 : decode cX10_packet 74 = .ok (.goto 9, 3) := by decide +kernel
theorem dX10_packet_77 : decode cX10_packet 77 = .ok (.aload_n 0, 1) := by decide +kernel
theorem dX10_packet_78 : decode cX10_packet 78 = .ok (.getfield 19, 3) := by decide +kernel
theorem dX10_packet_81 : decode cX10_packet 81 = .ok (.iload_n 1, 1) := by decide +kernel
theorem dX10_packet_82 : decode cX10_packet 82 = .ok (.iaload, 1) := by decide +kernel
theorem dX10_packet_83 : decode cX10_packet 83 = .ok (.ireturn, 1) := by decide +kernel
theorem dX10_total_0 : decode cX10_total 0 = .ok (.aload_n 0, 1) := by decide +kernel
theorem dX10_total_1 : decode cX10_total 1 = .ok (.iconst 0, 1) := by decide +kernel
theorem dX10_total_2 : decode cX10_total 2 = .ok (.putfield 134, 3) := by decide +kernel
theorem dX10_total_5 : decode cX10_total 5 = .ok (.iload_n 1, 1) := by decide +kernel
theorem dX10_total_6 : decode cX10_total 6 = .ok (.ifCond .ne 8, 3) := by decide +kernel
theorem dX10_total_9 : decode cX10_total 9 = .ok (.aload_n 0, 1) := by decide +kernel
theorem dX10_total_10 : decode cX10_total 10 = .ok (.getfield 144, 3) := by decide +kernel
theorem dX10_total_13 : decode cX10_total 13 = .ok (.ireturn, 1) := by decide +kernel
theorem dX10_total_14 : decode cX10_total 14 = .ok (.iload_n 1, 1) := by decide +kernel
theorem dX10_total_15 : decode cX10_total 15 = .ok (.iconst 1, 1) := by decide +kernel
theorem dX10_total_16 : decode cX10_total 16 = .ok (.if_icmp .ne 8, 3) := by decide +kernel
theorem dX10_total_19 : decode cX10_total 19 = .ok (.aload_n 0, 1) := by decide +kernel
theorem dX10_total_20 : decode cX10_total 20 = .ok (.getfield 141, 3) := by decide +kernel
theorem dX10_total_23 : decode cX10_total 23 = .ok (.ireturn, 1) := by decide +kernel
theorem dX10_total_24 : decode cX10_total 24 = .ok (.iload_n 1, 1) := by decide +kernel
theorem dX10_total_25 : decode cX10_total 25 = .ok (.iconst 2, 1) := by decide +kernel
theorem dX10_total_26 : decode cX10_total 26 = .ok (.if_icmp .eq 5, 3) := by decide +kernel
theorem dX10_total_29 : decode cX10_total 29 = .ok (.iconst (-1), 1) := by decide +kernel
theorem dX10_total_30 : decode cX10_total 30 = .ok (.ireturn, 1) := by decide +kernel
theorem dX10_total_31 : decode cX10_total 31 = .ok (.iconst 0, 1) := by decide +kernel
theorem dX10_total_32 : decode cX10_total 32 = .ok (.istore_n 2, 1) := by decide +kernel
theorem dX10_total_33 : decode cX10_total 33 = .ok (.iconst 0, 1) := by decide +kernel
theorem dX10_total_34 : decode cX10_total 34 = .ok (.istore_n 3, 1) := by decide +kernel
theorem dX10_total_35 : decode cX10_total 35 = .ok (.iload_n 3, 1) := by decide +kernel
theorem dX10_total_36 : decode cX10_total 36 = .ok (.bipush 24, 2) := by decide +kernel
theorem dX10_total_38 : decode cX10_total 38 = .ok (.if_icmp .ge 27, 3) := by decide +kernel
theorem dX10_total_41 : decode cX10_total 41 = .ok (.iload_n 2, 1) := by decide +kernel
theorem dX10_total_42 : decode cX10_total 42 = .ok (.aload_n 0, 1) := by decide +kernel
theorem dX10_total_43 : decode cX10_total 43 = .ok (.getfield 7, 3) := by decide +kernel
theorem dX10_total_46 : decode cX10_total 46 = .ok (.iload_n 3, 1) := by decide +kernel
theorem dX10_total_47 : decode cX10_total 47 = .ok (.iaload, 1) := by decide +kernel
theorem dX10_total_48 : decode cX10_total 48 = .ok (.iconst (-1), 1) := by decide +kernel
theorem dX10_total_49 : decode cX10_total 49 = .ok (.if_icmp .ne 7, 3) := by decide +kernel
theorem dX10_total_52 : decode cX10_total 52 = .ok (.iconst 0, 1) := by decide +kernel
theorem dX10_total_53 : decode cX10_total 53 = .ok (.goto 4, 3) := by decide +kernel
theorem dX10_total_56 : decode cX10_total 56 = .ok (.iconst 1, 1) := by decide +kernel
theorem dX10_total_57 : decode cX10_total 57 = .ok (.iadd, 1) := by decide +kernel
theorem dX10_total_58 : decode cX10_total 58 = .ok (.istore_n 2, 1) := by decide +kernel
theorem dX10_total_59 : decode cX10_total 59 = .ok (.iinc 3 1, 3) := by decide +kernel
theorem dX10_total_62 : decode cX10_total 62 = .ok (.goto (-27), 3) := by decide +kernel
theorem dX10_total_65 : decode cX10_total 65 = .ok (.bipush 32, 2) := by decide +kernel
theorem dX10_total_67 : decode cX10_total 67 = .ok (.istore_n 3, 1) := by decide +kernel
theorem dX10_total_68 : decode cX10_total 68 = .ok (.iload_n 3, 1) := by decide +kernel
theorem dX10_total_69 : decode cX10_total 69 = .ok (.bipush 96, 2) := by decide +kernel
theorem dX10_total_71 : decode cX10_total 71 = .ok (.if_icmp .ge 18, 3) := by decide +kernel
theorem dX10_total_74 : decode cX10_total 74 = .ok (.iload_n 2, 1) := by decide +kernel
theorem dX10_total_75 : decode cX10_total 75 = .ok (.aload_n 0, 1) := by decide +kernel
theorem dX10_total_76 : decode cX10_total 76 = .ok (.getfield 25, 3) := by decide +kernel
theorem dX10_total_79 : decode cX10_total 79 = .ok (.iload_n 3, 1) := by decide +kernel
theorem dX10_total_80 : decode cX10_total 80 = .ok (.iaload, 1) := by decide +kernel
theorem dX10_total_81 : decode cX10_total 81 = .ok (.iadd, 1) := by decide +kernel
theorem dX10_total_82 : decode cX10_total 82 = .ok (.istore_n 2, 1) := by decide +kernel
theorem dX10_total_83 : decode cX10_total 83 = .ok (.iinc 3 1, 3) := by decide +kernel
theorem dX10_total_86 : decode cX10_total 86 = .ok (.goto (-18), 3) := by decide +kernel
theorem dX10_total_89 : decode cX10_total 89 = .ok (.iload_n 2, 1) := by decide +kernel
theorem dX10_total_90 : decode cX10_total 90 = .ok (.ireturn, 1) := by decide +kernel
theorem dJ13_bitCount_95d88_0 : decode cJ13_bitCount_95d88 0 = .ok (.lload_n 0, 1) := by decide +kernel
theorem dJ13_bitCount_95d88_1 : decode cJ13_bitCount_95d88 1 = .ok (.lload_n 0, 1) := by decide +kernel
theorem dJ13_bitCount_95d88_2 : decode cJ13_bitCount_95d88 2 = .ok (.iconst 1, 1) := by decide +kernel
theorem dJ13_bitCount_95d88_3 : decode cJ13_bitCount_95d88 3 = .ok (.lushr, 1) := by decide +kernel
theorem dJ13_bitCount_95d88_4 : decode cJ13_bitCount_95d88 4 = .ok (.ldc2_w 314, 3) := by decide +kernel
theorem dJ13_bitCount_95d88_7 : decode cJ13_bitCount_95d88 7 = .ok (.land, 1) := by decide +kernel
theorem dJ13_bitCount_95d88_8 : decode cJ13_bitCount_95d88 8 = .ok (.lsub, 1) := by decide +kernel
theorem dJ13_bitCount_95d88_9 : decode cJ13_bitCount_95d88 9 = .ok (.lstore_n 0, 1) := by decide +kernel
theorem dJ13_bitCount_95d88_10 : decode cJ13_bitCount_95d88 10 = .ok (.lload_n 0, 1) := by decide +kernel
theorem dJ13_bitCount_95d88_11 : decode cJ13_bitCount_95d88 11 = .ok (.ldc2_w 316, 3) := by decide +kernel
theorem dJ13_bitCount_95d88_14 : decode cJ13_bitCount_95d88 14 = .ok (.land, 1) := by decide +kernel
theorem dJ13_bitCount_95d88_15 : decode cJ13_bitCount_95d88 15 = .ok (.lload_n 0, 1) := by decide +kernel
theorem dJ13_bitCount_95d88_16 : decode cJ13_bitCount_95d88 16 = .ok (.iconst 2, 1) := by decide +kernel
theorem dJ13_bitCount_95d88_17 : decode cJ13_bitCount_95d88 17 = .ok (.lushr, 1) := by decide +kernel
theorem dJ13_bitCount_95d88_18 : decode cJ13_bitCount_95d88 18 = .ok (.ldc2_w 316, 3) := by decide +kernel
theorem dJ13_bitCount_95d88_21 : decode cJ13_bitCount_95d88 21 = .ok (.land, 1) := by decide +kernel
theorem dJ13_bitCount_95d88_22 : decode cJ13_bitCount_95d88 22 = .ok (.ladd, 1) := by decide +kernel
theorem dJ13_bitCount_95d88_23 : decode cJ13_bitCount_95d88 23 = .ok (.lstore_n 0, 1) := by decide +kernel
theorem dJ13_bitCount_95d88_24 : decode cJ13_bitCount_95d88 24 = .ok (.lload_n 0, 1) := by decide +kernel
theorem dJ13_bitCount_95d88_25 : decode cJ13_bitCount_95d88 25 = .ok (.lload_n 0, 1) := by decide +kernel
theorem dJ13_bitCount_95d88_26 : decode cJ13_bitCount_95d88 26 = .ok (.iconst 4, 1) := by decide +kernel
theorem dJ13_bitCount_95d88_27 : decode cJ13_bitCount_95d88 27 = .ok (.lushr, 1) := by decide +kernel
theorem dJ13_bitCount_95d88_28 : decode cJ13_bitCount_95d88 28 = .ok (.ladd, 1) := by decide +kernel
theorem dJ13_bitCount_95d88_29 : decode cJ13_bitCount_95d88 29 = .ok (.ldc2_w 318, 3) := by decide +kernel
theorem dJ13_bitCount_95d88_32 : decode cJ13_bitCount_95d88 32 = .ok (.land, 1) := by decide +kernel
theorem dJ13_bitCount_95d88_33 : decode cJ13_bitCount_95d88 33 = .ok (.lstore_n 0, 1) := by decide +kernel
theorem dJ13_bitCount_95d88_34 : decode cJ13_bitCount_95d88 34 = .ok (.lload_n 0, 1) := by decide +kernel
theorem dJ13_bitCount_95d88_35 : decode cJ13_bitCount_95d88 35 = .ok (.lload_n 0, 1) := by decide +kernel
theorem dJ13_bitCount_95d88_36 : decode cJ13_bitCount_95d88 36 = .ok (.bipush 8, 2) := by decide +kernel
theorem dJ13_bitCount_95d88_38 : decode cJ13_bitCount_95d88 38 = .ok (.lushr, 1) := by decide +kernel
theorem dJ13_bitCount_95d88_39 : decode cJ13_bitCount_95d88 39 = .ok (.ladd, 1) := by decide +kernel
theorem dJ13_bitCount_95d88_40 : decode cJ13_bitCount_95d88 40 = .ok (.lstore_n 0, 1) := by decide +kernel
theorem dJ13_bitCount_95d88_41 : decode cJ13_bitCount_95d88 41 = .ok (.lload_n 0, 1) := by decide +kernel
theorem dJ13_bitCount_95d88_42 : decode cJ13_bitCount_95d88 42 = .ok (.lload_n 0, 1) := by decide +kernel
theorem dJ13_bitCount_95d88_43 : decode cJ13_bitCount_95d88 43 = .ok (.bipush 16, 2) := by decide +kernel
theorem dJ13_bitCount_95d88_45 : decode cJ13_bitCount_95d88 45 = .ok (.lushr, 1) := by decide +kernel
theorem dJ13_bitCount_95d88_46 : decode cJ13_bitCount_95d88 46 = .ok (.ladd, 1) := by decide +kernel
theorem dJ13_bitCount_95d88_47 : decode cJ13_bitCount_95d88 47 = .ok (.lstore_n 0, 1) := by decide +kernel
theorem dJ13_bitCount_95d88_48 : decode cJ13_bitCount_95d88 48 = .ok (.lload_n 0, 1) := by decide +kernel
theorem dJ13_bitCount_95d88_49 : decode cJ13_bitCount_95d88 49 = .ok (.lload_n 0, 1) := by decide +kernel
theorem dJ13_bitCount_95d88_50 : decode cJ13_bitCount_95d88 50 = .ok (.bipush 32, 2) := by decide +kernel
theorem dJ13_bitCount_95d88_52 : decode cJ13_bitCount_95d88 52 = .ok (.lushr, 1) := by decide +kernel
theorem dJ13_bitCount_95d88_53 : decode cJ13_bitCount_95d88 53 = .ok (.ladd, 1) := by decide +kernel
theorem dJ13_bitCount_95d88_54 : decode cJ13_bitCount_95d88 54 = .ok (.lstore_n 0, 1) := by decide +kernel
theorem dJ13_bitCount_95d88_55 : decode cJ13_bitCount_95d88 55 = .ok (.lload_n 0, 1) := by decide +kernel
theorem dJ13_bitCount_95d88_56 : decode cJ13_bitCount_95d88 56 = .ok (.l2i, 1) := by decide +kernel
theorem dJ13_bitCount_95d88_57 : decode cJ13_bitCount_95d88 57 = .ok (.bipush 127, 2) := by decide +kernel
theorem dJ13_bitCount_95d88_59 : decode cJ13_bitCount_95d88 59 = .ok (.iand, 1) := by decide +kernel
theorem dJ13_bitCount_95d88_60 : decode cJ13_bitCount_95d88 60 = .ok (.ireturn, 1) := by decide +kernel
theorem dJ9_floorMod_7cf53_0 : decode cJ9_floorMod_7cf53 0 = .ok (.iload_n 0, 1) := by decide +kernel
theorem dJ9_floorMod_7cf53_1 : decode cJ9_floorMod_7cf53 1 = .ok (.iload_n 1, 1) := by decide +kernel
theorem dJ9_floorMod_7cf53_2 : decode cJ9_floorMod_7cf53 2 = .ok (.irem, 1) := by decide +kernel
theorem dJ9_floorMod_7cf53_3 : decode cJ9_floorMod_7cf53 3 = .ok (.istore_n 2, 1) := by decide +kernel
theorem dJ9_floorMod_7cf53_4 : decode cJ9_floorMod_7cf53 4 = .ok (.iload_n 0, 1) := by decide +kernel
theorem dJ9_floorMod_7cf53_5 : decode cJ9_floorMod_7cf53 5 = .ok (.iload_n 1, 1) := by decide +kernel
theorem dJ9_floorMod_7cf53_6 : decode cJ9_floorMod_7cf53 6 = .ok (.ixor, 1) := by decide +kernel
theorem dJ9_floorMod_7cf53_7 : decode cJ9_floorMod_7cf53 7 = .ok (.ifCond .ge 11, 3) := by decide +kernel
theorem dJ9_floorMod_7cf53_10 : decode cJ9_floorMod_7cf53 10 = .ok (.iload_n 2, 1) := by decide +kernel
theorem dJ9_floorMod_7cf53_11 : decode cJ9_floorMod_7cf53 11 = .ok (.ifCond .eq 7, 3) := by decide +kernel
theorem dJ9_floorMod_7cf53_14 : decode cJ9_floorMod_7cf53 14 = .ok (.iload_n 2, 1) := by decide +kernel
theorem dJ9_floorMod_7cf53_15 : decode cJ9_floorMod_7cf53 15 = .ok (.iload_n 1, 1) := by decide +kernel
theorem dJ9_floorMod_7cf53_16 : decode cJ9_floorMod_7cf53 16 = .ok (.iadd, 1) := by decide +kernel
theorem dJ9_floorMod_7cf53_17 : decode cJ9_floorMod_7cf53 17 = .ok (.ireturn, 1) := by decide +kernel
theorem dJ9_floorMod_7cf53_18 : decode cJ9_floorMod_7cf53 18 = .ok (.iload_n 2, 1) := by decide +kernel
theorem dJ9_floorMod_7cf53_19 : decode cJ9_floorMod_7cf53 19 = .ok (.ireturn, 1) := by decide +kernel
theorem dJ9_max_7cf53_0 : decode cJ9_max_7cf53 0 = .ok (.iload_n 0, 1) := by decide +kernel
theorem dJ9_max_7cf53_1 : decode cJ9_max_7cf53 1 = .ok (.iload_n 1, 1) := by decide +kernel
theorem dJ9_max_7cf53_2 : decode cJ9_max_7cf53 2 = .ok (.if_icmp .lt 7, 3) := by decide +kernel
theorem dJ9_max_7cf53_5 : decode cJ9_max_7cf53 5 = .ok (.iload_n 0, 1) := by decide +kernel
theorem dJ9_max_7cf53_6 : decode cJ9_max_7cf53 6 = .ok (.goto 4, 3) := by decide +kernel
theorem dJ9_max_7cf53_9 : decode cJ9_max_7cf53 9 = .ok (.iload_n 1, 1) := by decide +kernel
theorem dJ9_max_7cf53_10 : decode cJ9_max_7cf53 10 = .ok (.ireturn, 1) := by decide +kernel
theorem dJ9_min_7cf53_0 : decode cJ9_min_7cf53 0 = .ok (.iload_n 0, 1) := by decide +kernel
theorem dJ9_min_7cf53_1 : decode cJ9_min_7cf53 1 = .ok (.iload_n 1, 1) := by decide +kernel
theorem dJ9_min_7cf53_2 : decode cJ9_min_7cf53 2 = .ok (.if_icmp .gt 7, 3) := by decide +kernel
theorem dJ9_min_7cf53_5 : decode cJ9_min_7cf53 5 = .ok (.iload_n 0, 1) := by decide +kernel
theorem dJ9_min_7cf53_6 : decode cJ9_min_7cf53 6 = .ok (.goto 4, 3) := by decide +kernel
theorem dJ9_min_7cf53_9 : decode cJ9_min_7cf53 9 = .ok (.iload_n 1, 1) := by decide +kernel
theorem dJ9_min_7cf53_10 : decode cJ9_min_7cf53 10 = .ok (.ireturn, 1) := by decide +kernel
theorem dJ7_fill_53178_0 : decode cJ7_fill_53178 0 = .ok (.iconst 0, 1) := by decide +kernel
theorem dJ7_fill_53178_1 : decode cJ7_fill_53178 1 = .ok (.istore_n 2, 1) := by decide +kernel
theorem dJ7_fill_53178_2 : decode cJ7_fill_53178 2 = .ok (.aload_n 0, 1) := by decide +kernel
theorem dJ7_fill_53178_3 : decode cJ7_fill_53178 3 = .ok (.arraylength, 1) := by decide +kernel
theorem dJ7_fill_53178_4 : decode cJ7_fill_53178 4 = .ok (.istore_n 3, 1) := by decide +kernel
theorem dJ7_fill_53178_5 : decode cJ7_fill_53178 5 = .ok (.iload_n 2, 1) := by decide +kernel
theorem dJ7_fill_53178_6 : decode cJ7_fill_53178 6 = .ok (.iload_n 3, 1) := by decide +kernel
theorem dJ7_fill_53178_7 : decode cJ7_fill_53178 7 = .ok (.if_icmp .ge 13, 3) := by decide +kernel
theorem dJ7_fill_53178_10 : decode cJ7_fill_53178 10 = .ok (.aload_n 0, 1) := by decide +kernel
theorem dJ7_fill_53178_11 : decode cJ7_fill_53178 11 = .ok (.iload_n 2, 1) := by decide +kernel
theorem dJ7_fill_53178_12 : decode cJ7_fill_53178 12 = .ok (.iload_n 1, 1) := by decide +kernel
theorem dJ7_fill_53178_13 : decode cJ7_fill_53178 13 = .ok (.iastore, 1) := by decide +kernel
theorem dJ7_fill_53178_14 : decode cJ7_fill_53178 14 = .ok (.iinc 2 1, 3) := by decide +kernel
theorem dJ7_fill_53178_17 : decode cJ7_fill_53178 17 = .ok (.goto (-12), 3) := by decide +kernel
theorem dJ7_fill_53178_20 : decode cJ7_fill_53178 20 = .ok (.return_, 1) := by decide +kernel
theorem dL_slot_0 : decode cL_slot 0 = .ok (.aload_n 2, 1) := by decide +kernel
theorem dL_slot_1 : decode cL_slot 1 = .ok (.iconst 0, 1) := by decide +kernel
theorem dL_slot_2 : decode cL_slot 2 = .ok (.aload_n 0, 1) := by decide +kernel
theorem dL_slot_3 : decode cL_slot 3 = .ok (.iload_n 1, 1) := by decide +kernel
theorem dL_slot_4 : decode cL_slot 4 = .ok (.invokevirtual 7, 3) := by decide +kernel
theorem dL_slot_7 : decode cL_slot 7 = .ok (.i2l, 1) := by decide +kernel
theorem dL_slot_8 : decode cL_slot 8 = .ok (.lastore, 1) := by decide +kernel
theorem dL_slot_9 : decode cL_slot 9 = .ok (.goto 6, 3) := by decide +kernel
theorem dL_slot_12 : decode cL_slot 12 = .ok (.astore_n 3, 1) := by decide +kernel
theorem dL_slot_13 : decode cL_slot 13 = .ok (.iconst 1, 1) := by decide +kernel
theorem dL_slot_14 : decode cL_slot 14 = .ok (.ireturn, 1) := by decide +kernel
theorem dL_slot_15 : decode cL_slot 15 = .ok (.iconst 0, 1) := by decide +kernel
theorem dL_slot_16 : decode cL_slot 16 = .ok (.ireturn, 1) := by decide +kernel
theorem dL_law_0 : decode cL_law 0 = .ok (.new 8, 3) := by decide +kernel
theorem dL_law_3 : decode cL_law 3 = .ok (.dup, 1) := by decide +kernel
theorem dL_law_4 : decode cL_law 4 = .ok (.invokespecial 15, 3) := by decide +kernel
theorem dL_law_7 : decode cL_law 7 = .ok (.astore_n 1, 1) := by decide +kernel
theorem dL_law_8 : decode cL_law 8 = .ok (.new 16, 3) := by decide +kernel
theorem dL_law_11 : decode cL_law 11 = .ok (.dup, 1) := by decide +kernel
theorem dL_law_12 : decode cL_law 12 = .ok (.invokespecial 18, 3) := by decide +kernel
theorem dL_law_15 : decode cL_law 15 = .ok (.astore_n 2, 1) := by decide +kernel
theorem dL_law_16 : decode cL_law 16 = .ok (.iconst 1, 1) := by decide +kernel
theorem dL_law_17 : decode cL_law 17 = .ok (.newarray .long, 2) := by decide +kernel
theorem dL_law_19 : decode cL_law 19 = .ok (.astore_n 3, 1) := by decide +kernel
theorem dL_law_20 : decode cL_law 20 = .ok (.iconst 0, 1) := by decide +kernel
theorem dL_law_21 : decode cL_law 21 = .ok (.istore 4, 2) := by decide +kernel
theorem dL_law_23 : decode cL_law 23 = .ok (.iload 4, 2) := by decide +kernel
theorem dL_law_25 : decode cL_law 25 = .ok (.aload_n 0, 1) := by decide +kernel
theorem dL_law_26 : decode cL_law 26 = .ok (.arraylength, 1) := by decide +kernel
theorem dL_law_27 : decode cL_law 27 = .ok (.iconst 5, 1) := by decide +kernel
theorem dL_law_28 : decode cL_law 28 = .ok (.isub, 1) := by decide +kernel
theorem dL_law_29 : decode cL_law 29 = .ok (.if_icmp .gt 609, 3) := by decide +kernel
theorem dL_law_32 : decode cL_law 32 = .ok (.aload_n 0, 1) := by decide +kernel
theorem dL_law_33 : decode cL_law 33 = .ok (.iload 4, 2) := by decide +kernel
theorem dL_law_35 : decode cL_law 35 = .ok (.iaload, 1) := by decide +kernel
theorem dL_law_36 : decode cL_law 36 = .ok (.bipush 15, 2) := by decide +kernel
theorem dL_law_38 : decode cL_law 38 = .ok (.iand, 1) := by decide +kernel
theorem dL_law_39 : decode cL_law 39 = .ok (.tableswitch 593 0 12 #[65, 126, 182, 219, 272, 309, 346, 383, 420, 457, 494, 531, 568], 65) := by decide +kernel
theorem dL_law_104 : decode cL_law 104 = .ok (.aload_n 1, 1) := by decide +kernel
theorem dL_law_105 : decode cL_law 105 = .ok (.aload_n 0, 1) := by decide +kernel
theorem dL_law_106 : decode cL_law 106 = .ok (.iload 4, 2) := by decide +kernel
theorem dL_law_108 : decode cL_law 108 = .ok (.iconst 1, 1) := by decide +kernel
theorem dL_law_109 : decode cL_law 109 = .ok (.iadd, 1) := by decide +kernel
theorem dL_law_110 : decode cL_law 110 = .ok (.iaload, 1) := by decide +kernel
theorem dL_law_111 : decode cL_law 111 = .ok (.aload_n 0, 1) := by decide +kernel
theorem dL_law_112 : decode cL_law 112 = .ok (.iload 4, 2) := by decide +kernel
theorem dL_law_114 : decode cL_law 114 = .ok (.iconst 2, 1) := by decide +kernel
theorem dL_law_115 : decode cL_law 115 = .ok (.iadd, 1) := by decide +kernel
theorem dL_law_116 : decode cL_law 116 = .ok (.iaload, 1) := by decide +kernel
theorem dL_law_117 : decode cL_law 117 = .ok (.aload_n 0, 1) := by decide +kernel
theorem dL_law_118 : decode cL_law 118 = .ok (.iload 4, 2) := by decide +kernel
theorem dL_law_120 : decode cL_law 120 = .ok (.iconst 3, 1) := by decide +kernel
theorem dL_law_121 : decode cL_law 121 = .ok (.iadd, 1) := by decide +kernel
theorem dL_law_122 : decode cL_law 122 = .ok (.iaload, 1) := by decide +kernel
theorem dL_law_123 : decode cL_law 123 = .ok (.aload_n 0, 1) := by decide +kernel
theorem dL_law_124 : decode cL_law 124 = .ok (.iload 4, 2) := by decide +kernel
theorem dL_law_126 : decode cL_law 126 = .ok (.iconst 4, 1) := by decide +kernel
theorem dL_law_127 : decode cL_law 127 = .ok (.iadd, 1) := by decide +kernel
theorem dL_law_128 : decode cL_law 128 = .ok (.iaload, 1) := by decide +kernel
theorem dL_law_129 : decode cL_law 129 = .ok (.invokevirtual 19, 3) := by decide +kernel
theorem dL_law_132 : decode cL_law 132 = .ok (.aload_n 2, 1) := by decide +kernel
theorem dL_law_133 : decode cL_law 133 = .ok (.aload_n 0, 1) := by decide +kernel
theorem dL_law_134 : decode cL_law 134 = .ok (.iload 4, 2) := by decide +kernel
theorem dL_law_136 : decode cL_law 136 = .ok (.iconst 1, 1) := by decide +kernel
theorem dL_law_137 : decode cL_law 137 = .ok (.iadd, 1) := by decide +kernel
theorem dL_law_138 : decode cL_law 138 = .ok (.iaload, 1) := by decide +kernel
theorem dL_law_139 : decode cL_law 139 = .ok (.aload_n 0, 1) := by decide +kernel
theorem dL_law_140 : decode cL_law 140 = .ok (.iload 4, 2) := by decide +kernel
theorem dL_law_142 : decode cL_law 142 = .ok (.iconst 2, 1) := by decide +kernel
theorem dL_law_143 : decode cL_law 143 = .ok (.iadd, 1) := by decide +kernel
theorem dL_law_144 : decode cL_law 144 = .ok (.iaload, 1) := by decide +kernel
theorem dL_law_145 : decode cL_law 145 = .ok (.aload_n 0, 1) := by decide +kernel
theorem dL_law_146 : decode cL_law 146 = .ok (.iload 4, 2) := by decide +kernel
theorem dL_law_148 : decode cL_law 148 = .ok (.iconst 3, 1) := by decide +kernel
theorem dL_law_149 : decode cL_law 149 = .ok (.iadd, 1) := by decide +kernel
theorem dL_law_150 : decode cL_law 150 = .ok (.iaload, 1) := by decide +kernel
theorem dL_law_151 : decode cL_law 151 = .ok (.aload_n 0, 1) := by decide +kernel
theorem dL_law_152 : decode cL_law 152 = .ok (.iload 4, 2) := by decide +kernel
theorem dL_law_154 : decode cL_law 154 = .ok (.iconst 4, 1) := by decide +kernel
theorem dL_law_155 : decode cL_law 155 = .ok (.iadd, 1) := by decide +kernel
theorem dL_law_156 : decode cL_law 156 = .ok (.iaload, 1) := by decide +kernel
theorem dL_law_157 : decode cL_law 157 = .ok (.invokevirtual 23, 3) := by decide +kernel
theorem dL_law_160 : decode cL_law 160 = .ok (.if_icmp .eq 472, 3) := by decide +kernel
theorem dL_law_163 : decode cL_law 163 = .ok (.iconst 0, 1) := by decide +kernel
theorem dL_law_164 : decode cL_law 164 = .ok (.ireturn, 1) := by decide +kernel
theorem dL_law_165 : decode cL_law 165 = .ok (.aload_n 1, 1) := by decide +kernel
theorem dL_law_166 : decode cL_law 166 = .ok (.aload_n 0, 1) := by decide +kernel
theorem dL_law_167 : decode cL_law 167 = .ok (.iload 4, 2) := by decide +kernel
theorem dL_law_169 : decode cL_law 169 = .ok (.iconst 1, 1) := by decide +kernel
theorem dL_law_170 : decode cL_law 170 = .ok (.iadd, 1) := by decide +kernel
theorem dL_law_171 : decode cL_law 171 = .ok (.iaload, 1) := by decide +kernel
theorem dL_law_172 : decode cL_law 172 = .ok (.aload_n 3, 1) := by decide +kernel
theorem dL_law_173 : decode cL_law 173 = .ok (.invokestatic 24, 3) := by decide +kernel
theorem dL_law_176 : decode cL_law 176 = .ok (.istore 5, 2) := by decide +kernel
theorem dL_law_178 : decode cL_law 178 = .ok (.aload_n 2, 1) := by decide +kernel
theorem dL_law_179 : decode cL_law 179 = .ok (.aload_n 0, 1) := by decide +kernel
theorem dL_law_180 : decode cL_law 180 = .ok (.iload 4, 2) := by decide +kernel
theorem dL_law_182 : decode cL_law 182 = .ok (.iconst 1, 1) := by decide +kernel
theorem dL_law_183 : decode cL_law 183 = .ok (.iadd, 1) := by decide +kernel
theorem dL_law_184 : decode cL_law 184 = .ok (.iaload, 1) := by decide +kernel
theorem dL_law_185 : decode cL_law 185 = .ok (.invokevirtual 29, 3) := by decide +kernel
theorem dL_law_188 : decode cL_law 188 = .ok (.istore 6, 2) := by decide +kernel
theorem dL_law_190 : decode cL_law 190 = .ok (.aload_n 2, 1) := by decide +kernel
theorem dL_law_191 : decode cL_law 191 = .ok (.invokevirtual 30, 3) := by decide +kernel
theorem dL_law_194 : decode cL_law 194 = .ok (.iload 5, 2) := by decide +kernel
theorem dL_law_196 : decode cL_law 196 = .ok (.if_icmp .eq 5, 3) := by decide +kernel
theorem dL_law_199 : decode cL_law 199 = .ok (.iconst 0, 1) := by decide +kernel
theorem dL_law_200 : decode cL_law 200 = .ok (.ireturn, 1) := by decide +kernel
theorem dL_law_201 : decode cL_law 201 = .ok (.iload 5, 2) := by decide +kernel
theorem dL_law_203 : decode cL_law 203 = .ok (.ifCond .ne 15, 3) := by decide +kernel
theorem dL_law_206 : decode cL_law 206 = .ok (.aload_n 3, 1) := by decide +kernel
theorem dL_law_207 : decode cL_law 207 = .ok (.iconst 0, 1) := by decide +kernel
theorem dL_law_208 : decode cL_law 208 = .ok (.laload, 1) := by decide +kernel
theorem dL_law_209 : decode cL_law 209 = .ok (.iload 6, 2) := by decide +kernel
theorem dL_law_211 : decode cL_law 211 = .ok (.i2l, 1) := by decide +kernel
theorem dL_law_212 : decode cL_law 212 = .ok (.lcmp, 1) := by decide +kernel
theorem dL_law_213 : decode cL_law 213 = .ok (.ifCond .eq 5, 3) := by decide +kernel
theorem dL_law_216 : decode cL_law 216 = .ok (.iconst 0, 1) := by decide +kernel
theorem dL_law_217 : decode cL_law 217 = .ok (.ireturn, 1) := by decide +kernel
theorem dL_law_218 : decode cL_law 218 = .ok (.goto 414, 3) := by decide +kernel
theorem dL_law_221 : decode cL_law 221 = .ok (.aload_n 1, 1) := by decide +kernel
theorem dL_law_222 : decode cL_law 222 = .ok (.aload_n 0, 1) := by decide +kernel
theorem dL_law_223 : decode cL_law 223 = .ok (.iload 4, 2) := by decide +kernel
theorem dL_law_225 : decode cL_law 225 = .ok (.iconst 1, 1) := by decide +kernel
theorem dL_law_226 : decode cL_law 226 = .ok (.iadd, 1) := by decide +kernel
theorem dL_law_227 : decode cL_law 227 = .ok (.iaload, 1) := by decide +kernel
theorem dL_law_228 : decode cL_law 228 = .ok (.aload_n 0, 1) := by decide +kernel
theorem dL_law_229 : decode cL_law 229 = .ok (.iload 4, 2) := by decide +kernel
theorem dL_law_231 : decode cL_law 231 = .ok (.iconst 2, 1) := by decide +kernel
theorem dL_law_232 : decode cL_law 232 = .ok (.iadd, 1) := by decide +kernel
theorem dL_law_233 : decode cL_law 233 = .ok (.iaload, 1) := by decide +kernel
theorem dL_law_234 : decode cL_law 234 = .ok (.invokevirtual 34, 3) := by decide +kernel
theorem dL_law_237 : decode cL_law 237 = .ok (.aload_n 2, 1) := by decide +kernel
theorem dL_law_238 : decode cL_law 238 = .ok (.aload_n 0, 1) := by decide +kernel
theorem dL_law_239 : decode cL_law 239 = .ok (.iload 4, 2) := by decide +kernel
theorem dL_law_241 : decode cL_law 241 = .ok (.iconst 1, 1) := by decide +kernel
theorem dL_law_242 : decode cL_law 242 = .ok (.iadd, 1) := by decide +kernel
theorem dL_law_243 : decode cL_law 243 = .ok (.iaload, 1) := by decide +kernel
theorem dL_law_244 : decode cL_law 244 = .ok (.aload_n 0, 1) := by decide +kernel
theorem dL_law_245 : decode cL_law 245 = .ok (.iload 4, 2) := by decide +kernel
theorem dL_law_247 : decode cL_law 247 = .ok (.iconst 2, 1) := by decide +kernel
theorem dL_law_248 : decode cL_law 248 = .ok (.iadd, 1) := by decide +kernel
theorem dL_law_249 : decode cL_law 249 = .ok (.iaload, 1) := by decide +kernel
theorem dL_law_250 : decode cL_law 250 = .ok (.invokevirtual 38, 3) := by decide +kernel
theorem dL_law_253 : decode cL_law 253 = .ok (.if_icmp .eq 379, 3) := by decide +kernel
theorem dL_law_256 : decode cL_law 256 = .ok (.iconst 0, 1) := by decide +kernel
theorem dL_law_257 : decode cL_law 257 = .ok (.ireturn, 1) := by decide +kernel
theorem dL_law_258 : decode cL_law 258 = .ok (.aload_n 1, 1) := by decide +kernel
theorem dL_law_259 : decode cL_law 259 = .ok (.aload_n 0, 1) := by decide +kernel
theorem dL_law_260 : decode cL_law 260 = .ok (.iload 4, 2) := by decide +kernel
theorem dL_law_262 : decode cL_law 262 = .ok (.iconst 1, 1) := by decide +kernel
theorem dL_law_263 : decode cL_law 263 = .ok (.iadd, 1) := by decide +kernel
theorem dL_law_264 : decode cL_law 264 = .ok (.iaload, 1) := by decide +kernel
theorem dL_law_265 : decode cL_law 265 = .ok (.aload_n 0, 1) := by decide +kernel
theorem dL_law_266 : decode cL_law 266 = .ok (.iload 4, 2) := by decide +kernel
theorem dL_law_268 : decode cL_law 268 = .ok (.iconst 2, 1) := by decide +kernel
theorem dL_law_269 : decode cL_law 269 = .ok (.iadd, 1) := by decide +kernel
theorem dL_law_270 : decode cL_law 270 = .ok (.iaload, 1) := by decide +kernel
theorem dL_law_271 : decode cL_law 271 = .ok (.ifCond .eq 7, 3) := by decide +kernel
theorem dL_law_274 : decode cL_law 274 = .ok (.iconst 1, 1) := by decide +kernel
theorem dL_law_275 : decode cL_law 275 = .ok (.goto 4, 3) := by decide +kernel
theorem dL_law_278 : decode cL_law 278 = .ok (.iconst 0, 1) := by decide +kernel
theorem dL_law_279 : decode cL_law 279 = .ok (.invokevirtual 39, 3) := by decide +kernel
theorem dL_law_282 : decode cL_law 282 = .ok (.aload_n 2, 1) := by decide +kernel
theorem dL_law_283 : decode cL_law 283 = .ok (.aload_n 0, 1) := by decide +kernel
theorem dL_law_284 : decode cL_law 284 = .ok (.iload 4, 2) := by decide +kernel
theorem dL_law_286 : decode cL_law 286 = .ok (.iconst 1, 1) := by decide +kernel
theorem dL_law_287 : decode cL_law 287 = .ok (.iadd, 1) := by decide +kernel
theorem dL_law_288 : decode cL_law 288 = .ok (.iaload, 1) := by decide +kernel
theorem dL_law_289 : decode cL_law 289 = .ok (.aload_n 0, 1) := by decide +kernel
theorem dL_law_290 : decode cL_law 290 = .ok (.iload 4, 2) := by decide +kernel
theorem dL_law_292 : decode cL_law 292 = .ok (.iconst 2, 1) := by decide +kernel
theorem dL_law_293 : decode cL_law 293 = .ok (.iadd, 1) := by decide +kernel
theorem dL_law_294 : decode cL_law 294 = .ok (.iaload, 1) := by decide +kernel
theorem dL_law_295 : decode cL_law 295 = .ok (.ifCond .eq 7, 3) := by decide +kernel
theorem dL_law_298 : decode cL_law 298 = .ok (.iconst 1, 1) := by decide +kernel
theorem dL_law_299 : decode cL_law 299 = .ok (.goto 4, 3) := by decide +kernel
theorem dL_law_302 : decode cL_law 302 = .ok (.iconst 0, 1) := by decide +kernel
theorem dL_law_303 : decode cL_law 303 = .ok (.invokevirtual 43, 3) := by decide +kernel
theorem dL_law_306 : decode cL_law 306 = .ok (.if_icmp .eq 326, 3) := by decide +kernel
theorem dL_law_309 : decode cL_law 309 = .ok (.iconst 0, 1) := by decide +kernel
theorem dL_law_310 : decode cL_law 310 = .ok (.ireturn, 1) := by decide +kernel
theorem dL_law_311 : decode cL_law 311 = .ok (.aload_n 1, 1) := by decide +kernel
theorem dL_law_312 : decode cL_law 312 = .ok (.aload_n 0, 1) := by decide +kernel
theorem dL_law_313 : decode cL_law 313 = .ok (.iload 4, 2) := by decide +kernel
theorem dL_law_315 : decode cL_law 315 = .ok (.iconst 1, 1) := by decide +kernel
theorem dL_law_316 : decode cL_law 316 = .ok (.iadd, 1) := by decide +kernel
theorem dL_law_317 : decode cL_law 317 = .ok (.iaload, 1) := by decide +kernel
theorem dL_law_318 : decode cL_law 318 = .ok (.aload_n 0, 1) := by decide +kernel
theorem dL_law_319 : decode cL_law 319 = .ok (.iload 4, 2) := by decide +kernel
theorem dL_law_321 : decode cL_law 321 = .ok (.iconst 2, 1) := by decide +kernel
theorem dL_law_322 : decode cL_law 322 = .ok (.iadd, 1) := by decide +kernel
theorem dL_law_323 : decode cL_law 323 = .ok (.iaload, 1) := by decide +kernel
theorem dL_law_324 : decode cL_law 324 = .ok (.invokevirtual 44, 3) := by decide +kernel
theorem dL_law_327 : decode cL_law 327 = .ok (.aload_n 2, 1) := by decide +kernel
theorem dL_law_328 : decode cL_law 328 = .ok (.aload_n 0, 1) := by decide +kernel
theorem dL_law_329 : decode cL_law 329 = .ok (.iload 4, 2) := by decide +kernel
theorem dL_law_331 : decode cL_law 331 = .ok (.iconst 1, 1) := by decide +kernel
theorem dL_law_332 : decode cL_law 332 = .ok (.iadd, 1) := by decide +kernel
theorem dL_law_333 : decode cL_law 333 = .ok (.iaload, 1) := by decide +kernel
theorem dL_law_334 : decode cL_law 334 = .ok (.aload_n 0, 1) := by decide +kernel
theorem dL_law_335 : decode cL_law 335 = .ok (.iload 4, 2) := by decide +kernel
theorem dL_law_337 : decode cL_law 337 = .ok (.iconst 2, 1) := by decide +kernel
theorem dL_law_338 : decode cL_law 338 = .ok (.iadd, 1) := by decide +kernel
theorem dL_law_339 : decode cL_law 339 = .ok (.iaload, 1) := by decide +kernel
theorem dL_law_340 : decode cL_law 340 = .ok (.invokevirtual 48, 3) := by decide +kernel
theorem dL_law_343 : decode cL_law 343 = .ok (.if_icmp .eq 289, 3) := by decide +kernel
theorem dL_law_346 : decode cL_law 346 = .ok (.iconst 0, 1) := by decide +kernel
theorem dL_law_347 : decode cL_law 347 = .ok (.ireturn, 1) := by decide +kernel
theorem dL_law_348 : decode cL_law 348 = .ok (.aload_n 1, 1) := by decide +kernel
theorem dL_law_349 : decode cL_law 349 = .ok (.aload_n 0, 1) := by decide +kernel
theorem dL_law_350 : decode cL_law 350 = .ok (.iload 4, 2) := by decide +kernel
theorem dL_law_352 : decode cL_law 352 = .ok (.iconst 1, 1) := by decide +kernel
theorem dL_law_353 : decode cL_law 353 = .ok (.iadd, 1) := by decide +kernel
theorem dL_law_354 : decode cL_law 354 = .ok (.iaload, 1) := by decide +kernel
theorem dL_law_355 : decode cL_law 355 = .ok (.aload_n 0, 1) := by decide +kernel
theorem dL_law_356 : decode cL_law 356 = .ok (.iload 4, 2) := by decide +kernel
theorem dL_law_358 : decode cL_law 358 = .ok (.iconst 2, 1) := by decide +kernel
theorem dL_law_359 : decode cL_law 359 = .ok (.iadd, 1) := by decide +kernel
theorem dL_law_360 : decode cL_law 360 = .ok (.iaload, 1) := by decide +kernel
theorem dL_law_361 : decode cL_law 361 = .ok (.invokevirtual 49, 3) := by decide +kernel
theorem dL_law_364 : decode cL_law 364 = .ok (.aload_n 2, 1) := by decide +kernel
theorem dL_law_365 : decode cL_law 365 = .ok (.aload_n 0, 1) := by decide +kernel
theorem dL_law_366 : decode cL_law 366 = .ok (.iload 4, 2) := by decide +kernel
theorem dL_law_368 : decode cL_law 368 = .ok (.iconst 1, 1) := by decide +kernel
theorem dL_law_369 : decode cL_law 369 = .ok (.iadd, 1) := by decide +kernel
theorem dL_law_370 : decode cL_law 370 = .ok (.iaload, 1) := by decide +kernel
theorem dL_law_371 : decode cL_law 371 = .ok (.aload_n 0, 1) := by decide +kernel
theorem dL_law_372 : decode cL_law 372 = .ok (.iload 4, 2) := by decide +kernel
theorem dL_law_374 : decode cL_law 374 = .ok (.iconst 2, 1) := by decide +kernel
theorem dL_law_375 : decode cL_law 375 = .ok (.iadd, 1) := by decide +kernel
theorem dL_law_376 : decode cL_law 376 = .ok (.iaload, 1) := by decide +kernel
theorem dL_law_377 : decode cL_law 377 = .ok (.invokevirtual 52, 3) := by decide +kernel
theorem dL_law_380 : decode cL_law 380 = .ok (.if_icmp .eq 252, 3) := by decide +kernel
theorem dL_law_383 : decode cL_law 383 = .ok (.iconst 0, 1) := by decide +kernel
theorem dL_law_384 : decode cL_law 384 = .ok (.ireturn, 1) := by decide +kernel
theorem dL_law_385 : decode cL_law 385 = .ok (.aload_n 1, 1) := by decide +kernel
theorem dL_law_386 : decode cL_law 386 = .ok (.aload_n 0, 1) := by decide +kernel
theorem dL_law_387 : decode cL_law 387 = .ok (.iload 4, 2) := by decide +kernel
theorem dL_law_389 : decode cL_law 389 = .ok (.iconst 1, 1) := by decide +kernel
theorem dL_law_390 : decode cL_law 390 = .ok (.iadd, 1) := by decide +kernel
theorem dL_law_391 : decode cL_law 391 = .ok (.iaload, 1) := by decide +kernel
theorem dL_law_392 : decode cL_law 392 = .ok (.aload_n 0, 1) := by decide +kernel
theorem dL_law_393 : decode cL_law 393 = .ok (.iload 4, 2) := by decide +kernel
theorem dL_law_395 : decode cL_law 395 = .ok (.iconst 2, 1) := by decide +kernel
theorem dL_law_396 : decode cL_law 396 = .ok (.iadd, 1) := by decide +kernel
theorem dL_law_397 : decode cL_law 397 = .ok (.iaload, 1) := by decide +kernel
theorem dL_law_398 : decode cL_law 398 = .ok (.invokevirtual 53, 3) := by decide +kernel
theorem dL_law_401 : decode cL_law 401 = .ok (.aload_n 2, 1) := by decide +kernel
theorem dL_law_402 : decode cL_law 402 = .ok (.aload_n 0, 1) := by decide +kernel
theorem dL_law_403 : decode cL_law 403 = .ok (.iload 4, 2) := by decide +kernel
theorem dL_law_405 : decode cL_law 405 = .ok (.iconst 1, 1) := by decide +kernel
theorem dL_law_406 : decode cL_law 406 = .ok (.iadd, 1) := by decide +kernel
theorem dL_law_407 : decode cL_law 407 = .ok (.iaload, 1) := by decide +kernel
theorem dL_law_408 : decode cL_law 408 = .ok (.aload_n 0, 1) := by decide +kernel
theorem dL_law_409 : decode cL_law 409 = .ok (.iload 4, 2) := by decide +kernel
theorem dL_law_411 : decode cL_law 411 = .ok (.iconst 2, 1) := by decide +kernel
theorem dL_law_412 : decode cL_law 412 = .ok (.iadd, 1) := by decide +kernel
theorem dL_law_413 : decode cL_law 413 = .ok (.iaload, 1) := by decide +kernel
theorem dL_law_414 : decode cL_law 414 = .ok (.invokevirtual 56, 3) := by decide +kernel
theorem dL_law_417 : decode cL_law 417 = .ok (.if_icmp .eq 215, 3) := by decide +kernel
theorem dL_law_420 : decode cL_law 420 = .ok (.iconst 0, 1) := by decide +kernel
theorem dL_law_421 : decode cL_law 421 = .ok (.ireturn, 1) := by decide +kernel
theorem dL_law_422 : decode cL_law 422 = .ok (.aload_n 1, 1) := by decide +kernel
theorem dL_law_423 : decode cL_law 423 = .ok (.aload_n 0, 1) := by decide +kernel
theorem dL_law_424 : decode cL_law 424 = .ok (.iload 4, 2) := by decide +kernel
theorem dL_law_426 : decode cL_law 426 = .ok (.iconst 1, 1) := by decide +kernel
theorem dL_law_427 : decode cL_law 427 = .ok (.iadd, 1) := by decide +kernel
theorem dL_law_428 : decode cL_law 428 = .ok (.iaload, 1) := by decide +kernel
theorem dL_law_429 : decode cL_law 429 = .ok (.aload_n 0, 1) := by decide +kernel
theorem dL_law_430 : decode cL_law 430 = .ok (.iload 4, 2) := by decide +kernel
theorem dL_law_432 : decode cL_law 432 = .ok (.iconst 2, 1) := by decide +kernel
theorem dL_law_433 : decode cL_law 433 = .ok (.iadd, 1) := by decide +kernel
theorem dL_law_434 : decode cL_law 434 = .ok (.iaload, 1) := by decide +kernel
theorem dL_law_435 : decode cL_law 435 = .ok (.invokevirtual 57, 3) := by decide +kernel
theorem dL_law_438 : decode cL_law 438 = .ok (.aload_n 2, 1) := by decide +kernel
theorem dL_law_439 : decode cL_law 439 = .ok (.aload_n 0, 1) := by decide +kernel
theorem dL_law_440 : decode cL_law 440 = .ok (.iload 4, 2) := by decide +kernel
theorem dL_law_442 : decode cL_law 442 = .ok (.iconst 1, 1) := by decide +kernel
theorem dL_law_443 : decode cL_law 443 = .ok (.iadd, 1) := by decide +kernel
theorem dL_law_444 : decode cL_law 444 = .ok (.iaload, 1) := by decide +kernel
theorem dL_law_445 : decode cL_law 445 = .ok (.aload_n 0, 1) := by decide +kernel
theorem dL_law_446 : decode cL_law 446 = .ok (.iload 4, 2) := by decide +kernel
theorem dL_law_448 : decode cL_law 448 = .ok (.iconst 2, 1) := by decide +kernel
theorem dL_law_449 : decode cL_law 449 = .ok (.iadd, 1) := by decide +kernel
theorem dL_law_450 : decode cL_law 450 = .ok (.iaload, 1) := by decide +kernel
theorem dL_law_451 : decode cL_law 451 = .ok (.invokevirtual 60, 3) := by decide +kernel
theorem dL_law_454 : decode cL_law 454 = .ok (.if_icmp .eq 178, 3) := by decide +kernel
theorem dL_law_457 : decode cL_law 457 = .ok (.iconst 0, 1) := by decide +kernel
theorem dL_law_458 : decode cL_law 458 = .ok (.ireturn, 1) := by decide +kernel
theorem dL_law_459 : decode cL_law 459 = .ok (.aload_n 1, 1) := by decide +kernel
theorem dL_law_460 : decode cL_law 460 = .ok (.aload_n 0, 1) := by decide +kernel
theorem dL_law_461 : decode cL_law 461 = .ok (.iload 4, 2) := by decide +kernel
theorem dL_law_463 : decode cL_law 463 = .ok (.iconst 1, 1) := by decide +kernel
theorem dL_law_464 : decode cL_law 464 = .ok (.iadd, 1) := by decide +kernel
theorem dL_law_465 : decode cL_law 465 = .ok (.iaload, 1) := by decide +kernel
theorem dL_law_466 : decode cL_law 466 = .ok (.aload_n 0, 1) := by decide +kernel
theorem dL_law_467 : decode cL_law 467 = .ok (.iload 4, 2) := by decide +kernel
theorem dL_law_469 : decode cL_law 469 = .ok (.iconst 2, 1) := by decide +kernel
theorem dL_law_470 : decode cL_law 470 = .ok (.iadd, 1) := by decide +kernel
theorem dL_law_471 : decode cL_law 471 = .ok (.iaload, 1) := by decide +kernel
theorem dL_law_472 : decode cL_law 472 = .ok (.invokevirtual 61, 3) := by decide +kernel
theorem dL_law_475 : decode cL_law 475 = .ok (.aload_n 2, 1) := by decide +kernel
theorem dL_law_476 : decode cL_law 476 = .ok (.aload_n 0, 1) := by decide +kernel
theorem dL_law_477 : decode cL_law 477 = .ok (.iload 4, 2) := by decide +kernel
theorem dL_law_479 : decode cL_law 479 = .ok (.iconst 1, 1) := by decide +kernel
theorem dL_law_480 : decode cL_law 480 = .ok (.iadd, 1) := by decide +kernel
theorem dL_law_481 : decode cL_law 481 = .ok (.iaload, 1) := by decide +kernel
theorem dL_law_482 : decode cL_law 482 = .ok (.aload_n 0, 1) := by decide +kernel
theorem dL_law_483 : decode cL_law 483 = .ok (.iload 4, 2) := by decide +kernel
theorem dL_law_485 : decode cL_law 485 = .ok (.iconst 2, 1) := by decide +kernel
theorem dL_law_486 : decode cL_law 486 = .ok (.iadd, 1) := by decide +kernel
theorem dL_law_487 : decode cL_law 487 = .ok (.iaload, 1) := by decide +kernel
theorem dL_law_488 : decode cL_law 488 = .ok (.invokevirtual 64, 3) := by decide +kernel
theorem dL_law_491 : decode cL_law 491 = .ok (.if_icmp .eq 141, 3) := by decide +kernel
theorem dL_law_494 : decode cL_law 494 = .ok (.iconst 0, 1) := by decide +kernel
theorem dL_law_495 : decode cL_law 495 = .ok (.ireturn, 1) := by decide +kernel
theorem dL_law_496 : decode cL_law 496 = .ok (.aload_n 1, 1) := by decide +kernel
theorem dL_law_497 : decode cL_law 497 = .ok (.aload_n 0, 1) := by decide +kernel
theorem dL_law_498 : decode cL_law 498 = .ok (.iload 4, 2) := by decide +kernel
theorem dL_law_500 : decode cL_law 500 = .ok (.iconst 1, 1) := by decide +kernel
theorem dL_law_501 : decode cL_law 501 = .ok (.iadd, 1) := by decide +kernel
theorem dL_law_502 : decode cL_law 502 = .ok (.iaload, 1) := by decide +kernel
theorem dL_law_503 : decode cL_law 503 = .ok (.aload_n 0, 1) := by decide +kernel
theorem dL_law_504 : decode cL_law 504 = .ok (.iload 4, 2) := by decide +kernel
theorem dL_law_506 : decode cL_law 506 = .ok (.iconst 2, 1) := by decide +kernel
theorem dL_law_507 : decode cL_law 507 = .ok (.iadd, 1) := by decide +kernel
theorem dL_law_508 : decode cL_law 508 = .ok (.iaload, 1) := by decide +kernel
theorem dL_law_509 : decode cL_law 509 = .ok (.invokevirtual 65, 3) := by decide +kernel
theorem dL_law_512 : decode cL_law 512 = .ok (.aload_n 2, 1) := by decide +kernel
theorem dL_law_513 : decode cL_law 513 = .ok (.aload_n 0, 1) := by decide +kernel
theorem dL_law_514 : decode cL_law 514 = .ok (.iload 4, 2) := by decide +kernel
theorem dL_law_516 : decode cL_law 516 = .ok (.iconst 1, 1) := by decide +kernel
theorem dL_law_517 : decode cL_law 517 = .ok (.iadd, 1) := by decide +kernel
theorem dL_law_518 : decode cL_law 518 = .ok (.iaload, 1) := by decide +kernel
theorem dL_law_519 : decode cL_law 519 = .ok (.aload_n 0, 1) := by decide +kernel
theorem dL_law_520 : decode cL_law 520 = .ok (.iload 4, 2) := by decide +kernel
theorem dL_law_522 : decode cL_law 522 = .ok (.iconst 2, 1) := by decide +kernel
theorem dL_law_523 : decode cL_law 523 = .ok (.iadd, 1) := by decide +kernel
theorem dL_law_524 : decode cL_law 524 = .ok (.iaload, 1) := by decide +kernel
theorem dL_law_525 : decode cL_law 525 = .ok (.invokevirtual 68, 3) := by decide +kernel
theorem dL_law_528 : decode cL_law 528 = .ok (.if_icmp .eq 104, 3) := by decide +kernel
theorem dL_law_531 : decode cL_law 531 = .ok (.iconst 0, 1) := by decide +kernel
theorem dL_law_532 : decode cL_law 532 = .ok (.ireturn, 1) := by decide +kernel
theorem dL_law_533 : decode cL_law 533 = .ok (.aload_n 1, 1) := by decide +kernel
theorem dL_law_534 : decode cL_law 534 = .ok (.aload_n 0, 1) := by decide +kernel
theorem dL_law_535 : decode cL_law 535 = .ok (.iload 4, 2) := by decide +kernel
theorem dL_law_537 : decode cL_law 537 = .ok (.iconst 1, 1) := by decide +kernel
theorem dL_law_538 : decode cL_law 538 = .ok (.iadd, 1) := by decide +kernel
theorem dL_law_539 : decode cL_law 539 = .ok (.iaload, 1) := by decide +kernel
theorem dL_law_540 : decode cL_law 540 = .ok (.aload_n 0, 1) := by decide +kernel
theorem dL_law_541 : decode cL_law 541 = .ok (.iload 4, 2) := by decide +kernel
theorem dL_law_543 : decode cL_law 543 = .ok (.iconst 2, 1) := by decide +kernel
theorem dL_law_544 : decode cL_law 544 = .ok (.iadd, 1) := by decide +kernel
theorem dL_law_545 : decode cL_law 545 = .ok (.iaload, 1) := by decide +kernel
theorem dL_law_546 : decode cL_law 546 = .ok (.invokevirtual 69, 3) := by decide +kernel
theorem dL_law_549 : decode cL_law 549 = .ok (.aload_n 2, 1) := by decide +kernel
theorem dL_law_550 : decode cL_law 550 = .ok (.aload_n 0, 1) := by decide +kernel
theorem dL_law_551 : decode cL_law 551 = .ok (.iload 4, 2) := by decide +kernel
theorem dL_law_553 : decode cL_law 553 = .ok (.iconst 1, 1) := by decide +kernel
theorem dL_law_554 : decode cL_law 554 = .ok (.iadd, 1) := by decide +kernel
theorem dL_law_555 : decode cL_law 555 = .ok (.iaload, 1) := by decide +kernel
theorem dL_law_556 : decode cL_law 556 = .ok (.aload_n 0, 1) := by decide +kernel
theorem dL_law_557 : decode cL_law 557 = .ok (.iload 4, 2) := by decide +kernel
theorem dL_law_559 : decode cL_law 559 = .ok (.iconst 2, 1) := by decide +kernel
theorem dL_law_560 : decode cL_law 560 = .ok (.iadd, 1) := by decide +kernel
theorem dL_law_561 : decode cL_law 561 = .ok (.iaload, 1) := by decide +kernel
theorem dL_law_562 : decode cL_law 562 = .ok (.invokevirtual 72, 3) := by decide +kernel
theorem dL_law_565 : decode cL_law 565 = .ok (.if_icmp .eq 67, 3) := by decide +kernel
theorem dL_law_568 : decode cL_law 568 = .ok (.iconst 0, 1) := by decide +kernel
theorem dL_law_569 : decode cL_law 569 = .ok (.ireturn, 1) := by decide +kernel
theorem dL_law_570 : decode cL_law 570 = .ok (.aload_n 1, 1) := by decide +kernel
theorem dL_law_571 : decode cL_law 571 = .ok (.aload_n 0, 1) := by decide +kernel
theorem dL_law_572 : decode cL_law 572 = .ok (.iload 4, 2) := by decide +kernel
theorem dL_law_574 : decode cL_law 574 = .ok (.iconst 1, 1) := by decide +kernel
theorem dL_law_575 : decode cL_law 575 = .ok (.iadd, 1) := by decide +kernel
theorem dL_law_576 : decode cL_law 576 = .ok (.iaload, 1) := by decide +kernel
theorem dL_law_577 : decode cL_law 577 = .ok (.aload_n 0, 1) := by decide +kernel
theorem dL_law_578 : decode cL_law 578 = .ok (.iload 4, 2) := by decide +kernel
theorem dL_law_580 : decode cL_law 580 = .ok (.iconst 2, 1) := by decide +kernel
theorem dL_law_581 : decode cL_law 581 = .ok (.iadd, 1) := by decide +kernel
theorem dL_law_582 : decode cL_law 582 = .ok (.iaload, 1) := by decide +kernel
theorem dL_law_583 : decode cL_law 583 = .ok (.invokevirtual 73, 3) := by decide +kernel
theorem dL_law_586 : decode cL_law 586 = .ok (.aload_n 2, 1) := by decide +kernel
theorem dL_law_587 : decode cL_law 587 = .ok (.aload_n 0, 1) := by decide +kernel
theorem dL_law_588 : decode cL_law 588 = .ok (.iload 4, 2) := by decide +kernel
theorem dL_law_590 : decode cL_law 590 = .ok (.iconst 1, 1) := by decide +kernel
theorem dL_law_591 : decode cL_law 591 = .ok (.iadd, 1) := by decide +kernel
theorem dL_law_592 : decode cL_law 592 = .ok (.iaload, 1) := by decide +kernel
theorem dL_law_593 : decode cL_law 593 = .ok (.aload_n 0, 1) := by decide +kernel
theorem dL_law_594 : decode cL_law 594 = .ok (.iload 4, 2) := by decide +kernel
theorem dL_law_596 : decode cL_law 596 = .ok (.iconst 2, 1) := by decide +kernel
theorem dL_law_597 : decode cL_law 597 = .ok (.iadd, 1) := by decide +kernel
theorem dL_law_598 : decode cL_law 598 = .ok (.iaload, 1) := by decide +kernel
theorem dL_law_599 : decode cL_law 599 = .ok (.invokevirtual 76, 3) := by decide +kernel
theorem dL_law_602 : decode cL_law 602 = .ok (.if_icmp .eq 30, 3) := by decide +kernel
theorem dL_law_605 : decode cL_law 605 = .ok (.iconst 0, 1) := by decide +kernel
theorem dL_law_606 : decode cL_law 606 = .ok (.ireturn, 1) := by decide +kernel
theorem dL_law_607 : decode cL_law 607 = .ok (.aload_n 1, 1) := by decide +kernel
theorem dL_law_608 : decode cL_law 608 = .ok (.aload_n 0, 1) := by decide +kernel
theorem dL_law_609 : decode cL_law 609 = .ok (.iload 4, 2) := by decide +kernel
theorem dL_law_611 : decode cL_law 611 = .ok (.iconst 1, 1) := by decide +kernel
theorem dL_law_612 : decode cL_law 612 = .ok (.iadd, 1) := by decide +kernel
theorem dL_law_613 : decode cL_law 613 = .ok (.iaload, 1) := by decide +kernel
theorem dL_law_614 : decode cL_law 614 = .ok (.invokevirtual 77, 3) := by decide +kernel
theorem dL_law_617 : decode cL_law 617 = .ok (.aload_n 2, 1) := by decide +kernel
theorem dL_law_618 : decode cL_law 618 = .ok (.aload_n 0, 1) := by decide +kernel
theorem dL_law_619 : decode cL_law 619 = .ok (.iload 4, 2) := by decide +kernel
theorem dL_law_621 : decode cL_law 621 = .ok (.iconst 1, 1) := by decide +kernel
theorem dL_law_622 : decode cL_law 622 = .ok (.iadd, 1) := by decide +kernel
theorem dL_law_623 : decode cL_law 623 = .ok (.iaload, 1) := by decide +kernel
theorem dL_law_624 : decode cL_law 624 = .ok (.invokevirtual 80, 3) := by decide +kernel
theorem dL_law_627 : decode cL_law 627 = .ok (.if_icmp .eq 5, 3) := by decide +kernel
theorem dL_law_630 : decode cL_law 630 = .ok (.iconst 0, 1) := by decide +kernel
theorem dL_law_631 : decode cL_law 631 = .ok (.ireturn, 1) := by decide +kernel
theorem dL_law_632 : decode cL_law 632 = .ok (.iinc 4 5, 3) := by decide +kernel
theorem dL_law_635 : decode cL_law 635 = .ok (.goto (-612), 3) := by decide +kernel
theorem dL_law_638 : decode cL_law 638 = .ok (.iconst 1, 1) := by decide +kernel
theorem dL_law_639 : decode cL_law 639 = .ok (.ireturn, 1) := by decide +kernel
