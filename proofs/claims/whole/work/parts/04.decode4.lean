theorem dX8_takePlace_16 : decode cX8_takePlace 16 = .ok (.putfield 15, 3) := by decide +kernel
theorem dX8_takePlace_19 : decode cX8_takePlace 19 = .ok (.aload_n 0, 1) := by decide +kernel
theorem dX8_takePlace_20 : decode cX8_takePlace 20 = .ok (.getfield 15, 3) := by decide +kernel
theorem dX8_takePlace_23 : decode cX8_takePlace 23 = .ok (.iconst 1, 1) := by decide +kernel
theorem dX8_takePlace_24 : decode cX8_takePlace 24 = .ok (.isub, 1) := by decide +kernel
theorem dX8_takePlace_25 : decode cX8_takePlace 25 = .ok (.ireturn, 1) := by decide +kernel
theorem dX8_takePlace_26 : decode cX8_takePlace 26 = .ok (.aload_n 0, 1) := by decide +kernel
theorem dX8_takePlace_27 : decode cX8_takePlace 27 = .ok (.getfield 21, 3) := by decide +kernel
theorem dX8_takePlace_30 : decode cX8_takePlace 30 = .ok (.invokestatic 52, 3) := by decide +kernel
theorem dX8_takePlace_33 : decode cX8_takePlace 33 = .ok (.istore_n 1, 1) := by decide +kernel
theorem dX8_takePlace_34 : decode cX8_takePlace 34 = .ok (.aload_n 0, 1) := by decide +kernel
theorem dX8_takePlace_35 : decode cX8_takePlace 35 = .ok (.aload_n 0, 1) := by decide +kernel
theorem dX8_takePlace_36 : decode cX8_takePlace 36 = .ok (.getfield 21, 3) := by decide +kernel
theorem dX8_takePlace_39 : decode cX8_takePlace 39 = .ok (.iload_n 1, 1) := by decide +kernel
theorem dX8_takePlace_40 : decode cX8_takePlace 40 = .ok (.invokestatic 57, 3) := by decide +kernel
theorem dX8_takePlace_43 : decode cX8_takePlace 43 = .ok (.putfield 21, 3) := by decide +kernel
theorem dX8_takePlace_46 : decode cX8_takePlace 46 = .ok (.iload_n 1, 1) := by decide +kernel
theorem dX8_takePlace_47 : decode cX8_takePlace 47 = .ok (.ireturn, 1) := by decide +kernel
theorem dX8_takeAnswer_0 : decode cX8_takeAnswer 0 = .ok (.aload_n 0, 1) := by decide +kernel
theorem dX8_takeAnswer_1 : decode cX8_takeAnswer 1 = .ok (.getfield 11, 3) := by decide +kernel
theorem dX8_takeAnswer_4 : decode cX8_takeAnswer 4 = .ok (.ifCond .eq 4, 3) := by decide +kernel
theorem dX8_takeAnswer_7 : decode cX8_takeAnswer 7 = .ok (.return_, 1) := by decide +kernel
theorem dX8_takeAnswer_8 : decode cX8_takeAnswer 8 = .ok (.aload_n 0, 1) := by decide +kernel
theorem dX8_takeAnswer_9 : decode cX8_takeAnswer 9 = .ok (.iconst 0, 1) := by decide +kernel
theorem dX8_takeAnswer_10 : decode cX8_takeAnswer 10 = .ok (.putfield 25, 3) := by decide +kernel
theorem dX8_takeAnswer_13 : decode cX8_takeAnswer 13 = .ok (.aload_n 0, 1) := by decide +kernel
theorem dX8_takeAnswer_14 : decode cX8_takeAnswer 14 = .ok (.iconst 0, 1) := by decide +kernel
theorem dX8_takeAnswer_15 : decode cX8_takeAnswer 15 = .ok (.putfield 28, 3) := by decide +kernel
theorem dX8_takeAnswer_18 : decode cX8_takeAnswer 18 = .ok (.iload_n 1, 1) := by decide +kernel
theorem dX8_takeAnswer_19 : decode cX8_takeAnswer 19 = .ok (.iconst 1, 1) := by decide +kernel
theorem dX8_takeAnswer_20 : decode cX8_takeAnswer 20 = .ok (.if_icmp .ne 29, 3) := by decide +kernel
theorem dX8_takeAnswer_23 : decode cX8_takeAnswer 23 = .ok (.aload_n 0, 1) := by decide +kernel
theorem dX8_takeAnswer_24 : decode cX8_takeAnswer 24 = .ok (.aload_n 0, 1) := by decide +kernel
theorem dX8_takeAnswer_25 : decode cX8_takeAnswer 25 = .ok (.getfield 43, 3) := by decide +kernel
theorem dX8_takeAnswer_28 : decode cX8_takeAnswer 28 = .ok (.iload_n 2, 1) := by decide +kernel
theorem dX8_takeAnswer_29 : decode cX8_takeAnswer 29 = .ok (.invokestatic 63, 3) := by decide +kernel
theorem dX8_takeAnswer_32 : decode cX8_takeAnswer 32 = .ok (.invokestatic 69, 3) := by decide +kernel
theorem dX8_takeAnswer_35 : decode cX8_takeAnswer 35 = .ok (.putfield 43, 3) := by decide +kernel
theorem dX8_takeAnswer_38 : decode cX8_takeAnswer 38 = .ok (.aload_n 0, 1) := by decide +kernel
theorem dX8_takeAnswer_39 : decode cX8_takeAnswer 39 = .ok (.iload_n 2, 1) := by decide +kernel
theorem dX8_takeAnswer_40 : decode cX8_takeAnswer 40 = .ok (.invokestatic 72, 3) := by decide +kernel
theorem dX8_takeAnswer_43 : decode cX8_takeAnswer 43 = .ok (.putfield 18, 3) := by decide +kernel
theorem dX8_takeAnswer_46 : decode cX8_takeAnswer 46 = .ok (.goto 40, 3) := by decide +kernel
theorem dX8_takeAnswer_49 : decode cX8_takeAnswer 49 = .ok (.iload_n 1, 1) := by decide +kernel
theorem dX8_takeAnswer_50 : decode cX8_takeAnswer 50 = .ok (.iconst 2, 1) := by decide +kernel
theorem dX8_takeAnswer_51 : decode cX8_takeAnswer 51 = .ok (.if_icmp .ne 29, 3) := by decide +kernel
theorem dX8_takeAnswer_54 : decode cX8_takeAnswer 54 = .ok (.aload_n 0, 1) := by decide +kernel
theorem dX8_takeAnswer_55 : decode cX8_takeAnswer 55 = .ok (.aload_n 0, 1) := by decide +kernel
theorem dX8_takeAnswer_56 : decode cX8_takeAnswer 56 = .ok (.getfield 43, 3) := by decide +kernel
theorem dX8_takeAnswer_59 : decode cX8_takeAnswer 59 = .ok (.iload_n 2, 1) := by decide +kernel
theorem dX8_takeAnswer_60 : decode cX8_takeAnswer 60 = .ok (.invokestatic 75, 3) := by decide +kernel
theorem dX8_takeAnswer_63 : decode cX8_takeAnswer 63 = .ok (.invokestatic 69, 3) := by decide +kernel
theorem dX8_takeAnswer_66 : decode cX8_takeAnswer 66 = .ok (.putfield 43, 3) := by decide +kernel
theorem dX8_takeAnswer_69 : decode cX8_takeAnswer 69 = .ok (.aload_n 0, 1) := by decide +kernel
theorem dX8_takeAnswer_70 : decode cX8_takeAnswer 70 = .ok (.iload_n 2, 1) := by decide +kernel
theorem dX8_takeAnswer_71 : decode cX8_takeAnswer 71 = .ok (.invokestatic 78, 3) := by decide +kernel
theorem dX8_takeAnswer_74 : decode cX8_takeAnswer 74 = .ok (.invokevirtual 81, 3) := by decide +kernel
theorem dX8_takeAnswer_77 : decode cX8_takeAnswer 77 = .ok (.goto 9, 3) := by decide +kernel
theorem dX8_takeAnswer_80 : decode cX8_takeAnswer 80 = .ok (.aload_n 0, 1) := by decide +kernel
theorem dX8_takeAnswer_81 : decode cX8_takeAnswer 81 = .ok (.iconst 1, 1) := by decide +kernel
theorem dX8_takeAnswer_82 : decode cX8_takeAnswer 82 = .ok (.iload_n 3, 1) := by decide +kernel
theorem dX8_takeAnswer_83 : decode cX8_takeAnswer 83 = .ok (.invokevirtual 85, 3) := by decide +kernel
theorem dX8_takeAnswer_86 : decode cX8_takeAnswer 86 = .ok (.return_, 1) := by decide +kernel
theorem dX8_growQuiet_0 : decode cX8_growQuiet 0 = .ok (.aload_n 0, 1) := by decide +kernel
theorem dX8_growQuiet_1 : decode cX8_growQuiet 1 = .ok (.getfield 11, 3) := by decide +kernel
theorem dX8_growQuiet_4 : decode cX8_growQuiet 4 = .ok (.ifCond .eq 4, 3) := by decide +kernel
theorem dX8_growQuiet_7 : decode cX8_growQuiet 7 = .ok (.return_, 1) := by decide +kernel
theorem dX8_growQuiet_8 : decode cX8_growQuiet 8 = .ok (.aload_n 0, 1) := by decide +kernel
theorem dX8_growQuiet_9 : decode cX8_growQuiet 9 = .ok (.dup, 1) := by decide +kernel
theorem dX8_growQuiet_10 : decode cX8_growQuiet 10 = .ok (.getfield 25, 3) := by decide +kernel
theorem dX8_growQuiet_13 : decode cX8_growQuiet 13 = .ok (.iconst 1, 1) := by decide +kernel
theorem dX8_growQuiet_14 : decode cX8_growQuiet 14 = .ok (.iadd, 1) := by decide +kernel
theorem dX8_growQuiet_15 : decode cX8_growQuiet 15 = .ok (.putfield 25, 3) := by decide +kernel
theorem dX8_growQuiet_18 : decode cX8_growQuiet 18 = .ok (.aload_n 0, 1) := by decide +kernel
theorem dX8_growQuiet_19 : decode cX8_growQuiet 19 = .ok (.getfield 25, 3) := by decide +kernel
theorem dX8_growQuiet_22 : decode cX8_growQuiet 22 = .ok (.bipush 40, 2) := by decide +kernel
theorem dX8_growQuiet_24 : decode cX8_growQuiet 24 = .ok (.if_icmp .ge 4, 3) := by decide +kernel
theorem dX8_growQuiet_27 : decode cX8_growQuiet 27 = .ok (.return_, 1) := by decide +kernel
theorem dX8_growQuiet_28 : decode cX8_growQuiet 28 = .ok (.aload_n 0, 1) := by decide +kernel
theorem dX8_growQuiet_29 : decode cX8_growQuiet 29 = .ok (.iconst 0, 1) := by decide +kernel
theorem dX8_growQuiet_30 : decode cX8_growQuiet 30 = .ok (.putfield 25, 3) := by decide +kernel
theorem dX8_growQuiet_33 : decode cX8_growQuiet 33 = .ok (.aload_n 0, 1) := by decide +kernel
theorem dX8_growQuiet_34 : decode cX8_growQuiet 34 = .ok (.dup, 1) := by decide +kernel
theorem dX8_growQuiet_35 : decode cX8_growQuiet 35 = .ok (.getfield 28, 3) := by decide +kernel
theorem dX8_growQuiet_38 : decode cX8_growQuiet 38 = .ok (.iconst 1, 1) := by decide +kernel
theorem dX8_growQuiet_39 : decode cX8_growQuiet 39 = .ok (.iadd, 1) := by decide +kernel
theorem dX8_growQuiet_40 : decode cX8_growQuiet 40 = .ok (.putfield 28, 3) := by decide +kernel
theorem dX8_growQuiet_43 : decode cX8_growQuiet 43 = .ok (.aload_n 0, 1) := by decide +kernel
theorem dX8_growQuiet_44 : decode cX8_growQuiet 44 = .ok (.getfield 28, 3) := by decide +kernel
theorem dX8_growQuiet_47 : decode cX8_growQuiet 47 = .ok (.bipush 6, 2) := by decide +kernel
theorem dX8_growQuiet_49 : decode cX8_growQuiet 49 = .ok (.if_icmp .lt 12, 3) := by decide +kernel
theorem dX8_growQuiet_52 : decode cX8_growQuiet 52 = .ok (.aload_n 0, 1) := by decide +kernel
theorem dX8_growQuiet_53 : decode cX8_growQuiet 53 = .ok (.iconst 2, 1) := by decide +kernel
theorem dX8_growQuiet_54 : decode cX8_growQuiet 54 = .ok (.iload_n 1, 1) := by decide +kernel
theorem dX8_growQuiet_55 : decode cX8_growQuiet 55 = .ok (.invokevirtual 85, 3) := by decide +kernel
theorem dX8_growQuiet_58 : decode cX8_growQuiet 58 = .ok (.goto 8, 3) := by decide +kernel
theorem dX8_growQuiet_61 : decode cX8_growQuiet 61 = .ok (.aload_n 0, 1) := by decide +kernel
theorem dX8_growQuiet_62 : decode cX8_growQuiet 62 = .ok (.iconst 0, 1) := by decide +kernel
theorem dX8_growQuiet_63 : decode cX8_growQuiet 63 = .ok (.invokevirtual 81, 3) := by decide +kernel
theorem dX8_growQuiet_66 : decode cX8_growQuiet 66 = .ok (.return_, 1) := by decide +kernel
theorem dX8_want_0 : decode cX8_want 0 = .ok (.iload_n 1, 1) := by decide +kernel
theorem dX8_want_1 : decode cX8_want 1 = .ok (.aload_n 0, 1) := by decide +kernel
theorem dX8_want_2 : decode cX8_want 2 = .ok (.getfield 15, 3) := by decide +kernel
theorem dX8_want_5 : decode cX8_want 5 = .ok (.if_icmp .ge 15, 3) := by decide +kernel
theorem dX8_want_8 : decode cX8_want 8 = .ok (.aload_n 0, 1) := by decide +kernel
theorem dX8_want_9 : decode cX8_want 9 = .ok (.aload_n 0, 1) := by decide +kernel
theorem dX8_want_10 : decode cX8_want 10 = .ok (.getfield 21, 3) := by decide +kernel
theorem dX8_want_13 : decode cX8_want 13 = .ok (.iload_n 1, 1) := by decide +kernel
theorem dX8_want_14 : decode cX8_want 14 = .ok (.invokestatic 89, 3) := by decide +kernel
theorem dX8_want_17 : decode cX8_want 17 = .ok (.putfield 21, 3) := by decide +kernel
theorem dX8_want_20 : decode cX8_want 20 = .ok (.return_, 1) := by decide +kernel
theorem dX8_end_0 : decode cX8_end 0 = .ok (.aload_n 0, 1) := by decide +kernel
theorem dX8_end_1 : decode cX8_end 1 = .ok (.iload_n 1, 1) := by decide +kernel
theorem dX8_end_2 : decode cX8_end 2 = .ok (.putfield 11, 3) := by decide +kernel
theorem dX8_end_5 : decode cX8_end 5 = .ok (.aload_n 0, 1) := by decide +kernel
theorem dX8_end_6 : decode cX8_end 6 = .ok (.iload_n 2, 1) := by decide +kernel
theorem dX8_end_7 : decode cX8_end 7 = .ok (.putfield 31, 3) := by decide +kernel
theorem dX8_end_10 : decode cX8_end 10 = .ok (.return_, 1) := by decide +kernel
theorem dX8_tell_0 : decode cX8_tell 0 = .ok (.iload_n 1, 1) := by decide +kernel
theorem dX8_tell_1 : decode cX8_tell 1 = .ok (.tableswitch 87 0 7 #[47, 52, 57, 62, 67, 72, 77, 82], 47) := by decide +kernel
theorem dX8_tell_48 : decode cX8_tell 48 = .ok (.aload_n 0, 1) := by decide +kernel
theorem dX8_tell_49 : decode cX8_tell 49 = .ok (.getfield 11, 3) := by decide +kernel
theorem dX8_tell_52 : decode cX8_tell 52 = .ok (.ireturn, 1) := by decide +kernel
theorem dX8_tell_53 : decode cX8_tell 53 = .ok (.aload_n 0, 1) := by decide +kernel
theorem dX8_tell_54 : decode cX8_tell 54 = .ok (.getfield 15, 3) := by decide +kernel
theorem dX8_tell_57 : decode cX8_tell 57 = .ok (.ireturn, 1) := by decide +kernel
theorem dX8_tell_58 : decode cX8_tell 58 = .ok (.aload_n 0, 1) := by decide +kernel
theorem dX8_tell_59 : decode cX8_tell 59 = .ok (.getfield 43, 3) := by decide +kernel
theorem dX8_tell_62 : decode cX8_tell 62 = .ok (.ireturn, 1) := by decide +kernel
theorem dX8_tell_63 : decode cX8_tell 63 = .ok (.aload_n 0, 1) := by decide +kernel
theorem dX8_tell_64 : decode cX8_tell 64 = .ok (.invokevirtual 92, 3) := by decide +kernel
theorem dX8_tell_67 : decode cX8_tell 67 = .ok (.ireturn, 1) := by decide +kernel
theorem dX8_tell_68 : decode cX8_tell 68 = .ok (.aload_n 0, 1) := by decide +kernel
theorem dX8_tell_69 : decode cX8_tell 69 = .ok (.getfield 25, 3) := by decide +kernel
theorem dX8_tell_72 : decode cX8_tell 72 = .ok (.ireturn, 1) := by decide +kernel
theorem dX8_tell_73 : decode cX8_tell 73 = .ok (.aload_n 0, 1) := by decide +kernel
theorem dX8_tell_74 : decode cX8_tell 74 = .ok (.getfield 28, 3) := by decide +kernel
theorem dX8_tell_77 : decode cX8_tell 77 = .ok (.ireturn, 1) := by decide +kernel
theorem dX8_tell_78 : decode cX8_tell 78 = .ok (.aload_n 0, 1) := by decide +kernel
theorem dX8_tell_79 : decode cX8_tell 79 = .ok (.getfield 18, 3) := by decide +kernel
theorem dX8_tell_82 : decode cX8_tell 82 = .ok (.ireturn, 1) := by decide +kernel
theorem dX8_tell_83 : decode cX8_tell 83 = .ok (.aload_n 0, 1) := by decide +kernel
theorem dX8_tell_84 : decode cX8_tell 84 = .ok (.getfield 31, 3) := by decide +kernel
theorem dX8_tell_87 : decode cX8_tell 87 = .ok (.ireturn, 1) := by decide +kernel
theorem dX8_tell_88 : decode cX8_tell 88 = .ok (.iconst (-1), 1) := by decide +kernel
theorem dX8_tell_89 : decode cX8_tell 89 = .ok (.ireturn, 1) := by decide +kernel
theorem dX9_init_0 : decode cX9_init 0 = .ok (.aload_n 0, 1) := by decide +kernel
theorem dX9_init_1 : decode cX9_init 1 = .ok (.invokespecial 1, 3) := by decide +kernel
theorem dX9_init_4 : decode cX9_init 4 = .ok (.aload_n 0, 1) := by decide +kernel
theorem dX9_init_5 : decode cX9_init 5 = .ok (.new 7, 3) := by decide +kernel
theorem dX9_init_8 : decode cX9_init 8 = .ok (.dup, 1) := by decide +kernel
theorem dX9_init_9 : decode cX9_init 9 = .ok (.invokespecial 9, 3) := by decide +kernel
theorem dX9_init_12 : decode cX9_init 12 = .ok (.putfield 10, 3) := by decide +kernel
theorem dX9_init_15 : decode cX9_init 15 = .ok (.aload_n 0, 1) := by decide +kernel
theorem dX9_init_16 : decode cX9_init 16 = .ok (.bipush 8, 2) := by decide +kernel
theorem dX9_init_18 : decode cX9_init 18 = .ok (.anewarray 16, 3) := by decide +kernel
theorem dX9_init_21 : decode cX9_init 21 = .ok (.putfield 18, 3) := by decide +kernel
theorem dX9_init_24 : decode cX9_init 24 = .ok (.aload_n 0, 1) := by decide +kernel
theorem dX9_init_25 : decode cX9_init 25 = .ok (.bipush 48, 2) := by decide +kernel
theorem dX9_init_27 : decode cX9_init 27 = .ok (.anewarray 22, 3) := by decide +kernel
theorem dX9_init_30 : decode cX9_init 30 = .ok (.putfield 24, 3) := by decide +kernel
theorem dX9_init_33 : decode cX9_init 33 = .ok (.aload_n 0, 1) := by decide +kernel
theorem dX9_init_34 : decode cX9_init 34 = .ok (.iconst 0, 1) := by decide +kernel
theorem dX9_init_35 : decode cX9_init 35 = .ok (.putfield 28, 3) := by decide +kernel
theorem dX9_init_38 : decode cX9_init 38 = .ok (.aload_n 0, 1) := by decide +kernel
theorem dX9_init_39 : decode cX9_init 39 = .ok (.iconst 0, 1) := by decide +kernel
theorem dX9_init_40 : decode cX9_init 40 = .ok (.putfield 32, 3) := by decide +kernel
theorem dX9_init_43 : decode cX9_init 43 = .ok (.iconst 0, 1) := by decide +kernel
theorem dX9_init_44 : decode cX9_init 44 = .ok (.istore_n 1, 1) := by decide +kernel
theorem dX9_init_45 : decode cX9_init 45 = .ok (.iload_n 1, 1) := by decide +kernel
theorem dX9_init_46 : decode cX9_init 46 = .ok (.bipush 8, 2) := by decide +kernel
theorem dX9_init_48 : decode cX9_init 48 = .ok (.if_icmp .ge 22, 3) := by decide +kernel
theorem dX9_init_51 : decode cX9_init 51 = .ok (.aload_n 0, 1) := by decide +kernel
theorem dX9_init_52 : decode cX9_init 52 = .ok (.getfield 18, 3) := by decide +kernel
theorem dX9_init_55 : decode cX9_init 55 = .ok (.iload_n 1, 1) := by decide +kernel
theorem dX9_init_56 : decode cX9_init 56 = .ok (.new 16, 3) := by decide +kernel
theorem dX9_init_59 : decode cX9_init 59 = .ok (.dup, 1) := by decide +kernel
theorem dX9_init_60 : decode cX9_init 60 = .ok (.invokespecial 35, 3) := by decide +kernel
theorem dX9_init_63 : decode cX9_init 63 = .ok (.aastore, 1) := by decide +kernel
theorem dX9_init_64 : decode cX9_init 64 = .ok (.iinc 1 1, 3) := by decide +kernel
theorem dX9_init_67 : decode cX9_init 67 = .ok (.goto (-22), 3) := by decide +kernel
theorem dX9_init_70 : decode cX9_init 70 = .ok (.return_, 1) := by decide +kernel
theorem dX9_message_0 : decode cX9_message 0 = .ok (.iload_n 1, 1) := by decide +kernel
theorem dX9_message_1 : decode cX9_message 1 = .ok (.invokestatic 36, 3) := by decide +kernel
theorem dX9_message_4 : decode cX9_message 4 = .ok (.ifCond .eq 19, 3) := by decide +kernel
theorem dX9_message_7 : decode cX9_message 7 = .ok (.iload_n 2, 1) := by decide +kernel
theorem dX9_message_8 : decode cX9_message 8 = .ok (.invokestatic 36, 3) := by decide +kernel
theorem dX9_message_11 : decode cX9_message 11 = .ok (.ifCond .eq 12, 3) := by decide +kernel
theorem dX9_message_14 : decode cX9_message 14 = .ok (.iload_n 1, 1) := by decide +kernel
theorem dX9_message_15 : decode cX9_message 15 = .ok (.iload_n 2, 1) := by decide +kernel
theorem dX9_message_16 : decode cX9_message 16 = .ok (.if_icmp .eq 7, 3) := by decide +kernel
theorem dX9_message_19 : decode cX9_message 19 = .ok (.iconst 1, 1) := by decide +kernel
theorem dX9_message_20 : decode cX9_message 20 = .ok (.goto 4, 3) := by decide +kernel
theorem dX9_message_23 : decode cX9_message 23 = .ok (.iconst 0, 1) := by decide +kernel
theorem dX9_message_24 : decode cX9_message 24 = .ok (.istore 5, 2) := by decide +kernel
theorem dX9_message_26 : decode cX9_message 26 = .ok (.iload_n 3, 1) := by decide +kernel
theorem dX9_message_27 : decode cX9_message 27 = .ok (.iconst 1, 1) := by decide +kernel
theorem dX9_message_28 : decode cX9_message 28 = .ok (.if_icmp .lt 24, 3) := by decide +kernel
theorem dX9_message_31 : decode cX9_message 31 = .ok (.iload_n 3, 1) := by decide +kernel
theorem dX9_message_32 : decode cX9_message 32 = .ok (.bipush 60, 2) := by decide +kernel
theorem dX9_message_34 : decode cX9_message 34 = .ok (.if_icmp .gt 18, 3) := by decide +kernel
theorem dX9_message_37 : decode cX9_message 37 = .ok (.iload 4, 2) := by decide +kernel
theorem dX9_message_39 : decode cX9_message 39 = .ok (.ifCond .eq 9, 3) := by decide +kernel
theorem dX9_message_42 : decode cX9_message 42 = .ok (.iload 4, 2) := by decide +kernel
theorem dX9_message_44 : decode cX9_message 44 = .ok (.iconst 1, 1) := by decide +kernel
theorem dX9_message_45 : decode cX9_message 45 = .ok (.if_icmp .ne 7, 3) := by decide +kernel
theorem dX9_message_48 : decode cX9_message 48 = .ok (.iconst 1, 1) := by decide +kernel
theorem dX9_message_49 : decode cX9_message 49 = .ok (.goto 4, 3) := by decide +kernel
theorem dX9_message_52 : decode cX9_message 52 = .ok (.iconst 0, 1) := by decide +kernel
theorem dX9_message_53 : decode cX9_message 53 = .ok (.istore 6, 2) := by decide +kernel
theorem dX9_message_55 : decode cX9_message 55 = .ok (.iload 5, 2) := by decide +kernel
theorem dX9_message_57 : decode cX9_message 57 = .ok (.ifCond .eq 17, 3) := by decide +kernel
theorem dX9_message_60 : decode cX9_message 60 = .ok (.iload 6, 2) := by decide +kernel
theorem dX9_message_62 : decode cX9_message 62 = .ok (.ifCond .eq 12, 3) := by decide +kernel
theorem dX9_message_65 : decode cX9_message 65 = .ok (.aload_n 0, 1) := by decide +kernel
theorem dX9_message_66 : decode cX9_message 66 = .ok (.getfield 28, 3) := by decide +kernel
theorem dX9_message_69 : decode cX9_message 69 = .ok (.bipush 48, 2) := by decide +kernel
theorem dX9_message_71 : decode cX9_message 71 = .ok (.if_icmp .lt 5, 3) := by decide +kernel
theorem dX9_message_74 : decode cX9_message 74 = .ok (.iconst (-1), 1) := by decide +kernel
theorem dX9_message_75 : decode cX9_message 75 = .ok (.ireturn, 1) := by decide +kernel
theorem dX9_message_76 : decode cX9_message 76 = .ok (.new 22, 3) := by decide +kernel
theorem dX9_message_79 : decode cX9_message 79 = .ok (.dup, 1) := by decide +kernel
theorem dX9_message_80 : decode cX9_message 80 = .ok (.aload_n 0, 1) := by decide +kernel
theorem dX9_message_81 : decode cX9_message 81 = .ok (.getfield 28, 3) := by decide +kernel
theorem dX9_message_84 : decode cX9_message 84 = .ok (.iload_n 1, 1) := by decide +kernel
theorem dX9_message_85 : decode cX9_message 85 = .ok (.iload_n 2, 1) := by decide +kernel
theorem dX9_message_86 : decode cX9_message 86 = .ok (.iload_n 3, 1) := by decide +kernel
theorem dX9_message_87 : decode cX9_message 87 = .ok (.iload 4, 2) := by decide +kernel
theorem dX9_message_89 : decode cX9_message 89 = .ok (.invokespecial 40, 3) := by decide +kernel
theorem dX9_message_92 : decode cX9_message 92 = .ok (.astore 7, 2) := by decide +kernel
theorem dX9_message_94 : decode cX9_message 94 = .ok (.aload_n 0, 1) := by decide +kernel
theorem dX9_message_95 : decode cX9_message 95 = .ok (.getfield 24, 3) := by decide +kernel
theorem dX9_message_98 : decode cX9_message 98 = .ok (.aload_n 0, 1) := by decide +kernel
theorem dX9_message_99 : decode cX9_message 99 = .ok (.getfield 28, 3) := by decide +kernel
theorem dX9_message_102 : decode cX9_message 102 = .ok (.aload 7, 2) := by decide +kernel
theorem dX9_message_104 : decode cX9_message 104 = .ok (.aastore, 1) := by decide +kernel
theorem dX9_message_105 : decode cX9_message 105 = .ok (.aload_n 0, 1) := by decide +kernel
theorem dX9_message_106 : decode cX9_message 106 = .ok (.dup, 1) := by decide +kernel
theorem dX9_message_107 : decode cX9_message 107 = .ok (.getfield 28, 3) := by decide +kernel
theorem dX9_message_110 : decode cX9_message 110 = .ok (.iconst 1, 1) := by decide +kernel
theorem dX9_message_111 : decode cX9_message 111 = .ok (.iadd, 1) := by decide +kernel
theorem dX9_message_112 : decode cX9_message 112 = .ok (.putfield 28, 3) := by decide +kernel
theorem dX9_message_115 : decode cX9_message 115 = .ok (.aload_n 0, 1) := by decide +kernel
theorem dX9_message_116 : decode cX9_message 116 = .ok (.getfield 18, 3) := by decide +kernel
theorem dX9_message_119 : decode cX9_message 119 = .ok (.iload_n 1, 1) := by decide +kernel
theorem dX9_message_120 : decode cX9_message 120 = .ok (.aaload, 1) := by decide +kernel
theorem dX9_message_121 : decode cX9_message 121 = .ok (.aload 7, 2) := by decide +kernel
theorem dX9_message_123 : decode cX9_message 123 = .ok (.invokevirtual 43, 3) := by decide +kernel
theorem dX9_message_126 : decode cX9_message 126 = .ok (.aload_n 0, 1) := by decide +kernel
theorem dX9_message_127 : decode cX9_message 127 = .ok (.getfield 18, 3) := by decide +kernel
theorem dX9_message_130 : decode cX9_message 130 = .ok (.iload_n 2, 1) := by decide +kernel
theorem dX9_message_131 : decode cX9_message 131 = .ok (.aaload, 1) := by decide +kernel
theorem dX9_message_132 : decode cX9_message 132 = .ok (.aload 7, 2) := by decide +kernel
theorem dX9_message_134 : decode cX9_message 134 = .ok (.invokevirtual 47, 3) := by decide +kernel
theorem dX9_message_137 : decode cX9_message 137 = .ok (.aload 7, 2) := by decide +kernel
theorem dX9_message_139 : decode cX9_message 139 = .ok (.getfield 50, 3) := by decide +kernel
theorem dX9_message_142 : decode cX9_message 142 = .ok (.ireturn, 1) := by decide +kernel
theorem dX9_slot_0 : decode cX9_slot 0 = .ok (.iload_n 1, 1) := by decide +kernel
theorem dX9_slot_1 : decode cX9_slot 1 = .ok (.iconst 1, 1) := by decide +kernel
theorem dX9_slot_2 : decode cX9_slot 2 = .ok (.if_icmp .lt 10, 3) := by decide +kernel
theorem dX9_slot_5 : decode cX9_slot 5 = .ok (.iload_n 1, 1) := by decide +kernel
theorem dX9_slot_6 : decode cX9_slot 6 = .ok (.sipush 200, 3) := by decide +kernel
theorem dX9_slot_9 : decode cX9_slot 9 = .ok (.if_icmp .le 13, 3) := by decide +kernel
theorem dX9_slot_12 : decode cX9_slot 12 = .ok (.new 53, 3) := by decide +kernel
theorem dX9_slot_15 : decode cX9_slot 15 = .ok (.dup, 1) := by decide +kernel
theorem dX9_slot_16 : decode cX9_slot 16 = .ok (.ldc 55, 2) := by decide +kernel
theorem dX9_slot_18 : decode cX9_slot 18 = .ok (.invokespecial 57, 3) := by decide +kernel
theorem dX9_slot_21 : decode cX9_slot 21 = .ok (.athrow, 1) := by decide +kernel
theorem dX9_slot_22 : decode cX9_slot 22 = .ok (.iconst 0, 1) := by decide +kernel
theorem dX9_slot_23 : decode cX9_slot 23 = .ok (.istore_n 2, 1) := by decide +kernel
theorem dX9_slot_24 : decode cX9_slot 24 = .ok (.iload_n 2, 1) := by decide +kernel
theorem dX9_slot_25 : decode cX9_slot 25 = .ok (.iload_n 1, 1) := by decide +kernel
theorem dX9_slot_26 : decode cX9_slot 26 = .ok (.if_icmp .ge 13, 3) := by decide +kernel
theorem dX9_slot_29 : decode cX9_slot 29 = .ok (.aload_n 0, 1) := by decide +kernel
theorem dX9_slot_30 : decode cX9_slot 30 = .ok (.invokevirtual 60, 3) := by decide +kernel
theorem dX9_slot_33 : decode cX9_slot 33 = .ok (.iinc 2 1, 3) := by decide +kernel
theorem dX9_slot_36 : decode cX9_slot 36 = .ok (.goto (-12), 3) := by decide +kernel
theorem dX9_slot_39 : decode cX9_slot 39 = .ok (.aload_n 0, 1) := by decide +kernel
theorem dX9_slot_40 : decode cX9_slot 40 = .ok (.getfield 32, 3) := by decide +kernel
theorem dX9_slot_43 : decode cX9_slot 43 = .ok (.ireturn, 1) := by decide +kernel
theorem dX9_lose_0 : decode cX9_lose 0 = .ok (.iload_n 1, 1) := by decide +kernel
theorem dX9_lose_1 : decode cX9_lose 1 = .ok (.invokestatic 63, 3) := by decide +kernel
theorem dX9_lose_4 : decode cX9_lose 4 = .ok (.ifCond .eq 13, 3) := by decide +kernel
theorem dX9_lose_7 : decode cX9_lose 7 = .ok (.iload_n 2, 1) := by decide +kernel
theorem dX9_lose_8 : decode cX9_lose 8 = .ok (.ifCond .lt 9, 3) := by decide +kernel
theorem dX9_lose_11 : decode cX9_lose 11 = .ok (.iload_n 2, 1) := by decide +kernel
theorem dX9_lose_12 : decode cX9_lose 12 = .ok (.bipush 100, 2) := by decide +kernel
theorem dX9_lose_14 : decode cX9_lose 14 = .ok (.if_icmp .le 5, 3) := by decide +kernel
theorem dX9_lose_17 : decode cX9_lose 17 = .ok (.iconst 0, 1) := by decide +kernel
theorem dX9_lose_18 : decode cX9_lose 18 = .ok (.ireturn, 1) := by decide +kernel
theorem dX9_lose_19 : decode cX9_lose 19 = .ok (.aload_n 0, 1) := by decide +kernel
theorem dX9_lose_20 : decode cX9_lose 20 = .ok (.getfield 10, 3) := by decide +kernel
theorem dX9_lose_23 : decode cX9_lose 23 = .ok (.iload_n 1, 1) := by decide +kernel
theorem dX9_lose_24 : decode cX9_lose 24 = .ok (.iload_n 2, 1) := by decide +kernel
theorem dX9_lose_25 : decode cX9_lose 25 = .ok (.invokevirtual 66, 3) := by decide +kernel
theorem dX9_lose_28 : decode cX9_lose 28 = .ok (.iconst 1, 1) := by decide +kernel
theorem dX9_lose_29 : decode cX9_lose 29 = .ok (.ireturn, 1) := by decide +kernel
theorem dX9_spine_0 : decode cX9_spine 0 = .ok (.iload_n 1, 1) := by decide +kernel
theorem dX9_spine_1 : decode cX9_spine 1 = .ok (.ifCond .lt 8, 3) := by decide +kernel
theorem dX9_spine_4 : decode cX9_spine 4 = .ok (.iload_n 1, 1) := by decide +kernel
theorem dX9_spine_5 : decode cX9_spine 5 = .ok (.iconst 2, 1) := by decide +kernel
theorem dX9_spine_6 : decode cX9_spine 6 = .ok (.if_icmp .lt 5, 3) := by decide +kernel
theorem dX9_spine_9 : decode cX9_spine 9 = .ok (.iconst 0, 1) := by decide +kernel
theorem dX9_spine_10 : decode cX9_spine 10 = .ok (.ireturn, 1) := by decide +kernel
theorem dX9_spine_11 : decode cX9_spine 11 = .ok (.aload_n 0, 1) := by decide +kernel
theorem dX9_spine_12 : decode cX9_spine 12 = .ok (.getfield 10, 3) := by decide +kernel
theorem dX9_spine_15 : decode cX9_spine 15 = .ok (.iload_n 1, 1) := by decide +kernel
theorem dX9_spine_16 : decode cX9_spine 16 = .ok (.iload_n 2, 1) := by decide +kernel
theorem dX9_spine_17 : decode cX9_spine 17 = .ok (.invokevirtual 70, 3) := by decide +kernel
theorem dX9_spine_20 : decode cX9_spine 20 = .ok (.iconst 1, 1) := by decide +kernel
theorem dX9_spine_21 : decode cX9_spine 21 = .ok (.ireturn, 1) := by decide +kernel
theorem dX9_sent_0 : decode cX9_sent 0 = .ok (.aload_n 0, 1) := by decide +kernel
theorem dX9_sent_1 : decode cX9_sent 1 = .ok (.iload_n 1, 1) := by decide +kernel
theorem dX9_sent_2 : decode cX9_sent 2 = .ok (.invokevirtual 74, 3) := by decide +kernel
theorem dX9_sent_5 : decode cX9_sent 5 = .ok (.astore_n 3, 1) := by decide +kernel
theorem dX9_sent_6 : decode cX9_sent 6 = .ok (.aload_n 3, 1) := by decide +kernel
theorem dX9_sent_7 : decode cX9_sent 7 = .ok (.ifnonnull 7, 3) := by decide +kernel
theorem dX9_sent_10 : decode cX9_sent 10 = .ok (.iconst (-1), 1) := by decide +kernel
theorem dX9_sent_11 : decode cX9_sent 11 = .ok (.goto 11, 3) := by decide +kernel
theorem dX9_sent_14 : decode cX9_sent 14 = .ok (.aload_n 3, 1) := by decide +kernel
theorem dX9_sent_15 : decode cX9_sent 15 = .ok (.getfield 78, 3) := by decide +kernel
theorem dX9_sent_18 : decode cX9_sent 18 = .ok (.iload_n 2, 1) := by decide +kernel
theorem dX9_sent_19 : decode cX9_sent 19 = .ok (.invokevirtual 82, 3) := by decide +kernel
theorem dX9_sent_22 : decode cX9_sent 22 = .ok (.ireturn, 1) := by decide +kernel
theorem dX9_received_0 : decode cX9_received 0 = .ok (.aload_n 0, 1) := by decide +kernel
theorem dX9_received_1 : decode cX9_received 1 = .ok (.iload_n 1, 1) := by decide +kernel
theorem dX9_received_2 : decode cX9_received 2 = .ok (.invokevirtual 74, 3) := by decide +kernel
theorem dX9_received_5 : decode cX9_received 5 = .ok (.astore_n 3, 1) := by decide +kernel
theorem dX9_received_6 : decode cX9_received 6 = .ok (.aload_n 3, 1) := by decide +kernel
theorem dX9_received_7 : decode cX9_received 7 = .ok (.ifnonnull 7, 3) := by decide +kernel
theorem dX9_received_10 : decode cX9_received 10 = .ok (.iconst (-1), 1) := by decide +kernel
theorem dX9_received_11 : decode cX9_received 11 = .ok (.goto 11, 3) := by decide +kernel
theorem dX9_received_14 : decode cX9_received 14 = .ok (.aload_n 3, 1) := by decide +kernel
theorem dX9_received_15 : decode cX9_received 15 = .ok (.getfield 88, 3) := by decide +kernel
theorem dX9_received_18 : decode cX9_received 18 = .ok (.iload_n 2, 1) := by decide +kernel
theorem dX9_received_19 : decode cX9_received 19 = .ok (.invokevirtual 92, 3) := by decide +kernel
theorem dX9_received_22 : decode cX9_received 22 = .ok (.ireturn, 1) := by decide +kernel
theorem dX9_in_0 : decode cX9_in 0 = .ok (.aload_n 0, 1) := by decide +kernel
theorem dX9_in_1 : decode cX9_in 1 = .ok (.iload_n 1, 1) := by decide +kernel
theorem dX9_in_2 : decode cX9_in 2 = .ok (.invokevirtual 74, 3) := by decide +kernel
theorem dX9_in_5 : decode cX9_in 5 = .ok (.astore_n 3, 1) := by decide +kernel
theorem dX9_in_6 : decode cX9_in 6 = .ok (.aload_n 3, 1) := by decide +kernel
theorem dX9_in_7 : decode cX9_in 7 = .ok (.ifnull 18, 3) := by decide +kernel
theorem dX9_in_10 : decode cX9_in 10 = .ok (.aload_n 3, 1) := by decide +kernel
theorem dX9_in_11 : decode cX9_in 11 = .ok (.getfield 88, 3) := by decide +kernel
theorem dX9_in_14 : decode cX9_in 14 = .ok (.iload_n 2, 1) := by decide +kernel
theorem dX9_in_15 : decode cX9_in 15 = .ok (.invokevirtual 95, 3) := by decide +kernel
theorem dX9_in_18 : decode cX9_in 18 = .ok (.ifCond .eq 7, 3) := by decide +kernel
theorem dX9_in_21 : decode cX9_in 21 = .ok (.iconst 1, 1) := by decide +kernel
theorem dX9_in_22 : decode cX9_in 22 = .ok (.goto 4, 3) := by decide +kernel
theorem dX9_in_25 : decode cX9_in 25 = .ok (.iconst 0, 1) := by decide +kernel
theorem dX9_in_26 : decode cX9_in 26 = .ok (.ireturn, 1) := by decide +kernel
theorem dX9_finished_0 : decode cX9_finished 0 = .ok (.iload_n 1, 1) := by decide +kernel
theorem dX9_finished_1 : decode cX9_finished 1 = .ok (.invokestatic 36, 3) := by decide +kernel
theorem dX9_finished_4 : decode cX9_finished 4 = .ok (.ifCond .eq 16, 3) := by decide +kernel
theorem dX9_finished_7 : decode cX9_finished 7 = .ok (.aload_n 0, 1) := by decide +kernel
theorem dX9_finished_8 : decode cX9_finished 8 = .ok (.getfield 18, 3) := by decide +kernel
theorem dX9_finished_11 : decode cX9_finished 11 = .ok (.iload_n 1, 1) := by decide +kernel
theorem dX9_finished_12 : decode cX9_finished 12 = .ok (.aaload, 1) := by decide +kernel
theorem dX9_finished_13 : decode cX9_finished 13 = .ok (.iload_n 2, 1) := by decide +kernel
theorem dX9_finished_14 : decode cX9_finished 14 = .ok (.invokevirtual 98, 3) := by decide +kernel
theorem dX9_finished_17 : decode cX9_finished 17 = .ok (.goto 4, 3) := by decide +kernel
theorem dX9_finished_20 : decode cX9_finished 20 = .ok (.iconst (-1), 1) := by decide +kernel
theorem dX9_finished_21 : decode cX9_finished 21 = .ok (.ireturn, 1) := by decide +kernel
theorem dX9_chosen_0 : decode cX9_chosen 0 = .ok (.iload_n 1, 1) := by decide +kernel
theorem dX9_chosen_1 : decode cX9_chosen 1 = .ok (.invokestatic 36, 3) := by decide +kernel
theorem dX9_chosen_4 : decode cX9_chosen 4 = .ok (.ifCond .eq 16, 3) := by decide +kernel
theorem dX9_chosen_7 : decode cX9_chosen 7 = .ok (.aload_n 0, 1) := by decide +kernel
theorem dX9_chosen_8 : decode cX9_chosen 8 = .ok (.getfield 18, 3) := by decide +kernel
theorem dX9_chosen_11 : decode cX9_chosen 11 = .ok (.iload_n 1, 1) := by decide +kernel
theorem dX9_chosen_12 : decode cX9_chosen 12 = .ok (.aaload, 1) := by decide +kernel
theorem dX9_chosen_13 : decode cX9_chosen 13 = .ok (.iload_n 2, 1) := by decide +kernel
theorem dX9_chosen_14 : decode cX9_chosen 14 = .ok (.invokevirtual 101, 3) := by decide +kernel
theorem dX9_chosen_17 : decode cX9_chosen 17 = .ok (.goto 4, 3) := by decide +kernel
theorem dX9_chosen_20 : decode cX9_chosen 20 = .ok (.iconst (-1), 1) := by decide +kernel
theorem dX9_chosen_21 : decode cX9_chosen 21 = .ok (.ireturn, 1) := by decide +kernel
theorem dX9_host_0 : decode cX9_host 0 = .ok (.iload_n 1, 1) := by decide +kernel
theorem dX9_host_1 : decode cX9_host 1 = .ok (.invokestatic 36, 3) := by decide +kernel
theorem dX9_host_4 : decode cX9_host 4 = .ok (.ifCond .eq 16, 3) := by decide +kernel
theorem dX9_host_7 : decode cX9_host 7 = .ok (.aload_n 0, 1) := by decide +kernel
theorem dX9_host_8 : decode cX9_host 8 = .ok (.getfield 18, 3) := by decide +kernel
theorem dX9_host_11 : decode cX9_host 11 = .ok (.iload_n 1, 1) := by decide +kernel
theorem dX9_host_12 : decode cX9_host 12 = .ok (.aaload, 1) := by decide +kernel
theorem dX9_host_13 : decode cX9_host 13 = .ok (.iload_n 2, 1) := by decide +kernel
theorem dX9_host_14 : decode cX9_host 14 = .ok (.invokevirtual 104, 3) := by decide +kernel
theorem dX9_host_17 : decode cX9_host 17 = .ok (.goto 4, 3) := by decide +kernel
theorem dX9_host_20 : decode cX9_host 20 = .ok (.iconst (-1), 1) := by decide +kernel
theorem dX9_host_21 : decode cX9_host 21 = .ok (.ireturn, 1) := by decide +kernel
theorem dX9_queue_0 : decode cX9_queue 0 = .ok (.aload_n 0, 1) := by decide +kernel
theorem dX9_queue_1 : decode cX9_queue 1 = .ok (.getfield 10, 3) := by decide +kernel
theorem dX9_queue_4 : decode cX9_queue 4 = .ok (.iload_n 1, 1) := by decide +kernel
theorem dX9_queue_5 : decode cX9_queue 5 = .ok (.iload_n 2, 1) := by decide +kernel
theorem dX9_queue_6 : decode cX9_queue 6 = .ok (.invokevirtual 105, 3) := by decide +kernel
theorem dX9_queue_9 : decode cX9_queue 9 = .ok (.ireturn, 1) := by decide +kernel
theorem dX9_packet_0 : decode cX9_packet 0 = .ok (.aload_n 0, 1) := by decide +kernel
theorem dX9_packet_1 : decode cX9_packet 1 = .ok (.getfield 10, 3) := by decide +kernel
theorem dX9_packet_4 : decode cX9_packet 4 = .ok (.iload_n 1, 1) := by decide +kernel
theorem dX9_packet_5 : decode cX9_packet 5 = .ok (.invokevirtual 109, 3) := by decide +kernel
theorem dX9_packet_8 : decode cX9_packet 8 = .ok (.iload_n 2, 1) := by decide +kernel
theorem dX9_packet_9 : decode cX9_packet 9 = .ok (.invokestatic 112, 3) := by decide +kernel
theorem dX9_packet_12 : decode cX9_packet 12 = .ok (.ireturn, 1) := by decide +kernel
theorem dX9_total_0 : decode cX9_total 0 = .ok (.aload_n 0, 1) := by decide +kernel
theorem dX9_total_1 : decode cX9_total 1 = .ok (.getfield 10, 3) := by decide +kernel
theorem dX9_total_4 : decode cX9_total 4 = .ok (.iload_n 1, 1) := by decide +kernel
theorem dX9_total_5 : decode cX9_total 5 = .ok (.invokevirtual 116, 3) := by decide +kernel
theorem dX9_total_8 : decode cX9_total 8 = .ok (.ireturn, 1) := by decide +kernel
theorem dX9_isHost_0 : decode cX9_isHost 0 = .ok (.iload_n 0, 1) := by decide +kernel
theorem dX9_isHost_1 : decode cX9_isHost 1 = .ok (.ifCond .lt 13, 3) := by decide +kernel
theorem dX9_isHost_4 : decode cX9_isHost 4 = .ok (.iload_n 0, 1) := by decide +kernel
theorem dX9_isHost_5 : decode cX9_isHost 5 = .ok (.bipush 8, 2) := by decide +kernel
theorem dX9_isHost_7 : decode cX9_isHost 7 = .ok (.if_icmp .ge 7, 3) := by decide +kernel
theorem dX9_isHost_10 : decode cX9_isHost 10 = .ok (.iconst 1, 1) := by decide +kernel
theorem dX9_isHost_11 : decode cX9_isHost 11 = .ok (.goto 4, 3) := by decide +kernel
theorem dX9_isHost_14 : decode cX9_isHost 14 = .ok (.iconst 0, 1) := by decide +kernel
theorem dX9_isHost_15 : decode cX9_isHost 15 = .ok (.ireturn, 1) := by decide +kernel
theorem dX9_find_0 : decode cX9_find 0 = .ok (.iload_n 1, 1) := by decide +kernel
theorem dX9_find_1 : decode cX9_find 1 = .ok (.ifCond .lt 20, 3) := by decide +kernel
theorem dX9_find_4 : decode cX9_find 4 = .ok (.iload_n 1, 1) := by decide +kernel
theorem dX9_find_5 : decode cX9_find 5 = .ok (.aload_n 0, 1) := by decide +kernel
theorem dX9_find_6 : decode cX9_find 6 = .ok (.getfield 28, 3) := by decide +kernel
theorem dX9_find_9 : decode cX9_find 9 = .ok (.if_icmp .ge 12, 3) := by decide +kernel
theorem dX9_find_12 : decode cX9_find 12 = .ok (.aload_n 0, 1) := by decide +kernel
theorem dX9_find_13 : decode cX9_find 13 = .ok (.getfield 24, 3) := by decide +kernel
theorem dX9_find_16 : decode cX9_find 16 = .ok (.iload_n 1, 1) := by decide +kernel
theorem dX9_find_17 : decode cX9_find 17 = .ok (.aaload, 1) := by decide +kernel
theorem dX9_find_18 : decode cX9_find 18 = .ok (.goto 4, 3) := by decide +kernel
theorem dX9_find_21 : decode cX9_find 21 = .ok (.aconst_null, 1) := by decide +kernel
theorem dX9_find_22 : decode cX9_find 22 = .ok (.areturn, 1) := by decide +kernel
theorem dX9_runSlot_0 : decode cX9_runSlot 0 = .ok (.aload_n 0, 1) := by decide +kernel
theorem dX9_runSlot_1 : decode cX9_runSlot 1 = .ok (.dup, 1) := by decide +kernel
theorem dX9_runSlot_2 : decode cX9_runSlot 2 = .ok (.getfield 32, 3) := by decide +kernel
theorem dX9_runSlot_5 : decode cX9_runSlot 5 = .ok (.iconst 1, 1) := by decide +kernel
theorem dX9_runSlot_6 : decode cX9_runSlot 6 = .ok (.iadd, 1) := by decide +kernel
theorem dX9_runSlot_7 : decode cX9_runSlot 7 = .ok (.putfield 32, 3) := by decide +kernel
theorem dX9_runSlot_10 : decode cX9_runSlot 10 = .ok (.aload_n 0, 1) := by decide +kernel
theorem dX9_runSlot_11 : decode cX9_runSlot 11 = .ok (.invokevirtual 117, 3) := by decide +kernel
theorem dX9_runSlot_14 : decode cX9_runSlot 14 = .ok (.aload_n 0, 1) := by decide +kernel
theorem dX9_runSlot_15 : decode cX9_runSlot 15 = .ok (.getfield 10, 3) := by decide +kernel
theorem dX9_runSlot_18 : decode cX9_runSlot 18 = .ok (.invokevirtual 120, 3) := by decide +kernel
theorem dX9_runSlot_21 : decode cX9_runSlot 21 = .ok (.iconst 0, 1) := by decide +kernel
theorem dX9_runSlot_22 : decode cX9_runSlot 22 = .ok (.istore_n 1, 1) := by decide +kernel
theorem dX9_runSlot_23 : decode cX9_runSlot 23 = .ok (.iload_n 1, 1) := by decide +kernel
theorem dX9_runSlot_24 : decode cX9_runSlot 24 = .ok (.bipush 8, 2) := by decide +kernel
theorem dX9_runSlot_26 : decode cX9_runSlot 26 = .ok (.if_icmp .ge 59, 3) := by decide +kernel
theorem dX9_runSlot_29 : decode cX9_runSlot 29 = .ok (.aload_n 0, 1) := by decide +kernel
theorem dX9_runSlot_30 : decode cX9_runSlot 30 = .ok (.getfield 18, 3) := by decide +kernel
theorem dX9_runSlot_33 : decode cX9_runSlot 33 = .ok (.iload_n 1, 1) := by decide +kernel
theorem dX9_runSlot_34 : decode cX9_runSlot 34 = .ok (.aaload, 1) := by decide +kernel
theorem dX9_runSlot_35 : decode cX9_runSlot 35 = .ok (.aload_n 0, 1) := by decide +kernel
theorem dX9_runSlot_36 : decode cX9_runSlot 36 = .ok (.getfield 32, 3) := by decide +kernel
theorem dX9_runSlot_39 : decode cX9_runSlot 39 = .ok (.invokevirtual 123, 3) := by decide +kernel
theorem dX9_runSlot_42 : decode cX9_runSlot 42 = .ok (.aload_n 0, 1) := by decide +kernel
theorem dX9_runSlot_43 : decode cX9_runSlot 43 = .ok (.getfield 18, 3) := by decide +kernel
theorem dX9_runSlot_46 : decode cX9_runSlot 46 = .ok (.iload_n 1, 1) := by decide +kernel
theorem dX9_runSlot_47 : decode cX9_runSlot 47 = .ok (.aaload, 1) := by decide +kernel
theorem dX9_runSlot_48 : decode cX9_runSlot 48 = .ok (.aload_n 0, 1) := by decide +kernel
theorem dX9_runSlot_49 : decode cX9_runSlot 49 = .ok (.getfield 32, 3) := by decide +kernel
theorem dX9_runSlot_52 : decode cX9_runSlot 52 = .ok (.invokevirtual 127, 3) := by decide +kernel
theorem dX9_runSlot_55 : decode cX9_runSlot 55 = .ok (.aload_n 0, 1) := by decide +kernel
theorem dX9_runSlot_56 : decode cX9_runSlot 56 = .ok (.getfield 18, 3) := by decide +kernel
theorem dX9_runSlot_59 : decode cX9_runSlot 59 = .ok (.iload_n 1, 1) := by decide +kernel
theorem dX9_runSlot_60 : decode cX9_runSlot 60 = .ok (.aaload, 1) := by decide +kernel
theorem dX9_runSlot_61 : decode cX9_runSlot 61 = .ok (.invokevirtual 130, 3) := by decide +kernel
theorem dX9_runSlot_64 : decode cX9_runSlot 64 = .ok (.istore_n 2, 1) := by decide +kernel
theorem dX9_runSlot_65 : decode cX9_runSlot 65 = .ok (.iload_n 2, 1) := by decide +kernel
theorem dX9_runSlot_66 : decode cX9_runSlot 66 = .ok (.iconst (-1), 1) := by decide +kernel
theorem dX9_runSlot_67 : decode cX9_runSlot 67 = .ok (.if_icmp .eq 12, 3) := by decide +kernel
theorem dX9_runSlot_70 : decode cX9_runSlot 70 = .ok (.aload_n 0, 1) := by decide +kernel
theorem dX9_runSlot_71 : decode cX9_runSlot 71 = .ok (.getfield 10, 3) := by decide +kernel
theorem dX9_runSlot_74 : decode cX9_runSlot 74 = .ok (.iload_n 1, 1) := by decide +kernel
theorem dX9_runSlot_75 : decode cX9_runSlot 75 = .ok (.iload_n 2, 1) := by decide +kernel
theorem dX9_runSlot_76 : decode cX9_runSlot 76 = .ok (.invokevirtual 134, 3) := by decide +kernel
theorem dX9_runSlot_79 : decode cX9_runSlot 79 = .ok (.iinc 1 1, 3) := by decide +kernel
theorem dX9_runSlot_82 : decode cX9_runSlot 82 = .ok (.goto (-59), 3) := by decide +kernel
theorem dX9_runSlot_85 : decode cX9_runSlot 85 = .ok (.return_, 1) := by decide +kernel
theorem dX9_arriveAll_0 : decode cX9_arriveAll 0 = .ok (.iconst 0, 1) := by decide +kernel
theorem dX9_arriveAll_1 : decode cX9_arriveAll 1 = .ok (.istore_n 1, 1) := by decide +kernel
theorem dX9_arriveAll_2 : decode cX9_arriveAll 2 = .ok (.iload_n 1, 1) := by decide +kernel
theorem dX9_arriveAll_3 : decode cX9_arriveAll 3 = .ok (.bipush 24, 2) := by decide +kernel
theorem dX9_arriveAll_5 : decode cX9_arriveAll 5 = .ok (.if_icmp .ge 50, 3) := by decide +kernel
theorem dX9_arriveAll_8 : decode cX9_arriveAll 8 = .ok (.aload_n 0, 1) := by decide +kernel
theorem dX9_arriveAll_9 : decode cX9_arriveAll 9 = .ok (.getfield 10, 3) := by decide +kernel
theorem dX9_arriveAll_12 : decode cX9_arriveAll 12 = .ok (.iload_n 1, 1) := by decide +kernel
theorem dX9_arriveAll_13 : decode cX9_arriveAll 13 = .ok (.invokevirtual 137, 3) := by decide +kernel
theorem dX9_arriveAll_16 : decode cX9_arriveAll 16 = .ok (.istore_n 2, 1) := by decide +kernel
theorem dX9_arriveAll_17 : decode cX9_arriveAll 17 = .ok (.iload_n 2, 1) := by decide +kernel
theorem dX9_arriveAll_18 : decode cX9_arriveAll 18 = .ok (.iconst (-1), 1) := by decide +kernel
theorem dX9_arriveAll_19 : decode cX9_arriveAll 19 = .ok (.if_icmp .ne 6, 3) := by decide +kernel
theorem dX9_arriveAll_22 : decode cX9_arriveAll 22 = .ok (.goto 27, 3) := by decide +kernel
theorem dX9_arriveAll_25 : decode cX9_arriveAll 25 = .ok (.iload_n 1, 1) := by decide +kernel
theorem dX9_arriveAll_26 : decode cX9_arriveAll 26 = .ok (.invokestatic 140, 3) := by decide +kernel
theorem dX9_arriveAll_29 : decode cX9_arriveAll 29 = .ok (.ifCond .eq 11, 3) := by decide +kernel
theorem dX9_arriveAll_32 : decode cX9_arriveAll 32 = .ok (.aload_n 0, 1) := by decide +kernel
theorem dX9_arriveAll_33 : decode cX9_arriveAll 33 = .ok (.iload_n 2, 1) := by decide +kernel
theorem dX9_arriveAll_34 : decode cX9_arriveAll 34 = .ok (.invokevirtual 143, 3) := by decide +kernel
theorem dX9_arriveAll_37 : decode cX9_arriveAll 37 = .ok (.goto 12, 3) := by decide +kernel
theorem dX9_arriveAll_40 : decode cX9_arriveAll 40 = .ok (.aload_n 0, 1) := by decide +kernel
theorem dX9_arriveAll_41 : decode cX9_arriveAll 41 = .ok (.getfield 10, 3) := by decide +kernel
theorem dX9_arriveAll_44 : decode cX9_arriveAll 44 = .ok (.iload_n 1, 1) := by decide +kernel
theorem dX9_arriveAll_45 : decode cX9_arriveAll 45 = .ok (.iload_n 2, 1) := by decide +kernel
theorem dX9_arriveAll_46 : decode cX9_arriveAll 46 = .ok (.invokevirtual 146, 3) := by decide +kernel
theorem dX9_arriveAll_49 : decode cX9_arriveAll 49 = .ok (.iinc 1 1, 3) := by decide +kernel
theorem dX9_arriveAll_52 : decode cX9_arriveAll 52 = .ok (.goto (-50), 3) := by decide +kernel
theorem dX9_arriveAll_55 : decode cX9_arriveAll 55 = .ok (.return_, 1) := by decide +kernel
theorem dX9_takeIn_0 : decode cX9_takeIn 0 = .ok (.aload_n 0, 1) := by decide +kernel
theorem dX9_takeIn_1 : decode cX9_takeIn 1 = .ok (.iload_n 1, 1) := by decide +kernel
theorem dX9_takeIn_2 : decode cX9_takeIn 2 = .ok (.invokestatic 149, 3) := by decide +kernel
theorem dX9_takeIn_5 : decode cX9_takeIn 5 = .ok (.invokevirtual 74, 3) := by decide +kernel
theorem dX9_takeIn_8 : decode cX9_takeIn 8 = .ok (.astore_n 2, 1) := by decide +kernel
theorem dX9_takeIn_9 : decode cX9_takeIn 9 = .ok (.aload_n 2, 1) := by decide +kernel
theorem dX9_takeIn_10 : decode cX9_takeIn 10 = .ok (.ifnonnull 4, 3) := by decide +kernel
theorem dX9_takeIn_13 : decode cX9_takeIn 13 = .ok (.return_, 1) := by decide +kernel
theorem dX9_takeIn_14 : decode cX9_takeIn 14 = .ok (.iload_n 1, 1) := by decide +kernel
theorem dX9_takeIn_15 : decode cX9_takeIn 15 = .ok (.invokestatic 152, 3) := by decide +kernel
theorem dX9_takeIn_18 : decode cX9_takeIn 18 = .ok (.ifCond .ne 27, 3) := by decide +kernel
theorem dX9_takeIn_21 : decode cX9_takeIn 21 = .ok (.aload_n 0, 1) := by decide +kernel
theorem dX9_takeIn_22 : decode cX9_takeIn 22 = .ok (.getfield 18, 3) := by decide +kernel
theorem dX9_takeIn_25 : decode cX9_takeIn 25 = .ok (.aload_n 2, 1) := by decide +kernel
theorem dX9_takeIn_26 : decode cX9_takeIn 26 = .ok (.getfield 155, 3) := by decide +kernel
theorem dX9_takeIn_29 : decode cX9_takeIn 29 = .ok (.aaload, 1) := by decide +kernel
theorem dX9_takeIn_30 : decode cX9_takeIn 30 = .ok (.aload_n 2, 1) := by decide +kernel
theorem dX9_takeIn_31 : decode cX9_takeIn 31 = .ok (.iload_n 1, 1) := by decide +kernel
theorem dX9_takeIn_32 : decode cX9_takeIn 32 = .ok (.invokestatic 158, 3) := by decide +kernel
theorem dX9_takeIn_35 : decode cX9_takeIn 35 = .ok (.aload_n 0, 1) := by decide +kernel
theorem dX9_takeIn_36 : decode cX9_takeIn 36 = .ok (.getfield 32, 3) := by decide +kernel
theorem dX9_takeIn_39 : decode cX9_takeIn 39 = .ok (.invokevirtual 161, 3) := by decide +kernel
theorem dX9_takeIn_42 : decode cX9_takeIn 42 = .ok (.goto 22, 3) := by decide +kernel
theorem dX9_takeIn_45 : decode cX9_takeIn 45 = .ok (.aload_n 2, 1) := by decide +kernel
theorem dX9_takeIn_46 : decode cX9_takeIn 46 = .ok (.getfield 78, 3) := by decide +kernel
theorem dX9_takeIn_49 : decode cX9_takeIn 49 = .ok (.iload_n 1, 1) := by decide +kernel
theorem dX9_takeIn_50 : decode cX9_takeIn 50 = .ok (.invokestatic 152, 3) := by decide +kernel
theorem dX9_takeIn_53 : decode cX9_takeIn 53 = .ok (.iload_n 1, 1) := by decide +kernel
theorem dX9_takeIn_54 : decode cX9_takeIn 54 = .ok (.invokestatic 158, 3) := by decide +kernel
theorem dX9_takeIn_57 : decode cX9_takeIn 57 = .ok (.aload_n 0, 1) := by decide +kernel
theorem dX9_takeIn_58 : decode cX9_takeIn 58 = .ok (.getfield 32, 3) := by decide +kernel
theorem dX9_takeIn_61 : decode cX9_takeIn 61 = .ok (.invokevirtual 165, 3) := by decide +kernel
theorem dX9_takeIn_64 : decode cX9_takeIn 64 = .ok (.return_, 1) := by decide +kernel
theorem dX10_init_0 : decode cX10_init 0 = .ok (.aload_n 0, 1) := by decide +kernel
theorem dX10_init_1 : decode cX10_init 1 = .ok (.invokespecial 1, 3) := by decide +kernel
theorem dX10_init_4 : decode cX10_init 4 = .ok (.aload_n 0, 1) := by decide +kernel
theorem dX10_init_5 : decode cX10_init 5 = .ok (.bipush 24, 2) := by decide +kernel
theorem dX10_init_7 : decode cX10_init 7 = .ok (.newarray .int, 2) := by decide +kernel
theorem dX10_init_9 : decode cX10_init 9 = .ok (.putfield 7, 3) := by decide +kernel
theorem dX10_init_12 : decode cX10_init 12 = .ok (.aload_n 0, 1) := by decide +kernel
theorem dX10_init_13 : decode cX10_init 13 = .ok (.bipush 24, 2) := by decide +kernel
theorem dX10_init_15 : decode cX10_init 15 = .ok (.newarray .int, 2) := by decide +kernel
theorem dX10_init_17 : decode cX10_init 17 = .ok (.putfield 13, 3) := by decide +kernel
theorem dX10_init_20 : decode cX10_init 20 = .ok (.aload_n 0, 1) := by decide +kernel
theorem dX10_init_21 : decode cX10_init 21 = .ok (.bipush 24, 2) := by decide +kernel
theorem dX10_init_23 : decode cX10_init 23 = .ok (.newarray .int, 2) := by decide +kernel
theorem dX10_init_25 : decode cX10_init 25 = .ok (.putfield 16, 3) := by decide +kernel
theorem dX10_init_28 : decode cX10_init 28 = .ok (.aload_n 0, 1) := by decide +kernel
theorem dX10_init_29 : decode cX10_init 29 = .ok (.bipush 24, 2) := by decide +kernel
theorem dX10_init_31 : decode cX10_init 31 = .ok (.newarray .int, 2) := by decide +kernel
theorem dX10_init_33 : decode cX10_init 33 = .ok (.putfield 19, 3) := by decide +kernel
theorem dX10_init_36 : decode cX10_init 36 = .ok (.aload_n 0, 1) := by decide +kernel
theorem dX10_init_37 : decode cX10_init 37 = .ok (.bipush 24, 2) := by decide +kernel
theorem dX10_init_39 : decode cX10_init 39 = .ok (.newarray .int, 2) := by decide +kernel
theorem dX10_init_41 : decode cX10_init 41 = .ok (.putfield 22, 3) := by decide +kernel
theorem dX10_init_44 : decode cX10_init 44 = .ok (.aload_n 0, 1) := by decide +kernel
theorem dX10_init_45 : decode cX10_init 45 = .ok (.bipush 96, 2) := by decide +kernel
theorem dX10_init_47 : decode cX10_init 47 = .ok (.newarray .int, 2) := by decide +kernel
theorem dX10_init_49 : decode cX10_init 49 = .ok (.putfield 25, 3) := by decide +kernel
theorem dX10_init_52 : decode cX10_init 52 = .ok (.aload_n 0, 1) := by decide +kernel
theorem dX10_init_53 : decode cX10_init 53 = .ok (.sipush 768, 3) := by decide +kernel
theorem dX10_init_56 : decode cX10_init 56 = .ok (.newarray .int, 2) := by decide +kernel
theorem dX10_init_58 : decode cX10_init 58 = .ok (.putfield 28, 3) := by decide +kernel
theorem dX10_init_61 : decode cX10_init 61 = .ok (.aload_n 0, 1) := by decide +kernel
theorem dX10_init_62 : decode cX10_init 62 = .ok (.sipush 768, 3) := by decide +kernel
theorem dX10_init_65 : decode cX10_init 65 = .ok (.newarray .int, 2) := by decide +kernel
theorem dX10_init_67 : decode cX10_init 67 = .ok (.putfield 31, 3) := by decide +kernel
theorem dX10_init_70 : decode cX10_init 70 = .ok (.aload_n 0, 1) := by decide +kernel
theorem dX10_init_71 : decode cX10_init 71 = .ok (.sipush 768, 3) := by decide +kernel
theorem dX10_init_74 : decode cX10_init 74 = .ok (.newarray .int, 2) := by decide +kernel
theorem dX10_init_76 : decode cX10_init 76 = .ok (.putfield 34, 3) := by decide +kernel
theorem dX10_init_79 : decode cX10_init 79 = .ok (.aload_n 0, 1) := by decide +kernel
theorem dX10_init_80 : decode cX10_init 80 = .ok (.iconst 2, 1) := by decide +kernel
theorem dX10_init_81 : decode cX10_init 81 = .ok (.newarray .boolean, 2) := by decide +kernel
theorem dX10_init_83 : decode cX10_init 83 = .ok (.putfield 37, 3) := by decide +kernel
theorem dX10_init_86 : decode cX10_init 86 = .ok (.aload_n 0, 1) := by decide +kernel
theorem dX10_init_87 : decode cX10_init 87 = .ok (.iconst 2, 1) := by decide +kernel
theorem dX10_init_88 : decode cX10_init 88 = .ok (.newarray .int, 2) := by decide +kernel
theorem dX10_init_90 : decode cX10_init 90 = .ok (.dup, 1) := by decide +kernel
theorem dX10_init_91 : decode cX10_init 91 = .ok (.iconst 0, 1) := by decide +kernel
theorem dX10_init_92 : decode cX10_init 92 = .ok (.iconst 1, 1) := by decide +kernel
theorem dX10_init_93 : decode cX10_init 93 = .ok (.iastore, 1) := by decide +kernel
theorem dX10_init_94 : decode cX10_init 94 = .ok (.dup, 1) := by decide +kernel
theorem dX10_init_95 : decode cX10_init 95 = .ok (.iconst 1, 1) := by decide +kernel
theorem dX10_init_96 : decode cX10_init 96 = .ok (.iconst 1, 1) := by decide +kernel
theorem dX10_init_97 : decode cX10_init 97 = .ok (.iastore, 1) := by decide +kernel
theorem dX10_init_98 : decode cX10_init 98 = .ok (.putfield 41, 3) := by decide +kernel
theorem dX10_init_101 : decode cX10_init 101 = .ok (.aload_n 0, 1) := by decide +kernel
theorem dX10_init_102 : decode cX10_init 102 = .ok (.bipush 48, 2) := by decide +kernel
theorem dX10_init_104 : decode cX10_init 104 = .ok (.newarray .int, 2) := by decide +kernel
theorem dX10_init_106 : decode cX10_init 106 = .ok (.putfield 44, 3) := by decide +kernel
theorem dX10_init_109 : decode cX10_init 109 = .ok (.aload_n 0, 1) := by decide +kernel
theorem dX10_init_110 : decode cX10_init 110 = .ok (.bipush 48, 2) := by decide +kernel
theorem dX10_init_112 : decode cX10_init 112 = .ok (.newarray .int, 2) := by decide +kernel
theorem dX10_init_114 : decode cX10_init 114 = .ok (.putfield 47, 3) := by decide +kernel
theorem dX10_init_117 : decode cX10_init 117 = .ok (.aload_n 0, 1) := by decide +kernel
theorem dX10_init_118 : decode cX10_init 118 = .ok (.bipush 48, 2) := by decide +kernel
theorem dX10_init_120 : decode cX10_init 120 = .ok (.newarray .int, 2) := by decide +kernel
theorem dX10_init_122 : decode cX10_init 122 = .ok (.putfield 50, 3) := by decide +kernel
theorem dX10_init_125 : decode cX10_init 125 = .ok (.aload_n 0, 1) := by decide +kernel
theorem dX10_init_126 : decode cX10_init 126 = .ok (.bipush 48, 2) := by decide +kernel
theorem dX10_init_128 : decode cX10_init 128 = .ok (.newarray .int, 2) := by decide +kernel
theorem dX10_init_130 : decode cX10_init 130 = .ok (.putfield 53, 3) := by decide +kernel
theorem dX10_init_133 : decode cX10_init 133 = .ok (.aload_n 0, 1) := by decide +kernel
theorem dX10_init_134 : decode cX10_init 134 = .ok (.bipush 48, 2) := by decide +kernel
theorem dX10_init_136 : decode cX10_init 136 = .ok (.newarray .int, 2) := by decide +kernel
theorem dX10_init_138 : decode cX10_init 138 = .ok (.putfield 56, 3) := by decide +kernel
theorem dX10_init_141 : decode cX10_init 141 = .ok (.aload_n 0, 1) := by decide +kernel
theorem dX10_init_142 : decode cX10_init 142 = .ok (.bipush 48, 2) := by decide +kernel
theorem dX10_init_144 : decode cX10_init 144 = .ok (.newarray .int, 2) := by decide +kernel
theorem dX10_init_146 : decode cX10_init 146 = .ok (.putfield 59, 3) := by decide +kernel
theorem dX10_init_149 : decode cX10_init 149 = .ok (.aload_n 0, 1) := by decide +kernel
theorem dX10_init_150 : decode cX10_init 150 = .ok (.bipush 48, 2) := by decide +kernel
theorem dX10_init_152 : decode cX10_init 152 = .ok (.newarray .int, 2) := by decide +kernel
theorem dX10_init_154 : decode cX10_init 154 = .ok (.putfield 62, 3) := by decide +kernel
theorem dX10_init_157 : decode cX10_init 157 = .ok (.aload_n 0, 1) := by decide +kernel
theorem dX10_init_158 : decode cX10_init 158 = .ok (.bipush 48, 2) := by decide +kernel
theorem dX10_init_160 : decode cX10_init 160 = .ok (.newarray .int, 2) := by decide +kernel
theorem dX10_init_162 : decode cX10_init 162 = .ok (.putfield 65, 3) := by decide +kernel
theorem dX10_init_165 : decode cX10_init 165 = .ok (.aload_n 0, 1) := by decide +kernel
theorem dX10_init_166 : decode cX10_init 166 = .ok (.bipush 48, 2) := by decide +kernel
theorem dX10_init_168 : decode cX10_init 168 = .ok (.newarray .int, 2) := by decide +kernel
theorem dX10_init_170 : decode cX10_init 170 = .ok (.putfield 68, 3) := by decide +kernel
theorem dX10_init_173 : decode cX10_init 173 = .ok (.aload_n 0, 1) := by decide +kernel
theorem dX10_init_174 : decode cX10_init 174 = .ok (.bipush 48, 2) := by decide +kernel
theorem dX10_init_176 : decode cX10_init 176 = .ok (.newarray .int, 2) := by decide +kernel
theorem dX10_init_178 : decode cX10_init 178 = .ok (.putfield 71, 3) := by decide +kernel
theorem dX10_init_181 : decode cX10_init 181 = .ok (.aload_n 0, 1) := by decide +kernel
theorem dX10_init_182 : decode cX10_init 182 = .ok (.bipush 48, 2) := by decide +kernel
theorem dX10_init_184 : decode cX10_init 184 = .ok (.newarray .int, 2) := by decide +kernel
theorem dX10_init_186 : decode cX10_init 186 = .ok (.putfield 74, 3) := by decide +kernel
theorem dX10_init_189 : decode cX10_init 189 = .ok (.aload_n 0, 1) := by decide +kernel
theorem dX10_init_190 : decode cX10_init 190 = .ok (.sipush 2880, 3) := by decide +kernel
theorem dX10_init_193 : decode cX10_init 193 = .ok (.newarray .boolean, 2) := by decide +kernel
theorem dX10_init_195 : decode cX10_init 195 = .ok (.putfield 77, 3) := by decide +kernel
theorem dX10_init_198 : decode cX10_init 198 = .ok (.aload_n 0, 1) := by decide +kernel
theorem dX10_init_199 : decode cX10_init 199 = .ok (.bipush 48, 2) := by decide +kernel
theorem dX10_init_201 : decode cX10_init 201 = .ok (.newarray .int, 2) := by decide +kernel
theorem dX10_init_203 : decode cX10_init 203 = .ok (.putfield 80, 3) := by decide +kernel
theorem dX10_init_206 : decode cX10_init 206 = .ok (.aload_n 0, 1) := by decide +kernel
theorem dX10_init_207 : decode cX10_init 207 = .ok (.bipush 48, 2) := by decide +kernel
theorem dX10_init_209 : decode cX10_init 209 = .ok (.newarray .int, 2) := by decide +kernel
theorem dX10_init_211 : decode cX10_init 211 = .ok (.putfield 83, 3) := by decide +kernel
theorem dX10_init_214 : decode cX10_init 214 = .ok (.aload_n 0, 1) := by decide +kernel
theorem dX10_init_215 : decode cX10_init 215 = .ok (.bipush 48, 2) := by decide +kernel
theorem dX10_init_217 : decode cX10_init 217 = .ok (.newarray .int, 2) := by decide +kernel
theorem dX10_init_219 : decode cX10_init 219 = .ok (.putfield 86, 3) := by decide +kernel
theorem dX10_init_222 : decode cX10_init 222 = .ok (.aload_n 0, 1) := by decide +kernel
theorem dX10_init_223 : decode cX10_init 223 = .ok (.bipush 48, 2) := by decide +kernel
theorem dX10_init_225 : decode cX10_init 225 = .ok (.newarray .int, 2) := by decide +kernel
theorem dX10_init_227 : decode cX10_init 227 = .ok (.putfield 89, 3) := by decide +kernel
theorem dX10_init_230 : decode cX10_init 230 = .ok (.aload_n 0, 1) := by decide +kernel
theorem dX10_init_231 : decode cX10_init 231 = .ok (.bipush 48, 2) := by decide +kernel
theorem dX10_init_233 : decode cX10_init 233 = .ok (.newarray .int, 2) := by decide +kernel
theorem dX10_init_235 : decode cX10_init 235 = .ok (.putfield 92, 3) := by decide +kernel
theorem dX10_init_238 : decode cX10_init 238 = .ok (.aload_n 0, 1) := by decide +kernel
theorem dX10_init_239 : decode cX10_init 239 = .ok (.bipush 48, 2) := by decide +kernel
theorem dX10_init_241 : decode cX10_init 241 = .ok (.newarray .int, 2) := by decide +kernel
theorem dX10_init_243 : decode cX10_init 243 = .ok (.putfield 95, 3) := by decide +kernel
theorem dX10_init_246 : decode cX10_init 246 = .ok (.aload_n 0, 1) := by decide +kernel
theorem dX10_init_247 : decode cX10_init 247 = .ok (.bipush 48, 2) := by decide +kernel
theorem dX10_init_249 : decode cX10_init 249 = .ok (.newarray .int, 2) := by decide +kernel
theorem dX10_init_251 : decode cX10_init 251 = .ok (.putfield 98, 3) := by decide +kernel
theorem dX10_init_254 : decode cX10_init 254 = .ok (.aload_n 0, 1) := by decide +kernel
theorem dX10_init_255 : decode cX10_init 255 = .ok (.sipush 2880, 3) := by decide +kernel
theorem dX10_init_258 : decode cX10_init 258 = .ok (.newarray .boolean, 2) := by decide +kernel
theorem dX10_init_260 : decode cX10_init 260 = .ok (.putfield 101, 3) := by decide +kernel
theorem dX10_init_263 : decode cX10_init 263 = .ok (.aload_n 0, 1) := by decide +kernel
theorem dX10_init_264 : decode cX10_init 264 = .ok (.bipush 8, 2) := by decide +kernel
theorem dX10_init_266 : decode cX10_init 266 = .ok (.newarray .int, 2) := by decide +kernel
theorem dX10_init_268 : decode cX10_init 268 = .ok (.putfield 104, 3) := by decide +kernel
theorem dX10_init_271 : decode cX10_init 271 = .ok (.aload_n 0, 1) := by decide +kernel
theorem dX10_init_272 : decode cX10_init 272 = .ok (.bipush 8, 2) := by decide +kernel
theorem dX10_init_274 : decode cX10_init 274 = .ok (.newarray .int, 2) := by decide +kernel
theorem dX10_init_276 : decode cX10_init 276 = .ok (.putfield 107, 3) := by decide +kernel
theorem dX10_init_279 : decode cX10_init 279 = .ok (.aload_n 0, 1) := by decide +kernel
theorem dX10_init_280 : decode cX10_init 280 = .ok (.sipush 192, 3) := by decide +kernel
theorem dX10_init_283 : decode cX10_init 283 = .ok (.newarray .int, 2) := by decide +kernel
theorem dX10_init_285 : decode cX10_init 285 = .ok (.putfield 110, 3) := by decide +kernel
theorem dX10_init_288 : decode cX10_init 288 = .ok (.aload_n 0, 1) := by decide +kernel
theorem dX10_init_289 : decode cX10_init 289 = .ok (.sipush 192, 3) := by decide +kernel
theorem dX10_init_292 : decode cX10_init 292 = .ok (.newarray .int, 2) := by decide +kernel
theorem dX10_init_294 : decode cX10_init 294 = .ok (.putfield 113, 3) := by decide +kernel
theorem dX10_init_297 : decode cX10_init 297 = .ok (.aload_n 0, 1) := by decide +kernel
theorem dX10_init_298 : decode cX10_init 298 = .ok (.sipush 192, 3) := by decide +kernel
theorem dX10_init_301 : decode cX10_init 301 = .ok (.newarray .int, 2) := by decide +kernel
theorem dX10_init_303 : decode cX10_init 303 = .ok (.putfield 116, 3) := by decide +kernel
theorem dX10_init_306 : decode cX10_init 306 = .ok (.aload_n 0, 1) := by decide +kernel
theorem dX10_init_307 : decode cX10_init 307 = .ok (.bipush 8, 2) := by decide +kernel
theorem dX10_init_309 : decode cX10_init 309 = .ok (.newarray .int, 2) := by decide +kernel
theorem dX10_init_311 : decode cX10_init 311 = .ok (.putfield 119, 3) := by decide +kernel
theorem dX10_init_314 : decode cX10_init 314 = .ok (.aload_n 0, 1) := by decide +kernel
theorem dX10_init_315 : decode cX10_init 315 = .ok (.bipush 24, 2) := by decide +kernel
theorem dX10_init_317 : decode cX10_init 317 = .ok (.newarray .int, 2) := by decide +kernel
theorem dX10_init_319 : decode cX10_init 319 = .ok (.putfield 122, 3) := by decide +kernel
theorem dX10_init_322 : decode cX10_init 322 = .ok (.aload_n 0, 1) := by decide +kernel
theorem dX10_init_323 : decode cX10_init 323 = .ok (.bipush 8, 2) := by decide +kernel
theorem dX10_init_325 : decode cX10_init 325 = .ok (.newarray .int, 2) := by decide +kernel
theorem dX10_init_327 : decode cX10_init 327 = .ok (.putfield 125, 3) := by decide +kernel
theorem dX10_init_330 : decode cX10_init 330 = .ok (.aload_n 0, 1) := by decide +kernel
theorem dX10_init_331 : decode cX10_init 331 = .ok (.bipush 8, 2) := by decide +kernel
theorem dX10_init_333 : decode cX10_init 333 = .ok (.newarray .int, 2) := by decide +kernel
theorem dX10_init_335 : decode cX10_init 335 = .ok (.putfield 128, 3) := by decide +kernel
theorem dX10_init_338 : decode cX10_init 338 = .ok (.aload_n 0, 1) := by decide +kernel
theorem dX10_init_339 : decode cX10_init 339 = .ok (.sipush 512, 3) := by decide +kernel
theorem dX10_init_342 : decode cX10_init 342 = .ok (.newarray .int, 2) := by decide +kernel
theorem dX10_init_344 : decode cX10_init 344 = .ok (.putfield 131, 3) := by decide +kernel
theorem dX10_init_347 : decode cX10_init 347 = .ok (.iconst 0, 1) := by decide +kernel
theorem dX10_init_348 : decode cX10_init 348 = .ok (.istore_n 1, 1) := by decide +kernel
theorem dX10_init_349 : decode cX10_init 349 = .ok (.iload_n 1, 1) := by decide +kernel
theorem dX10_init_350 : decode cX10_init 350 = .ok (.bipush 24, 2) := by decide +kernel
theorem dX10_init_352 : decode cX10_init 352 = .ok (.if_icmp .ge 16, 3) := by decide +kernel
theorem dX10_init_355 : decode cX10_init 355 = .ok (.aload_n 0, 1) := by decide +kernel
theorem dX10_init_356 : decode cX10_init 356 = .ok (.getfield 7, 3) := by decide +kernel
theorem dX10_init_359 : decode cX10_init 359 = .ok (.iload_n 1, 1) := by decide +kernel
theorem dX10_init_360 : decode cX10_init 360 = .ok (.iconst (-1), 1) := by decide +kernel
theorem dX10_init_361 : decode cX10_init 361 = .ok (.iastore, 1) := by decide +kernel
theorem dX10_init_362 : decode cX10_init 362 = .ok (.iinc 1 1, 3) := by decide +kernel
theorem dX10_init_365 : decode cX10_init 365 = .ok (.goto (-16), 3) := by decide +kernel
theorem dX10_init_368 : decode cX10_init 368 = .ok (.return_, 1) := by decide +kernel
theorem dX10_thrown_0 : decode cX10_thrown 0 = .ok (.aload_n 0, 1) := by decide +kernel
theorem dX10_thrown_1 : decode cX10_thrown 1 = .ok (.getfield 134, 3) := by decide +kernel
theorem dX10_thrown_4 : decode cX10_thrown 4 = .ok (.ireturn, 1) := by decide +kernel
theorem dX10_message_0 : decode cX10_message 0 = .ok (.aload_n 0, 1) := by decide +kernel
theorem dX10_message_1 : decode cX10_message 1 = .ok (.iconst 0, 1) := by decide +kernel
theorem dX10_message_2 : decode cX10_message 2 = .ok (.putfield 134, 3) := by decide +kernel
theorem dX10_message_5 : decode cX10_message 5 = .ok (.iload_n 1, 1) := by decide +kernel
theorem dX10_message_6 : decode cX10_message 6 = .ok (.ifCond .lt 55, 3) := by decide +kernel
theorem dX10_message_9 : decode cX10_message 9 = .ok (.iload_n 1, 1) := by decide +kernel
theorem dX10_message_10 : decode cX10_message 10 = .ok (.bipush 8, 2) := by decide +kernel
theorem dX10_message_12 : decode cX10_message 12 = .ok (.if_icmp .ge 49, 3) := by decide +kernel
theorem dX10_message_15 : decode cX10_message 15 = .ok (.iload_n 2, 1) := by decide +kernel
theorem dX10_message_16 : decode cX10_message 16 = .ok (.ifCond .lt 45, 3) := by decide +kernel
theorem dX10_message_19 : decode cX10_message 19 = .ok (.iload_n 2, 1) := by decide +kernel
theorem dX10_message_20 : decode cX10_message 20 = .ok (.bipush 8, 2) := by decide +kernel
theorem dX10_message_22 : decode cX10_message 22 = .ok (.if_icmp .ge 39, 3) := by decide +kernel
theorem dX10_message_25 : decode cX10_message 25 = .ok (.iload_n 1, 1) := by decide +kernel
theorem dX10_message_26 : decode cX10_message 26 = .ok (.iload_n 2, 1) := by decide +kernel
theorem dX10_message_27 : decode cX10_message 27 = .ok (.if_icmp .eq 34, 3) := by decide +kernel
theorem dX10_message_30 : decode cX10_message 30 = .ok (.iload_n 3, 1) := by decide +kernel
theorem dX10_message_31 : decode cX10_message 31 = .ok (.iconst 1, 1) := by decide +kernel
theorem dX10_message_32 : decode cX10_message 32 = .ok (.if_icmp .lt 29, 3) := by decide +kernel
theorem dX10_message_35 : decode cX10_message 35 = .ok (.iload_n 3, 1) := by decide +kernel
theorem dX10_message_36 : decode cX10_message 36 = .ok (.bipush 60, 2) := by decide +kernel
theorem dX10_message_38 : decode cX10_message 38 = .ok (.if_icmp .gt 23, 3) := by decide +kernel
theorem dX10_message_41 : decode cX10_message 41 = .ok (.iload 4, 2) := by decide +kernel
theorem dX10_message_43 : decode cX10_message 43 = .ok (.ifCond .lt 18, 3) := by decide +kernel
theorem dX10_message_46 : decode cX10_message 46 = .ok (.iload 4, 2) := by decide +kernel
theorem dX10_message_48 : decode cX10_message 48 = .ok (.iconst 1, 1) := by decide +kernel
theorem dX10_message_49 : decode cX10_message 49 = .ok (.if_icmp .gt 12, 3) := by decide +kernel
theorem dX10_message_52 : decode cX10_message 52 = .ok (.aload_n 0, 1) := by decide +kernel
theorem dX10_message_53 : decode cX10_message 53 = .ok (.getfield 138, 3) := by decide +kernel
theorem dX10_message_56 : decode cX10_message 56 = .ok (.bipush 48, 2) := by decide +kernel
theorem dX10_message_58 : decode cX10_message 58 = .ok (.if_icmp .ne 5, 3) := by decide +kernel
theorem dX10_message_61 : decode cX10_message 61 = .ok (.iconst (-1), 1) := by decide +kernel
theorem dX10_message_62 : decode cX10_message 62 = .ok (.ireturn, 1) := by decide +kernel
theorem dX10_message_63 : decode cX10_message 63 = .ok (.aload_n 0, 1) := by decide +kernel
theorem dX10_message_64 : decode cX10_message 64 = .ok (.getfield 138, 3) := by decide +kernel
theorem dX10_message_67 : decode cX10_message 67 = .ok (.istore 5, 2) := by decide +kernel
theorem dX10_message_69 : decode cX10_message 69 = .ok (.aload_n 0, 1) := by decide +kernel
theorem dX10_message_70 : decode cX10_message 70 = .ok (.dup, 1) := by decide +kernel
theorem dX10_message_71 : decode cX10_message 71 = .ok (.getfield 138, 3) := by decide +kernel
theorem dX10_message_74 : decode cX10_message 74 = .ok (.iconst 1, 1) := by decide +kernel
theorem dX10_message_75 : decode cX10_message 75 = .ok (.iadd, 1) := by decide +kernel
theorem dX10_message_76 : decode cX10_message 76 = .ok (.putfield 138, 3) := by decide +kernel
theorem dX10_message_79 : decode cX10_message 79 = .ok (.aload_n 0, 1) := by decide +kernel
theorem dX10_message_80 : decode cX10_message 80 = .ok (.getfield 44, 3) := by decide +kernel
theorem dX10_message_83 : decode cX10_message 83 = .ok (.iload 5, 2) := by decide +kernel
theorem dX10_message_85 : decode cX10_message 85 = .ok (.iload_n 1, 1) := by decide +kernel
theorem dX10_message_86 : decode cX10_message 86 = .ok (.iastore, 1) := by decide +kernel
theorem dX10_message_87 : decode cX10_message 87 = .ok (.aload_n 0, 1) := by decide +kernel
theorem dX10_message_88 : decode cX10_message 88 = .ok (.getfield 47, 3) := by decide +kernel
theorem dX10_message_91 : decode cX10_message 91 = .ok (.iload 5, 2) := by decide +kernel
theorem dX10_message_93 : decode cX10_message 93 = .ok (.iload_n 2, 1) := by decide +kernel
theorem dX10_message_94 : decode cX10_message 94 = .ok (.iastore, 1) := by decide +kernel
theorem dX10_message_95 : decode cX10_message 95 = .ok (.aload_n 0, 1) := by decide +kernel
theorem dX10_message_96 : decode cX10_message 96 = .ok (.getfield 50, 3) := by decide +kernel
theorem dX10_message_99 : decode cX10_message 99 = .ok (.iload 5, 2) := by decide +kernel
theorem dX10_message_101 : decode cX10_message 101 = .ok (.iload_n 3, 1) := by decide +kernel
theorem dX10_message_102 : decode cX10_message 102 = .ok (.iastore, 1) := by decide +kernel
theorem dX10_message_103 : decode cX10_message 103 = .ok (.aload_n 0, 1) := by decide +kernel
theorem dX10_message_104 : decode cX10_message 104 = .ok (.getfield 53, 3) := by decide +kernel
theorem dX10_message_107 : decode cX10_message 107 = .ok (.iload 5, 2) := by decide +kernel
theorem dX10_message_109 : decode cX10_message 109 = .ok (.iload 4, 2) := by decide +kernel
theorem dX10_message_111 : decode cX10_message 111 = .ok (.iastore, 1) := by decide +kernel
theorem dX10_message_112 : decode cX10_message 112 = .ok (.aload_n 0, 1) := by decide +kernel
theorem dX10_message_113 : decode cX10_message 113 = .ok (.getfield 62, 3) := by decide +kernel
theorem dX10_message_116 : decode cX10_message 116 = .ok (.iload 5, 2) := by decide +kernel
theorem dX10_message_118 : decode cX10_message 118 = .ok (.iload_n 3, 1) := by decide +kernel
theorem dX10_message_119 : decode cX10_message 119 = .ok (.iconst 4, 1) := by decide +kernel
theorem dX10_message_120 : decode cX10_message 120 = .ok (.if_icmp .ge 7, 3) := by decide +kernel
theorem dX10_message_123 : decode cX10_message 123 = .ok (.iload_n 3, 1) := by decide +kernel
theorem dX10_message_124 : decode cX10_message 124 = .ok (.goto 4, 3) := by decide +kernel
theorem dX10_message_127 : decode cX10_message 127 = .ok (.iconst 4, 1) := by decide +kernel
theorem dX10_message_128 : decode cX10_message 128 = .ok (.iastore, 1) := by decide +kernel
theorem dX10_message_129 : decode cX10_message 129 = .ok (.aload_n 0, 1) := by decide +kernel
theorem dX10_message_130 : decode cX10_message 130 = .ok (.getfield 65, 3) := by decide +kernel
theorem dX10_message_133 : decode cX10_message 133 = .ok (.iload 5, 2) := by decide +kernel
theorem dX10_message_135 : decode cX10_message 135 = .ok (.iconst 3, 1) := by decide +kernel
theorem dX10_message_136 : decode cX10_message 136 = .ok (.iastore, 1) := by decide +kernel
theorem dX10_message_137 : decode cX10_message 137 = .ok (.iload 5, 2) := by decide +kernel
theorem dX10_message_139 : decode cX10_message 139 = .ok (.ireturn, 1) := by decide +kernel
theorem dX10_goal_0 : decode cX10_goal 0 = .ok (.iload_n 1, 1) := by decide +kernel
theorem dX10_goal_1 : decode cX10_goal 1 = .ok (.ifCond .ne 12, 3) := by decide +kernel
theorem dX10_goal_4 : decode cX10_goal 4 = .ok (.aload_n 0, 1) := by decide +kernel
theorem dX10_goal_5 : decode cX10_goal 5 = .ok (.getfield 47, 3) := by decide +kernel
theorem dX10_goal_8 : decode cX10_goal 8 = .ok (.iload_n 2, 1) := by decide +kernel
theorem dX10_goal_9 : decode cX10_goal 9 = .ok (.iaload, 1) := by decide +kernel
theorem dX10_goal_10 : decode cX10_goal 10 = .ok (.goto 9, 3) := by decide +kernel
theorem dX10_goal_13 : decode cX10_goal 13 = .ok (.aload_n 0, 1) := by decide +kernel
theorem dX10_goal_14 : decode cX10_goal 14 = .ok (.getfield 44, 3) := by decide +kernel
theorem dX10_goal_17 : decode cX10_goal 17 = .ok (.iload_n 2, 1) := by decide +kernel
theorem dX10_goal_18 : decode cX10_goal 18 = .ok (.iaload, 1) := by decide +kernel
theorem dX10_goal_19 : decode cX10_goal 19 = .ok (.ireturn, 1) := by decide +kernel
theorem dX10_enter_0 : decode cX10_enter 0 = .ok (.aload_n 0, 1) := by decide +kernel
theorem dX10_enter_1 : decode cX10_enter 1 = .ok (.getfield 22, 3) := by decide +kernel
theorem dX10_enter_4 : decode cX10_enter 4 = .ok (.iload_n 1, 1) := by decide +kernel
theorem dX10_enter_5 : decode cX10_enter 5 = .ok (.iaload, 1) := by decide +kernel
theorem dX10_enter_6 : decode cX10_enter 6 = .ok (.ifCond .le 24, 3) := by decide +kernel
theorem dX10_enter_9 : decode cX10_enter 9 = .ok (.aload_n 0, 1) := by decide +kernel
theorem dX10_enter_10 : decode cX10_enter 10 = .ok (.getfield 22, 3) := by decide +kernel
theorem dX10_enter_13 : decode cX10_enter 13 = .ok (.iload_n 1, 1) := by decide +kernel
theorem dX10_enter_14 : decode cX10_enter 14 = .ok (.dup2, 1) := by decide +kernel
theorem dX10_enter_15 : decode cX10_enter 15 = .ok (.iaload, 1) := by decide +kernel
theorem dX10_enter_16 : decode cX10_enter 16 = .ok (.iconst 1, 1) := by decide +kernel
theorem dX10_enter_17 : decode cX10_enter 17 = .ok (.isub, 1) := by decide +kernel
theorem dX10_enter_18 : decode cX10_enter 18 = .ok (.iastore, 1) := by decide +kernel
theorem dX10_enter_19 : decode cX10_enter 19 = .ok (.aload_n 0, 1) := by decide +kernel
theorem dX10_enter_20 : decode cX10_enter 20 = .ok (.dup, 1) := by decide +kernel
theorem dX10_enter_21 : decode cX10_enter 21 = .ok (.getfield 141, 3) := by decide +kernel
theorem dX10_enter_24 : decode cX10_enter 24 = .ok (.iconst 1, 1) := by decide +kernel
theorem dX10_enter_25 : decode cX10_enter 25 = .ok (.iadd, 1) := by decide +kernel
theorem dX10_enter_26 : decode cX10_enter 26 = .ok (.putfield 141, 3) := by decide +kernel
theorem dX10_enter_29 : decode cX10_enter 29 = .ok (.return_, 1) := by decide +kernel
theorem dX10_enter_30 : decode cX10_enter 30 = .ok (.aload_n 0, 1) := by decide +kernel
theorem dX10_enter_31 : decode cX10_enter 31 = .ok (.getfield 7, 3) := by decide +kernel
theorem dX10_enter_34 : decode cX10_enter 34 = .ok (.iload_n 1, 1) := by decide +kernel
theorem dX10_enter_35 : decode cX10_enter 35 = .ok (.iload_n 2, 1) := by decide +kernel
theorem dX10_enter_36 : decode cX10_enter 36 = .ok (.iastore, 1) := by decide +kernel
theorem dX10_enter_37 : decode cX10_enter 37 = .ok (.aload_n 0, 1) := by decide +kernel
theorem dX10_enter_38 : decode cX10_enter 38 = .ok (.getfield 13, 3) := by decide +kernel
theorem dX10_enter_41 : decode cX10_enter 41 = .ok (.iload_n 1, 1) := by decide +kernel
theorem dX10_enter_42 : decode cX10_enter 42 = .ok (.iload_n 3, 1) := by decide +kernel
theorem dX10_enter_43 : decode cX10_enter 43 = .ok (.iastore, 1) := by decide +kernel
theorem dX10_enter_44 : decode cX10_enter 44 = .ok (.aload_n 0, 1) := by decide +kernel
theorem dX10_enter_45 : decode cX10_enter 45 = .ok (.getfield 16, 3) := by decide +kernel
theorem dX10_enter_48 : decode cX10_enter 48 = .ok (.iload_n 1, 1) := by decide +kernel
theorem dX10_enter_49 : decode cX10_enter 49 = .ok (.iload 4, 2) := by decide +kernel
theorem dX10_enter_51 : decode cX10_enter 51 = .ok (.iastore, 1) := by decide +kernel
theorem dX10_enter_52 : decode cX10_enter 52 = .ok (.aload_n 0, 1) := by decide +kernel
theorem dX10_enter_53 : decode cX10_enter 53 = .ok (.getfield 19, 3) := by decide +kernel
theorem dX10_enter_56 : decode cX10_enter 56 = .ok (.iload_n 1, 1) := by decide +kernel
theorem dX10_enter_57 : decode cX10_enter 57 = .ok (.iload 5, 2) := by decide +kernel
theorem dX10_enter_59 : decode cX10_enter 59 = .ok (.iastore, 1) := by decide +kernel
theorem dX10_enter_60 : decode cX10_enter 60 = .ok (.return_, 1) := by decide +kernel
theorem dX10_line_0 : decode cX10_line 0 = .ok (.iconst 4, 1) := by decide +kernel
theorem dX10_line_1 : decode cX10_line 1 = .ok (.iload_n 1, 1) := by decide +kernel
theorem dX10_line_2 : decode cX10_line 2 = .ok (.imul, 1) := by decide +kernel
theorem dX10_line_3 : decode cX10_line 3 = .ok (.iload 5, 2) := by decide +kernel
theorem dX10_line_5 : decode cX10_line 5 = .ok (.iadd, 1) := by decide +kernel
theorem dX10_line_6 : decode cX10_line 6 = .ok (.istore 6, 2) := by decide +kernel
theorem dX10_line_8 : decode cX10_line 8 = .ok (.aload_n 0, 1) := by decide +kernel
theorem dX10_line_9 : decode cX10_line 9 = .ok (.getfield 25, 3) := by decide +kernel
theorem dX10_line_12 : decode cX10_line 12 = .ok (.iload 6, 2) := by decide +kernel
theorem dX10_line_14 : decode cX10_line 14 = .ok (.iaload, 1) := by decide +kernel
theorem dX10_line_15 : decode cX10_line 15 = .ok (.bipush 8, 2) := by decide +kernel
theorem dX10_line_17 : decode cX10_line 17 = .ok (.if_icmp .ne 14, 3) := by decide +kernel
theorem dX10_line_20 : decode cX10_line 20 = .ok (.aload_n 0, 1) := by decide +kernel
theorem dX10_line_21 : decode cX10_line 21 = .ok (.dup, 1) := by decide +kernel
theorem dX10_line_22 : decode cX10_line 22 = .ok (.getfield 144, 3) := by decide +kernel
theorem dX10_line_25 : decode cX10_line 25 = .ok (.iconst 1, 1) := by decide +kernel
theorem dX10_line_26 : decode cX10_line 26 = .ok (.iadd, 1) := by decide +kernel
theorem dX10_line_27 : decode cX10_line 27 = .ok (.putfield 144, 3) := by decide +kernel
theorem dX10_line_30 : decode cX10_line 30 = .ok (.return_, 1) := by decide +kernel
theorem dX10_line_31 : decode cX10_line 31 = .ok (.bipush 8, 2) := by decide +kernel
theorem dX10_line_33 : decode cX10_line 33 = .ok (.iload 6, 2) := by decide +kernel
theorem dX10_line_35 : decode cX10_line 35 = .ok (.imul, 1) := by decide +kernel
theorem dX10_line_36 : decode cX10_line 36 = .ok (.aload_n 0, 1) := by decide +kernel
theorem dX10_line_37 : decode cX10_line 37 = .ok (.getfield 25, 3) := by decide +kernel
theorem dX10_line_40 : decode cX10_line 40 = .ok (.iload 6, 2) := by decide +kernel
theorem dX10_line_42 : decode cX10_line 42 = .ok (.iaload, 1) := by decide +kernel
theorem dX10_line_43 : decode cX10_line 43 = .ok (.iadd, 1) := by decide +kernel
theorem dX10_line_44 : decode cX10_line 44 = .ok (.istore 7, 2) := by decide +kernel
theorem dX10_line_46 : decode cX10_line 46 = .ok (.aload_n 0, 1) := by decide +kernel
theorem dX10_line_47 : decode cX10_line 47 = .ok (.getfield 28, 3) := by decide +kernel
theorem dX10_line_50 : decode cX10_line 50 = .ok (.iload 7, 2) := by decide +kernel
theorem dX10_line_52 : decode cX10_line 52 = .ok (.iload_n 2, 1) := by decide +kernel
theorem dX10_line_53 : decode cX10_line 53 = .ok (.iastore, 1) := by decide +kernel
theorem dX10_line_54 : decode cX10_line 54 = .ok (.aload_n 0, 1) := by decide +kernel
theorem dX10_line_55 : decode cX10_line 55 = .ok (.getfield 31, 3) := by decide +kernel
theorem dX10_line_58 : decode cX10_line 58 = .ok (.iload 7, 2) := by decide +kernel
theorem dX10_line_60 : decode cX10_line 60 = .ok (.iload_n 3, 1) := by decide +kernel
theorem dX10_line_61 : decode cX10_line 61 = .ok (.iastore, 1) := by decide +kernel
theorem dX10_line_62 : decode cX10_line 62 = .ok (.aload_n 0, 1) := by decide +kernel
theorem dX10_line_63 : decode cX10_line 63 = .ok (.getfield 34, 3) := by decide +kernel
theorem dX10_line_66 : decode cX10_line 66 = .ok (.iload 7, 2) := by decide +kernel
theorem dX10_line_68 : decode cX10_line 68 = .ok (.iload 4, 2) := by decide +kernel
theorem dX10_line_70 : decode cX10_line 70 = .ok (.iastore, 1) := by decide +kernel
theorem dX10_line_71 : decode cX10_line 71 = .ok (.aload_n 0, 1) := by decide +kernel
theorem dX10_line_72 : decode cX10_line 72 = .ok (.getfield 25, 3) := by decide +kernel
theorem dX10_line_75 : decode cX10_line 75 = .ok (.iload 6, 2) := by decide +kernel
theorem dX10_line_77 : decode cX10_line 77 = .ok (.dup2, 1) := by decide +kernel
theorem dX10_line_78 : decode cX10_line 78 = .ok (.iaload, 1) := by decide +kernel
theorem dX10_line_79 : decode cX10_line 79 = .ok (.iconst 1, 1) := by decide +kernel
theorem dX10_line_80 : decode cX10_line 80 = .ok (.iadd, 1) := by decide +kernel
theorem dX10_line_81 : decode cX10_line 81 = .ok (.iastore, 1) := by decide +kernel
theorem dX10_line_82 : decode cX10_line 82 = .ok (.return_, 1) := by decide +kernel
theorem dX10_atLeaf_0 : decode cX10_atLeaf 0 = .ok (.aload_n 0, 1) := by decide +kernel
theorem dX10_atLeaf_1 : decode cX10_atLeaf 1 = .ok (.iload_n 2, 1) := by decide +kernel
theorem dX10_atLeaf_2 : decode cX10_atLeaf 2 = .ok (.iload_n 3, 1) := by decide +kernel
theorem dX10_atLeaf_3 : decode cX10_atLeaf 3 = .ok (.invokevirtual 147, 3) := by decide +kernel
theorem dX10_atLeaf_6 : decode cX10_atLeaf 6 = .ok (.istore 6, 2) := by decide +kernel
theorem dX10_atLeaf_8 : decode cX10_atLeaf 8 = .ok (.iload 6, 2) := by decide +kernel
theorem dX10_atLeaf_10 : decode cX10_atLeaf 10 = .ok (.iconst 4, 1) := by decide +kernel
theorem dX10_atLeaf_11 : decode cX10_atLeaf 11 = .ok (.idiv, 1) := by decide +kernel
theorem dX10_atLeaf_12 : decode cX10_atLeaf 12 = .ok (.iload_n 1, 1) := by decide +kernel
theorem dX10_atLeaf_13 : decode cX10_atLeaf 13 = .ok (.if_icmp .ne 26, 3) := by decide +kernel
theorem dX10_atLeaf_16 : decode cX10_atLeaf 16 = .ok (.aload_n 0, 1) := by decide +kernel
theorem dX10_atLeaf_17 : decode cX10_atLeaf 17 = .ok (.bipush 8, 2) := by decide +kernel
theorem dX10_atLeaf_19 : decode cX10_atLeaf 19 = .ok (.bipush 6, 2) := by decide +kernel
theorem dX10_atLeaf_21 : decode cX10_atLeaf 21 = .ok (.iload_n 1, 1) := by decide +kernel
theorem dX10_atLeaf_22 : decode cX10_atLeaf 22 = .ok (.imul, 1) := by decide +kernel
theorem dX10_atLeaf_23 : decode cX10_atLeaf 23 = .ok (.iadd, 1) := by decide +kernel
theorem dX10_atLeaf_24 : decode cX10_atLeaf 24 = .ok (.iload 6, 2) := by decide +kernel
theorem dX10_atLeaf_26 : decode cX10_atLeaf 26 = .ok (.iconst 4, 1) := by decide +kernel
theorem dX10_atLeaf_27 : decode cX10_atLeaf 27 = .ok (.irem, 1) := by decide +kernel
theorem dX10_atLeaf_28 : decode cX10_atLeaf 28 = .ok (.iadd, 1) := by decide +kernel
theorem dX10_atLeaf_29 : decode cX10_atLeaf 29 = .ok (.iload_n 2, 1) := by decide +kernel
theorem dX10_atLeaf_30 : decode cX10_atLeaf 30 = .ok (.iload_n 3, 1) := by decide +kernel
theorem dX10_atLeaf_31 : decode cX10_atLeaf 31 = .ok (.iload 4, 2) := by decide +kernel
theorem dX10_atLeaf_33 : decode cX10_atLeaf 33 = .ok (.iload 5, 2) := by decide +kernel
theorem dX10_atLeaf_35 : decode cX10_atLeaf 35 = .ok (.invokevirtual 151, 3) := by decide +kernel
theorem dX10_atLeaf_38 : decode cX10_atLeaf 38 = .ok (.return_, 1) := by decide +kernel
theorem dX10_atLeaf_39 : decode cX10_atLeaf 39 = .ok (.aload_n 0, 1) := by decide +kernel
theorem dX10_atLeaf_40 : decode cX10_atLeaf 40 = .ok (.getfield 37, 3) := by decide +kernel
theorem dX10_atLeaf_43 : decode cX10_atLeaf 43 = .ok (.iconst 0, 1) := by decide +kernel
theorem dX10_atLeaf_44 : decode cX10_atLeaf 44 = .ok (.baload, 1) := by decide +kernel
theorem dX10_atLeaf_45 : decode cX10_atLeaf 45 = .ok (.ifCond .eq 23, 3) := by decide +kernel
theorem dX10_atLeaf_48 : decode cX10_atLeaf 48 = .ok (.aload_n 0, 1) := by decide +kernel
theorem dX10_atLeaf_49 : decode cX10_atLeaf 49 = .ok (.getfield 37, 3) := by decide +kernel
theorem dX10_atLeaf_52 : decode cX10_atLeaf 52 = .ok (.iconst 1, 1) := by decide +kernel
theorem dX10_atLeaf_53 : decode cX10_atLeaf 53 = .ok (.baload, 1) := by decide +kernel
theorem dX10_atLeaf_54 : decode cX10_atLeaf 54 = .ok (.ifCond .eq 14, 3) := by decide +kernel
theorem dX10_atLeaf_57 : decode cX10_atLeaf 57 = .ok (.aload_n 0, 1) := by decide +kernel
theorem dX10_atLeaf_58 : decode cX10_atLeaf 58 = .ok (.dup, 1) := by decide +kernel
theorem dX10_atLeaf_59 : decode cX10_atLeaf 59 = .ok (.getfield 144, 3) := by decide +kernel
theorem dX10_atLeaf_62 : decode cX10_atLeaf 62 = .ok (.iconst 1, 1) := by decide +kernel
theorem dX10_atLeaf_63 : decode cX10_atLeaf 63 = .ok (.iadd, 1) := by decide +kernel
theorem dX10_atLeaf_64 : decode cX10_atLeaf 64 = .ok (.putfield 144, 3) := by decide +kernel
theorem dX10_atLeaf_67 : decode cX10_atLeaf 67 = .ok (.return_, 1) := by decide +kernel
theorem dX10_atLeaf_68 : decode cX10_atLeaf 68 = .ok (.aload_n 0, 1) := by decide +kernel
theorem dX10_atLeaf_69 : decode cX10_atLeaf 69 = .ok (.getfield 37, 3) := by decide +kernel
theorem dX10_atLeaf_72 : decode cX10_atLeaf 72 = .ok (.iconst 0, 1) := by decide +kernel
theorem dX10_atLeaf_73 : decode cX10_atLeaf 73 = .ok (.baload, 1) := by decide +kernel
theorem dX10_atLeaf_74 : decode cX10_atLeaf 74 = .ok (.ifCond .eq 7, 3) := by decide +kernel
theorem dX10_atLeaf_77 : decode cX10_atLeaf 77 = .ok (.iconst 1, 1) := by decide +kernel
theorem dX10_atLeaf_78 : decode cX10_atLeaf 78 = .ok (.goto 24, 3) := by decide +kernel
theorem dX10_atLeaf_81 : decode cX10_atLeaf 81 = .ok (.aload_n 0, 1) := by decide +kernel
theorem dX10_atLeaf_82 : decode cX10_atLeaf 82 = .ok (.getfield 37, 3) := by decide +kernel
theorem dX10_atLeaf_85 : decode cX10_atLeaf 85 = .ok (.iconst 1, 1) := by decide +kernel
theorem dX10_atLeaf_86 : decode cX10_atLeaf 86 = .ok (.baload, 1) := by decide +kernel
theorem dX10_atLeaf_87 : decode cX10_atLeaf 87 = .ok (.ifCond .eq 7, 3) := by decide +kernel
theorem dX10_atLeaf_90 : decode cX10_atLeaf 90 = .ok (.iconst 0, 1) := by decide +kernel
theorem dX10_atLeaf_91 : decode cX10_atLeaf 91 = .ok (.goto 11, 3) := by decide +kernel
theorem dX10_atLeaf_94 : decode cX10_atLeaf 94 = .ok (.iconst 1, 1) := by decide +kernel
theorem dX10_atLeaf_95 : decode cX10_atLeaf 95 = .ok (.aload_n 0, 1) := by decide +kernel
theorem dX10_atLeaf_96 : decode cX10_atLeaf 96 = .ok (.getfield 41, 3) := by decide +kernel
theorem dX10_atLeaf_99 : decode cX10_atLeaf 99 = .ok (.iload_n 1, 1) := by decide +kernel
theorem dX10_atLeaf_100 : decode cX10_atLeaf 100 = .ok (.iaload, 1) := by decide +kernel
theorem dX10_atLeaf_101 : decode cX10_atLeaf 101 = .ok (.isub, 1) := by decide +kernel
theorem dX10_atLeaf_102 : decode cX10_atLeaf 102 = .ok (.istore 7, 2) := by decide +kernel
theorem dX10_atLeaf_104 : decode cX10_atLeaf 104 = .ok (.aload_n 0, 1) := by decide +kernel
theorem dX10_atLeaf_105 : decode cX10_atLeaf 105 = .ok (.getfield 41, 3) := by decide +kernel
theorem dX10_atLeaf_108 : decode cX10_atLeaf 108 = .ok (.iload_n 1, 1) := by decide +kernel
theorem dX10_atLeaf_109 : decode cX10_atLeaf 109 = .ok (.iload 7, 2) := by decide +kernel
theorem dX10_atLeaf_111 : decode cX10_atLeaf 111 = .ok (.iastore, 1) := by decide +kernel
theorem dX10_atLeaf_112 : decode cX10_atLeaf 112 = .ok (.aload_n 0, 1) := by decide +kernel
theorem dX10_atLeaf_113 : decode cX10_atLeaf 113 = .ok (.bipush 8, 2) := by decide +kernel
theorem dX10_atLeaf_115 : decode cX10_atLeaf 115 = .ok (.bipush 6, 2) := by decide +kernel
theorem dX10_atLeaf_117 : decode cX10_atLeaf 117 = .ok (.iload_n 1, 1) := by decide +kernel
theorem dX10_atLeaf_118 : decode cX10_atLeaf 118 = .ok (.imul, 1) := by decide +kernel
theorem dX10_atLeaf_119 : decode cX10_atLeaf 119 = .ok (.iadd, 1) := by decide +kernel
theorem dX10_atLeaf_120 : decode cX10_atLeaf 120 = .ok (.iconst 4, 1) := by decide +kernel
theorem dX10_atLeaf_121 : decode cX10_atLeaf 121 = .ok (.iadd, 1) := by decide +kernel
theorem dX10_atLeaf_122 : decode cX10_atLeaf 122 = .ok (.iload 7, 2) := by decide +kernel
theorem dX10_atLeaf_124 : decode cX10_atLeaf 124 = .ok (.iadd, 1) := by decide +kernel
theorem dX10_atLeaf_125 : decode cX10_atLeaf 125 = .ok (.iload_n 2, 1) := by decide +kernel
theorem dX10_atLeaf_126 : decode cX10_atLeaf 126 = .ok (.iload_n 3, 1) := by decide +kernel
theorem dX10_atLeaf_127 : decode cX10_atLeaf 127 = .ok (.iload 4, 2) := by decide +kernel
theorem dX10_atLeaf_129 : decode cX10_atLeaf 129 = .ok (.iload 5, 2) := by decide +kernel
theorem dX10_atLeaf_131 : decode cX10_atLeaf 131 = .ok (.invokevirtual 151, 3) := by decide +kernel
theorem dX10_atLeaf_134 : decode cX10_atLeaf 134 = .ok (.return_, 1) := by decide +kernel
theorem dX10_arrive_0 : decode cX10_arrive 0 = .ok (.aload_n 0, 1) := by decide +kernel
theorem dX10_arrive_1 : decode cX10_arrive 1 = .ok (.getfield 7, 3) := by decide +kernel
theorem dX10_arrive_4 : decode cX10_arrive 4 = .ok (.iload_n 1, 1) := by decide +kernel
theorem dX10_arrive_5 : decode cX10_arrive 5 = .ok (.iaload, 1) := by decide +kernel
theorem dX10_arrive_6 : decode cX10_arrive 6 = .ok (.istore_n 2, 1) := by decide +kernel
theorem dX10_arrive_7 : decode cX10_arrive 7 = .ok (.aload_n 0, 1) := by decide +kernel
theorem dX10_arrive_8 : decode cX10_arrive 8 = .ok (.getfield 13, 3) := by decide +kernel
theorem dX10_arrive_11 : decode cX10_arrive 11 = .ok (.iload_n 1, 1) := by decide +kernel
theorem dX10_arrive_12 : decode cX10_arrive 12 = .ok (.iaload, 1) := by decide +kernel
theorem dX10_arrive_13 : decode cX10_arrive 13 = .ok (.istore_n 3, 1) := by decide +kernel
theorem dX10_arrive_14 : decode cX10_arrive 14 = .ok (.aload_n 0, 1) := by decide +kernel
theorem dX10_arrive_15 : decode cX10_arrive 15 = .ok (.getfield 16, 3) := by decide +kernel
theorem dX10_arrive_18 : decode cX10_arrive 18 = .ok (.iload_n 1, 1) := by decide +kernel
theorem dX10_arrive_19 : decode cX10_arrive 19 = .ok (.iaload, 1) := by decide +kernel
theorem dX10_arrive_20 : decode cX10_arrive 20 = .ok (.istore 4, 2) := by decide +kernel
theorem dX10_arrive_22 : decode cX10_arrive 22 = .ok (.aload_n 0, 1) := by decide +kernel
theorem dX10_arrive_23 : decode cX10_arrive 23 = .ok (.getfield 19, 3) := by decide +kernel
theorem dX10_arrive_26 : decode cX10_arrive 26 = .ok (.iload_n 1, 1) := by decide +kernel
theorem dX10_arrive_27 : decode cX10_arrive 27 = .ok (.iaload, 1) := by decide +kernel
theorem dX10_arrive_28 : decode cX10_arrive 28 = .ok (.istore 5, 2) := by decide +kernel
theorem dX10_arrive_30 : decode cX10_arrive 30 = .ok (.aload_n 0, 1) := by decide +kernel
theorem dX10_arrive_31 : decode cX10_arrive 31 = .ok (.getfield 7, 3) := by decide +kernel
theorem dX10_arrive_34 : decode cX10_arrive 34 = .ok (.iload_n 1, 1) := by decide +kernel
theorem dX10_arrive_35 : decode cX10_arrive 35 = .ok (.iconst (-1), 1) := by decide +kernel
theorem dX10_arrive_36 : decode cX10_arrive 36 = .ok (.iastore, 1) := by decide +kernel
theorem dX10_arrive_37 : decode cX10_arrive 37 = .ok (.iload_n 1, 1) := by decide +kernel
theorem dX10_arrive_38 : decode cX10_arrive 38 = .ok (.bipush 8, 2) := by decide +kernel
theorem dX10_arrive_40 : decode cX10_arrive 40 = .ok (.if_icmp .ge 19, 3) := by decide +kernel
theorem dX10_arrive_43 : decode cX10_arrive 43 = .ok (.aload_n 0, 1) := by decide +kernel
theorem dX10_arrive_44 : decode cX10_arrive 44 = .ok (.iload_n 1, 1) := by decide +kernel
theorem dX10_arrive_45 : decode cX10_arrive 45 = .ok (.iconst 4, 1) := by decide +kernel
theorem dX10_arrive_46 : decode cX10_arrive 46 = .ok (.idiv, 1) := by decide +kernel
theorem dX10_arrive_47 : decode cX10_arrive 47 = .ok (.iload_n 2, 1) := by decide +kernel
theorem dX10_arrive_48 : decode cX10_arrive 48 = .ok (.iload_n 3, 1) := by decide +kernel
theorem dX10_arrive_49 : decode cX10_arrive 49 = .ok (.iload 4, 2) := by decide +kernel
theorem dX10_arrive_51 : decode cX10_arrive 51 = .ok (.iload 5, 2) := by decide +kernel
theorem dX10_arrive_53 : decode cX10_arrive 53 = .ok (.invokevirtual 155, 3) := by decide +kernel
theorem dX10_arrive_56 : decode cX10_arrive 56 = .ok (.goto 124, 3) := by decide +kernel
theorem dX10_arrive_59 : decode cX10_arrive 59 = .ok (.iload_n 1, 1) := by decide +kernel
theorem dX10_arrive_60 : decode cX10_arrive 60 = .ok (.bipush 20, 2) := by decide +kernel
theorem dX10_arrive_62 : decode cX10_arrive 62 = .ok (.if_icmp .lt 22, 3) := by decide +kernel
theorem dX10_arrive_65 : decode cX10_arrive 65 = .ok (.aload_n 0, 1) := by decide +kernel
theorem dX10_arrive_66 : decode cX10_arrive 66 = .ok (.iload_n 1, 1) := by decide +kernel
theorem dX10_arrive_67 : decode cX10_arrive 67 = .ok (.bipush 20, 2) := by decide +kernel
theorem dX10_arrive_69 : decode cX10_arrive 69 = .ok (.isub, 1) := by decide +kernel
theorem dX10_arrive_70 : decode cX10_arrive 70 = .ok (.iconst 2, 1) := by decide +kernel
theorem dX10_arrive_71 : decode cX10_arrive 71 = .ok (.irem, 1) := by decide +kernel
theorem dX10_arrive_72 : decode cX10_arrive 72 = .ok (.iload_n 2, 1) := by decide +kernel
theorem dX10_arrive_73 : decode cX10_arrive 73 = .ok (.iload_n 3, 1) := by decide +kernel
theorem dX10_arrive_74 : decode cX10_arrive 74 = .ok (.iload 4, 2) := by decide +kernel
theorem dX10_arrive_76 : decode cX10_arrive 76 = .ok (.iload 5, 2) := by decide +kernel
theorem dX10_arrive_78 : decode cX10_arrive 78 = .ok (.invokevirtual 155, 3) := by decide +kernel
theorem dX10_arrive_81 : decode cX10_arrive 81 = .ok (.goto 99, 3) := by decide +kernel
theorem dX10_arrive_84 : decode cX10_arrive 84 = .ok (.iload_n 1, 1) := by decide +kernel
theorem dX10_arrive_85 : decode cX10_arrive 85 = .ok (.bipush 8, 2) := by decide +kernel
theorem dX10_arrive_87 : decode cX10_arrive 87 = .ok (.isub, 1) := by decide +kernel
theorem dX10_arrive_88 : decode cX10_arrive 88 = .ok (.bipush 6, 2) := by decide +kernel
theorem dX10_arrive_90 : decode cX10_arrive 90 = .ok (.irem, 1) := by decide +kernel
theorem dX10_arrive_91 : decode cX10_arrive 91 = .ok (.iconst 4, 1) := by decide +kernel
theorem dX10_arrive_92 : decode cX10_arrive 92 = .ok (.if_icmp .lt 66, 3) := by decide +kernel
theorem dX10_arrive_95 : decode cX10_arrive 95 = .ok (.iload_n 1, 1) := by decide +kernel
theorem dX10_arrive_96 : decode cX10_arrive 96 = .ok (.bipush 8, 2) := by decide +kernel
theorem dX10_arrive_98 : decode cX10_arrive 98 = .ok (.isub, 1) := by decide +kernel
theorem dX10_arrive_99 : decode cX10_arrive 99 = .ok (.bipush 6, 2) := by decide +kernel
theorem dX10_arrive_101 : decode cX10_arrive 101 = .ok (.irem, 1) := by decide +kernel
theorem dX10_arrive_102 : decode cX10_arrive 102 = .ok (.iconst 4, 1) := by decide +kernel
theorem dX10_arrive_103 : decode cX10_arrive 103 = .ok (.isub, 1) := by decide +kernel
theorem dX10_arrive_104 : decode cX10_arrive 104 = .ok (.istore 6, 2) := by decide +kernel
theorem dX10_arrive_106 : decode cX10_arrive 106 = .ok (.aload_n 0, 1) := by decide +kernel
theorem dX10_arrive_107 : decode cX10_arrive 107 = .ok (.getfield 37, 3) := by decide +kernel
theorem dX10_arrive_110 : decode cX10_arrive 110 = .ok (.iload 6, 2) := by decide +kernel
theorem dX10_arrive_112 : decode cX10_arrive 112 = .ok (.baload, 1) := by decide +kernel
theorem dX10_arrive_113 : decode cX10_arrive 113 = .ok (.ifCond .eq 16, 3) := by decide +kernel
theorem dX10_arrive_116 : decode cX10_arrive 116 = .ok (.aload_n 0, 1) := by decide +kernel
theorem dX10_arrive_117 : decode cX10_arrive 117 = .ok (.dup, 1) := by decide +kernel
theorem dX10_arrive_118 : decode cX10_arrive 118 = .ok (.getfield 144, 3) := by decide +kernel
theorem dX10_arrive_121 : decode cX10_arrive 121 = .ok (.iconst 1, 1) := by decide +kernel
theorem dX10_arrive_122 : decode cX10_arrive 122 = .ok (.iadd, 1) := by decide +kernel
theorem dX10_arrive_123 : decode cX10_arrive 123 = .ok (.putfield 144, 3) := by decide +kernel
theorem dX10_arrive_126 : decode cX10_arrive 126 = .ok (.goto 29, 3) := by decide +kernel
theorem dX10_arrive_129 : decode cX10_arrive 129 = .ok (.aload_n 0, 1) := by decide +kernel
theorem dX10_arrive_130 : decode cX10_arrive 130 = .ok (.bipush 20, 2) := by decide +kernel
theorem dX10_arrive_132 : decode cX10_arrive 132 = .ok (.iconst 2, 1) := by decide +kernel
theorem dX10_arrive_133 : decode cX10_arrive 133 = .ok (.iload 6, 2) := by decide +kernel
theorem dX10_arrive_135 : decode cX10_arrive 135 = .ok (.imul, 1) := by decide +kernel
theorem dX10_arrive_136 : decode cX10_arrive 136 = .ok (.iadd, 1) := by decide +kernel
theorem dX10_arrive_137 : decode cX10_arrive 137 = .ok (.aload_n 0, 1) := by decide +kernel
theorem dX10_arrive_138 : decode cX10_arrive 138 = .ok (.iload_n 2, 1) := by decide +kernel
theorem dX10_arrive_139 : decode cX10_arrive 139 = .ok (.iload_n 3, 1) := by decide +kernel
theorem dX10_arrive_140 : decode cX10_arrive 140 = .ok (.invokevirtual 147, 3) := by decide +kernel
theorem dX10_arrive_143 : decode cX10_arrive 143 = .ok (.iconst 4, 1) := by decide +kernel
theorem dX10_arrive_144 : decode cX10_arrive 144 = .ok (.idiv, 1) := by decide +kernel
theorem dX10_arrive_145 : decode cX10_arrive 145 = .ok (.iadd, 1) := by decide +kernel
theorem dX10_arrive_146 : decode cX10_arrive 146 = .ok (.iload_n 2, 1) := by decide +kernel
theorem dX10_arrive_147 : decode cX10_arrive 147 = .ok (.iload_n 3, 1) := by decide +kernel
theorem dX10_arrive_148 : decode cX10_arrive 148 = .ok (.iload 4, 2) := by decide +kernel
theorem dX10_arrive_150 : decode cX10_arrive 150 = .ok (.iload 5, 2) := by decide +kernel
theorem dX10_arrive_152 : decode cX10_arrive 152 = .ok (.invokevirtual 151, 3) := by decide +kernel
theorem dX10_arrive_155 : decode cX10_arrive 155 = .ok (.goto 25, 3) := by decide +kernel
theorem dX10_arrive_158 : decode cX10_arrive 158 = .ok (.iload_n 2, 1) := by decide +kernel
theorem dX10_arrive_159 : decode cX10_arrive 159 = .ok (.ifCond .ne 13, 3) := by decide +kernel
theorem dX10_arrive_162 : decode cX10_arrive 162 = .ok (.aload_n 0, 1) := by decide +kernel
theorem dX10_arrive_163 : decode cX10_arrive 163 = .ok (.iload_n 3, 1) := by decide +kernel
theorem dX10_arrive_164 : decode cX10_arrive 164 = .ok (.iload 4, 2) := by decide +kernel
theorem dX10_arrive_166 : decode cX10_arrive 166 = .ok (.invokevirtual 158, 3) := by decide +kernel
theorem dX10_arrive_169 : decode cX10_arrive 169 = .ok (.goto 11, 3) := by decide +kernel
theorem dX10_arrive_172 : decode cX10_arrive 172 = .ok (.aload_n 0, 1) := by decide +kernel
theorem dX10_arrive_173 : decode cX10_arrive 173 = .ok (.iload_n 2, 1) := by decide +kernel
theorem dX10_arrive_174 : decode cX10_arrive 174 = .ok (.iload_n 3, 1) := by decide +kernel
theorem dX10_arrive_175 : decode cX10_arrive 175 = .ok (.iload 4, 2) := by decide +kernel
theorem dX10_arrive_177 : decode cX10_arrive 177 = .ok (.invokevirtual 162, 3) := by decide +kernel
theorem dX10_arrive_180 : decode cX10_arrive 180 = .ok (.return_, 1) := by decide +kernel
theorem dX10_serve_0 : decode cX10_serve 0 = .ok (.iload_n 1, 1) := by decide +kernel
theorem dX10_serve_1 : decode cX10_serve 1 = .ok (.bipush 20, 2) := by decide +kernel
theorem dX10_serve_3 : decode cX10_serve 3 = .ok (.if_icmp .lt 18, 3) := by decide +kernel
theorem dX10_serve_6 : decode cX10_serve 6 = .ok (.aload_n 0, 1) := by decide +kernel
theorem dX10_serve_7 : decode cX10_serve 7 = .ok (.getfield 37, 3) := by decide +kernel
theorem dX10_serve_10 : decode cX10_serve 10 = .ok (.iload_n 1, 1) := by decide +kernel
theorem dX10_serve_11 : decode cX10_serve 11 = .ok (.bipush 20, 2) := by decide +kernel
theorem dX10_serve_13 : decode cX10_serve 13 = .ok (.isub, 1) := by decide +kernel
theorem dX10_serve_14 : decode cX10_serve 14 = .ok (.iconst 2, 1) := by decide +kernel
theorem dX10_serve_15 : decode cX10_serve 15 = .ok (.idiv, 1) := by decide +kernel
theorem dX10_serve_16 : decode cX10_serve 16 = .ok (.baload, 1) := by decide +kernel
theorem dX10_serve_17 : decode cX10_serve 17 = .ok (.ifCond .eq 4, 3) := by decide +kernel
theorem dX10_serve_20 : decode cX10_serve 20 = .ok (.return_, 1) := by decide +kernel
theorem dX10_serve_21 : decode cX10_serve 21 = .ok (.iconst 0, 1) := by decide +kernel
theorem dX10_serve_22 : decode cX10_serve 22 = .ok (.istore_n 2, 1) := by decide +kernel
theorem dX10_serve_23 : decode cX10_serve 23 = .ok (.iload_n 2, 1) := by decide +kernel
theorem dX10_serve_24 : decode cX10_serve 24 = .ok (.iconst 4, 1) := by decide +kernel
theorem dX10_serve_25 : decode cX10_serve 25 = .ok (.if_icmp .ge 22, 3) := by decide +kernel
theorem dX10_serve_28 : decode cX10_serve 28 = .ok (.aload_n 0, 1) := by decide +kernel
theorem dX10_serve_29 : decode cX10_serve 29 = .ok (.getfield 25, 3) := by decide +kernel
theorem dX10_serve_32 : decode cX10_serve 32 = .ok (.iconst 4, 1) := by decide +kernel
theorem dX10_serve_33 : decode cX10_serve 33 = .ok (.iload_n 1, 1) := by decide +kernel
theorem dX10_serve_34 : decode cX10_serve 34 = .ok (.imul, 1) := by decide +kernel
theorem dX10_serve_35 : decode cX10_serve 35 = .ok (.iload_n 2, 1) := by decide +kernel
theorem dX10_serve_36 : decode cX10_serve 36 = .ok (.iadd, 1) := by decide +kernel
theorem dX10_serve_37 : decode cX10_serve 37 = .ok (.iaload, 1) := by decide +kernel
theorem dX10_serve_38 : decode cX10_serve 38 = .ok (.ifCond .ne 9, 3) := by decide +kernel
theorem dX10_serve_41 : decode cX10_serve 41 = .ok (.iinc 2 1, 3) := by decide +kernel
theorem dX10_serve_44 : decode cX10_serve 44 = .ok (.goto (-21), 3) := by decide +kernel
theorem dX10_serve_47 : decode cX10_serve 47 = .ok (.iload_n 2, 1) := by decide +kernel
theorem dX10_serve_48 : decode cX10_serve 48 = .ok (.iconst 4, 1) := by decide +kernel
theorem dX10_serve_49 : decode cX10_serve 49 = .ok (.if_icmp .ne 4, 3) := by decide +kernel
theorem dX10_serve_52 : decode cX10_serve 52 = .ok (.return_, 1) := by decide +kernel
theorem dX10_serve_53 : decode cX10_serve 53 = .ok (.iconst 4, 1) := by decide +kernel
theorem dX10_serve_54 : decode cX10_serve 54 = .ok (.iload_n 1, 1) := by decide +kernel
theorem dX10_serve_55 : decode cX10_serve 55 = .ok (.imul, 1) := by decide +kernel
theorem dX10_serve_56 : decode cX10_serve 56 = .ok (.iload_n 2, 1) := by decide +kernel
theorem dX10_serve_57 : decode cX10_serve 57 = .ok (.iadd, 1) := by decide +kernel
theorem dX10_serve_58 : decode cX10_serve 58 = .ok (.istore_n 3, 1) := by decide +kernel
theorem dX10_serve_59 : decode cX10_serve 59 = .ok (.aload_n 0, 1) := by decide +kernel
theorem dX10_serve_60 : decode cX10_serve 60 = .ok (.getfield 28, 3) := by decide +kernel
theorem dX10_serve_63 : decode cX10_serve 63 = .ok (.bipush 8, 2) := by decide +kernel
theorem dX10_serve_65 : decode cX10_serve 65 = .ok (.iload_n 3, 1) := by decide +kernel
theorem dX10_serve_66 : decode cX10_serve 66 = .ok (.imul, 1) := by decide +kernel
theorem dX10_serve_67 : decode cX10_serve 67 = .ok (.iaload, 1) := by decide +kernel
theorem dX10_serve_68 : decode cX10_serve 68 = .ok (.istore 4, 2) := by decide +kernel
theorem dX10_serve_70 : decode cX10_serve 70 = .ok (.aload_n 0, 1) := by decide +kernel
theorem dX10_serve_71 : decode cX10_serve 71 = .ok (.getfield 31, 3) := by decide +kernel
theorem dX10_serve_74 : decode cX10_serve 74 = .ok (.bipush 8, 2) := by decide +kernel
theorem dX10_serve_76 : decode cX10_serve 76 = .ok (.iload_n 3, 1) := by decide +kernel
theorem dX10_serve_77 : decode cX10_serve 77 = .ok (.imul, 1) := by decide +kernel
theorem dX10_serve_78 : decode cX10_serve 78 = .ok (.iaload, 1) := by decide +kernel
theorem dX10_serve_79 : decode cX10_serve 79 = .ok (.istore 5, 2) := by decide +kernel
theorem dX10_serve_81 : decode cX10_serve 81 = .ok (.aload_n 0, 1) := by decide +kernel
theorem dX10_serve_82 : decode cX10_serve 82 = .ok (.getfield 34, 3) := by decide +kernel
theorem dX10_serve_85 : decode cX10_serve 85 = .ok (.bipush 8, 2) := by decide +kernel
theorem dX10_serve_87 : decode cX10_serve 87 = .ok (.iload_n 3, 1) := by decide +kernel
theorem dX10_serve_88 : decode cX10_serve 88 = .ok (.imul, 1) := by decide +kernel
theorem dX10_serve_89 : decode cX10_serve 89 = .ok (.iaload, 1) := by decide +kernel
theorem dX10_serve_90 : decode cX10_serve 90 = .ok (.istore 6, 2) := by decide +kernel
theorem dX10_serve_92 : decode cX10_serve 92 = .ok (.aload_n 0, 1) := by decide +kernel
theorem dX10_serve_93 : decode cX10_serve 93 = .ok (.getfield 25, 3) := by decide +kernel
theorem dX10_serve_96 : decode cX10_serve 96 = .ok (.iload_n 3, 1) := by decide +kernel
theorem dX10_serve_97 : decode cX10_serve 97 = .ok (.dup2, 1) := by decide +kernel
theorem dX10_serve_98 : decode cX10_serve 98 = .ok (.iaload, 1) := by decide +kernel
theorem dX10_serve_99 : decode cX10_serve 99 = .ok (.iconst 1, 1) := by decide +kernel
theorem dX10_serve_100 : decode cX10_serve 100 = .ok (.isub, 1) := by decide +kernel
theorem dX10_serve_101 : decode cX10_serve 101 = .ok (.iastore, 1) := by decide +kernel
theorem dX10_serve_102 : decode cX10_serve 102 = .ok (.bipush 8, 2) := by decide +kernel
theorem dX10_serve_104 : decode cX10_serve 104 = .ok (.iload_n 3, 1) := by decide +kernel
theorem dX10_serve_105 : decode cX10_serve 105 = .ok (.imul, 1) := by decide +kernel
theorem dX10_serve_106 : decode cX10_serve 106 = .ok (.istore 7, 2) := by decide +kernel
theorem dX10_serve_108 : decode cX10_serve 108 = .ok (.iload 7, 2) := by decide +kernel
theorem dX10_serve_110 : decode cX10_serve 110 = .ok (.bipush 8, 2) := by decide +kernel
theorem dX10_serve_112 : decode cX10_serve 112 = .ok (.iload_n 3, 1) := by decide +kernel
theorem dX10_serve_113 : decode cX10_serve 113 = .ok (.imul, 1) := by decide +kernel
theorem dX10_serve_114 : decode cX10_serve 114 = .ok (.aload_n 0, 1) := by decide +kernel
theorem dX10_serve_115 : decode cX10_serve 115 = .ok (.getfield 25, 3) := by decide +kernel
theorem dX10_serve_118 : decode cX10_serve 118 = .ok (.iload_n 3, 1) := by decide +kernel
theorem dX10_serve_119 : decode cX10_serve 119 = .ok (.iaload, 1) := by decide +kernel
theorem dX10_serve_120 : decode cX10_serve 120 = .ok (.iadd, 1) := by decide +kernel
theorem dX10_serve_121 : decode cX10_serve 121 = .ok (.if_icmp .ge 57, 3) := by decide +kernel
theorem dX10_serve_124 : decode cX10_serve 124 = .ok (.aload_n 0, 1) := by decide +kernel
theorem dX10_serve_125 : decode cX10_serve 125 = .ok (.getfield 28, 3) := by decide +kernel
theorem dX10_serve_128 : decode cX10_serve 128 = .ok (.iload 7, 2) := by decide +kernel
theorem dX10_serve_130 : decode cX10_serve 130 = .ok (.aload_n 0, 1) := by decide +kernel
theorem dX10_serve_131 : decode cX10_serve 131 = .ok (.getfield 28, 3) := by decide +kernel
theorem dX10_serve_134 : decode cX10_serve 134 = .ok (.iload 7, 2) := by decide +kernel
theorem dX10_serve_136 : decode cX10_serve 136 = .ok (.iconst 1, 1) := by decide +kernel
theorem dX10_serve_137 : decode cX10_serve 137 = .ok (.iadd, 1) := by decide +kernel
theorem dX10_serve_138 : decode cX10_serve 138 = .ok (.iaload, 1) := by decide +kernel
theorem dX10_serve_139 : decode cX10_serve 139 = .ok (.iastore, 1) := by decide +kernel
theorem dX10_serve_140 : decode cX10_serve 140 = .ok (.aload_n 0, 1) := by decide +kernel
theorem dX10_serve_141 : decode cX10_serve 141 = .ok (.getfield 31, 3) := by decide +kernel
theorem dX10_serve_144 : decode cX10_serve 144 = .ok (.iload 7, 2) := by decide +kernel
theorem dX10_serve_146 : decode cX10_serve 146 = .ok (.aload_n 0, 1) := by decide +kernel
theorem dX10_serve_147 : decode cX10_serve 147 = .ok (.getfield 31, 3) := by decide +kernel
theorem dX10_serve_150 : decode cX10_serve 150 = .ok (.iload 7, 2) := by decide +kernel
theorem dX10_serve_152 : decode cX10_serve 152 = .ok (.iconst 1, 1) := by decide +kernel
theorem dX10_serve_153 : decode cX10_serve 153 = .ok (.iadd, 1) := by decide +kernel
theorem dX10_serve_154 : decode cX10_serve 154 = .ok (.iaload, 1) := by decide +kernel
theorem dX10_serve_155 : decode cX10_serve 155 = .ok (.iastore, 1) := by decide +kernel
theorem dX10_serve_156 : decode cX10_serve 156 = .ok (.aload_n 0, 1) := by decide +kernel
theorem dX10_serve_157 : decode cX10_serve 157 = .ok (.getfield 34, 3) := by decide +kernel
theorem dX10_serve_160 : decode cX10_serve 160 = .ok (.iload 7, 2) := by decide +kernel
theorem dX10_serve_162 : decode cX10_serve 162 = .ok (.aload_n 0, 1) := by decide +kernel
theorem dX10_serve_163 : decode cX10_serve 163 = .ok (.getfield 34, 3) := by decide +kernel
theorem dX10_serve_166 : decode cX10_serve 166 = .ok (.iload 7, 2) := by decide +kernel
theorem dX10_serve_168 : decode cX10_serve 168 = .ok (.iconst 1, 1) := by decide +kernel
theorem dX10_serve_169 : decode cX10_serve 169 = .ok (.iadd, 1) := by decide +kernel
theorem dX10_serve_170 : decode cX10_serve 170 = .ok (.iaload, 1) := by decide +kernel
theorem dX10_serve_171 : decode cX10_serve 171 = .ok (.iastore, 1) := by decide +kernel
theorem dX10_serve_172 : decode cX10_serve 172 = .ok (.iinc 7 1, 3) := by decide +kernel
theorem dX10_serve_175 : decode cX10_serve 175 = .ok (.goto (-67), 3) := by decide +kernel
theorem dX10_serve_178 : decode cX10_serve 178 = .ok (.aload_n 0, 1) := by decide +kernel
theorem dX10_serve_179 : decode cX10_serve 179 = .ok (.iload_n 1, 1) := by decide +kernel
theorem dX10_serve_180 : decode cX10_serve 180 = .ok (.iload 4, 2) := by decide +kernel
theorem dX10_serve_182 : decode cX10_serve 182 = .ok (.iload 5, 2) := by decide +kernel
theorem dX10_serve_184 : decode cX10_serve 184 = .ok (.iload 6, 2) := by decide +kernel
theorem dX10_serve_186 : decode cX10_serve 186 = .ok (.iload_n 2, 1) := by decide +kernel
theorem dX10_serve_187 : decode cX10_serve 187 = .ok (.invokevirtual 166, 3) := by decide +kernel
theorem dX10_serve_190 : decode cX10_serve 190 = .ok (.return_, 1) := by decide +kernel
theorem dX10_becomeDue_0 : decode cX10_becomeDue 0 = .ok (.aload_n 0, 1) := by decide +kernel
theorem dX10_becomeDue_1 : decode cX10_becomeDue 1 = .ok (.getfield 107, 3) := by decide +kernel
theorem dX10_becomeDue_4 : decode cX10_becomeDue 4 = .ok (.iload_n 1, 1) := by decide +kernel
theorem dX10_becomeDue_5 : decode cX10_becomeDue 5 = .ok (.iaload, 1) := by decide +kernel
theorem dX10_becomeDue_6 : decode cX10_becomeDue 6 = .ok (.bipush 24, 2) := by decide +kernel
theorem dX10_becomeDue_8 : decode cX10_becomeDue 8 = .ok (.if_icmp .ne 4, 3) := by decide +kernel
theorem dX10_becomeDue_11 : decode cX10_becomeDue 11 = .ok (.return_, 1) := by decide +kernel
theorem dX10_becomeDue_12 : decode cX10_becomeDue 12 = .ok (.bipush 24, 2) := by decide +kernel
theorem dX10_becomeDue_14 : decode cX10_becomeDue 14 = .ok (.iload_n 1, 1) := by decide +kernel
theorem dX10_becomeDue_15 : decode cX10_becomeDue 15 = .ok (.imul, 1) := by decide +kernel
theorem dX10_becomeDue_16 : decode cX10_becomeDue 16 = .ok (.aload_n 0, 1) := by decide +kernel
theorem dX10_becomeDue_17 : decode cX10_becomeDue 17 = .ok (.getfield 107, 3) := by decide +kernel
theorem dX10_becomeDue_20 : decode cX10_becomeDue 20 = .ok (.iload_n 1, 1) := by decide +kernel
theorem dX10_becomeDue_21 : decode cX10_becomeDue 21 = .ok (.iaload, 1) := by decide +kernel
theorem dX10_becomeDue_22 : decode cX10_becomeDue 22 = .ok (.iadd, 1) := by decide +kernel
theorem dX10_becomeDue_23 : decode cX10_becomeDue 23 = .ok (.istore 5, 2) := by decide +kernel
theorem dX10_becomeDue_25 : decode cX10_becomeDue 25 = .ok (.aload_n 0, 1) := by decide +kernel
theorem dX10_becomeDue_26 : decode cX10_becomeDue 26 = .ok (.getfield 110, 3) := by decide +kernel
theorem dX10_becomeDue_29 : decode cX10_becomeDue 29 = .ok (.iload 5, 2) := by decide +kernel
theorem dX10_becomeDue_31 : decode cX10_becomeDue 31 = .ok (.iload_n 2, 1) := by decide +kernel
theorem dX10_becomeDue_32 : decode cX10_becomeDue 32 = .ok (.iastore, 1) := by decide +kernel
theorem dX10_becomeDue_33 : decode cX10_becomeDue 33 = .ok (.aload_n 0, 1) := by decide +kernel
theorem dX10_becomeDue_34 : decode cX10_becomeDue 34 = .ok (.getfield 113, 3) := by decide +kernel
theorem dX10_becomeDue_37 : decode cX10_becomeDue 37 = .ok (.iload 5, 2) := by decide +kernel
theorem dX10_becomeDue_39 : decode cX10_becomeDue 39 = .ok (.iload_n 3, 1) := by decide +kernel
theorem dX10_becomeDue_40 : decode cX10_becomeDue 40 = .ok (.iastore, 1) := by decide +kernel
theorem dX10_becomeDue_41 : decode cX10_becomeDue 41 = .ok (.aload_n 0, 1) := by decide +kernel
theorem dX10_becomeDue_42 : decode cX10_becomeDue 42 = .ok (.getfield 116, 3) := by decide +kernel
theorem dX10_becomeDue_45 : decode cX10_becomeDue 45 = .ok (.iload 5, 2) := by decide +kernel
theorem dX10_becomeDue_47 : decode cX10_becomeDue 47 = .ok (.iload 4, 2) := by decide +kernel
theorem dX10_becomeDue_49 : decode cX10_becomeDue 49 = .ok (.iastore, 1) := by decide +kernel
theorem dX10_becomeDue_50 : decode cX10_becomeDue 50 = .ok (.aload_n 0, 1) := by decide +kernel
theorem dX10_becomeDue_51 : decode cX10_becomeDue 51 = .ok (.getfield 107, 3) := by decide +kernel
theorem dX10_becomeDue_54 : decode cX10_becomeDue 54 = .ok (.iload_n 1, 1) := by decide +kernel
theorem dX10_becomeDue_55 : decode cX10_becomeDue 55 = .ok (.dup2, 1) := by decide +kernel
theorem dX10_becomeDue_56 : decode cX10_becomeDue 56 = .ok (.iaload, 1) := by decide +kernel
theorem dX10_becomeDue_57 : decode cX10_becomeDue 57 = .ok (.iconst 1, 1) := by decide +kernel
theorem dX10_becomeDue_58 : decode cX10_becomeDue 58 = .ok (.iadd, 1) := by decide +kernel
theorem dX10_becomeDue_59 : decode cX10_becomeDue 59 = .ok (.iastore, 1) := by decide +kernel
theorem dX10_becomeDue_60 : decode cX10_becomeDue 60 = .ok (.return_, 1) := by decide +kernel
theorem dX10_missing_0 : decode cX10_missing 0 = .ok (.iconst 0, 1) := by decide +kernel
theorem dX10_missing_1 : decode cX10_missing 1 = .ok (.istore_n 2, 1) := by decide +kernel
theorem dX10_missing_2 : decode cX10_missing 2 = .ok (.iconst 0, 1) := by decide +kernel
theorem dX10_missing_3 : decode cX10_missing 3 = .ok (.istore_n 3, 1) := by decide +kernel
theorem dX10_missing_4 : decode cX10_missing 4 = .ok (.iload_n 3, 1) := by decide +kernel
theorem dX10_missing_5 : decode cX10_missing 5 = .ok (.aload_n 0, 1) := by decide +kernel
theorem dX10_missing_6 : decode cX10_missing 6 = .ok (.getfield 50, 3) := by decide +kernel
theorem dX10_missing_9 : decode cX10_missing 9 = .ok (.iload_n 1, 1) := by decide +kernel
theorem dX10_missing_10 : decode cX10_missing 10 = .ok (.iaload, 1) := by decide +kernel
theorem dX10_missing_11 : decode cX10_missing 11 = .ok (.if_icmp .ge 31, 3) := by decide +kernel
theorem dX10_missing_14 : decode cX10_missing 14 = .ok (.iload_n 2, 1) := by decide +kernel
theorem dX10_missing_15 : decode cX10_missing 15 = .ok (.aload_n 0, 1) := by decide +kernel
theorem dX10_missing_16 : decode cX10_missing 16 = .ok (.getfield 101, 3) := by decide +kernel
theorem dX10_missing_19 : decode cX10_missing 19 = .ok (.bipush 60, 2) := by decide +kernel
theorem dX10_missing_21 : decode cX10_missing 21 = .ok (.iload_n 1, 1) := by decide +kernel
theorem dX10_missing_22 : decode cX10_missing 22 = .ok (.imul, 1) := by decide +kernel
theorem dX10_missing_23 : decode cX10_missing 23 = .ok (.iload_n 3, 1) := by decide +kernel
theorem dX10_missing_24 : decode cX10_missing 24 = .ok (.iadd, 1) := by decide +kernel
theorem dX10_missing_25 : decode cX10_missing 25 = .ok (.baload, 1) := by decide +kernel
theorem dX10_missing_26 : decode cX10_missing 26 = .ok (.ifCond .eq 7, 3) := by decide +kernel
theorem dX10_missing_29 : decode cX10_missing 29 = .ok (.iconst 0, 1) := by decide +kernel
theorem dX10_missing_30 : decode cX10_missing 30 = .ok (.goto 4, 3) := by decide +kernel
theorem dX10_missing_33 : decode cX10_missing 33 = .ok (.iconst 1, 1) := by decide +kernel
theorem dX10_missing_34 : decode cX10_missing 34 = .ok (.iadd, 1) := by decide +kernel
theorem dX10_missing_35 : decode cX10_missing 35 = .ok (.istore_n 2, 1) := by decide +kernel
theorem dX10_missing_36 : decode cX10_missing 36 = .ok (.iinc 3 1, 3) := by decide +kernel
theorem dX10_missing_39 : decode cX10_missing 39 = .ok (.goto (-35), 3) := by decide +kernel
theorem dX10_missing_42 : decode cX10_missing 42 = .ok (.iload_n 2, 1) := by decide +kernel
theorem dX10_missing_43 : decode cX10_missing 43 = .ok (.ireturn, 1) := by decide +kernel
theorem dX10_forget_0 : decode cX10_forget 0 = .ok (.aload_n 0, 1) := by decide +kernel
theorem dX10_forget_1 : decode cX10_forget 1 = .ok (.getfield 80, 3) := by decide +kernel
theorem dX10_forget_4 : decode cX10_forget 4 = .ok (.iload_n 1, 1) := by decide +kernel
theorem dX10_forget_5 : decode cX10_forget 5 = .ok (.iconst 0, 1) := by decide +kernel
theorem dX10_forget_6 : decode cX10_forget 6 = .ok (.iastore, 1) := by decide +kernel
theorem dX10_forget_7 : decode cX10_forget 7 = .ok (.iconst 0, 1) := by decide +kernel
theorem dX10_forget_8 : decode cX10_forget 8 = .ok (.istore_n 2, 1) := by decide +kernel
theorem dX10_forget_9 : decode cX10_forget 9 = .ok (.iload_n 2, 1) := by decide +kernel
theorem dX10_forget_10 : decode cX10_forget 10 = .ok (.bipush 60, 2) := by decide +kernel
theorem dX10_forget_12 : decode cX10_forget 12 = .ok (.if_icmp .ge 21, 3) := by decide +kernel
theorem dX10_forget_15 : decode cX10_forget 15 = .ok (.aload_n 0, 1) := by decide +kernel
theorem dX10_forget_16 : decode cX10_forget 16 = .ok (.getfield 101, 3) := by decide +kernel
theorem dX10_forget_19 : decode cX10_forget 19 = .ok (.bipush 60, 2) := by decide +kernel
theorem dX10_forget_21 : decode cX10_forget 21 = .ok (.iload_n 1, 1) := by decide +kernel
theorem dX10_forget_22 : decode cX10_forget 22 = .ok (.imul, 1) := by decide +kernel
theorem dX10_forget_23 : decode cX10_forget 23 = .ok (.iload_n 2, 1) := by decide +kernel
theorem dX10_forget_24 : decode cX10_forget 24 = .ok (.iadd, 1) := by decide +kernel
theorem dX10_forget_25 : decode cX10_forget 25 = .ok (.iconst 0, 1) := by decide +kernel
theorem dX10_forget_26 : decode cX10_forget 26 = .ok (.bastore, 1) := by decide +kernel
theorem dX10_forget_27 : decode cX10_forget 27 = .ok (.iinc 2 1, 3) := by decide +kernel
theorem dX10_forget_30 : decode cX10_forget 30 = .ok (.goto (-21), 3) := by decide +kernel
theorem dX10_forget_33 : decode cX10_forget 33 = .ok (.return_, 1) := by decide +kernel
theorem dX10_data_0 : decode cX10_data 0 = .ok (.aload_n 0, 1) := by decide +kernel
theorem dX10_data_1 : decode cX10_data 1 = .ok (.getfield 47, 3) := by decide +kernel
theorem dX10_data_4 : decode cX10_data 4 = .ok (.iload_n 1, 1) := by decide +kernel
theorem dX10_data_5 : decode cX10_data 5 = .ok (.iaload, 1) := by decide +kernel
theorem dX10_data_6 : decode cX10_data 6 = .ok (.istore_n 3, 1) := by decide +kernel
theorem dX10_data_7 : decode cX10_data 7 = .ok (.aload_n 0, 1) := by decide +kernel
theorem dX10_data_8 : decode cX10_data 8 = .ok (.getfield 80, 3) := by decide +kernel
theorem dX10_data_11 : decode cX10_data 11 = .ok (.iload_n 1, 1) := by decide +kernel
theorem dX10_data_12 : decode cX10_data 12 = .ok (.iaload, 1) := by decide +kernel
theorem dX10_data_13 : decode cX10_data 13 = .ok (.iconst 2, 1) := by decide +kernel
theorem dX10_data_14 : decode cX10_data 14 = .ok (.if_icmp .ne 12, 3) := by decide +kernel
theorem dX10_data_17 : decode cX10_data 17 = .ok (.aload_n 0, 1) := by decide +kernel
theorem dX10_data_18 : decode cX10_data 18 = .ok (.iload_n 3, 1) := by decide +kernel
theorem dX10_data_19 : decode cX10_data 19 = .ok (.iconst 3, 1) := by decide +kernel
theorem dX10_data_20 : decode cX10_data 20 = .ok (.iload_n 1, 1) := by decide +kernel
theorem dX10_data_21 : decode cX10_data 21 = .ok (.iconst 0, 1) := by decide +kernel
theorem dX10_data_22 : decode cX10_data 22 = .ok (.invokevirtual 169, 3) := by decide +kernel
theorem dX10_data_25 : decode cX10_data 25 = .ok (.return_, 1) := by decide +kernel
theorem dX10_data_26 : decode cX10_data 26 = .ok (.aload_n 0, 1) := by decide +kernel
theorem dX10_data_27 : decode cX10_data 27 = .ok (.getfield 80, 3) := by decide +kernel
theorem dX10_data_30 : decode cX10_data 30 = .ok (.iload_n 1, 1) := by decide +kernel
theorem dX10_data_31 : decode cX10_data 31 = .ok (.iaload, 1) := by decide +kernel
theorem dX10_data_32 : decode cX10_data 32 = .ok (.ifCond .ne 58, 3) := by decide +kernel
theorem dX10_data_35 : decode cX10_data 35 = .ok (.aload_n 0, 1) := by decide +kernel
theorem dX10_data_36 : decode cX10_data 36 = .ok (.getfield 80, 3) := by decide +kernel
theorem dX10_data_39 : decode cX10_data 39 = .ok (.iload_n 1, 1) := by decide +kernel
theorem dX10_data_40 : decode cX10_data 40 = .ok (.iconst 1, 1) := by decide +kernel
theorem dX10_data_41 : decode cX10_data 41 = .ok (.iastore, 1) := by decide +kernel
theorem dX10_data_42 : decode cX10_data 42 = .ok (.aload_n 0, 1) := by decide +kernel
theorem dX10_data_43 : decode cX10_data 43 = .ok (.getfield 104, 3) := by decide +kernel
theorem dX10_data_46 : decode cX10_data 46 = .ok (.iload_n 3, 1) := by decide +kernel
theorem dX10_data_47 : decode cX10_data 47 = .ok (.dup2, 1) := by decide +kernel
theorem dX10_data_48 : decode cX10_data 48 = .ok (.iaload, 1) := by decide +kernel
theorem dX10_data_49 : decode cX10_data 49 = .ok (.iconst 1, 1) := by decide +kernel
theorem dX10_data_50 : decode cX10_data 50 = .ok (.iadd, 1) := by decide +kernel
theorem dX10_data_51 : decode cX10_data 51 = .ok (.iastore, 1) := by decide +kernel
theorem dX10_data_52 : decode cX10_data 52 = .ok (.aload_n 0, 1) := by decide +kernel
theorem dX10_data_53 : decode cX10_data 53 = .ok (.getfield 95, 3) := by decide +kernel
theorem dX10_data_56 : decode cX10_data 56 = .ok (.iload_n 1, 1) := by decide +kernel
theorem dX10_data_57 : decode cX10_data 57 = .ok (.aload_n 0, 1) := by decide +kernel
theorem dX10_data_58 : decode cX10_data 58 = .ok (.getfield 104, 3) := by decide +kernel
theorem dX10_data_61 : decode cX10_data 61 = .ok (.iload_n 3, 1) := by decide +kernel
theorem dX10_data_62 : decode cX10_data 62 = .ok (.iaload, 1) := by decide +kernel
theorem dX10_data_63 : decode cX10_data 63 = .ok (.iastore, 1) := by decide +kernel
theorem dX10_data_64 : decode cX10_data 64 = .ok (.aload_n 0, 1) := by decide +kernel
theorem dX10_data_65 : decode cX10_data 65 = .ok (.getfield 86, 3) := by decide +kernel
theorem dX10_data_68 : decode cX10_data 68 = .ok (.iload_n 1, 1) := by decide +kernel
theorem dX10_data_69 : decode cX10_data 69 = .ok (.aload_n 0, 1) := by decide +kernel
theorem dX10_data_70 : decode cX10_data 70 = .ok (.getfield 50, 3) := by decide +kernel
theorem dX10_data_73 : decode cX10_data 73 = .ok (.iload_n 1, 1) := by decide +kernel
theorem dX10_data_74 : decode cX10_data 74 = .ok (.iaload, 1) := by decide +kernel
theorem dX10_data_75 : decode cX10_data 75 = .ok (.iconst 4, 1) := by decide +kernel
theorem dX10_data_76 : decode cX10_data 76 = .ok (.if_icmp .ge 12, 3) := by decide +kernel
theorem dX10_data_79 : decode cX10_data 79 = .ok (.aload_n 0, 1) := by decide +kernel
theorem dX10_data_80 : decode cX10_data 80 = .ok (.getfield 50, 3) := by decide +kernel
theorem dX10_data_83 : decode cX10_data 83 = .ok (.iload_n 1, 1) := by decide +kernel
theorem dX10_data_84 : decode cX10_data 84 = .ok (.iaload, 1) := by decide +kernel
theorem dX10_data_85 : decode cX10_data 85 = .ok (.goto 4, 3) := by decide +kernel
theorem dX10_data_88 : decode cX10_data 88 = .ok (.iconst 4, 1) := by decide +kernel
theorem dX10_data_89 : decode cX10_data 89 = .ok (.iastore, 1) := by decide +kernel
theorem dX10_data_90 : decode cX10_data 90 = .ok (.aload_n 0, 1) := by decide +kernel
theorem dX10_data_91 : decode cX10_data 91 = .ok (.getfield 89, 3) := by decide +kernel
theorem dX10_data_94 : decode cX10_data 94 = .ok (.iload_n 1, 1) := by decide +kernel
theorem dX10_data_95 : decode cX10_data 95 = .ok (.iconst 0, 1) := by decide +kernel
theorem dX10_data_96 : decode cX10_data 96 = .ok (.iastore, 1) := by decide +kernel
theorem dX10_data_97 : decode cX10_data 97 = .ok (.aload_n 0, 1) := by decide +kernel
theorem dX10_data_98 : decode cX10_data 98 = .ok (.getfield 92, 3) := by decide +kernel
theorem dX10_data_101 : decode cX10_data 101 = .ok (.iload_n 1, 1) := by decide +kernel
theorem dX10_data_102 : decode cX10_data 102 = .ok (.iconst 0, 1) := by decide +kernel
theorem dX10_data_103 : decode cX10_data 103 = .ok (.iastore, 1) := by decide +kernel
theorem dX10_data_104 : decode cX10_data 104 = .ok (.aload_n 0, 1) := by decide +kernel
theorem dX10_data_105 : decode cX10_data 105 = .ok (.getfield 101, 3) := by decide +kernel
theorem dX10_data_108 : decode cX10_data 108 = .ok (.bipush 60, 2) := by decide +kernel
theorem dX10_data_110 : decode cX10_data 110 = .ok (.iload_n 1, 1) := by decide +kernel
theorem dX10_data_111 : decode cX10_data 111 = .ok (.imul, 1) := by decide +kernel
theorem dX10_data_112 : decode cX10_data 112 = .ok (.iload_n 2, 1) := by decide +kernel
theorem dX10_data_113 : decode cX10_data 113 = .ok (.iadd, 1) := by decide +kernel
theorem dX10_data_114 : decode cX10_data 114 = .ok (.iconst 1, 1) := by decide +kernel
theorem dX10_data_115 : decode cX10_data 115 = .ok (.bastore, 1) := by decide +kernel
theorem dX10_data_116 : decode cX10_data 116 = .ok (.aload_n 0, 1) := by decide +kernel
theorem dX10_data_117 : decode cX10_data 117 = .ok (.iload_n 1, 1) := by decide +kernel
theorem dX10_data_118 : decode cX10_data 118 = .ok (.invokevirtual 173, 3) := by decide +kernel
theorem dX10_data_121 : decode cX10_data 121 = .ok (.ifCond .le 4, 3) := by decide +kernel
theorem dX10_data_124 : decode cX10_data 124 = .ok (.return_, 1) := by decide +kernel
theorem dX10_data_125 : decode cX10_data 125 = .ok (.aload_n 0, 1) := by decide +kernel
theorem dX10_data_126 : decode cX10_data 126 = .ok (.getfield 80, 3) := by decide +kernel
theorem dX10_data_129 : decode cX10_data 129 = .ok (.iload_n 1, 1) := by decide +kernel
theorem dX10_data_130 : decode cX10_data 130 = .ok (.iconst 2, 1) := by decide +kernel
theorem dX10_data_131 : decode cX10_data 131 = .ok (.iastore, 1) := by decide +kernel
theorem dX10_data_132 : decode cX10_data 132 = .ok (.aload_n 0, 1) := by decide +kernel
theorem dX10_data_133 : decode cX10_data 133 = .ok (.getfield 83, 3) := by decide +kernel
theorem dX10_data_136 : decode cX10_data 136 = .ok (.iload_n 1, 1) := by decide +kernel
theorem dX10_data_137 : decode cX10_data 137 = .ok (.dup2, 1) := by decide +kernel
theorem dX10_data_138 : decode cX10_data 138 = .ok (.iaload, 1) := by decide +kernel
theorem dX10_data_139 : decode cX10_data 139 = .ok (.iconst 1, 1) := by decide +kernel
theorem dX10_data_140 : decode cX10_data 140 = .ok (.iadd, 1) := by decide +kernel
theorem dX10_data_141 : decode cX10_data 141 = .ok (.iastore, 1) := by decide +kernel
theorem dX10_data_142 : decode cX10_data 142 = .ok (.aload_n 0, 1) := by decide +kernel
theorem dX10_data_143 : decode cX10_data 143 = .ok (.getfield 98, 3) := by decide +kernel
theorem dX10_data_146 : decode cX10_data 146 = .ok (.iload_n 1, 1) := by decide +kernel
theorem dX10_data_147 : decode cX10_data 147 = .ok (.aload_n 0, 1) := by decide +kernel
theorem dX10_data_148 : decode cX10_data 148 = .ok (.getfield 177, 3) := by decide +kernel
theorem dX10_data_151 : decode cX10_data 151 = .ok (.iastore, 1) := by decide +kernel
theorem dX10_data_152 : decode cX10_data 152 = .ok (.aload_n 0, 1) := by decide +kernel
theorem dX10_data_153 : decode cX10_data 153 = .ok (.getfield 131, 3) := by decide +kernel
theorem dX10_data_156 : decode cX10_data 156 = .ok (.bipush 64, 2) := by decide +kernel
theorem dX10_data_158 : decode cX10_data 158 = .ok (.iload_n 3, 1) := by decide +kernel
theorem dX10_data_159 : decode cX10_data 159 = .ok (.imul, 1) := by decide +kernel
theorem dX10_data_160 : decode cX10_data 160 = .ok (.aload_n 0, 1) := by decide +kernel
theorem dX10_data_161 : decode cX10_data 161 = .ok (.getfield 128, 3) := by decide +kernel
theorem dX10_data_164 : decode cX10_data 164 = .ok (.iload_n 3, 1) := by decide +kernel
theorem dX10_data_165 : decode cX10_data 165 = .ok (.iaload, 1) := by decide +kernel
theorem dX10_data_166 : decode cX10_data 166 = .ok (.bipush 64, 2) := by decide +kernel
theorem dX10_data_168 : decode cX10_data 168 = .ok (.irem, 1) := by decide +kernel
theorem dX10_data_169 : decode cX10_data 169 = .ok (.iadd, 1) := by decide +kernel
theorem dX10_data_170 : decode cX10_data 170 = .ok (.iload_n 1, 1) := by decide +kernel
theorem dX10_data_171 : decode cX10_data 171 = .ok (.iastore, 1) := by decide +kernel
theorem dX10_data_172 : decode cX10_data 172 = .ok (.aload_n 0, 1) := by decide +kernel
theorem dX10_data_173 : decode cX10_data 173 = .ok (.getfield 128, 3) := by decide +kernel
theorem dX10_data_176 : decode cX10_data 176 = .ok (.iload_n 3, 1) := by decide +kernel
theorem dX10_data_177 : decode cX10_data 177 = .ok (.dup2, 1) := by decide +kernel
theorem dX10_data_178 : decode cX10_data 178 = .ok (.iaload, 1) := by decide +kernel
theorem dX10_data_179 : decode cX10_data 179 = .ok (.iconst 1, 1) := by decide +kernel
theorem dX10_data_180 : decode cX10_data 180 = .ok (.iadd, 1) := by decide +kernel
theorem dX10_data_181 : decode cX10_data 181 = .ok (.iastore, 1) := by decide +kernel
theorem dX10_data_182 : decode cX10_data 182 = .ok (.aload_n 0, 1) := by decide +kernel
theorem dX10_data_183 : decode cX10_data 183 = .ok (.iload_n 3, 1) := by decide +kernel
theorem dX10_data_184 : decode cX10_data 184 = .ok (.iconst 3, 1) := by decide +kernel
theorem dX10_data_185 : decode cX10_data 185 = .ok (.iload_n 1, 1) := by decide +kernel
theorem dX10_data_186 : decode cX10_data 186 = .ok (.iconst 0, 1) := by decide +kernel
theorem dX10_data_187 : decode cX10_data 187 = .ok (.invokevirtual 169, 3) := by decide +kernel
theorem dX10_data_190 : decode cX10_data 190 = .ok (.return_, 1) := by decide +kernel
theorem dX10_receive_0 : decode cX10_receive 0 = .ok (.iconst 0, 1) := by decide +kernel
theorem dX10_receive_1 : decode cX10_receive 1 = .ok (.istore_n 2, 1) := by decide +kernel
theorem dX10_receive_2 : decode cX10_receive 2 = .ok (.iload_n 2, 1) := by decide +kernel
theorem dX10_receive_3 : decode cX10_receive 3 = .ok (.aload_n 0, 1) := by decide +kernel
theorem dX10_receive_4 : decode cX10_receive 4 = .ok (.getfield 138, 3) := by decide +kernel
theorem dX10_receive_7 : decode cX10_receive 7 = .ok (.if_icmp .ge 35, 3) := by decide +kernel
theorem dX10_receive_10 : decode cX10_receive 10 = .ok (.aload_n 0, 1) := by decide +kernel
theorem dX10_receive_11 : decode cX10_receive 11 = .ok (.getfield 47, 3) := by decide +kernel
theorem dX10_receive_14 : decode cX10_receive 14 = .ok (.iload_n 2, 1) := by decide +kernel
theorem dX10_receive_15 : decode cX10_receive 15 = .ok (.iaload, 1) := by decide +kernel
theorem dX10_receive_16 : decode cX10_receive 16 = .ok (.iload_n 1, 1) := by decide +kernel
theorem dX10_receive_17 : decode cX10_receive 17 = .ok (.if_icmp .ne 19, 3) := by decide +kernel
theorem dX10_receive_20 : decode cX10_receive 20 = .ok (.aload_n 0, 1) := by decide +kernel
theorem dX10_receive_21 : decode cX10_receive 21 = .ok (.getfield 80, 3) := by decide +kernel
theorem dX10_receive_24 : decode cX10_receive 24 = .ok (.iload_n 2, 1) := by decide +kernel
theorem dX10_receive_25 : decode cX10_receive 25 = .ok (.iaload, 1) := by decide +kernel
theorem dX10_receive_26 : decode cX10_receive 26 = .ok (.iconst 1, 1) := by decide +kernel
theorem dX10_receive_27 : decode cX10_receive 27 = .ok (.if_icmp .ne 9, 3) := by decide +kernel
theorem dX10_receive_30 : decode cX10_receive 30 = .ok (.aload_n 0, 1) := by decide +kernel
theorem dX10_receive_31 : decode cX10_receive 31 = .ok (.iload_n 1, 1) := by decide +kernel
theorem dX10_receive_32 : decode cX10_receive 32 = .ok (.iload_n 2, 1) := by decide +kernel
theorem dX10_receive_33 : decode cX10_receive 33 = .ok (.invokevirtual 180, 3) := by decide +kernel
theorem dX10_receive_36 : decode cX10_receive 36 = .ok (.iinc 2 1, 3) := by decide +kernel
theorem dX10_receive_39 : decode cX10_receive 39 = .ok (.goto (-37), 3) := by decide +kernel
theorem dX10_receive_42 : decode cX10_receive 42 = .ok (.iconst 0, 1) := by decide +kernel
theorem dX10_receive_43 : decode cX10_receive 43 = .ok (.istore_n 2, 1) := by decide +kernel
theorem dX10_receive_44 : decode cX10_receive 44 = .ok (.iload_n 2, 1) := by decide +kernel
theorem dX10_receive_45 : decode cX10_receive 45 = .ok (.aload_n 0, 1) := by decide +kernel
theorem dX10_receive_46 : decode cX10_receive 46 = .ok (.getfield 138, 3) := by decide +kernel
theorem dX10_receive_49 : decode cX10_receive 49 = .ok (.if_icmp .ge 60, 3) := by decide +kernel
theorem dX10_receive_52 : decode cX10_receive 52 = .ok (.aload_n 0, 1) := by decide +kernel
theorem dX10_receive_53 : decode cX10_receive 53 = .ok (.getfield 47, 3) := by decide +kernel
theorem dX10_receive_56 : decode cX10_receive 56 = .ok (.iload_n 2, 1) := by decide +kernel
theorem dX10_receive_57 : decode cX10_receive 57 = .ok (.iaload, 1) := by decide +kernel
theorem dX10_receive_58 : decode cX10_receive 58 = .ok (.iload_n 1, 1) := by decide +kernel
theorem dX10_receive_59 : decode cX10_receive 59 = .ok (.if_icmp .ne 44, 3) := by decide +kernel
theorem dX10_receive_62 : decode cX10_receive 62 = .ok (.aload_n 0, 1) := by decide +kernel
theorem dX10_receive_63 : decode cX10_receive 63 = .ok (.getfield 80, 3) := by decide +kernel
theorem dX10_receive_66 : decode cX10_receive 66 = .ok (.iload_n 2, 1) := by decide +kernel
theorem dX10_receive_67 : decode cX10_receive 67 = .ok (.iaload, 1) := by decide +kernel
theorem dX10_receive_68 : decode cX10_receive 68 = .ok (.iconst 2, 1) := by decide +kernel
theorem dX10_receive_69 : decode cX10_receive 69 = .ok (.if_icmp .ne 34, 3) := by decide +kernel
theorem dX10_receive_72 : decode cX10_receive 72 = .ok (.aload_n 0, 1) := by decide +kernel
theorem dX10_receive_73 : decode cX10_receive 73 = .ok (.getfield 53, 3) := by decide +kernel
theorem dX10_receive_76 : decode cX10_receive 76 = .ok (.iload_n 2, 1) := by decide +kernel
theorem dX10_receive_77 : decode cX10_receive 77 = .ok (.iaload, 1) := by decide +kernel
theorem dX10_receive_78 : decode cX10_receive 78 = .ok (.iconst 1, 1) := by decide +kernel
theorem dX10_receive_79 : decode cX10_receive 79 = .ok (.if_icmp .ne 24, 3) := by decide +kernel
theorem dX10_receive_82 : decode cX10_receive 82 = .ok (.aload_n 0, 1) := by decide +kernel
theorem dX10_receive_83 : decode cX10_receive 83 = .ok (.getfield 177, 3) := by decide +kernel
theorem dX10_receive_86 : decode cX10_receive 86 = .ok (.aload_n 0, 1) := by decide +kernel
theorem dX10_receive_87 : decode cX10_receive 87 = .ok (.getfield 98, 3) := by decide +kernel
theorem dX10_receive_90 : decode cX10_receive 90 = .ok (.iload_n 2, 1) := by decide +kernel
theorem dX10_receive_91 : decode cX10_receive 91 = .ok (.iaload, 1) := by decide +kernel
theorem dX10_receive_92 : decode cX10_receive 92 = .ok (.isub, 1) := by decide +kernel
theorem dX10_receive_93 : decode cX10_receive 93 = .ok (.bipush 30, 2) := by decide +kernel
theorem dX10_receive_95 : decode cX10_receive 95 = .ok (.if_icmp .lt 8, 3) := by decide +kernel
theorem dX10_receive_98 : decode cX10_receive 98 = .ok (.aload_n 0, 1) := by decide +kernel
theorem dX10_receive_99 : decode cX10_receive 99 = .ok (.iload_n 2, 1) := by decide +kernel
theorem dX10_receive_100 : decode cX10_receive 100 = .ok (.invokevirtual 183, 3) := by decide +kernel
theorem dX10_receive_103 : decode cX10_receive 103 = .ok (.iinc 2 1, 3) := by decide +kernel
theorem dX10_receive_106 : decode cX10_receive 106 = .ok (.goto (-62), 3) := by decide +kernel
theorem dX10_receive_109 : decode cX10_receive 109 = .ok (.aload_n 0, 1) := by decide +kernel
theorem dX10_receive_110 : decode cX10_receive 110 = .ok (.getfield 125, 3) := by decide +kernel
theorem dX10_receive_113 : decode cX10_receive 113 = .ok (.iload_n 1, 1) := by decide +kernel
theorem dX10_receive_114 : decode cX10_receive 114 = .ok (.iconst 0, 1) := by decide +kernel
theorem dX10_receive_115 : decode cX10_receive 115 = .ok (.iastore, 1) := by decide +kernel
theorem dX10_receive_116 : decode cX10_receive 116 = .ok (.iconst 0, 1) := by decide +kernel
theorem dX10_receive_117 : decode cX10_receive 117 = .ok (.istore_n 2, 1) := by decide +kernel
theorem dX10_receive_118 : decode cX10_receive 118 = .ok (.iload_n 2, 1) := by decide +kernel
theorem dX10_receive_119 : decode cX10_receive 119 = .ok (.iconst 3, 1) := by decide +kernel
theorem dX10_receive_120 : decode cX10_receive 120 = .ok (.if_icmp .ge 187, 3) := by decide +kernel
theorem dX10_receive_123 : decode cX10_receive 123 = .ok (.iconst (-1), 1) := by decide +kernel
theorem dX10_receive_124 : decode cX10_receive 124 = .ok (.istore_n 3, 1) := by decide +kernel
theorem dX10_receive_125 : decode cX10_receive 125 = .ok (.iconst 0, 1) := by decide +kernel
theorem dX10_receive_126 : decode cX10_receive 126 = .ok (.istore 4, 2) := by decide +kernel
theorem dX10_receive_128 : decode cX10_receive 128 = .ok (.iload 4, 2) := by decide +kernel
theorem dX10_receive_130 : decode cX10_receive 130 = .ok (.aload_n 0, 1) := by decide +kernel
theorem dX10_receive_131 : decode cX10_receive 131 = .ok (.getfield 138, 3) := by decide +kernel
theorem dX10_receive_134 : decode cX10_receive 134 = .ok (.if_icmp .ge 59, 3) := by decide +kernel
theorem dX10_receive_137 : decode cX10_receive 137 = .ok (.aload_n 0, 1) := by decide +kernel
theorem dX10_receive_138 : decode cX10_receive 138 = .ok (.getfield 47, 3) := by decide +kernel
theorem dX10_receive_141 : decode cX10_receive 141 = .ok (.iload 4, 2) := by decide +kernel
theorem dX10_receive_143 : decode cX10_receive 143 = .ok (.iaload, 1) := by decide +kernel
theorem dX10_receive_144 : decode cX10_receive 144 = .ok (.iload_n 1, 1) := by decide +kernel
theorem dX10_receive_145 : decode cX10_receive 145 = .ok (.if_icmp .ne 42, 3) := by decide +kernel
theorem dX10_receive_148 : decode cX10_receive 148 = .ok (.aload_n 0, 1) := by decide +kernel
theorem dX10_receive_149 : decode cX10_receive 149 = .ok (.getfield 80, 3) := by decide +kernel
theorem dX10_receive_152 : decode cX10_receive 152 = .ok (.iload 4, 2) := by decide +kernel
theorem dX10_receive_154 : decode cX10_receive 154 = .ok (.iaload, 1) := by decide +kernel
theorem dX10_receive_155 : decode cX10_receive 155 = .ok (.iconst 1, 1) := by decide +kernel
theorem dX10_receive_156 : decode cX10_receive 156 = .ok (.if_icmp .ne 31, 3) := by decide +kernel
theorem dX10_receive_159 : decode cX10_receive 159 = .ok (.aload_n 0, 1) := by decide +kernel
theorem dX10_receive_160 : decode cX10_receive 160 = .ok (.iload_n 1, 1) := by decide +kernel
theorem dX10_receive_161 : decode cX10_receive 161 = .ok (.iload 4, 2) := by decide +kernel
theorem dX10_receive_163 : decode cX10_receive 163 = .ok (.invokevirtual 187, 3) := by decide +kernel
theorem dX10_receive_166 : decode cX10_receive 166 = .ok (.ifCond .ne 21, 3) := by decide +kernel
theorem dX10_receive_169 : decode cX10_receive 169 = .ok (.iload_n 3, 1) := by decide +kernel
theorem dX10_receive_170 : decode cX10_receive 170 = .ok (.iconst (-1), 1) := by decide +kernel
theorem dX10_receive_171 : decode cX10_receive 171 = .ok (.if_icmp .eq 13, 3) := by decide +kernel
theorem dX10_receive_174 : decode cX10_receive 174 = .ok (.aload_n 0, 1) := by decide +kernel
theorem dX10_receive_175 : decode cX10_receive 175 = .ok (.iload 4, 2) := by decide +kernel
theorem dX10_receive_177 : decode cX10_receive 177 = .ok (.iload_n 3, 1) := by decide +kernel
theorem dX10_receive_178 : decode cX10_receive 178 = .ok (.invokevirtual 191, 3) := by decide +kernel
theorem dX10_receive_181 : decode cX10_receive 181 = .ok (.ifCond .eq 6, 3) := by decide +kernel
theorem dX10_receive_184 : decode cX10_receive 184 = .ok (.iload 4, 2) := by decide +kernel
theorem dX10_receive_186 : decode cX10_receive 186 = .ok (.istore_n 3, 1) := by decide +kernel
theorem dX10_receive_187 : decode cX10_receive 187 = .ok (.iinc 4 1, 3) := by decide +kernel
theorem dX10_receive_190 : decode cX10_receive 190 = .ok (.goto (-62), 3) := by decide +kernel
theorem dX10_receive_193 : decode cX10_receive 193 = .ok (.iload_n 3, 1) := by decide +kernel
theorem dX10_receive_194 : decode cX10_receive 194 = .ok (.iconst (-1), 1) := by decide +kernel
theorem dX10_receive_195 : decode cX10_receive 195 = .ok (.if_icmp .ne 4, 3) := by decide +kernel
theorem dX10_receive_198 : decode cX10_receive 198 = .ok (.return_, 1) := by decide +kernel
theorem dX10_receive_199 : decode cX10_receive 199 = .ok (.aload_n 0, 1) := by decide +kernel
theorem dX10_receive_200 : decode cX10_receive 200 = .ok (.getfield 122, 3) := by decide +kernel
theorem dX10_receive_203 : decode cX10_receive 203 = .ok (.iconst 3, 1) := by decide +kernel
theorem dX10_receive_204 : decode cX10_receive 204 = .ok (.iload_n 1, 1) := by decide +kernel
theorem dX10_receive_205 : decode cX10_receive 205 = .ok (.imul, 1) := by decide +kernel
theorem dX10_receive_206 : decode cX10_receive 206 = .ok (.iload_n 2, 1) := by decide +kernel
theorem dX10_receive_207 : decode cX10_receive 207 = .ok (.iadd, 1) := by decide +kernel
theorem dX10_receive_208 : decode cX10_receive 208 = .ok (.iload_n 3, 1) := by decide +kernel
theorem dX10_receive_209 : decode cX10_receive 209 = .ok (.iastore, 1) := by decide +kernel
theorem dX10_receive_210 : decode cX10_receive 210 = .ok (.aload_n 0, 1) := by decide +kernel
theorem dX10_receive_211 : decode cX10_receive 211 = .ok (.getfield 125, 3) := by decide +kernel
theorem dX10_receive_214 : decode cX10_receive 214 = .ok (.iload_n 1, 1) := by decide +kernel
theorem dX10_receive_215 : decode cX10_receive 215 = .ok (.dup2, 1) := by decide +kernel
theorem dX10_receive_216 : decode cX10_receive 216 = .ok (.iaload, 1) := by decide +kernel
theorem dX10_receive_217 : decode cX10_receive 217 = .ok (.iconst 1, 1) := by decide +kernel
theorem dX10_receive_218 : decode cX10_receive 218 = .ok (.iadd, 1) := by decide +kernel
theorem dX10_receive_219 : decode cX10_receive 219 = .ok (.iastore, 1) := by decide +kernel
theorem dX10_receive_220 : decode cX10_receive 220 = .ok (.aload_n 0, 1) := by decide +kernel
theorem dX10_receive_221 : decode cX10_receive 221 = .ok (.getfield 50, 3) := by decide +kernel
theorem dX10_receive_224 : decode cX10_receive 224 = .ok (.iload_n 3, 1) := by decide +kernel
theorem dX10_receive_225 : decode cX10_receive 225 = .ok (.iaload, 1) := by decide +kernel
theorem dX10_receive_226 : decode cX10_receive 226 = .ok (.aload_n 0, 1) := by decide +kernel
theorem dX10_receive_227 : decode cX10_receive 227 = .ok (.iload_n 3, 1) := by decide +kernel
theorem dX10_receive_228 : decode cX10_receive 228 = .ok (.invokevirtual 173, 3) := by decide +kernel
theorem dX10_receive_231 : decode cX10_receive 231 = .ok (.isub, 1) := by decide +kernel
theorem dX10_receive_232 : decode cX10_receive 232 = .ok (.istore 4, 2) := by decide +kernel
theorem dX10_receive_234 : decode cX10_receive 234 = .ok (.iload 4, 2) := by decide +kernel
theorem dX10_receive_236 : decode cX10_receive 236 = .ok (.bipush 6, 2) := by decide +kernel
theorem dX10_receive_238 : decode cX10_receive 238 = .ok (.iadd, 1) := by decide +kernel
theorem dX10_receive_239 : decode cX10_receive 239 = .ok (.aload_n 0, 1) := by decide +kernel
theorem dX10_receive_240 : decode cX10_receive 240 = .ok (.getfield 50, 3) := by decide +kernel
theorem dX10_receive_243 : decode cX10_receive 243 = .ok (.iload_n 3, 1) := by decide +kernel
theorem dX10_receive_244 : decode cX10_receive 244 = .ok (.iaload, 1) := by decide +kernel
theorem dX10_receive_245 : decode cX10_receive 245 = .ok (.if_icmp .ge 11, 3) := by decide +kernel
theorem dX10_receive_248 : decode cX10_receive 248 = .ok (.iload 4, 2) := by decide +kernel
theorem dX10_receive_250 : decode cX10_receive 250 = .ok (.bipush 6, 2) := by decide +kernel
theorem dX10_receive_252 : decode cX10_receive 252 = .ok (.iadd, 1) := by decide +kernel
theorem dX10_receive_253 : decode cX10_receive 253 = .ok (.goto 9, 3) := by decide +kernel
theorem dX10_receive_256 : decode cX10_receive 256 = .ok (.aload_n 0, 1) := by decide +kernel
theorem dX10_receive_257 : decode cX10_receive 257 = .ok (.getfield 50, 3) := by decide +kernel
theorem dX10_receive_260 : decode cX10_receive 260 = .ok (.iload_n 3, 1) := by decide +kernel
theorem dX10_receive_261 : decode cX10_receive 261 = .ok (.iaload, 1) := by decide +kernel
theorem dX10_receive_262 : decode cX10_receive 262 = .ok (.istore 5, 2) := by decide +kernel
theorem dX10_receive_264 : decode cX10_receive 264 = .ok (.iload 5, 2) := by decide +kernel
theorem dX10_receive_266 : decode cX10_receive 266 = .ok (.aload_n 0, 1) := by decide +kernel
theorem dX10_receive_267 : decode cX10_receive 267 = .ok (.getfield 86, 3) := by decide +kernel
theorem dX10_receive_270 : decode cX10_receive 270 = .ok (.iload_n 3, 1) := by decide +kernel
theorem dX10_receive_271 : decode cX10_receive 271 = .ok (.iaload, 1) := by decide +kernel
theorem dX10_receive_272 : decode cX10_receive 272 = .ok (.if_icmp .gt 6, 3) := by decide +kernel
theorem dX10_receive_275 : decode cX10_receive 275 = .ok (.goto 26, 3) := by decide +kernel
theorem dX10_receive_278 : decode cX10_receive 278 = .ok (.aload_n 0, 1) := by decide +kernel
theorem dX10_receive_279 : decode cX10_receive 279 = .ok (.getfield 86, 3) := by decide +kernel
theorem dX10_receive_282 : decode cX10_receive 282 = .ok (.iload_n 3, 1) := by decide +kernel
theorem dX10_receive_283 : decode cX10_receive 283 = .ok (.iload 5, 2) := by decide +kernel
theorem dX10_receive_285 : decode cX10_receive 285 = .ok (.iastore, 1) := by decide +kernel
theorem dX10_receive_286 : decode cX10_receive 286 = .ok (.aload_n 0, 1) := by decide +kernel
theorem dX10_receive_287 : decode cX10_receive 287 = .ok (.iload_n 1, 1) := by decide +kernel
theorem dX10_receive_288 : decode cX10_receive 288 = .ok (.iconst 1, 1) := by decide +kernel
theorem dX10_receive_289 : decode cX10_receive 289 = .ok (.iload_n 3, 1) := by decide +kernel
theorem dX10_receive_290 : decode cX10_receive 290 = .ok (.iconst 4, 1) := by decide +kernel
theorem dX10_receive_291 : decode cX10_receive 291 = .ok (.iload 5, 2) := by decide +kernel
theorem dX10_receive_293 : decode cX10_receive 293 = .ok (.imul, 1) := by decide +kernel
theorem dX10_receive_294 : decode cX10_receive 294 = .ok (.iconst 1, 1) := by decide +kernel
theorem dX10_receive_295 : decode cX10_receive 295 = .ok (.iadd, 1) := by decide +kernel
theorem dX10_receive_296 : decode cX10_receive 296 = .ok (.iload_n 2, 1) := by decide +kernel
theorem dX10_receive_297 : decode cX10_receive 297 = .ok (.iadd, 1) := by decide +kernel
theorem dX10_receive_298 : decode cX10_receive 298 = .ok (.invokevirtual 169, 3) := by decide +kernel
theorem dX10_receive_301 : decode cX10_receive 301 = .ok (.iinc 2 1, 3) := by decide +kernel
theorem dX10_receive_304 : decode cX10_receive 304 = .ok (.goto (-186), 3) := by decide +kernel
theorem dX10_receive_307 : decode cX10_receive 307 = .ok (.return_, 1) := by decide +kernel
theorem dX10_listen_0 : decode cX10_listen 0 = .ok (.aload_n 0, 1) := by decide +kernel
theorem dX10_listen_1 : decode cX10_listen 1 = .ok (.getfield 89, 3) := by decide +kernel
theorem dX10_listen_4 : decode cX10_listen 4 = .ok (.iload_n 2, 1) := by decide +kernel
theorem dX10_listen_5 : decode cX10_listen 5 = .ok (.dup2, 1) := by decide +kernel
theorem dX10_listen_6 : decode cX10_listen 6 = .ok (.iaload, 1) := by decide +kernel
theorem dX10_listen_7 : decode cX10_listen 7 = .ok (.iconst 1, 1) := by decide +kernel
theorem dX10_listen_8 : decode cX10_listen 8 = .ok (.iadd, 1) := by decide +kernel
theorem dX10_listen_9 : decode cX10_listen 9 = .ok (.iastore, 1) := by decide +kernel
theorem dX10_listen_10 : decode cX10_listen 10 = .ok (.aload_n 0, 1) := by decide +kernel
theorem dX10_listen_11 : decode cX10_listen 11 = .ok (.getfield 89, 3) := by decide +kernel
theorem dX10_listen_14 : decode cX10_listen 14 = .ok (.iload_n 2, 1) := by decide +kernel
theorem dX10_listen_15 : decode cX10_listen 15 = .ok (.iaload, 1) := by decide +kernel
theorem dX10_listen_16 : decode cX10_listen 16 = .ok (.bipush 16, 2) := by decide +kernel
theorem dX10_listen_18 : decode cX10_listen 18 = .ok (.if_icmp .ge 4, 3) := by decide +kernel
theorem dX10_listen_21 : decode cX10_listen 21 = .ok (.return_, 1) := by decide +kernel
theorem dX10_listen_22 : decode cX10_listen 22 = .ok (.aload_n 0, 1) := by decide +kernel
theorem dX10_listen_23 : decode cX10_listen 23 = .ok (.getfield 89, 3) := by decide +kernel
theorem dX10_listen_26 : decode cX10_listen 26 = .ok (.iload_n 2, 1) := by decide +kernel
theorem dX10_listen_27 : decode cX10_listen 27 = .ok (.iconst 0, 1) := by decide +kernel
theorem dX10_listen_28 : decode cX10_listen 28 = .ok (.iastore, 1) := by decide +kernel
theorem dX10_listen_29 : decode cX10_listen 29 = .ok (.aload_n 0, 1) := by decide +kernel
theorem dX10_listen_30 : decode cX10_listen 30 = .ok (.getfield 92, 3) := by decide +kernel
theorem dX10_listen_33 : decode cX10_listen 33 = .ok (.iload_n 2, 1) := by decide +kernel
theorem dX10_listen_34 : decode cX10_listen 34 = .ok (.dup2, 1) := by decide +kernel
theorem dX10_listen_35 : decode cX10_listen 35 = .ok (.iaload, 1) := by decide +kernel
theorem dX10_listen_36 : decode cX10_listen 36 = .ok (.iconst 1, 1) := by decide +kernel
theorem dX10_listen_37 : decode cX10_listen 37 = .ok (.iadd, 1) := by decide +kernel
theorem dX10_listen_38 : decode cX10_listen 38 = .ok (.iastore, 1) := by decide +kernel
theorem dX10_listen_39 : decode cX10_listen 39 = .ok (.aload_n 0, 1) := by decide +kernel
theorem dX10_listen_40 : decode cX10_listen 40 = .ok (.getfield 92, 3) := by decide +kernel
theorem dX10_listen_43 : decode cX10_listen 43 = .ok (.iload_n 2, 1) := by decide +kernel
theorem dX10_listen_44 : decode cX10_listen 44 = .ok (.iaload, 1) := by decide +kernel
theorem dX10_listen_45 : decode cX10_listen 45 = .ok (.bipush 8, 2) := by decide +kernel
theorem dX10_listen_47 : decode cX10_listen 47 = .ok (.if_icmp .ne 9, 3) := by decide +kernel
theorem dX10_listen_50 : decode cX10_listen 50 = .ok (.aload_n 0, 1) := by decide +kernel
theorem dX10_listen_51 : decode cX10_listen 51 = .ok (.iload_n 2, 1) := by decide +kernel
theorem dX10_listen_52 : decode cX10_listen 52 = .ok (.invokevirtual 183, 3) := by decide +kernel
theorem dX10_listen_55 : decode cX10_listen 55 = .ok (.return_, 1) := by decide +kernel
theorem dX10_listen_56 : decode cX10_listen 56 = .ok (.iconst 0, 1) := by decide +kernel
theorem dX10_listen_57 : decode cX10_listen 57 = .ok (.istore_n 3, 1) := by decide +kernel
theorem dX10_listen_58 : decode cX10_listen 58 = .ok (.aload_n 0, 1) := by decide +kernel
theorem dX10_listen_59 : decode cX10_listen 59 = .ok (.getfield 101, 3) := by decide +kernel
theorem dX10_listen_62 : decode cX10_listen 62 = .ok (.bipush 60, 2) := by decide +kernel
theorem dX10_listen_64 : decode cX10_listen 64 = .ok (.iload_n 2, 1) := by decide +kernel
theorem dX10_listen_65 : decode cX10_listen 65 = .ok (.imul, 1) := by decide +kernel
theorem dX10_listen_66 : decode cX10_listen 66 = .ok (.iload_n 3, 1) := by decide +kernel
theorem dX10_listen_67 : decode cX10_listen 67 = .ok (.iadd, 1) := by decide +kernel
theorem dX10_listen_68 : decode cX10_listen 68 = .ok (.baload, 1) := by decide +kernel
theorem dX10_listen_69 : decode cX10_listen 69 = .ok (.ifCond .eq 9, 3) := by decide +kernel
theorem dX10_listen_72 : decode cX10_listen 72 = .ok (.iinc 3 1, 3) := by decide +kernel
theorem dX10_listen_75 : decode cX10_listen 75 = .ok (.goto (-17), 3) := by decide +kernel
theorem dX10_listen_78 : decode cX10_listen 78 = .ok (.aload_n 0, 1) := by decide +kernel
theorem dX10_listen_79 : decode cX10_listen 79 = .ok (.iload_n 1, 1) := by decide +kernel
theorem dX10_listen_80 : decode cX10_listen 80 = .ok (.iconst 2, 1) := by decide +kernel
theorem dX10_listen_81 : decode cX10_listen 81 = .ok (.iload_n 2, 1) := by decide +kernel
theorem dX10_listen_82 : decode cX10_listen 82 = .ok (.bipush 64, 2) := by decide +kernel
theorem dX10_listen_84 : decode cX10_listen 84 = .ok (.aload_n 0, 1) := by decide +kernel
theorem dX10_listen_85 : decode cX10_listen 85 = .ok (.getfield 86, 3) := by decide +kernel
theorem dX10_listen_88 : decode cX10_listen 88 = .ok (.iload_n 2, 1) := by decide +kernel
theorem dX10_listen_89 : decode cX10_listen 89 = .ok (.iaload, 1) := by decide +kernel
theorem dX10_listen_90 : decode cX10_listen 90 = .ok (.imul, 1) := by decide +kernel
theorem dX10_listen_91 : decode cX10_listen 91 = .ok (.iload_n 3, 1) := by decide +kernel
theorem dX10_listen_92 : decode cX10_listen 92 = .ok (.iadd, 1) := by decide +kernel
theorem dX10_listen_93 : decode cX10_listen 93 = .ok (.invokevirtual 169, 3) := by decide +kernel
theorem dX10_listen_96 : decode cX10_listen 96 = .ok (.return_, 1) := by decide +kernel
theorem dX10_isChosen_0 : decode cX10_isChosen 0 = .ok (.iconst 0, 1) := by decide +kernel
theorem dX10_isChosen_1 : decode cX10_isChosen 1 = .ok (.istore_n 3, 1) := by decide +kernel
theorem dX10_isChosen_2 : decode cX10_isChosen 2 = .ok (.iload_n 3, 1) := by decide +kernel
theorem dX10_isChosen_3 : decode cX10_isChosen 3 = .ok (.aload_n 0, 1) := by decide +kernel
theorem dX10_isChosen_4 : decode cX10_isChosen 4 = .ok (.getfield 125, 3) := by decide +kernel
theorem dX10_isChosen_7 : decode cX10_isChosen 7 = .ok (.iload_n 1, 1) := by decide +kernel
theorem dX10_isChosen_8 : decode cX10_isChosen 8 = .ok (.iaload, 1) := by decide +kernel
theorem dX10_isChosen_9 : decode cX10_isChosen 9 = .ok (.if_icmp .ge 25, 3) := by decide +kernel
theorem dX10_isChosen_12 : decode cX10_isChosen 12 = .ok (.aload_n 0, 1) := by decide +kernel
