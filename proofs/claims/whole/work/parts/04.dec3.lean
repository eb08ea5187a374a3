theorem dX10_tell_31 : decode cX10_tell 31 = .ok (.getfield 280, 3) := by decide +kernel
theorem dX10_tell_34 : decode cX10_tell 34 = .ok (.i2l, 1) := by decide +kernel
theorem dX10_tell_35 : decode cX10_tell 35 = .ok (.lreturn, 1) := by decide +kernel
theorem dX10_check_0 : decode cX10_check 0 = .ok (.aload_n 0, 1) := by decide +kernel
theorem dX10_check_1 : decode cX10_check 1 = .ok (.invokevirtual 281, 3) := by decide +kernel
theorem dX10_check_4 : decode cX10_check 4 = .ok (.istore_n 1, 1) := by decide +kernel
theorem dX10_check_5 : decode cX10_check 5 = .ok (.aload_n 0, 1) := by decide +kernel
theorem dX10_check_6 : decode cX10_check 6 = .ok (.getfield 82, 3) := by decide +kernel
theorem dX10_check_9 : decode cX10_check 9 = .ok (.iconst 0, 1) := by decide +kernel
theorem dX10_check_10 : decode cX10_check 10 = .ok (.putfield 280, 3) := by decide +kernel
theorem dX10_check_13 : decode cX10_check 13 = .ok (.iload_n 1, 1) := by decide +kernel
theorem dX10_check_14 : decode cX10_check 14 = .ok (.i2l, 1) := by decide +kernel
theorem dX10_check_15 : decode cX10_check 15 = .ok (.lreturn, 1) := by decide +kernel
theorem dX10_count_0 : decode cX10_count 0 = .ok (.iload_n 1, 1) := by decide +kernel
theorem dX10_count_1 : decode cX10_count 1 = .ok (.tableswitch 90 0 5 #[39, 45, 54, 63, 72, 81], 39) := by decide +kernel
theorem dX10_count_40 : decode cX10_count 40 = .ok (.aload_n 0, 1) := by decide +kernel
theorem dX10_count_41 : decode cX10_count 41 = .ok (.getfield 86, 3) := by decide +kernel
theorem dX10_count_44 : decode cX10_count 44 = .ok (.i2l, 1) := by decide +kernel
theorem dX10_count_45 : decode cX10_count 45 = .ok (.lreturn, 1) := by decide +kernel
theorem dX10_count_46 : decode cX10_count 46 = .ok (.aload_n 0, 1) := by decide +kernel
theorem dX10_count_47 : decode cX10_count 47 = .ok (.getfield 19, 3) := by decide +kernel
theorem dX10_count_50 : decode cX10_count 50 = .ok (.getfield 125, 3) := by decide +kernel
theorem dX10_count_53 : decode cX10_count 53 = .ok (.i2l, 1) := by decide +kernel
theorem dX10_count_54 : decode cX10_count 54 = .ok (.lreturn, 1) := by decide +kernel
theorem dX10_count_55 : decode cX10_count 55 = .ok (.aload_n 0, 1) := by decide +kernel
theorem dX10_count_56 : decode cX10_count 56 = .ok (.getfield 36, 3) := by decide +kernel
theorem dX10_count_59 : decode cX10_count 59 = .ok (.getfield 135, 3) := by decide +kernel
theorem dX10_count_62 : decode cX10_count 62 = .ok (.i2l, 1) := by decide +kernel
theorem dX10_count_63 : decode cX10_count 63 = .ok (.lreturn, 1) := by decide +kernel
theorem dX10_count_64 : decode cX10_count 64 = .ok (.aload_n 0, 1) := by decide +kernel
theorem dX10_count_65 : decode cX10_count 65 = .ok (.getfield 36, 3) := by decide +kernel
theorem dX10_count_68 : decode cX10_count 68 = .ok (.getfield 149, 3) := by decide +kernel
theorem dX10_count_71 : decode cX10_count 71 = .ok (.i2l, 1) := by decide +kernel
theorem dX10_count_72 : decode cX10_count 72 = .ok (.lreturn, 1) := by decide +kernel
theorem dX10_count_73 : decode cX10_count 73 = .ok (.aload_n 0, 1) := by decide +kernel
theorem dX10_count_74 : decode cX10_count 74 = .ok (.getfield 43, 3) := by decide +kernel
theorem dX10_count_77 : decode cX10_count 77 = .ok (.getfield 188, 3) := by decide +kernel
theorem dX10_count_80 : decode cX10_count 80 = .ok (.i2l, 1) := by decide +kernel
theorem dX10_count_81 : decode cX10_count 81 = .ok (.lreturn, 1) := by decide +kernel
theorem dX10_count_82 : decode cX10_count 82 = .ok (.aload_n 0, 1) := by decide +kernel
theorem dX10_count_83 : decode cX10_count 83 = .ok (.getfield 82, 3) := by decide +kernel
theorem dX10_count_86 : decode cX10_count 86 = .ok (.getfield 280, 3) := by decide +kernel
theorem dX10_count_89 : decode cX10_count 89 = .ok (.i2l, 1) := by decide +kernel
theorem dX10_count_90 : decode cX10_count 90 = .ok (.lreturn, 1) := by decide +kernel
theorem dX10_count_91 : decode cX10_count 91 = .ok (.aload_n 0, 1) := by decide +kernel
theorem dX10_count_92 : decode cX10_count 92 = .ok (.getfield 10, 3) := by decide +kernel
theorem dX10_count_95 : decode cX10_count 95 = .ok (.iconst 1, 1) := by decide +kernel
theorem dX10_count_96 : decode cX10_count 96 = .ok (.invokevirtual 94, 3) := by decide +kernel
theorem dX10_count_99 : decode cX10_count 99 = .ok (.lreturn, 1) := by decide +kernel
theorem dX10_found_0 : decode cX10_found 0 = .ok (.iload_n 1, 1) := by decide +kernel
theorem dX10_found_1 : decode cX10_found 1 = .ok (.iconst 1, 1) := by decide +kernel
theorem dX10_found_2 : decode cX10_found 2 = .ok (.iconst 5, 1) := by decide +kernel
theorem dX10_found_3 : decode cX10_found 3 = .ok (.invokestatic 90, 3) := by decide +kernel
theorem dX10_found_6 : decode cX10_found 6 = .ok (.ifCond .ne 12, 3) := by decide +kernel
theorem dX10_found_9 : decode cX10_found 9 = .ok (.aload_n 0, 1) := by decide +kernel
theorem dX10_found_10 : decode cX10_found 10 = .ok (.getfield 10, 3) := by decide +kernel
theorem dX10_found_13 : decode cX10_found 13 = .ok (.iconst 1, 1) := by decide +kernel
theorem dX10_found_14 : decode cX10_found 14 = .ok (.invokevirtual 94, 3) := by decide +kernel
theorem dX10_found_17 : decode cX10_found 17 = .ok (.lreturn, 1) := by decide +kernel
theorem dX10_found_18 : decode cX10_found 18 = .ok (.aload_n 0, 1) := by decide +kernel
theorem dX10_found_19 : decode cX10_found 19 = .ok (.getfield 10, 3) := by decide +kernel
theorem dX10_found_22 : decode cX10_found 22 = .ok (.getfield 284, 3) := by decide +kernel
theorem dX10_found_25 : decode cX10_found 25 = .ok (.iload_n 1, 1) := by decide +kernel
theorem dX10_found_26 : decode cX10_found 26 = .ok (.iaload, 1) := by decide +kernel
theorem dX10_found_27 : decode cX10_found 27 = .ok (.i2l, 1) := by decide +kernel
theorem dX10_found_28 : decode cX10_found 28 = .ok (.lreturn, 1) := by decide +kernel
theorem dX10_isWithin_0 : decode cX10_isWithin 0 = .ok (.iload_n 0, 1) := by decide +kernel
theorem dX10_isWithin_1 : decode cX10_isWithin 1 = .ok (.iload_n 1, 1) := by decide +kernel
theorem dX10_isWithin_2 : decode cX10_isWithin 2 = .ok (.if_icmp .lt 12, 3) := by decide +kernel
theorem dX10_isWithin_5 : decode cX10_isWithin 5 = .ok (.iload_n 0, 1) := by decide +kernel
theorem dX10_isWithin_6 : decode cX10_isWithin 6 = .ok (.iload_n 2, 1) := by decide +kernel
theorem dX10_isWithin_7 : decode cX10_isWithin 7 = .ok (.if_icmp .gt 7, 3) := by decide +kernel
theorem dX10_isWithin_10 : decode cX10_isWithin 10 = .ok (.iconst 1, 1) := by decide +kernel
theorem dX10_isWithin_11 : decode cX10_isWithin 11 = .ok (.goto 4, 3) := by decide +kernel
theorem dX10_isWithin_14 : decode cX10_isWithin 14 = .ok (.iconst 0, 1) := by decide +kernel
theorem dX10_isWithin_15 : decode cX10_isWithin 15 = .ok (.ireturn, 1) := by decide +kernel
theorem dX10_isMonth_0 : decode cX10_isMonth 0 = .ok (.iload_n 0, 1) := by decide +kernel
theorem dX10_isMonth_1 : decode cX10_isMonth 1 = .ok (.iconst 0, 1) := by decide +kernel
theorem dX10_isMonth_2 : decode cX10_isMonth 2 = .ok (.sipush 1199, 3) := by decide +kernel
theorem dX10_isMonth_5 : decode cX10_isMonth 5 = .ok (.invokestatic 90, 3) := by decide +kernel
theorem dX10_isMonth_8 : decode cX10_isMonth 8 = .ok (.ireturn, 1) := by decide +kernel
theorem dX10_isHolder_0 : decode cX10_isHolder 0 = .ok (.iload_n 0, 1) := by decide +kernel
theorem dX10_isHolder_1 : decode cX10_isHolder 1 = .ok (.iconst 0, 1) := by decide +kernel
theorem dX10_isHolder_2 : decode cX10_isHolder 2 = .ok (.bipush 9, 2) := by decide +kernel
theorem dX10_isHolder_4 : decode cX10_isHolder 4 = .ok (.invokestatic 90, 3) := by decide +kernel
theorem dX10_isHolder_7 : decode cX10_isHolder 7 = .ok (.ireturn, 1) := by decide +kernel
theorem dX10_isDepositKind_0 : decode cX10_isDepositKind 0 = .ok (.iload_n 0, 1) := by decide +kernel
theorem dX10_isDepositKind_1 : decode cX10_isDepositKind 1 = .ok (.iconst 0, 1) := by decide +kernel
theorem dX10_isDepositKind_2 : decode cX10_isDepositKind 2 = .ok (.iconst 2, 1) := by decide +kernel
theorem dX10_isDepositKind_3 : decode cX10_isDepositKind 3 = .ok (.invokestatic 90, 3) := by decide +kernel
theorem dX10_isDepositKind_6 : decode cX10_isDepositKind 6 = .ok (.ireturn, 1) := by decide +kernel
theorem dX10_thousandths_0 : decode cX10_thousandths 0 = .ok (.lload_n 0, 1) := by decide +kernel
theorem dX10_thousandths_1 : decode cX10_thousandths 1 = .ok (.iload_n 2, 1) := by decide +kernel
theorem dX10_thousandths_2 : decode cX10_thousandths 2 = .ok (.i2l, 1) := by decide +kernel
theorem dX10_thousandths_3 : decode cX10_thousandths 3 = .ok (.lmul, 1) := by decide +kernel
theorem dX10_thousandths_4 : decode cX10_thousandths 4 = .ok (.ldc2_w 287, 3) := by decide +kernel
theorem dX10_thousandths_7 : decode cX10_thousandths 7 = .ok (.ldiv, 1) := by decide +kernel
theorem dX10_thousandths_8 : decode cX10_thousandths 8 = .ok (.lreturn, 1) := by decide +kernel
theorem dX10_hasFateNow_0 : decode cX10_hasFateNow 0 = .ok (.aload_n 0, 1) := by decide +kernel
theorem dX10_hasFateNow_1 : decode cX10_hasFateNow 1 = .ok (.getfield 36, 3) := by decide +kernel
theorem dX10_hasFateNow_4 : decode cX10_hasFateNow 4 = .ok (.iload_n 1, 1) := by decide +kernel
theorem dX10_hasFateNow_5 : decode cX10_hasFateNow 5 = .ok (.aload_n 0, 1) := by decide +kernel
theorem dX10_hasFateNow_6 : decode cX10_hasFateNow 6 = .ok (.getfield 86, 3) := by decide +kernel
theorem dX10_hasFateNow_9 : decode cX10_hasFateNow 9 = .ok (.invokevirtual 152, 3) := by decide +kernel
theorem dX10_hasFateNow_12 : decode cX10_hasFateNow 12 = .ok (.iconst (-1), 1) := by decide +kernel
theorem dX10_hasFateNow_13 : decode cX10_hasFateNow 13 = .ok (.if_icmp .eq 7, 3) := by decide +kernel
theorem dX10_hasFateNow_16 : decode cX10_hasFateNow 16 = .ok (.iconst 1, 1) := by decide +kernel
theorem dX10_hasFateNow_17 : decode cX10_hasFateNow 17 = .ok (.goto 4, 3) := by decide +kernel
theorem dX10_hasFateNow_20 : decode cX10_hasFateNow 20 = .ok (.iconst 0, 1) := by decide +kernel
theorem dX10_hasFateNow_21 : decode cX10_hasFateNow 21 = .ok (.ireturn, 1) := by decide +kernel
theorem dX10_dowryFor_0 : decode cX10_dowryFor 0 = .ok (.bipush 20, 2) := by decide +kernel
theorem dX10_dowryFor_2 : decode cX10_dowryFor 2 = .ok (.iload_n 2, 1) := by decide +kernel
theorem dX10_dowryFor_3 : decode cX10_dowryFor 3 = .ok (.bipush 12, 2) := by decide +kernel
theorem dX10_dowryFor_5 : decode cX10_dowryFor 5 = .ok (.idiv, 1) := by decide +kernel
theorem dX10_dowryFor_6 : decode cX10_dowryFor 6 = .ok (.invokestatic 289, 3) := by decide +kernel
theorem dX10_dowryFor_9 : decode cX10_dowryFor 9 = .ok (.istore_n 3, 1) := by decide +kernel
theorem dX10_dowryFor_10 : decode cX10_dowryFor 10 = .ok (.iload_n 3, 1) := by decide +kernel
theorem dX10_dowryFor_11 : decode cX10_dowryFor 11 = .ok (.iconst 1, 1) := by decide +kernel
theorem dX10_dowryFor_12 : decode cX10_dowryFor 12 = .ok (.bipush 20, 2) := by decide +kernel
theorem dX10_dowryFor_14 : decode cX10_dowryFor 14 = .ok (.invokestatic 90, 3) := by decide +kernel
theorem dX10_dowryFor_17 : decode cX10_dowryFor 17 = .ok (.ifCond .eq 12, 3) := by decide +kernel
theorem dX10_dowryFor_20 : decode cX10_dowryFor 20 = .ok (.aload_n 0, 1) := by decide +kernel
theorem dX10_dowryFor_21 : decode cX10_dowryFor 21 = .ok (.getfield 23, 3) := by decide +kernel
theorem dX10_dowryFor_24 : decode cX10_dowryFor 24 = .ok (.iload_n 3, 1) := by decide +kernel
theorem dX10_dowryFor_25 : decode cX10_dowryFor 25 = .ok (.iaload, 1) := by decide +kernel
theorem dX10_dowryFor_26 : decode cX10_dowryFor 26 = .ok (.goto 5, 3) := by decide +kernel
theorem dX10_dowryFor_29 : decode cX10_dowryFor 29 = .ok (.bipush 100, 2) := by decide +kernel
theorem dX10_dowryFor_31 : decode cX10_dowryFor 31 = .ok (.istore 4, 2) := by decide +kernel
theorem dX10_dowryFor_33 : decode cX10_dowryFor 33 = .ok (.iload_n 1, 1) := by decide +kernel
theorem dX10_dowryFor_34 : decode cX10_dowryFor 34 = .ok (.i2l, 1) := by decide +kernel
theorem dX10_dowryFor_35 : decode cX10_dowryFor 35 = .ok (.iload 4, 2) := by decide +kernel
theorem dX10_dowryFor_37 : decode cX10_dowryFor 37 = .ok (.i2l, 1) := by decide +kernel
theorem dX10_dowryFor_38 : decode cX10_dowryFor 38 = .ok (.lmul, 1) := by decide +kernel
theorem dX10_dowryFor_39 : decode cX10_dowryFor 39 = .ok (.ldc2_w 294, 3) := by decide +kernel
theorem dX10_dowryFor_42 : decode cX10_dowryFor 42 = .ok (.ldiv, 1) := by decide +kernel
theorem dX10_dowryFor_43 : decode cX10_dowryFor 43 = .ok (.lreturn, 1) := by decide +kernel
theorem dX10_compareWaiting_0 : decode cX10_compareWaiting 0 = .ok (.iconst 0, 1) := by decide +kernel
theorem dX10_compareWaiting_1 : decode cX10_compareWaiting 1 = .ok (.istore_n 1, 1) := by decide +kernel
theorem dX10_compareWaiting_2 : decode cX10_compareWaiting 2 = .ok (.iload_n 1, 1) := by decide +kernel
theorem dX10_compareWaiting_3 : decode cX10_compareWaiting 3 = .ok (.aload_n 0, 1) := by decide +kernel
theorem dX10_compareWaiting_4 : decode cX10_compareWaiting 4 = .ok (.getfield 43, 3) := by decide +kernel
theorem dX10_compareWaiting_7 : decode cX10_compareWaiting 7 = .ok (.getfield 188, 3) := by decide +kernel
theorem dX10_compareWaiting_10 : decode cX10_compareWaiting 10 = .ok (.if_icmp .ge 50, 3) := by decide +kernel
theorem dX10_compareWaiting_13 : decode cX10_compareWaiting 13 = .ok (.iload_n 1, 1) := by decide +kernel
theorem dX10_compareWaiting_14 : decode cX10_compareWaiting 14 = .ok (.aload_n 0, 1) := by decide +kernel
theorem dX10_compareWaiting_15 : decode cX10_compareWaiting 15 = .ok (.getfield 82, 3) := by decide +kernel
theorem dX10_compareWaiting_18 : decode cX10_compareWaiting 18 = .ok (.getfield 280, 3) := by decide +kernel
theorem dX10_compareWaiting_21 : decode cX10_compareWaiting 21 = .ok (.if_icmp .ge 29, 3) := by decide +kernel
theorem dX10_compareWaiting_24 : decode cX10_compareWaiting 24 = .ok (.aload_n 0, 1) := by decide +kernel
theorem dX10_compareWaiting_25 : decode cX10_compareWaiting 25 = .ok (.getfield 82, 3) := by decide +kernel
theorem dX10_compareWaiting_28 : decode cX10_compareWaiting 28 = .ok (.getfield 296, 3) := by decide +kernel
theorem dX10_compareWaiting_31 : decode cX10_compareWaiting 31 = .ok (.iload_n 1, 1) := by decide +kernel
theorem dX10_compareWaiting_32 : decode cX10_compareWaiting 32 = .ok (.iaload, 1) := by decide +kernel
theorem dX10_compareWaiting_33 : decode cX10_compareWaiting 33 = .ok (.i2l, 1) := by decide +kernel
theorem dX10_compareWaiting_34 : decode cX10_compareWaiting 34 = .ok (.aload_n 0, 1) := by decide +kernel
theorem dX10_compareWaiting_35 : decode cX10_compareWaiting 35 = .ok (.aload_n 0, 1) := by decide +kernel
theorem dX10_compareWaiting_36 : decode cX10_compareWaiting 36 = .ok (.getfield 43, 3) := by decide +kernel
theorem dX10_compareWaiting_39 : decode cX10_compareWaiting 39 = .ok (.iload_n 1, 1) := by decide +kernel
theorem dX10_compareWaiting_40 : decode cX10_compareWaiting 40 = .ok (.invokevirtual 189, 3) := by decide +kernel
theorem dX10_compareWaiting_43 : decode cX10_compareWaiting 43 = .ok (.invokevirtual 299, 3) := by decide +kernel
theorem dX10_compareWaiting_46 : decode cX10_compareWaiting 46 = .ok (.lcmp, 1) := by decide +kernel
theorem dX10_compareWaiting_47 : decode cX10_compareWaiting 47 = .ok (.ifCond .eq 7, 3) := by decide +kernel
theorem dX10_compareWaiting_50 : decode cX10_compareWaiting 50 = .ok (.iconst 1, 1) := by decide +kernel
theorem dX10_compareWaiting_51 : decode cX10_compareWaiting 51 = .ok (.iload_n 1, 1) := by decide +kernel
theorem dX10_compareWaiting_52 : decode cX10_compareWaiting 52 = .ok (.iadd, 1) := by decide +kernel
theorem dX10_compareWaiting_53 : decode cX10_compareWaiting 53 = .ok (.ireturn, 1) := by decide +kernel
theorem dX10_compareWaiting_54 : decode cX10_compareWaiting 54 = .ok (.iinc 1 1, 3) := by decide +kernel
theorem dX10_compareWaiting_57 : decode cX10_compareWaiting 57 = .ok (.goto (-55), 3) := by decide +kernel
theorem dX10_compareWaiting_60 : decode cX10_compareWaiting 60 = .ok (.aload_n 0, 1) := by decide +kernel
theorem dX10_compareWaiting_61 : decode cX10_compareWaiting 61 = .ok (.getfield 82, 3) := by decide +kernel
theorem dX10_compareWaiting_64 : decode cX10_compareWaiting 64 = .ok (.getfield 280, 3) := by decide +kernel
theorem dX10_compareWaiting_67 : decode cX10_compareWaiting 67 = .ok (.aload_n 0, 1) := by decide +kernel
theorem dX10_compareWaiting_68 : decode cX10_compareWaiting 68 = .ok (.getfield 43, 3) := by decide +kernel
theorem dX10_compareWaiting_71 : decode cX10_compareWaiting 71 = .ok (.getfield 188, 3) := by decide +kernel
theorem dX10_compareWaiting_74 : decode cX10_compareWaiting 74 = .ok (.if_icmp .le 8, 3) := by decide +kernel
theorem dX10_compareWaiting_77 : decode cX10_compareWaiting 77 = .ok (.bipush 99, 2) := by decide +kernel
theorem dX10_compareWaiting_79 : decode cX10_compareWaiting 79 = .ok (.goto 4, 3) := by decide +kernel
theorem dX10_compareWaiting_82 : decode cX10_compareWaiting 82 = .ok (.iconst 0, 1) := by decide +kernel
theorem dX10_compareWaiting_83 : decode cX10_compareWaiting 83 = .ok (.ireturn, 1) := by decide +kernel
theorem dX10_dueNow_0 : decode cX10_dueNow 0 = .ok (.aload_n 0, 1) := by decide +kernel
theorem dX10_dueNow_1 : decode cX10_dueNow 1 = .ok (.getfield 52, 3) := by decide +kernel
theorem dX10_dueNow_4 : decode cX10_dueNow 4 = .ok (.aload_n 1, 1) := by decide +kernel
theorem dX10_dueNow_5 : decode cX10_dueNow 5 = .ok (.aload_n 0, 1) := by decide +kernel
theorem dX10_dueNow_6 : decode cX10_dueNow 6 = .ok (.getfield 86, 3) := by decide +kernel
theorem dX10_dueNow_9 : decode cX10_dueNow 9 = .ok (.invokevirtual 223, 3) := by decide +kernel
theorem dX10_dueNow_12 : decode cX10_dueNow 12 = .ok (.istore_n 2, 1) := by decide +kernel
theorem dX10_dueNow_13 : decode cX10_dueNow 13 = .ok (.iload_n 2, 1) := by decide +kernel
theorem dX10_dueNow_14 : decode cX10_dueNow 14 = .ok (.iconst (-1), 1) := by decide +kernel
theorem dX10_dueNow_15 : decode cX10_dueNow 15 = .ok (.if_icmp .ne 7, 3) := by decide +kernel
theorem dX10_dueNow_18 : decode cX10_dueNow 18 = .ok (.lconst 0, 1) := by decide +kernel
theorem dX10_dueNow_19 : decode cX10_dueNow 19 = .ok (.goto 16, 3) := by decide +kernel
theorem dX10_dueNow_22 : decode cX10_dueNow 22 = .ok (.aload_n 0, 1) := by decide +kernel
theorem dX10_dueNow_23 : decode cX10_dueNow 23 = .ok (.getfield 52, 3) := by decide +kernel
theorem dX10_dueNow_26 : decode cX10_dueNow 26 = .ok (.aload_n 1, 1) := by decide +kernel
theorem dX10_dueNow_27 : decode cX10_dueNow 27 = .ok (.iload_n 2, 1) := by decide +kernel
theorem dX10_dueNow_28 : decode cX10_dueNow 28 = .ok (.aload_n 0, 1) := by decide +kernel
theorem dX10_dueNow_29 : decode cX10_dueNow 29 = .ok (.getfield 86, 3) := by decide +kernel
theorem dX10_dueNow_32 : decode cX10_dueNow 32 = .ok (.invokevirtual 230, 3) := by decide +kernel
theorem dX10_dueNow_35 : decode cX10_dueNow 35 = .ok (.lreturn, 1) := by decide +kernel
theorem dX11_init_0 : decode cX11_init 0 = .ok (.aload_n 0, 1) := by decide +kernel
theorem dX11_init_1 : decode cX11_init 1 = .ok (.invokespecial 1, 3) := by decide +kernel
theorem dX11_init_4 : decode cX11_init 4 = .ok (.aload_n 0, 1) := by decide +kernel
theorem dX11_init_5 : decode cX11_init 5 = .ok (.bipush 6, 2) := by decide +kernel
theorem dX11_init_7 : decode cX11_init 7 = .ok (.newarray .int, 2) := by decide +kernel
theorem dX11_init_9 : decode cX11_init 9 = .ok (.putfield 7, 3) := by decide +kernel
theorem dX11_init_12 : decode cX11_init 12 = .ok (.aload_n 0, 1) := by decide +kernel
theorem dX11_init_13 : decode cX11_init 13 = .ok (.bipush 60, 2) := by decide +kernel
theorem dX11_init_15 : decode cX11_init 15 = .ok (.newarray .int, 2) := by decide +kernel
theorem dX11_init_17 : decode cX11_init 17 = .ok (.putfield 13, 3) := by decide +kernel
theorem dX11_init_20 : decode cX11_init 20 = .ok (.aload_n 0, 1) := by decide +kernel
theorem dX11_init_21 : decode cX11_init 21 = .ok (.bipush 60, 2) := by decide +kernel
theorem dX11_init_23 : decode cX11_init 23 = .ok (.newarray .int, 2) := by decide +kernel
theorem dX11_init_25 : decode cX11_init 25 = .ok (.putfield 16, 3) := by decide +kernel
theorem dX11_init_28 : decode cX11_init 28 = .ok (.aload_n 0, 1) := by decide +kernel
theorem dX11_init_29 : decode cX11_init 29 = .ok (.bipush 60, 2) := by decide +kernel
theorem dX11_init_31 : decode cX11_init 31 = .ok (.newarray .int, 2) := by decide +kernel
theorem dX11_init_33 : decode cX11_init 33 = .ok (.putfield 19, 3) := by decide +kernel
theorem dX11_init_36 : decode cX11_init 36 = .ok (.aload_n 0, 1) := by decide +kernel
theorem dX11_init_37 : decode cX11_init 37 = .ok (.bipush 60, 2) := by decide +kernel
theorem dX11_init_39 : decode cX11_init 39 = .ok (.newarray .int, 2) := by decide +kernel
theorem dX11_init_41 : decode cX11_init 41 = .ok (.putfield 22, 3) := by decide +kernel
theorem dX11_init_44 : decode cX11_init 44 = .ok (.aload_n 0, 1) := by decide +kernel
theorem dX11_init_45 : decode cX11_init 45 = .ok (.bipush 21, 2) := by decide +kernel
theorem dX11_init_47 : decode cX11_init 47 = .ok (.newarray .int, 2) := by decide +kernel
theorem dX11_init_49 : decode cX11_init 49 = .ok (.putfield 25, 3) := by decide +kernel
theorem dX11_init_52 : decode cX11_init 52 = .ok (.aload_n 0, 1) := by decide +kernel
theorem dX11_init_53 : decode cX11_init 53 = .ok (.bipush 30, 2) := by decide +kernel
theorem dX11_init_55 : decode cX11_init 55 = .ok (.newarray .int, 2) := by decide +kernel
theorem dX11_init_57 : decode cX11_init 57 = .ok (.putfield 28, 3) := by decide +kernel
theorem dX11_init_60 : decode cX11_init 60 = .ok (.aload_n 0, 1) := by decide +kernel
theorem dX11_init_61 : decode cX11_init 61 = .ok (.bipush 90, 2) := by decide +kernel
theorem dX11_init_63 : decode cX11_init 63 = .ok (.newarray .int, 2) := by decide +kernel
theorem dX11_init_65 : decode cX11_init 65 = .ok (.putfield 31, 3) := by decide +kernel
theorem dX11_init_68 : decode cX11_init 68 = .ok (.aload_n 0, 1) := by decide +kernel
theorem dX11_init_69 : decode cX11_init 69 = .ok (.bipush 90, 2) := by decide +kernel
theorem dX11_init_71 : decode cX11_init 71 = .ok (.newarray .int, 2) := by decide +kernel
theorem dX11_init_73 : decode cX11_init 73 = .ok (.putfield 34, 3) := by decide +kernel
theorem dX11_init_76 : decode cX11_init 76 = .ok (.aload_n 0, 1) := by decide +kernel
theorem dX11_init_77 : decode cX11_init 77 = .ok (.bipush 90, 2) := by decide +kernel
theorem dX11_init_79 : decode cX11_init 79 = .ok (.newarray .int, 2) := by decide +kernel
theorem dX11_init_81 : decode cX11_init 81 = .ok (.putfield 37, 3) := by decide +kernel
theorem dX11_init_84 : decode cX11_init 84 = .ok (.aload_n 0, 1) := by decide +kernel
theorem dX11_init_85 : decode cX11_init 85 = .ok (.bipush 90, 2) := by decide +kernel
theorem dX11_init_87 : decode cX11_init 87 = .ok (.newarray .int, 2) := by decide +kernel
theorem dX11_init_89 : decode cX11_init 89 = .ok (.putfield 40, 3) := by decide +kernel
theorem dX11_init_92 : decode cX11_init 92 = .ok (.aload_n 0, 1) := by decide +kernel
theorem dX11_init_93 : decode cX11_init 93 = .ok (.bipush 30, 2) := by decide +kernel
theorem dX11_init_95 : decode cX11_init 95 = .ok (.newarray .int, 2) := by decide +kernel
theorem dX11_init_97 : decode cX11_init 97 = .ok (.putfield 43, 3) := by decide +kernel
theorem dX11_init_100 : decode cX11_init 100 = .ok (.aload_n 0, 1) := by decide +kernel
theorem dX11_init_101 : decode cX11_init 101 = .ok (.bipush 30, 2) := by decide +kernel
theorem dX11_init_103 : decode cX11_init 103 = .ok (.newarray .int, 2) := by decide +kernel
theorem dX11_init_105 : decode cX11_init 105 = .ok (.putfield 46, 3) := by decide +kernel
theorem dX11_init_108 : decode cX11_init 108 = .ok (.aload_n 0, 1) := by decide +kernel
theorem dX11_init_109 : decode cX11_init 109 = .ok (.bipush 30, 2) := by decide +kernel
theorem dX11_init_111 : decode cX11_init 111 = .ok (.newarray .int, 2) := by decide +kernel
theorem dX11_init_113 : decode cX11_init 113 = .ok (.putfield 49, 3) := by decide +kernel
theorem dX11_init_116 : decode cX11_init 116 = .ok (.aload_n 0, 1) := by decide +kernel
theorem dX11_init_117 : decode cX11_init 117 = .ok (.bipush 30, 2) := by decide +kernel
theorem dX11_init_119 : decode cX11_init 119 = .ok (.newarray .int, 2) := by decide +kernel
theorem dX11_init_121 : decode cX11_init 121 = .ok (.putfield 52, 3) := by decide +kernel
theorem dX11_init_124 : decode cX11_init 124 = .ok (.aload_n 0, 1) := by decide +kernel
theorem dX11_init_125 : decode cX11_init 125 = .ok (.bipush 30, 2) := by decide +kernel
theorem dX11_init_127 : decode cX11_init 127 = .ok (.newarray .long, 2) := by decide +kernel
theorem dX11_init_129 : decode cX11_init 129 = .ok (.putfield 55, 3) := by decide +kernel
theorem dX11_init_132 : decode cX11_init 132 = .ok (.aload_n 0, 1) := by decide +kernel
theorem dX11_init_133 : decode cX11_init 133 = .ok (.bipush 30, 2) := by decide +kernel
theorem dX11_init_135 : decode cX11_init 135 = .ok (.newarray .int, 2) := by decide +kernel
theorem dX11_init_137 : decode cX11_init 137 = .ok (.putfield 59, 3) := by decide +kernel
theorem dX11_init_140 : decode cX11_init 140 = .ok (.aload_n 0, 1) := by decide +kernel
theorem dX11_init_141 : decode cX11_init 141 = .ok (.bipush 30, 2) := by decide +kernel
theorem dX11_init_143 : decode cX11_init 143 = .ok (.newarray .int, 2) := by decide +kernel
theorem dX11_init_145 : decode cX11_init 145 = .ok (.putfield 62, 3) := by decide +kernel
theorem dX11_init_148 : decode cX11_init 148 = .ok (.aload_n 0, 1) := by decide +kernel
theorem dX11_init_149 : decode cX11_init 149 = .ok (.bipush 30, 2) := by decide +kernel
theorem dX11_init_151 : decode cX11_init 151 = .ok (.newarray .long, 2) := by decide +kernel
theorem dX11_init_153 : decode cX11_init 153 = .ok (.putfield 65, 3) := by decide +kernel
theorem dX11_init_156 : decode cX11_init 156 = .ok (.aload_n 0, 1) := by decide +kernel
theorem dX11_init_157 : decode cX11_init 157 = .ok (.bipush 30, 2) := by decide +kernel
theorem dX11_init_159 : decode cX11_init 159 = .ok (.newarray .boolean, 2) := by decide +kernel
theorem dX11_init_161 : decode cX11_init 161 = .ok (.putfield 68, 3) := by decide +kernel
theorem dX11_init_164 : decode cX11_init 164 = .ok (.aload_n 0, 1) := by decide +kernel
theorem dX11_init_165 : decode cX11_init 165 = .ok (.bipush 30, 2) := by decide +kernel
theorem dX11_init_167 : decode cX11_init 167 = .ok (.newarray .int, 2) := by decide +kernel
theorem dX11_init_169 : decode cX11_init 169 = .ok (.putfield 72, 3) := by decide +kernel
theorem dX11_init_172 : decode cX11_init 172 = .ok (.aload_n 0, 1) := by decide +kernel
theorem dX11_init_173 : decode cX11_init 173 = .ok (.sipush 210, 3) := by decide +kernel
theorem dX11_init_176 : decode cX11_init 176 = .ok (.newarray .int, 2) := by decide +kernel
theorem dX11_init_178 : decode cX11_init 178 = .ok (.putfield 75, 3) := by decide +kernel
theorem dX11_init_181 : decode cX11_init 181 = .ok (.aload_n 0, 1) := by decide +kernel
theorem dX11_init_182 : decode cX11_init 182 = .ok (.sipush 210, 3) := by decide +kernel
theorem dX11_init_185 : decode cX11_init 185 = .ok (.newarray .int, 2) := by decide +kernel
theorem dX11_init_187 : decode cX11_init 187 = .ok (.putfield 78, 3) := by decide +kernel
theorem dX11_init_190 : decode cX11_init 190 = .ok (.aload_n 0, 1) := by decide +kernel
theorem dX11_init_191 : decode cX11_init 191 = .ok (.bipush 10, 2) := by decide +kernel
theorem dX11_init_193 : decode cX11_init 193 = .ok (.newarray .long, 2) := by decide +kernel
theorem dX11_init_195 : decode cX11_init 195 = .ok (.putfield 81, 3) := by decide +kernel
theorem dX11_init_198 : decode cX11_init 198 = .ok (.aload_n 0, 1) := by decide +kernel
theorem dX11_init_199 : decode cX11_init 199 = .ok (.bipush 21, 2) := by decide +kernel
theorem dX11_init_201 : decode cX11_init 201 = .ok (.newarray .int, 2) := by decide +kernel
theorem dX11_init_203 : decode cX11_init 203 = .ok (.putfield 84, 3) := by decide +kernel
theorem dX11_init_206 : decode cX11_init 206 = .ok (.aload_n 0, 1) := by decide +kernel
theorem dX11_init_207 : decode cX11_init 207 = .ok (.bipush 21, 2) := by decide +kernel
theorem dX11_init_209 : decode cX11_init 209 = .ok (.newarray .int, 2) := by decide +kernel
theorem dX11_init_211 : decode cX11_init 211 = .ok (.putfield 87, 3) := by decide +kernel
theorem dX11_init_214 : decode cX11_init 214 = .ok (.aload_n 0, 1) := by decide +kernel
theorem dX11_init_215 : decode cX11_init 215 = .ok (.bipush 21, 2) := by decide +kernel
theorem dX11_init_217 : decode cX11_init 217 = .ok (.newarray .int, 2) := by decide +kernel
theorem dX11_init_219 : decode cX11_init 219 = .ok (.putfield 90, 3) := by decide +kernel
theorem dX11_init_222 : decode cX11_init 222 = .ok (.aload_n 0, 1) := by decide +kernel
theorem dX11_init_223 : decode cX11_init 223 = .ok (.bipush 30, 2) := by decide +kernel
theorem dX11_init_225 : decode cX11_init 225 = .ok (.newarray .int, 2) := by decide +kernel
theorem dX11_init_227 : decode cX11_init 227 = .ok (.putfield 93, 3) := by decide +kernel
theorem dX11_init_230 : decode cX11_init 230 = .ok (.aload_n 0, 1) := by decide +kernel
theorem dX11_init_231 : decode cX11_init 231 = .ok (.bipush 30, 2) := by decide +kernel
theorem dX11_init_233 : decode cX11_init 233 = .ok (.newarray .boolean, 2) := by decide +kernel
theorem dX11_init_235 : decode cX11_init 235 = .ok (.putfield 96, 3) := by decide +kernel
theorem dX11_init_238 : decode cX11_init 238 = .ok (.aload_n 0, 1) := by decide +kernel
theorem dX11_init_239 : decode cX11_init 239 = .ok (.bipush 30, 2) := by decide +kernel
theorem dX11_init_241 : decode cX11_init 241 = .ok (.newarray .long, 2) := by decide +kernel
theorem dX11_init_243 : decode cX11_init 243 = .ok (.putfield 99, 3) := by decide +kernel
theorem dX11_init_246 : decode cX11_init 246 = .ok (.iconst 0, 1) := by decide +kernel
theorem dX11_init_247 : decode cX11_init 247 = .ok (.istore_n 1, 1) := by decide +kernel
theorem dX11_init_248 : decode cX11_init 248 = .ok (.iload_n 1, 1) := by decide +kernel
theorem dX11_init_249 : decode cX11_init 249 = .ok (.bipush 21, 2) := by decide +kernel
theorem dX11_init_251 : decode cX11_init 251 = .ok (.if_icmp .ge 17, 3) := by decide +kernel
theorem dX11_init_254 : decode cX11_init 254 = .ok (.aload_n 0, 1) := by decide +kernel
theorem dX11_init_255 : decode cX11_init 255 = .ok (.getfield 25, 3) := by decide +kernel
theorem dX11_init_258 : decode cX11_init 258 = .ok (.iload_n 1, 1) := by decide +kernel
theorem dX11_init_259 : decode cX11_init 259 = .ok (.bipush 100, 2) := by decide +kernel
theorem dX11_init_261 : decode cX11_init 261 = .ok (.iastore, 1) := by decide +kernel
theorem dX11_init_262 : decode cX11_init 262 = .ok (.iinc 1 1, 3) := by decide +kernel
theorem dX11_init_265 : decode cX11_init 265 = .ok (.goto (-17), 3) := by decide +kernel
theorem dX11_init_268 : decode cX11_init 268 = .ok (.return_, 1) := by decide +kernel
theorem dX11_no_0 : decode cX11_no 0 = .ok (.aload_n 0, 1) := by decide +kernel
theorem dX11_no_1 : decode cX11_no 1 = .ok (.getfield 7, 3) := by decide +kernel
theorem dX11_no_4 : decode cX11_no 4 = .ok (.iload_n 1, 1) := by decide +kernel
theorem dX11_no_5 : decode cX11_no 5 = .ok (.dup2, 1) := by decide +kernel
theorem dX11_no_6 : decode cX11_no 6 = .ok (.iaload, 1) := by decide +kernel
theorem dX11_no_7 : decode cX11_no 7 = .ok (.iconst 1, 1) := by decide +kernel
theorem dX11_no_8 : decode cX11_no 8 = .ok (.iadd, 1) := by decide +kernel
theorem dX11_no_9 : decode cX11_no 9 = .ok (.iastore, 1) := by decide +kernel
theorem dX11_no_10 : decode cX11_no 10 = .ok (.ldc2_w 102, 3) := by decide +kernel
theorem dX11_no_13 : decode cX11_no 13 = .ok (.iload_n 1, 1) := by decide +kernel
theorem dX11_no_14 : decode cX11_no 14 = .ok (.i2l, 1) := by decide +kernel
theorem dX11_no_15 : decode cX11_no 15 = .ok (.lsub, 1) := by decide +kernel
theorem dX11_no_16 : decode cX11_no 16 = .ok (.lreturn, 1) := by decide +kernel
theorem dX11_in_0 : decode cX11_in 0 = .ok (.iload_n 0, 1) := by decide +kernel
theorem dX11_in_1 : decode cX11_in 1 = .ok (.iload_n 1, 1) := by decide +kernel
theorem dX11_in_2 : decode cX11_in 2 = .ok (.if_icmp .lt 12, 3) := by decide +kernel
theorem dX11_in_5 : decode cX11_in 5 = .ok (.iload_n 0, 1) := by decide +kernel
theorem dX11_in_6 : decode cX11_in 6 = .ok (.iload_n 2, 1) := by decide +kernel
theorem dX11_in_7 : decode cX11_in 7 = .ok (.if_icmp .gt 7, 3) := by decide +kernel
theorem dX11_in_10 : decode cX11_in 10 = .ok (.iconst 1, 1) := by decide +kernel
theorem dX11_in_11 : decode cX11_in 11 = .ok (.goto 4, 3) := by decide +kernel
theorem dX11_in_14 : decode cX11_in 14 = .ok (.iconst 0, 1) := by decide +kernel
theorem dX11_in_15 : decode cX11_in 15 = .ok (.ireturn, 1) := by decide +kernel
theorem dX11_isMonth_0 : decode cX11_isMonth 0 = .ok (.iload_n 0, 1) := by decide +kernel
theorem dX11_isMonth_1 : decode cX11_isMonth 1 = .ok (.iconst 0, 1) := by decide +kernel
theorem dX11_isMonth_2 : decode cX11_isMonth 2 = .ok (.sipush 1199, 3) := by decide +kernel
theorem dX11_isMonth_5 : decode cX11_isMonth 5 = .ok (.invokestatic 104, 3) := by decide +kernel
theorem dX11_isMonth_8 : decode cX11_isMonth 8 = .ok (.ireturn, 1) := by decide +kernel
theorem dX11_months_0 : decode cX11_months 0 = .ok (.iload_n 1, 1) := by decide +kernel
theorem dX11_months_1 : decode cX11_months 1 = .ok (.iconst 1, 1) := by decide +kernel
theorem dX11_months_2 : decode cX11_months 2 = .ok (.sipush 240, 3) := by decide +kernel
theorem dX11_months_5 : decode cX11_months 5 = .ok (.invokestatic 104, 3) := by decide +kernel
theorem dX11_months_8 : decode cX11_months 8 = .ok (.ifCond .eq 15, 3) := by decide +kernel
theorem dX11_months_11 : decode cX11_months 11 = .ok (.aload_n 0, 1) := by decide +kernel
theorem dX11_months_12 : decode cX11_months 12 = .ok (.getfield 108, 3) := by decide +kernel
theorem dX11_months_15 : decode cX11_months 15 = .ok (.iload_n 1, 1) := by decide +kernel
theorem dX11_months_16 : decode cX11_months 16 = .ok (.iadd, 1) := by decide +kernel
theorem dX11_months_17 : decode cX11_months 17 = .ok (.sipush 1199, 3) := by decide +kernel
theorem dX11_months_20 : decode cX11_months 20 = .ok (.if_icmp .le 9, 3) := by decide +kernel
theorem dX11_months_23 : decode cX11_months 23 = .ok (.aload_n 0, 1) := by decide +kernel
theorem dX11_months_24 : decode cX11_months 24 = .ok (.iconst 1, 1) := by decide +kernel
theorem dX11_months_25 : decode cX11_months 25 = .ok (.invokevirtual 112, 3) := by decide +kernel
theorem dX11_months_28 : decode cX11_months 28 = .ok (.lreturn, 1) := by decide +kernel
theorem dX11_months_29 : decode cX11_months 29 = .ok (.iconst 0, 1) := by decide +kernel
theorem dX11_months_30 : decode cX11_months 30 = .ok (.istore_n 2, 1) := by decide +kernel
theorem dX11_months_31 : decode cX11_months 31 = .ok (.iload_n 2, 1) := by decide +kernel
theorem dX11_months_32 : decode cX11_months 32 = .ok (.iload_n 1, 1) := by decide +kernel
theorem dX11_months_33 : decode cX11_months 33 = .ok (.if_icmp .ge 13, 3) := by decide +kernel
theorem dX11_months_36 : decode cX11_months 36 = .ok (.aload_n 0, 1) := by decide +kernel
theorem dX11_months_37 : decode cX11_months 37 = .ok (.invokevirtual 116, 3) := by decide +kernel
theorem dX11_months_40 : decode cX11_months 40 = .ok (.iinc 2 1, 3) := by decide +kernel
theorem dX11_months_43 : decode cX11_months 43 = .ok (.goto (-12), 3) := by decide +kernel
theorem dX11_months_46 : decode cX11_months 46 = .ok (.aload_n 0, 1) := by decide +kernel
theorem dX11_months_47 : decode cX11_months 47 = .ok (.getfield 108, 3) := by decide +kernel
theorem dX11_months_50 : decode cX11_months 50 = .ok (.i2l, 1) := by decide +kernel
theorem dX11_months_51 : decode cX11_months 51 = .ok (.lreturn, 1) := by decide +kernel
theorem dX11_isValue_0 : decode cX11_isValue 0 = .ok (.iload_n 1, 1) := by decide +kernel
theorem dX11_isValue_1 : decode cX11_isValue 1 = .ok (.iload_n 0, 1) := by decide +kernel
theorem dX11_isValue_2 : decode cX11_isValue 2 = .ok (.iconst 5, 1) := by decide +kernel
theorem dX11_isValue_3 : decode cX11_isValue 3 = .ok (.if_icmp .ne 8, 3) := by decide +kernel
theorem dX11_isValue_6 : decode cX11_isValue 6 = .ok (.bipush 12, 2) := by decide +kernel
theorem dX11_isValue_8 : decode cX11_isValue 8 = .ok (.goto 4, 3) := by decide +kernel
theorem dX11_isValue_11 : decode cX11_isValue 11 = .ok (.iconst 0, 1) := by decide +kernel
theorem dX11_isValue_12 : decode cX11_isValue 12 = .ok (.iload_n 0, 1) := by decide +kernel
theorem dX11_isValue_13 : decode cX11_isValue 13 = .ok (.ifCond .ne 8, 3) := by decide +kernel
theorem dX11_isValue_16 : decode cX11_isValue 16 = .ok (.bipush 60, 2) := by decide +kernel
theorem dX11_isValue_18 : decode cX11_isValue 18 = .ok (.goto 17, 3) := by decide +kernel
theorem dX11_isValue_21 : decode cX11_isValue 21 = .ok (.iload_n 0, 1) := by decide +kernel
theorem dX11_isValue_22 : decode cX11_isValue 22 = .ok (.iconst 5, 1) := by decide +kernel
theorem dX11_isValue_23 : decode cX11_isValue 23 = .ok (.if_icmp .ne 9, 3) := by decide +kernel
theorem dX11_isValue_26 : decode cX11_isValue 26 = .ok (.sipush 240, 3) := by decide +kernel
theorem dX11_isValue_29 : decode cX11_isValue 29 = .ok (.goto 6, 3) := by decide +kernel
theorem dX11_isValue_32 : decode cX11_isValue 32 = .ok (.sipush 1000, 3) := by decide +kernel
theorem dX11_isValue_35 : decode cX11_isValue 35 = .ok (.invokestatic 104, 3) := by decide +kernel
theorem dX11_isValue_38 : decode cX11_isValue 38 = .ok (.ireturn, 1) := by decide +kernel
theorem dX11_decree_0 : decode cX11_decree 0 = .ok (.iload_n 1, 1) := by decide +kernel
theorem dX11_decree_1 : decode cX11_decree 1 = .ok (.iconst 0, 1) := by decide +kernel
theorem dX11_decree_2 : decode cX11_decree 2 = .ok (.iconst 5, 1) := by decide +kernel
theorem dX11_decree_3 : decode cX11_decree 3 = .ok (.invokestatic 104, 3) := by decide +kernel
theorem dX11_decree_6 : decode cX11_decree 6 = .ok (.ifCond .eq 18, 3) := by decide +kernel
theorem dX11_decree_9 : decode cX11_decree 9 = .ok (.iload_n 2, 1) := by decide +kernel
theorem dX11_decree_10 : decode cX11_decree 10 = .ok (.invokestatic 119, 3) := by decide +kernel
theorem dX11_decree_13 : decode cX11_decree 13 = .ok (.ifCond .eq 11, 3) := by decide +kernel
theorem dX11_decree_16 : decode cX11_decree 16 = .ok (.iload_n 1, 1) := by decide +kernel
theorem dX11_decree_17 : decode cX11_decree 17 = .ok (.iload_n 3, 1) := by decide +kernel
theorem dX11_decree_18 : decode cX11_decree 18 = .ok (.invokestatic 123, 3) := by decide +kernel
theorem dX11_decree_21 : decode cX11_decree 21 = .ok (.ifCond .ne 9, 3) := by decide +kernel
theorem dX11_decree_24 : decode cX11_decree 24 = .ok (.aload_n 0, 1) := by decide +kernel
theorem dX11_decree_25 : decode cX11_decree 25 = .ok (.iconst 1, 1) := by decide +kernel
theorem dX11_decree_26 : decode cX11_decree 26 = .ok (.invokevirtual 112, 3) := by decide +kernel
theorem dX11_decree_29 : decode cX11_decree 29 = .ok (.lreturn, 1) := by decide +kernel
theorem dX11_decree_30 : decode cX11_decree 30 = .ok (.aload_n 0, 1) := by decide +kernel
theorem dX11_decree_31 : decode cX11_decree 31 = .ok (.getfield 127, 3) := by decide +kernel
theorem dX11_decree_34 : decode cX11_decree 34 = .ok (.bipush 60, 2) := by decide +kernel
theorem dX11_decree_36 : decode cX11_decree 36 = .ok (.if_icmp .ne 9, 3) := by decide +kernel
theorem dX11_decree_39 : decode cX11_decree 39 = .ok (.aload_n 0, 1) := by decide +kernel
theorem dX11_decree_40 : decode cX11_decree 40 = .ok (.iconst 4, 1) := by decide +kernel
theorem dX11_decree_41 : decode cX11_decree 41 = .ok (.invokevirtual 112, 3) := by decide +kernel
theorem dX11_decree_44 : decode cX11_decree 44 = .ok (.lreturn, 1) := by decide +kernel
theorem dX11_decree_45 : decode cX11_decree 45 = .ok (.aload_n 0, 1) := by decide +kernel
theorem dX11_decree_46 : decode cX11_decree 46 = .ok (.getfield 13, 3) := by decide +kernel
theorem dX11_decree_49 : decode cX11_decree 49 = .ok (.aload_n 0, 1) := by decide +kernel
theorem dX11_decree_50 : decode cX11_decree 50 = .ok (.getfield 127, 3) := by decide +kernel
theorem dX11_decree_53 : decode cX11_decree 53 = .ok (.iload_n 1, 1) := by decide +kernel
theorem dX11_decree_54 : decode cX11_decree 54 = .ok (.iastore, 1) := by decide +kernel
theorem dX11_decree_55 : decode cX11_decree 55 = .ok (.aload_n 0, 1) := by decide +kernel
theorem dX11_decree_56 : decode cX11_decree 56 = .ok (.getfield 16, 3) := by decide +kernel
theorem dX11_decree_59 : decode cX11_decree 59 = .ok (.aload_n 0, 1) := by decide +kernel
theorem dX11_decree_60 : decode cX11_decree 60 = .ok (.getfield 127, 3) := by decide +kernel
theorem dX11_decree_63 : decode cX11_decree 63 = .ok (.iload_n 2, 1) := by decide +kernel
theorem dX11_decree_64 : decode cX11_decree 64 = .ok (.iastore, 1) := by decide +kernel
theorem dX11_decree_65 : decode cX11_decree 65 = .ok (.aload_n 0, 1) := by decide +kernel
theorem dX11_decree_66 : decode cX11_decree 66 = .ok (.getfield 19, 3) := by decide +kernel
theorem dX11_decree_69 : decode cX11_decree 69 = .ok (.aload_n 0, 1) := by decide +kernel
theorem dX11_decree_70 : decode cX11_decree 70 = .ok (.getfield 127, 3) := by decide +kernel
theorem dX11_decree_73 : decode cX11_decree 73 = .ok (.iload_n 3, 1) := by decide +kernel
theorem dX11_decree_74 : decode cX11_decree 74 = .ok (.iastore, 1) := by decide +kernel
theorem dX11_decree_75 : decode cX11_decree 75 = .ok (.aload_n 0, 1) := by decide +kernel
theorem dX11_decree_76 : decode cX11_decree 76 = .ok (.getfield 22, 3) := by decide +kernel
theorem dX11_decree_79 : decode cX11_decree 79 = .ok (.aload_n 0, 1) := by decide +kernel
theorem dX11_decree_80 : decode cX11_decree 80 = .ok (.getfield 127, 3) := by decide +kernel
theorem dX11_decree_83 : decode cX11_decree 83 = .ok (.aload_n 0, 1) := by decide +kernel
theorem dX11_decree_84 : decode cX11_decree 84 = .ok (.getfield 108, 3) := by decide +kernel
theorem dX11_decree_87 : decode cX11_decree 87 = .ok (.iastore, 1) := by decide +kernel
theorem dX11_decree_88 : decode cX11_decree 88 = .ok (.aload_n 0, 1) := by decide +kernel
theorem dX11_decree_89 : decode cX11_decree 89 = .ok (.dup, 1) := by decide +kernel
theorem dX11_decree_90 : decode cX11_decree 90 = .ok (.getfield 127, 3) := by decide +kernel
theorem dX11_decree_93 : decode cX11_decree 93 = .ok (.iconst 1, 1) := by decide +kernel
theorem dX11_decree_94 : decode cX11_decree 94 = .ok (.iadd, 1) := by decide +kernel
theorem dX11_decree_95 : decode cX11_decree 95 = .ok (.putfield 127, 3) := by decide +kernel
theorem dX11_decree_98 : decode cX11_decree 98 = .ok (.aload_n 0, 1) := by decide +kernel
theorem dX11_decree_99 : decode cX11_decree 99 = .ok (.getfield 127, 3) := by decide +kernel
theorem dX11_decree_102 : decode cX11_decree 102 = .ok (.i2l, 1) := by decide +kernel
theorem dX11_decree_103 : decode cX11_decree 103 = .ok (.lreturn, 1) := by decide +kernel
theorem dX11_inForce_0 : decode cX11_inForce 0 = .ok (.iconst (-1), 1) := by decide +kernel
theorem dX11_inForce_1 : decode cX11_inForce 1 = .ok (.istore 4, 2) := by decide +kernel
theorem dX11_inForce_3 : decode cX11_inForce 3 = .ok (.iconst 0, 1) := by decide +kernel
theorem dX11_inForce_4 : decode cX11_inForce 4 = .ok (.istore 5, 2) := by decide +kernel
theorem dX11_inForce_6 : decode cX11_inForce 6 = .ok (.iload 5, 2) := by decide +kernel
theorem dX11_inForce_8 : decode cX11_inForce 8 = .ok (.aload_n 0, 1) := by decide +kernel
theorem dX11_inForce_9 : decode cX11_inForce 9 = .ok (.getfield 127, 3) := by decide +kernel
theorem dX11_inForce_12 : decode cX11_inForce 12 = .ok (.if_icmp .ge 85, 3) := by decide +kernel
theorem dX11_inForce_15 : decode cX11_inForce 15 = .ok (.aload_n 0, 1) := by decide +kernel
theorem dX11_inForce_16 : decode cX11_inForce 16 = .ok (.getfield 13, 3) := by decide +kernel
theorem dX11_inForce_19 : decode cX11_inForce 19 = .ok (.iload 5, 2) := by decide +kernel
theorem dX11_inForce_21 : decode cX11_inForce 21 = .ok (.iaload, 1) := by decide +kernel
theorem dX11_inForce_22 : decode cX11_inForce 22 = .ok (.iload_n 1, 1) := by decide +kernel
theorem dX11_inForce_23 : decode cX11_inForce 23 = .ok (.if_icmp .ne 29, 3) := by decide +kernel
theorem dX11_inForce_26 : decode cX11_inForce 26 = .ok (.aload_n 0, 1) := by decide +kernel
theorem dX11_inForce_27 : decode cX11_inForce 27 = .ok (.getfield 22, 3) := by decide +kernel
theorem dX11_inForce_30 : decode cX11_inForce 30 = .ok (.iload 5, 2) := by decide +kernel
theorem dX11_inForce_32 : decode cX11_inForce 32 = .ok (.iaload, 1) := by decide +kernel
theorem dX11_inForce_33 : decode cX11_inForce 33 = .ok (.iload_n 3, 1) := by decide +kernel
theorem dX11_inForce_34 : decode cX11_inForce 34 = .ok (.if_icmp .gt 18, 3) := by decide +kernel
theorem dX11_inForce_37 : decode cX11_inForce 37 = .ok (.aload_n 0, 1) := by decide +kernel
theorem dX11_inForce_38 : decode cX11_inForce 38 = .ok (.getfield 16, 3) := by decide +kernel
theorem dX11_inForce_41 : decode cX11_inForce 41 = .ok (.iload 5, 2) := by decide +kernel
theorem dX11_inForce_43 : decode cX11_inForce 43 = .ok (.iaload, 1) := by decide +kernel
theorem dX11_inForce_44 : decode cX11_inForce 44 = .ok (.iload_n 2, 1) := by decide +kernel
theorem dX11_inForce_45 : decode cX11_inForce 45 = .ok (.if_icmp .gt 7, 3) := by decide +kernel
theorem dX11_inForce_48 : decode cX11_inForce 48 = .ok (.iconst 1, 1) := by decide +kernel
theorem dX11_inForce_49 : decode cX11_inForce 49 = .ok (.goto 4, 3) := by decide +kernel
theorem dX11_inForce_52 : decode cX11_inForce 52 = .ok (.iconst 0, 1) := by decide +kernel
theorem dX11_inForce_53 : decode cX11_inForce 53 = .ok (.istore 6, 2) := by decide +kernel
theorem dX11_inForce_55 : decode cX11_inForce 55 = .ok (.iload 6, 2) := by decide +kernel
theorem dX11_inForce_57 : decode cX11_inForce 57 = .ok (.ifCond .eq 30, 3) := by decide +kernel
theorem dX11_inForce_60 : decode cX11_inForce 60 = .ok (.iload 4, 2) := by decide +kernel
theorem dX11_inForce_62 : decode cX11_inForce 62 = .ok (.ifCond .lt 20, 3) := by decide +kernel
theorem dX11_inForce_65 : decode cX11_inForce 65 = .ok (.aload_n 0, 1) := by decide +kernel
theorem dX11_inForce_66 : decode cX11_inForce 66 = .ok (.getfield 16, 3) := by decide +kernel
theorem dX11_inForce_69 : decode cX11_inForce 69 = .ok (.iload 5, 2) := by decide +kernel
theorem dX11_inForce_71 : decode cX11_inForce 71 = .ok (.iaload, 1) := by decide +kernel
theorem dX11_inForce_72 : decode cX11_inForce 72 = .ok (.aload_n 0, 1) := by decide +kernel
theorem dX11_inForce_73 : decode cX11_inForce 73 = .ok (.getfield 16, 3) := by decide +kernel
theorem dX11_inForce_76 : decode cX11_inForce 76 = .ok (.iload 4, 2) := by decide +kernel
theorem dX11_inForce_78 : decode cX11_inForce 78 = .ok (.iaload, 1) := by decide +kernel
theorem dX11_inForce_79 : decode cX11_inForce 79 = .ok (.if_icmp .lt 8, 3) := by decide +kernel
theorem dX11_inForce_82 : decode cX11_inForce 82 = .ok (.iload 5, 2) := by decide +kernel
theorem dX11_inForce_84 : decode cX11_inForce 84 = .ok (.goto 5, 3) := by decide +kernel
theorem dX11_inForce_87 : decode cX11_inForce 87 = .ok (.iload 4, 2) := by decide +kernel
theorem dX11_inForce_89 : decode cX11_inForce 89 = .ok (.istore 4, 2) := by decide +kernel
theorem dX11_inForce_91 : decode cX11_inForce 91 = .ok (.iinc 5 1, 3) := by decide +kernel
theorem dX11_inForce_94 : decode cX11_inForce 94 = .ok (.goto (-88), 3) := by decide +kernel
theorem dX11_inForce_97 : decode cX11_inForce 97 = .ok (.iload 4, 2) := by decide +kernel
theorem dX11_inForce_99 : decode cX11_inForce 99 = .ok (.ifCond .lt 11, 3) := by decide +kernel
theorem dX11_inForce_102 : decode cX11_inForce 102 = .ok (.aload_n 0, 1) := by decide +kernel
theorem dX11_inForce_103 : decode cX11_inForce 103 = .ok (.getfield 19, 3) := by decide +kernel
theorem dX11_inForce_106 : decode cX11_inForce 106 = .ok (.iload 4, 2) := by decide +kernel
theorem dX11_inForce_108 : decode cX11_inForce 108 = .ok (.iaload, 1) := by decide +kernel
theorem dX11_inForce_109 : decode cX11_inForce 109 = .ok (.ireturn, 1) := by decide +kernel
theorem dX11_inForce_110 : decode cX11_inForce 110 = .ok (.iload_n 1, 1) := by decide +kernel
theorem dX11_inForce_111 : decode cX11_inForce 111 = .ok (.iconst 1, 1) := by decide +kernel
theorem dX11_inForce_112 : decode cX11_inForce 112 = .ok (.if_icmp .ne 9, 3) := by decide +kernel
theorem dX11_inForce_115 : decode cX11_inForce 115 = .ok (.sipush 500, 3) := by decide +kernel
theorem dX11_inForce_118 : decode cX11_inForce 118 = .ok (.goto 26, 3) := by decide +kernel
theorem dX11_inForce_121 : decode cX11_inForce 121 = .ok (.iload_n 1, 1) := by decide +kernel
theorem dX11_inForce_122 : decode cX11_inForce 122 = .ok (.iconst 2, 1) := by decide +kernel
theorem dX11_inForce_123 : decode cX11_inForce 123 = .ok (.if_icmp .ne 9, 3) := by decide +kernel
theorem dX11_inForce_126 : decode cX11_inForce 126 = .ok (.sipush 400, 3) := by decide +kernel
theorem dX11_inForce_129 : decode cX11_inForce 129 = .ok (.goto 15, 3) := by decide +kernel
theorem dX11_inForce_132 : decode cX11_inForce 132 = .ok (.iload_n 1, 1) := by decide +kernel
theorem dX11_inForce_133 : decode cX11_inForce 133 = .ok (.iconst 5, 1) := by decide +kernel
theorem dX11_inForce_134 : decode cX11_inForce 134 = .ok (.if_icmp .ne 9, 3) := by decide +kernel
theorem dX11_inForce_137 : decode cX11_inForce 137 = .ok (.sipush 180, 3) := by decide +kernel
theorem dX11_inForce_140 : decode cX11_inForce 140 = .ok (.goto 4, 3) := by decide +kernel
theorem dX11_inForce_143 : decode cX11_inForce 143 = .ok (.iconst 0, 1) := by decide +kernel
theorem dX11_inForce_144 : decode cX11_inForce 144 = .ok (.ireturn, 1) := by decide +kernel
theorem dX11_force_0 : decode cX11_force 0 = .ok (.iload_n 1, 1) := by decide +kernel
theorem dX11_force_1 : decode cX11_force 1 = .ok (.iconst 0, 1) := by decide +kernel
theorem dX11_force_2 : decode cX11_force 2 = .ok (.iconst 5, 1) := by decide +kernel
theorem dX11_force_3 : decode cX11_force 3 = .ok (.invokestatic 104, 3) := by decide +kernel
theorem dX11_force_6 : decode cX11_force 6 = .ok (.ifCond .eq 17, 3) := by decide +kernel
theorem dX11_force_9 : decode cX11_force 9 = .ok (.iload_n 2, 1) := by decide +kernel
theorem dX11_force_10 : decode cX11_force 10 = .ok (.invokestatic 119, 3) := by decide +kernel
theorem dX11_force_13 : decode cX11_force 13 = .ok (.ifCond .eq 10, 3) := by decide +kernel
theorem dX11_force_16 : decode cX11_force 16 = .ok (.iload_n 3, 1) := by decide +kernel
theorem dX11_force_17 : decode cX11_force 17 = .ok (.invokestatic 119, 3) := by decide +kernel
theorem dX11_force_20 : decode cX11_force 20 = .ok (.ifCond .ne 9, 3) := by decide +kernel
theorem dX11_force_23 : decode cX11_force 23 = .ok (.aload_n 0, 1) := by decide +kernel
theorem dX11_force_24 : decode cX11_force 24 = .ok (.iconst 1, 1) := by decide +kernel
theorem dX11_force_25 : decode cX11_force 25 = .ok (.invokevirtual 112, 3) := by decide +kernel
theorem dX11_force_28 : decode cX11_force 28 = .ok (.lreturn, 1) := by decide +kernel
theorem dX11_force_29 : decode cX11_force 29 = .ok (.aload_n 0, 1) := by decide +kernel
theorem dX11_force_30 : decode cX11_force 30 = .ok (.iload_n 1, 1) := by decide +kernel
theorem dX11_force_31 : decode cX11_force 31 = .ok (.iload_n 2, 1) := by decide +kernel
theorem dX11_force_32 : decode cX11_force 32 = .ok (.iload_n 3, 1) := by decide +kernel
theorem dX11_force_33 : decode cX11_force 33 = .ok (.invokevirtual 130, 3) := by decide +kernel
theorem dX11_force_36 : decode cX11_force 36 = .ok (.i2l, 1) := by decide +kernel
theorem dX11_force_37 : decode cX11_force 37 = .ok (.lreturn, 1) := by decide +kernel
theorem dX11_rate_0 : decode cX11_rate 0 = .ok (.iload_n 1, 1) := by decide +kernel
theorem dX11_rate_1 : decode cX11_rate 1 = .ok (.iconst 1, 1) := by decide +kernel
theorem dX11_rate_2 : decode cX11_rate 2 = .ok (.bipush 20, 2) := by decide +kernel
theorem dX11_rate_4 : decode cX11_rate 4 = .ok (.invokestatic 104, 3) := by decide +kernel
theorem dX11_rate_7 : decode cX11_rate 7 = .ok (.ifCond .eq 15, 3) := by decide +kernel
theorem dX11_rate_10 : decode cX11_rate 10 = .ok (.iload_n 2, 1) := by decide +kernel
theorem dX11_rate_11 : decode cX11_rate 11 = .ok (.bipush 100, 2) := by decide +kernel
theorem dX11_rate_13 : decode cX11_rate 13 = .ok (.sipush 1000, 3) := by decide +kernel
theorem dX11_rate_16 : decode cX11_rate 16 = .ok (.invokestatic 104, 3) := by decide +kernel
theorem dX11_rate_19 : decode cX11_rate 19 = .ok (.ifCond .ne 9, 3) := by decide +kernel
theorem dX11_rate_22 : decode cX11_rate 22 = .ok (.aload_n 0, 1) := by decide +kernel
theorem dX11_rate_23 : decode cX11_rate 23 = .ok (.iconst 1, 1) := by decide +kernel
theorem dX11_rate_24 : decode cX11_rate 24 = .ok (.invokevirtual 112, 3) := by decide +kernel
theorem dX11_rate_27 : decode cX11_rate 27 = .ok (.lreturn, 1) := by decide +kernel
theorem dX11_rate_28 : decode cX11_rate 28 = .ok (.aload_n 0, 1) := by decide +kernel
theorem dX11_rate_29 : decode cX11_rate 29 = .ok (.getfield 25, 3) := by decide +kernel
theorem dX11_rate_32 : decode cX11_rate 32 = .ok (.iload_n 1, 1) := by decide +kernel
theorem dX11_rate_33 : decode cX11_rate 33 = .ok (.iaload, 1) := by decide +kernel
theorem dX11_rate_34 : decode cX11_rate 34 = .ok (.istore_n 3, 1) := by decide +kernel
theorem dX11_rate_35 : decode cX11_rate 35 = .ok (.aload_n 0, 1) := by decide +kernel
theorem dX11_rate_36 : decode cX11_rate 36 = .ok (.getfield 25, 3) := by decide +kernel
theorem dX11_rate_39 : decode cX11_rate 39 = .ok (.iload_n 1, 1) := by decide +kernel
theorem dX11_rate_40 : decode cX11_rate 40 = .ok (.iload_n 2, 1) := by decide +kernel
theorem dX11_rate_41 : decode cX11_rate 41 = .ok (.iastore, 1) := by decide +kernel
theorem dX11_rate_42 : decode cX11_rate 42 = .ok (.iload_n 3, 1) := by decide +kernel
theorem dX11_rate_43 : decode cX11_rate 43 = .ok (.i2l, 1) := by decide +kernel
theorem dX11_rate_44 : decode cX11_rate 44 = .ok (.lreturn, 1) := by decide +kernel
theorem dX11_isChild_0 : decode cX11_isChild 0 = .ok (.iload_n 1, 1) := by decide +kernel
theorem dX11_isChild_1 : decode cX11_isChild 1 = .ok (.iconst 0, 1) := by decide +kernel
theorem dX11_isChild_2 : decode cX11_isChild 2 = .ok (.aload_n 0, 1) := by decide +kernel
theorem dX11_isChild_3 : decode cX11_isChild 3 = .ok (.getfield 134, 3) := by decide +kernel
theorem dX11_isChild_6 : decode cX11_isChild 6 = .ok (.iconst 1, 1) := by decide +kernel
theorem dX11_isChild_7 : decode cX11_isChild 7 = .ok (.isub, 1) := by decide +kernel
theorem dX11_isChild_8 : decode cX11_isChild 8 = .ok (.invokestatic 104, 3) := by decide +kernel
theorem dX11_isChild_11 : decode cX11_isChild 11 = .ok (.ireturn, 1) := by decide +kernel
theorem dX11_isDeposit_0 : decode cX11_isDeposit 0 = .ok (.iload_n 1, 1) := by decide +kernel
theorem dX11_isDeposit_1 : decode cX11_isDeposit 1 = .ok (.iconst 0, 1) := by decide +kernel
theorem dX11_isDeposit_2 : decode cX11_isDeposit 2 = .ok (.aload_n 0, 1) := by decide +kernel
theorem dX11_isDeposit_3 : decode cX11_isDeposit 3 = .ok (.getfield 137, 3) := by decide +kernel
theorem dX11_isDeposit_6 : decode cX11_isDeposit 6 = .ok (.iconst 1, 1) := by decide +kernel
theorem dX11_isDeposit_7 : decode cX11_isDeposit 7 = .ok (.isub, 1) := by decide +kernel
theorem dX11_isDeposit_8 : decode cX11_isDeposit 8 = .ok (.invokestatic 104, 3) := by decide +kernel
theorem dX11_isDeposit_11 : decode cX11_isDeposit 11 = .ok (.ireturn, 1) := by decide +kernel
theorem dX11_isHolder_0 : decode cX11_isHolder 0 = .ok (.iload_n 0, 1) := by decide +kernel
theorem dX11_isHolder_1 : decode cX11_isHolder 1 = .ok (.iconst 0, 1) := by decide +kernel
theorem dX11_isHolder_2 : decode cX11_isHolder 2 = .ok (.bipush 9, 2) := by decide +kernel
theorem dX11_isHolder_4 : decode cX11_isHolder 4 = .ok (.invokestatic 104, 3) := by decide +kernel
theorem dX11_isHolder_7 : decode cX11_isHolder 7 = .ok (.ireturn, 1) := by decide +kernel
theorem dX11_child_0 : decode cX11_child 0 = .ok (.iload_n 1, 1) := by decide +kernel
theorem dX11_child_1 : decode cX11_child 1 = .ok (.iconst 0, 1) := by decide +kernel
theorem dX11_child_2 : decode cX11_child 2 = .ok (.aload_n 0, 1) := by decide +kernel
theorem dX11_child_3 : decode cX11_child 3 = .ok (.getfield 108, 3) := by decide +kernel
theorem dX11_child_6 : decode cX11_child 6 = .ok (.invokestatic 104, 3) := by decide +kernel
theorem dX11_child_9 : decode cX11_child 9 = .ok (.ifCond .ne 9, 3) := by decide +kernel
theorem dX11_child_12 : decode cX11_child 12 = .ok (.aload_n 0, 1) := by decide +kernel
theorem dX11_child_13 : decode cX11_child 13 = .ok (.iconst 1, 1) := by decide +kernel
theorem dX11_child_14 : decode cX11_child 14 = .ok (.invokevirtual 112, 3) := by decide +kernel
theorem dX11_child_17 : decode cX11_child 17 = .ok (.lreturn, 1) := by decide +kernel
theorem dX11_child_18 : decode cX11_child 18 = .ok (.aload_n 0, 1) := by decide +kernel
theorem dX11_child_19 : decode cX11_child 19 = .ok (.getfield 134, 3) := by decide +kernel
theorem dX11_child_22 : decode cX11_child 22 = .ok (.bipush 30, 2) := by decide +kernel
theorem dX11_child_24 : decode cX11_child 24 = .ok (.if_icmp .ne 9, 3) := by decide +kernel
theorem dX11_child_27 : decode cX11_child 27 = .ok (.aload_n 0, 1) := by decide +kernel
theorem dX11_child_28 : decode cX11_child 28 = .ok (.iconst 4, 1) := by decide +kernel
theorem dX11_child_29 : decode cX11_child 29 = .ok (.invokevirtual 112, 3) := by decide +kernel
theorem dX11_child_32 : decode cX11_child 32 = .ok (.lreturn, 1) := by decide +kernel
theorem dX11_child_33 : decode cX11_child 33 = .ok (.aload_n 0, 1) := by decide +kernel
theorem dX11_child_34 : decode cX11_child 34 = .ok (.getfield 28, 3) := by decide +kernel
theorem dX11_child_37 : decode cX11_child 37 = .ok (.aload_n 0, 1) := by decide +kernel
theorem dX11_child_38 : decode cX11_child 38 = .ok (.getfield 134, 3) := by decide +kernel
theorem dX11_child_41 : decode cX11_child 41 = .ok (.iload_n 1, 1) := by decide +kernel
theorem dX11_child_42 : decode cX11_child 42 = .ok (.iastore, 1) := by decide +kernel
theorem dX11_child_43 : decode cX11_child 43 = .ok (.aload_n 0, 1) := by decide +kernel
theorem dX11_child_44 : decode cX11_child 44 = .ok (.dup, 1) := by decide +kernel
theorem dX11_child_45 : decode cX11_child 45 = .ok (.getfield 134, 3) := by decide +kernel
theorem dX11_child_48 : decode cX11_child 48 = .ok (.iconst 1, 1) := by decide +kernel
theorem dX11_child_49 : decode cX11_child 49 = .ok (.iadd, 1) := by decide +kernel
theorem dX11_child_50 : decode cX11_child 50 = .ok (.putfield 134, 3) := by decide +kernel
theorem dX11_child_53 : decode cX11_child 53 = .ok (.aload_n 0, 1) := by decide +kernel
theorem dX11_child_54 : decode cX11_child 54 = .ok (.getfield 134, 3) := by decide +kernel
theorem dX11_child_57 : decode cX11_child 57 = .ok (.iconst 1, 1) := by decide +kernel
theorem dX11_child_58 : decode cX11_child 58 = .ok (.isub, 1) := by decide +kernel
theorem dX11_child_59 : decode cX11_child 59 = .ok (.i2l, 1) := by decide +kernel
theorem dX11_child_60 : decode cX11_child 60 = .ok (.lreturn, 1) := by decide +kernel
theorem dX11_fate_0 : decode cX11_fate 0 = .ok (.aload_n 0, 1) := by decide +kernel
theorem dX11_fate_1 : decode cX11_fate 1 = .ok (.iload_n 1, 1) := by decide +kernel
theorem dX11_fate_2 : decode cX11_fate 2 = .ok (.invokevirtual 140, 3) := by decide +kernel
theorem dX11_fate_5 : decode cX11_fate 5 = .ok (.ifCond .eq 33, 3) := by decide +kernel
theorem dX11_fate_8 : decode cX11_fate 8 = .ok (.iload_n 2, 1) := by decide +kernel
theorem dX11_fate_9 : decode cX11_fate 9 = .ok (.iconst 0, 1) := by decide +kernel
theorem dX11_fate_10 : decode cX11_fate 10 = .ok (.iconst 3, 1) := by decide +kernel
theorem dX11_fate_11 : decode cX11_fate 11 = .ok (.invokestatic 104, 3) := by decide +kernel
theorem dX11_fate_14 : decode cX11_fate 14 = .ok (.ifCond .eq 24, 3) := by decide +kernel
theorem dX11_fate_17 : decode cX11_fate 17 = .ok (.iload_n 2, 1) := by decide +kernel
theorem dX11_fate_18 : decode cX11_fate 18 = .ok (.iconst 3, 1) := by decide +kernel
theorem dX11_fate_19 : decode cX11_fate 19 = .ok (.if_icmp .ge 25, 3) := by decide +kernel
theorem dX11_fate_22 : decode cX11_fate 22 = .ok (.iload_n 3, 1) := by decide +kernel
theorem dX11_fate_23 : decode cX11_fate 23 = .ok (.aload_n 0, 1) := by decide +kernel
theorem dX11_fate_24 : decode cX11_fate 24 = .ok (.getfield 28, 3) := by decide +kernel
theorem dX11_fate_27 : decode cX11_fate 27 = .ok (.iload_n 1, 1) := by decide +kernel
theorem dX11_fate_28 : decode cX11_fate 28 = .ok (.iaload, 1) := by decide +kernel
theorem dX11_fate_29 : decode cX11_fate 29 = .ok (.sipush 1199, 3) := by decide +kernel
theorem dX11_fate_32 : decode cX11_fate 32 = .ok (.invokestatic 104, 3) := by decide +kernel
theorem dX11_fate_35 : decode cX11_fate 35 = .ok (.ifCond .ne 9, 3) := by decide +kernel
theorem dX11_fate_38 : decode cX11_fate 38 = .ok (.aload_n 0, 1) := by decide +kernel
theorem dX11_fate_39 : decode cX11_fate 39 = .ok (.iconst 1, 1) := by decide +kernel
theorem dX11_fate_40 : decode cX11_fate 40 = .ok (.invokevirtual 112, 3) := by decide +kernel
theorem dX11_fate_43 : decode cX11_fate 43 = .ok (.lreturn, 1) := by decide +kernel
theorem dX11_fate_44 : decode cX11_fate 44 = .ok (.aload_n 0, 1) := by decide +kernel
theorem dX11_fate_45 : decode cX11_fate 45 = .ok (.getfield 143, 3) := by decide +kernel
theorem dX11_fate_48 : decode cX11_fate 48 = .ok (.bipush 90, 2) := by decide +kernel
theorem dX11_fate_50 : decode cX11_fate 50 = .ok (.if_icmp .ne 9, 3) := by decide +kernel
theorem dX11_fate_53 : decode cX11_fate 53 = .ok (.aload_n 0, 1) := by decide +kernel
theorem dX11_fate_54 : decode cX11_fate 54 = .ok (.iconst 4, 1) := by decide +kernel
theorem dX11_fate_55 : decode cX11_fate 55 = .ok (.invokevirtual 112, 3) := by decide +kernel
theorem dX11_fate_58 : decode cX11_fate 58 = .ok (.lreturn, 1) := by decide +kernel
theorem dX11_fate_59 : decode cX11_fate 59 = .ok (.aload_n 0, 1) := by decide +kernel
theorem dX11_fate_60 : decode cX11_fate 60 = .ok (.getfield 31, 3) := by decide +kernel
theorem dX11_fate_63 : decode cX11_fate 63 = .ok (.aload_n 0, 1) := by decide +kernel
theorem dX11_fate_64 : decode cX11_fate 64 = .ok (.getfield 143, 3) := by decide +kernel
theorem dX11_fate_67 : decode cX11_fate 67 = .ok (.iload_n 1, 1) := by decide +kernel
theorem dX11_fate_68 : decode cX11_fate 68 = .ok (.iastore, 1) := by decide +kernel
theorem dX11_fate_69 : decode cX11_fate 69 = .ok (.aload_n 0, 1) := by decide +kernel
theorem dX11_fate_70 : decode cX11_fate 70 = .ok (.getfield 34, 3) := by decide +kernel
theorem dX11_fate_73 : decode cX11_fate 73 = .ok (.aload_n 0, 1) := by decide +kernel
theorem dX11_fate_74 : decode cX11_fate 74 = .ok (.getfield 143, 3) := by decide +kernel
theorem dX11_fate_77 : decode cX11_fate 77 = .ok (.iload_n 2, 1) := by decide +kernel
theorem dX11_fate_78 : decode cX11_fate 78 = .ok (.iastore, 1) := by decide +kernel
theorem dX11_fate_79 : decode cX11_fate 79 = .ok (.aload_n 0, 1) := by decide +kernel
theorem dX11_fate_80 : decode cX11_fate 80 = .ok (.getfield 37, 3) := by decide +kernel
theorem dX11_fate_83 : decode cX11_fate 83 = .ok (.aload_n 0, 1) := by decide +kernel
theorem dX11_fate_84 : decode cX11_fate 84 = .ok (.getfield 143, 3) := by decide +kernel
theorem dX11_fate_87 : decode cX11_fate 87 = .ok (.iload_n 3, 1) := by decide +kernel
theorem dX11_fate_88 : decode cX11_fate 88 = .ok (.iastore, 1) := by decide +kernel
theorem dX11_fate_89 : decode cX11_fate 89 = .ok (.aload_n 0, 1) := by decide +kernel
theorem dX11_fate_90 : decode cX11_fate 90 = .ok (.getfield 40, 3) := by decide +kernel
theorem dX11_fate_93 : decode cX11_fate 93 = .ok (.aload_n 0, 1) := by decide +kernel
theorem dX11_fate_94 : decode cX11_fate 94 = .ok (.getfield 143, 3) := by decide +kernel
theorem dX11_fate_97 : decode cX11_fate 97 = .ok (.aload_n 0, 1) := by decide +kernel
theorem dX11_fate_98 : decode cX11_fate 98 = .ok (.getfield 108, 3) := by decide +kernel
theorem dX11_fate_101 : decode cX11_fate 101 = .ok (.iastore, 1) := by decide +kernel
theorem dX11_fate_102 : decode cX11_fate 102 = .ok (.aload_n 0, 1) := by decide +kernel
theorem dX11_fate_103 : decode cX11_fate 103 = .ok (.dup, 1) := by decide +kernel
theorem dX11_fate_104 : decode cX11_fate 104 = .ok (.getfield 143, 3) := by decide +kernel
theorem dX11_fate_107 : decode cX11_fate 107 = .ok (.iconst 1, 1) := by decide +kernel
theorem dX11_fate_108 : decode cX11_fate 108 = .ok (.iadd, 1) := by decide +kernel
theorem dX11_fate_109 : decode cX11_fate 109 = .ok (.putfield 143, 3) := by decide +kernel
theorem dX11_fate_112 : decode cX11_fate 112 = .ok (.aload_n 0, 1) := by decide +kernel
theorem dX11_fate_113 : decode cX11_fate 113 = .ok (.getfield 143, 3) := by decide +kernel
theorem dX11_fate_116 : decode cX11_fate 116 = .ok (.i2l, 1) := by decide +kernel
theorem dX11_fate_117 : decode cX11_fate 117 = .ok (.lreturn, 1) := by decide +kernel
theorem dX11_fateAt_0 : decode cX11_fateAt 0 = .ok (.iconst (-1), 1) := by decide +kernel
theorem dX11_fateAt_1 : decode cX11_fateAt 1 = .ok (.istore_n 3, 1) := by decide +kernel
theorem dX11_fateAt_2 : decode cX11_fateAt 2 = .ok (.iconst 0, 1) := by decide +kernel
theorem dX11_fateAt_3 : decode cX11_fateAt 3 = .ok (.istore 4, 2) := by decide +kernel
theorem dX11_fateAt_5 : decode cX11_fateAt 5 = .ok (.iload 4, 2) := by decide +kernel
theorem dX11_fateAt_7 : decode cX11_fateAt 7 = .ok (.aload_n 0, 1) := by decide +kernel
theorem dX11_fateAt_8 : decode cX11_fateAt 8 = .ok (.getfield 143, 3) := by decide +kernel
theorem dX11_fateAt_11 : decode cX11_fateAt 11 = .ok (.if_icmp .ge 38, 3) := by decide +kernel
theorem dX11_fateAt_14 : decode cX11_fateAt 14 = .ok (.aload_n 0, 1) := by decide +kernel
theorem dX11_fateAt_15 : decode cX11_fateAt 15 = .ok (.getfield 31, 3) := by decide +kernel
theorem dX11_fateAt_18 : decode cX11_fateAt 18 = .ok (.iload 4, 2) := by decide +kernel
theorem dX11_fateAt_20 : decode cX11_fateAt 20 = .ok (.iaload, 1) := by decide +kernel
theorem dX11_fateAt_21 : decode cX11_fateAt 21 = .ok (.iload_n 1, 1) := by decide +kernel
theorem dX11_fateAt_22 : decode cX11_fateAt 22 = .ok (.if_icmp .ne 19, 3) := by decide +kernel
theorem dX11_fateAt_25 : decode cX11_fateAt 25 = .ok (.aload_n 0, 1) := by decide +kernel
theorem dX11_fateAt_26 : decode cX11_fateAt 26 = .ok (.getfield 40, 3) := by decide +kernel
theorem dX11_fateAt_29 : decode cX11_fateAt 29 = .ok (.iload 4, 2) := by decide +kernel
theorem dX11_fateAt_31 : decode cX11_fateAt 31 = .ok (.iaload, 1) := by decide +kernel
theorem dX11_fateAt_32 : decode cX11_fateAt 32 = .ok (.iload_n 2, 1) := by decide +kernel
theorem dX11_fateAt_33 : decode cX11_fateAt 33 = .ok (.if_icmp .gt 8, 3) := by decide +kernel
theorem dX11_fateAt_36 : decode cX11_fateAt 36 = .ok (.iload 4, 2) := by decide +kernel
theorem dX11_fateAt_38 : decode cX11_fateAt 38 = .ok (.goto 4, 3) := by decide +kernel
theorem dX11_fateAt_41 : decode cX11_fateAt 41 = .ok (.iload_n 3, 1) := by decide +kernel
theorem dX11_fateAt_42 : decode cX11_fateAt 42 = .ok (.istore_n 3, 1) := by decide +kernel
theorem dX11_fateAt_43 : decode cX11_fateAt 43 = .ok (.iinc 4 1, 3) := by decide +kernel
theorem dX11_fateAt_46 : decode cX11_fateAt 46 = .ok (.goto (-41), 3) := by decide +kernel
theorem dX11_fateAt_49 : decode cX11_fateAt 49 = .ok (.iload_n 3, 1) := by decide +kernel
theorem dX11_fateAt_50 : decode cX11_fateAt 50 = .ok (.ifCond .lt 17, 3) := by decide +kernel
theorem dX11_fateAt_53 : decode cX11_fateAt 53 = .ok (.aload_n 0, 1) := by decide +kernel
theorem dX11_fateAt_54 : decode cX11_fateAt 54 = .ok (.getfield 34, 3) := by decide +kernel
theorem dX11_fateAt_57 : decode cX11_fateAt 57 = .ok (.iload_n 3, 1) := by decide +kernel
theorem dX11_fateAt_58 : decode cX11_fateAt 58 = .ok (.iaload, 1) := by decide +kernel
theorem dX11_fateAt_59 : decode cX11_fateAt 59 = .ok (.iconst 3, 1) := by decide +kernel
theorem dX11_fateAt_60 : decode cX11_fateAt 60 = .ok (.if_icmp .ge 7, 3) := by decide +kernel
theorem dX11_fateAt_63 : decode cX11_fateAt 63 = .ok (.iload_n 3, 1) := by decide +kernel
theorem dX11_fateAt_64 : decode cX11_fateAt 64 = .ok (.goto 4, 3) := by decide +kernel
theorem dX11_fateAt_67 : decode cX11_fateAt 67 = .ok (.iconst (-1), 1) := by decide +kernel
theorem dX11_fateAt_68 : decode cX11_fateAt 68 = .ok (.ireturn, 1) := by decide +kernel
theorem dX11_told_0 : decode cX11_told 0 = .ok (.aload_n 0, 1) := by decide +kernel
theorem dX11_told_1 : decode cX11_told 1 = .ok (.iload_n 1, 1) := by decide +kernel
theorem dX11_told_2 : decode cX11_told 2 = .ok (.invokevirtual 140, 3) := by decide +kernel
theorem dX11_told_5 : decode cX11_told 5 = .ok (.ifCond .eq 10, 3) := by decide +kernel
theorem dX11_told_8 : decode cX11_told 8 = .ok (.iload_n 2, 1) := by decide +kernel
theorem dX11_told_9 : decode cX11_told 9 = .ok (.invokestatic 119, 3) := by decide +kernel
theorem dX11_told_12 : decode cX11_told 12 = .ok (.ifCond .ne 9, 3) := by decide +kernel
theorem dX11_told_15 : decode cX11_told 15 = .ok (.aload_n 0, 1) := by decide +kernel
theorem dX11_told_16 : decode cX11_told 16 = .ok (.iconst 1, 1) := by decide +kernel
theorem dX11_told_17 : decode cX11_told 17 = .ok (.invokevirtual 112, 3) := by decide +kernel
theorem dX11_told_20 : decode cX11_told 20 = .ok (.lreturn, 1) := by decide +kernel
theorem dX11_told_21 : decode cX11_told 21 = .ok (.aload_n 0, 1) := by decide +kernel
theorem dX11_told_22 : decode cX11_told 22 = .ok (.iload_n 1, 1) := by decide +kernel
theorem dX11_told_23 : decode cX11_told 23 = .ok (.iload_n 2, 1) := by decide +kernel
theorem dX11_told_24 : decode cX11_told 24 = .ok (.invokevirtual 146, 3) := by decide +kernel
theorem dX11_told_27 : decode cX11_told 27 = .ok (.istore 4, 2) := by decide +kernel
theorem dX11_told_29 : decode cX11_told 29 = .ok (.iload 4, 2) := by decide +kernel
theorem dX11_told_31 : decode cX11_told 31 = .ok (.ifCond .ge 9, 3) := by decide +kernel
theorem dX11_told_34 : decode cX11_told 34 = .ok (.aload_n 0, 1) := by decide +kernel
theorem dX11_told_35 : decode cX11_told 35 = .ok (.iconst 2, 1) := by decide +kernel
theorem dX11_told_36 : decode cX11_told 36 = .ok (.invokevirtual 112, 3) := by decide +kernel
theorem dX11_told_39 : decode cX11_told 39 = .ok (.lreturn, 1) := by decide +kernel
theorem dX11_told_40 : decode cX11_told 40 = .ok (.iload_n 3, 1) := by decide +kernel
theorem dX11_told_41 : decode cX11_told 41 = .ok (.ifCond .eq 14, 3) := by decide +kernel
theorem dX11_told_44 : decode cX11_told 44 = .ok (.aload_n 0, 1) := by decide +kernel
theorem dX11_told_45 : decode cX11_told 45 = .ok (.getfield 37, 3) := by decide +kernel
theorem dX11_told_48 : decode cX11_told 48 = .ok (.iload 4, 2) := by decide +kernel
theorem dX11_told_50 : decode cX11_told 50 = .ok (.iaload, 1) := by decide +kernel
theorem dX11_told_51 : decode cX11_told 51 = .ok (.i2l, 1) := by decide +kernel
theorem dX11_told_52 : decode cX11_told 52 = .ok (.goto 11, 3) := by decide +kernel
theorem dX11_told_55 : decode cX11_told 55 = .ok (.aload_n 0, 1) := by decide +kernel
theorem dX11_told_56 : decode cX11_told 56 = .ok (.getfield 34, 3) := by decide +kernel
theorem dX11_told_59 : decode cX11_told 59 = .ok (.iload 4, 2) := by decide +kernel
theorem dX11_told_61 : decode cX11_told 61 = .ok (.iaload, 1) := by decide +kernel
theorem dX11_told_62 : decode cX11_told 62 = .ok (.i2l, 1) := by decide +kernel
theorem dX11_told_63 : decode cX11_told 63 = .ok (.lreturn, 1) := by decide +kernel
theorem dX11_deposit_0 : decode cX11_deposit 0 = .ok (.iload_n 1, 1) := by decide +kernel
theorem dX11_deposit_1 : decode cX11_deposit 1 = .ok (.iconst 0, 1) := by decide +kernel
theorem dX11_deposit_2 : decode cX11_deposit 2 = .ok (.iconst 2, 1) := by decide +kernel
theorem dX11_deposit_3 : decode cX11_deposit 3 = .ok (.invokestatic 104, 3) := by decide +kernel
theorem dX11_deposit_6 : decode cX11_deposit 6 = .ok (.ifCond .eq 44, 3) := by decide +kernel
theorem dX11_deposit_9 : decode cX11_deposit 9 = .ok (.aload_n 0, 1) := by decide +kernel
theorem dX11_deposit_10 : decode cX11_deposit 10 = .ok (.iload_n 2, 1) := by decide +kernel
theorem dX11_deposit_11 : decode cX11_deposit 11 = .ok (.invokevirtual 140, 3) := by decide +kernel
theorem dX11_deposit_14 : decode cX11_deposit 14 = .ok (.ifCond .eq 36, 3) := by decide +kernel
theorem dX11_deposit_17 : decode cX11_deposit 17 = .ok (.iload_n 1, 1) := by decide +kernel
theorem dX11_deposit_18 : decode cX11_deposit 18 = .ok (.iconst 1, 1) := by decide +kernel
theorem dX11_deposit_19 : decode cX11_deposit 19 = .ok (.if_icmp .ne 11, 3) := by decide +kernel
theorem dX11_deposit_22 : decode cX11_deposit 22 = .ok (.aload_n 0, 1) := by decide +kernel
theorem dX11_deposit_23 : decode cX11_deposit 23 = .ok (.iload_n 3, 1) := by decide +kernel
theorem dX11_deposit_24 : decode cX11_deposit 24 = .ok (.invokevirtual 140, 3) := by decide +kernel
theorem dX11_deposit_27 : decode cX11_deposit 27 = .ok (.ifCond .eq 23, 3) := by decide +kernel
theorem dX11_deposit_30 : decode cX11_deposit 30 = .ok (.iload 5, 2) := by decide +kernel
theorem dX11_deposit_32 : decode cX11_deposit 32 = .ok (.invokestatic 150, 3) := by decide +kernel
theorem dX11_deposit_35 : decode cX11_deposit 35 = .ok (.ifCond .eq 15, 3) := by decide +kernel
theorem dX11_deposit_38 : decode cX11_deposit 38 = .ok (.iload 4, 2) := by decide +kernel
theorem dX11_deposit_40 : decode cX11_deposit 40 = .ok (.iconst 1, 1) := by decide +kernel
theorem dX11_deposit_41 : decode cX11_deposit 41 = .ok (.sipush 10000, 3) := by decide +kernel
theorem dX11_deposit_44 : decode cX11_deposit 44 = .ok (.invokestatic 104, 3) := by decide +kernel
theorem dX11_deposit_47 : decode cX11_deposit 47 = .ok (.ifCond .ne 9, 3) := by decide +kernel
theorem dX11_deposit_50 : decode cX11_deposit 50 = .ok (.aload_n 0, 1) := by decide +kernel
theorem dX11_deposit_51 : decode cX11_deposit 51 = .ok (.iconst 1, 1) := by decide +kernel
theorem dX11_deposit_52 : decode cX11_deposit 52 = .ok (.invokevirtual 112, 3) := by decide +kernel
theorem dX11_deposit_55 : decode cX11_deposit 55 = .ok (.lreturn, 1) := by decide +kernel
theorem dX11_deposit_56 : decode cX11_deposit 56 = .ok (.iload_n 1, 1) := by decide +kernel
theorem dX11_deposit_57 : decode cX11_deposit 57 = .ok (.iconst 1, 1) := by decide +kernel
theorem dX11_deposit_58 : decode cX11_deposit 58 = .ok (.if_icmp .ne 14, 3) := by decide +kernel
theorem dX11_deposit_61 : decode cX11_deposit 61 = .ok (.iload_n 2, 1) := by decide +kernel
theorem dX11_deposit_62 : decode cX11_deposit 62 = .ok (.iload_n 3, 1) := by decide +kernel
theorem dX11_deposit_63 : decode cX11_deposit 63 = .ok (.if_icmp .ne 9, 3) := by decide +kernel
theorem dX11_deposit_66 : decode cX11_deposit 66 = .ok (.aload_n 0, 1) := by decide +kernel
theorem dX11_deposit_67 : decode cX11_deposit 67 = .ok (.iconst 5, 1) := by decide +kernel
theorem dX11_deposit_68 : decode cX11_deposit 68 = .ok (.invokevirtual 112, 3) := by decide +kernel
theorem dX11_deposit_71 : decode cX11_deposit 71 = .ok (.lreturn, 1) := by decide +kernel
theorem dX11_deposit_72 : decode cX11_deposit 72 = .ok (.aload_n 0, 1) := by decide +kernel
theorem dX11_deposit_73 : decode cX11_deposit 73 = .ok (.iload_n 2, 1) := by decide +kernel
theorem dX11_deposit_74 : decode cX11_deposit 74 = .ok (.aload_n 0, 1) := by decide +kernel
theorem dX11_deposit_75 : decode cX11_deposit 75 = .ok (.getfield 108, 3) := by decide +kernel
theorem dX11_deposit_78 : decode cX11_deposit 78 = .ok (.invokevirtual 146, 3) := by decide +kernel
theorem dX11_deposit_81 : decode cX11_deposit 81 = .ok (.ifCond .ge 20, 3) := by decide +kernel
theorem dX11_deposit_84 : decode cX11_deposit 84 = .ok (.iload_n 1, 1) := by decide +kernel
theorem dX11_deposit_85 : decode cX11_deposit 85 = .ok (.iconst 1, 1) := by decide +kernel
theorem dX11_deposit_86 : decode cX11_deposit 86 = .ok (.if_icmp .ne 21, 3) := by decide +kernel
theorem dX11_deposit_89 : decode cX11_deposit 89 = .ok (.aload_n 0, 1) := by decide +kernel
theorem dX11_deposit_90 : decode cX11_deposit 90 = .ok (.iload_n 3, 1) := by decide +kernel
theorem dX11_deposit_91 : decode cX11_deposit 91 = .ok (.aload_n 0, 1) := by decide +kernel
theorem dX11_deposit_92 : decode cX11_deposit 92 = .ok (.getfield 108, 3) := by decide +kernel
theorem dX11_deposit_95 : decode cX11_deposit 95 = .ok (.invokevirtual 146, 3) := by decide +kernel
theorem dX11_deposit_98 : decode cX11_deposit 98 = .ok (.ifCond .lt 9, 3) := by decide +kernel
theorem dX11_deposit_101 : decode cX11_deposit 101 = .ok (.aload_n 0, 1) := by decide +kernel
theorem dX11_deposit_102 : decode cX11_deposit 102 = .ok (.iconst 3, 1) := by decide +kernel
theorem dX11_deposit_103 : decode cX11_deposit 103 = .ok (.invokevirtual 112, 3) := by decide +kernel
theorem dX11_deposit_106 : decode cX11_deposit 106 = .ok (.lreturn, 1) := by decide +kernel
theorem dX11_deposit_107 : decode cX11_deposit 107 = .ok (.aload_n 0, 1) := by decide +kernel
theorem dX11_deposit_108 : decode cX11_deposit 108 = .ok (.getfield 137, 3) := by decide +kernel
theorem dX11_deposit_111 : decode cX11_deposit 111 = .ok (.bipush 30, 2) := by decide +kernel
theorem dX11_deposit_113 : decode cX11_deposit 113 = .ok (.if_icmp .ne 9, 3) := by decide +kernel
theorem dX11_deposit_116 : decode cX11_deposit 116 = .ok (.aload_n 0, 1) := by decide +kernel
theorem dX11_deposit_117 : decode cX11_deposit 117 = .ok (.iconst 4, 1) := by decide +kernel
theorem dX11_deposit_118 : decode cX11_deposit 118 = .ok (.invokevirtual 112, 3) := by decide +kernel
theorem dX11_deposit_121 : decode cX11_deposit 121 = .ok (.lreturn, 1) := by decide +kernel
theorem dX11_deposit_122 : decode cX11_deposit 122 = .ok (.aload_n 0, 1) := by decide +kernel
theorem dX11_deposit_123 : decode cX11_deposit 123 = .ok (.getfield 137, 3) := by decide +kernel
theorem dX11_deposit_126 : decode cX11_deposit 126 = .ok (.istore 6, 2) := by decide +kernel
theorem dX11_deposit_128 : decode cX11_deposit 128 = .ok (.aload_n 0, 1) := by decide +kernel
theorem dX11_deposit_129 : decode cX11_deposit 129 = .ok (.iconst 5, 1) := by decide +kernel
theorem dX11_deposit_130 : decode cX11_deposit 130 = .ok (.aload_n 0, 1) := by decide +kernel
theorem dX11_deposit_131 : decode cX11_deposit 131 = .ok (.getfield 108, 3) := by decide +kernel
theorem dX11_deposit_134 : decode cX11_deposit 134 = .ok (.aload_n 0, 1) := by decide +kernel
theorem dX11_deposit_135 : decode cX11_deposit 135 = .ok (.getfield 108, 3) := by decide +kernel
theorem dX11_deposit_138 : decode cX11_deposit 138 = .ok (.invokevirtual 130, 3) := by decide +kernel
theorem dX11_deposit_141 : decode cX11_deposit 141 = .ok (.istore 7, 2) := by decide +kernel
theorem dX11_deposit_143 : decode cX11_deposit 143 = .ok (.iload 7, 2) := by decide +kernel
theorem dX11_deposit_145 : decode cX11_deposit 145 = .ok (.bipush 12, 2) := by decide +kernel
theorem dX11_deposit_147 : decode cX11_deposit 147 = .ok (.idiv, 1) := by decide +kernel
theorem dX11_deposit_148 : decode cX11_deposit 148 = .ok (.bipush 20, 2) := by decide +kernel
theorem dX11_deposit_150 : decode cX11_deposit 150 = .ok (.if_icmp .le 8, 3) := by decide +kernel
theorem dX11_deposit_153 : decode cX11_deposit 153 = .ok (.bipush 20, 2) := by decide +kernel
theorem dX11_deposit_155 : decode cX11_deposit 155 = .ok (.goto 8, 3) := by decide +kernel
theorem dX11_deposit_158 : decode cX11_deposit 158 = .ok (.iload 7, 2) := by decide +kernel
theorem dX11_deposit_160 : decode cX11_deposit 160 = .ok (.bipush 12, 2) := by decide +kernel
theorem dX11_deposit_162 : decode cX11_deposit 162 = .ok (.idiv, 1) := by decide +kernel
theorem dX11_deposit_163 : decode cX11_deposit 163 = .ok (.istore 8, 2) := by decide +kernel
theorem dX11_deposit_165 : decode cX11_deposit 165 = .ok (.aload_n 0, 1) := by decide +kernel
theorem dX11_deposit_166 : decode cX11_deposit 166 = .ok (.getfield 43, 3) := by decide +kernel
theorem dX11_deposit_169 : decode cX11_deposit 169 = .ok (.iload 6, 2) := by decide +kernel
theorem dX11_deposit_171 : decode cX11_deposit 171 = .ok (.iload_n 1, 1) := by decide +kernel
theorem dX11_deposit_172 : decode cX11_deposit 172 = .ok (.iastore, 1) := by decide +kernel
theorem dX11_deposit_173 : decode cX11_deposit 173 = .ok (.aload_n 0, 1) := by decide +kernel
theorem dX11_deposit_174 : decode cX11_deposit 174 = .ok (.getfield 46, 3) := by decide +kernel
theorem dX11_deposit_177 : decode cX11_deposit 177 = .ok (.iload 6, 2) := by decide +kernel
theorem dX11_deposit_179 : decode cX11_deposit 179 = .ok (.iload_n 2, 1) := by decide +kernel
theorem dX11_deposit_180 : decode cX11_deposit 180 = .ok (.iastore, 1) := by decide +kernel
theorem dX11_deposit_181 : decode cX11_deposit 181 = .ok (.aload_n 0, 1) := by decide +kernel
theorem dX11_deposit_182 : decode cX11_deposit 182 = .ok (.getfield 49, 3) := by decide +kernel
theorem dX11_deposit_185 : decode cX11_deposit 185 = .ok (.iload 6, 2) := by decide +kernel
theorem dX11_deposit_187 : decode cX11_deposit 187 = .ok (.iload_n 1, 1) := by decide +kernel
theorem dX11_deposit_188 : decode cX11_deposit 188 = .ok (.iconst 1, 1) := by decide +kernel
theorem dX11_deposit_189 : decode cX11_deposit 189 = .ok (.if_icmp .ne 7, 3) := by decide +kernel
theorem dX11_deposit_192 : decode cX11_deposit 192 = .ok (.iload_n 3, 1) := by decide +kernel
theorem dX11_deposit_193 : decode cX11_deposit 193 = .ok (.goto 4, 3) := by decide +kernel
theorem dX11_deposit_196 : decode cX11_deposit 196 = .ok (.iconst (-1), 1) := by decide +kernel
theorem dX11_deposit_197 : decode cX11_deposit 197 = .ok (.iastore, 1) := by decide +kernel
theorem dX11_deposit_198 : decode cX11_deposit 198 = .ok (.aload_n 0, 1) := by decide +kernel
theorem dX11_deposit_199 : decode cX11_deposit 199 = .ok (.getfield 52, 3) := by decide +kernel
theorem dX11_deposit_202 : decode cX11_deposit 202 = .ok (.iload 6, 2) := by decide +kernel
theorem dX11_deposit_204 : decode cX11_deposit 204 = .ok (.iload 4, 2) := by decide +kernel
theorem dX11_deposit_206 : decode cX11_deposit 206 = .ok (.iastore, 1) := by decide +kernel
theorem dX11_deposit_207 : decode cX11_deposit 207 = .ok (.aload_n 0, 1) := by decide +kernel
theorem dX11_deposit_208 : decode cX11_deposit 208 = .ok (.getfield 55, 3) := by decide +kernel
theorem dX11_deposit_211 : decode cX11_deposit 211 = .ok (.iload 6, 2) := by decide +kernel
theorem dX11_deposit_213 : decode cX11_deposit 213 = .ok (.iload 4, 2) := by decide +kernel
theorem dX11_deposit_215 : decode cX11_deposit 215 = .ok (.i2l, 1) := by decide +kernel
theorem dX11_deposit_216 : decode cX11_deposit 216 = .ok (.aload_n 0, 1) := by decide +kernel
theorem dX11_deposit_217 : decode cX11_deposit 217 = .ok (.getfield 25, 3) := by decide +kernel
theorem dX11_deposit_220 : decode cX11_deposit 220 = .ok (.iload 8, 2) := by decide +kernel
theorem dX11_deposit_222 : decode cX11_deposit 222 = .ok (.iaload, 1) := by decide +kernel
theorem dX11_deposit_223 : decode cX11_deposit 223 = .ok (.i2l, 1) := by decide +kernel
theorem dX11_deposit_224 : decode cX11_deposit 224 = .ok (.lmul, 1) := by decide +kernel
theorem dX11_deposit_225 : decode cX11_deposit 225 = .ok (.ldc2_w 153, 3) := by decide +kernel
theorem dX11_deposit_228 : decode cX11_deposit 228 = .ok (.ldiv, 1) := by decide +kernel
theorem dX11_deposit_229 : decode cX11_deposit 229 = .ok (.lastore, 1) := by decide +kernel
theorem dX11_deposit_230 : decode cX11_deposit 230 = .ok (.aload_n 0, 1) := by decide +kernel
theorem dX11_deposit_231 : decode cX11_deposit 231 = .ok (.getfield 59, 3) := by decide +kernel
theorem dX11_deposit_234 : decode cX11_deposit 234 = .ok (.iload 6, 2) := by decide +kernel
theorem dX11_deposit_236 : decode cX11_deposit 236 = .ok (.aload_n 0, 1) := by decide +kernel
theorem dX11_deposit_237 : decode cX11_deposit 237 = .ok (.getfield 108, 3) := by decide +kernel
theorem dX11_deposit_240 : decode cX11_deposit 240 = .ok (.iload 7, 2) := by decide +kernel
theorem dX11_deposit_242 : decode cX11_deposit 242 = .ok (.iadd, 1) := by decide +kernel
theorem dX11_deposit_243 : decode cX11_deposit 243 = .ok (.iastore, 1) := by decide +kernel
theorem dX11_deposit_244 : decode cX11_deposit 244 = .ok (.aload_n 0, 1) := by decide +kernel
theorem dX11_deposit_245 : decode cX11_deposit 245 = .ok (.getfield 62, 3) := by decide +kernel
theorem dX11_deposit_248 : decode cX11_deposit 248 = .ok (.iload 6, 2) := by decide +kernel
theorem dX11_deposit_250 : decode cX11_deposit 250 = .ok (.aload_n 0, 1) := by decide +kernel
theorem dX11_deposit_251 : decode cX11_deposit 251 = .ok (.getfield 108, 3) := by decide +kernel
theorem dX11_deposit_254 : decode cX11_deposit 254 = .ok (.iastore, 1) := by decide +kernel
theorem dX11_deposit_255 : decode cX11_deposit 255 = .ok (.aload_n 0, 1) := by decide +kernel
theorem dX11_deposit_256 : decode cX11_deposit 256 = .ok (.getfield 65, 3) := by decide +kernel
theorem dX11_deposit_259 : decode cX11_deposit 259 = .ok (.iload 6, 2) := by decide +kernel
theorem dX11_deposit_261 : decode cX11_deposit 261 = .ok (.lconst 0, 1) := by decide +kernel
theorem dX11_deposit_262 : decode cX11_deposit 262 = .ok (.lastore, 1) := by decide +kernel
theorem dX11_deposit_263 : decode cX11_deposit 263 = .ok (.aload_n 0, 1) := by decide +kernel
theorem dX11_deposit_264 : decode cX11_deposit 264 = .ok (.getfield 68, 3) := by decide +kernel
theorem dX11_deposit_267 : decode cX11_deposit 267 = .ok (.iload 6, 2) := by decide +kernel
theorem dX11_deposit_269 : decode cX11_deposit 269 = .ok (.iconst 0, 1) := by decide +kernel
theorem dX11_deposit_270 : decode cX11_deposit 270 = .ok (.bastore, 1) := by decide +kernel
theorem dX11_deposit_271 : decode cX11_deposit 271 = .ok (.aload_n 0, 1) := by decide +kernel
theorem dX11_deposit_272 : decode cX11_deposit 272 = .ok (.getfield 72, 3) := by decide +kernel
theorem dX11_deposit_275 : decode cX11_deposit 275 = .ok (.iload 6, 2) := by decide +kernel
theorem dX11_deposit_277 : decode cX11_deposit 277 = .ok (.iconst 1, 1) := by decide +kernel
theorem dX11_deposit_278 : decode cX11_deposit 278 = .ok (.iastore, 1) := by decide +kernel
theorem dX11_deposit_279 : decode cX11_deposit 279 = .ok (.aload_n 0, 1) := by decide +kernel
theorem dX11_deposit_280 : decode cX11_deposit 280 = .ok (.getfield 75, 3) := by decide +kernel
theorem dX11_deposit_283 : decode cX11_deposit 283 = .ok (.bipush 7, 2) := by decide +kernel
theorem dX11_deposit_285 : decode cX11_deposit 285 = .ok (.iload 6, 2) := by decide +kernel
theorem dX11_deposit_287 : decode cX11_deposit 287 = .ok (.imul, 1) := by decide +kernel
theorem dX11_deposit_288 : decode cX11_deposit 288 = .ok (.aload_n 0, 1) := by decide +kernel
theorem dX11_deposit_289 : decode cX11_deposit 289 = .ok (.getfield 108, 3) := by decide +kernel
theorem dX11_deposit_292 : decode cX11_deposit 292 = .ok (.iastore, 1) := by decide +kernel
theorem dX11_deposit_293 : decode cX11_deposit 293 = .ok (.aload_n 0, 1) := by decide +kernel
theorem dX11_deposit_294 : decode cX11_deposit 294 = .ok (.getfield 78, 3) := by decide +kernel
theorem dX11_deposit_297 : decode cX11_deposit 297 = .ok (.bipush 7, 2) := by decide +kernel
theorem dX11_deposit_299 : decode cX11_deposit 299 = .ok (.iload 6, 2) := by decide +kernel
theorem dX11_deposit_301 : decode cX11_deposit 301 = .ok (.imul, 1) := by decide +kernel
theorem dX11_deposit_302 : decode cX11_deposit 302 = .ok (.iload 5, 2) := by decide +kernel
theorem dX11_deposit_304 : decode cX11_deposit 304 = .ok (.iastore, 1) := by decide +kernel
theorem dX11_deposit_305 : decode cX11_deposit 305 = .ok (.aload_n 0, 1) := by decide +kernel
theorem dX11_deposit_306 : decode cX11_deposit 306 = .ok (.dup, 1) := by decide +kernel
theorem dX11_deposit_307 : decode cX11_deposit 307 = .ok (.getfield 137, 3) := by decide +kernel
theorem dX11_deposit_310 : decode cX11_deposit 310 = .ok (.iconst 1, 1) := by decide +kernel
theorem dX11_deposit_311 : decode cX11_deposit 311 = .ok (.iadd, 1) := by decide +kernel
theorem dX11_deposit_312 : decode cX11_deposit 312 = .ok (.putfield 137, 3) := by decide +kernel
theorem dX11_deposit_315 : decode cX11_deposit 315 = .ok (.iload 6, 2) := by decide +kernel
theorem dX11_deposit_317 : decode cX11_deposit 317 = .ok (.i2l, 1) := by decide +kernel
theorem dX11_deposit_318 : decode cX11_deposit 318 = .ok (.lreturn, 1) := by decide +kernel
theorem dX11_about_0 : decode cX11_about 0 = .ok (.aload_n 0, 1) := by decide +kernel
theorem dX11_about_1 : decode cX11_about 1 = .ok (.iload_n 1, 1) := by decide +kernel
theorem dX11_about_2 : decode cX11_about 2 = .ok (.invokevirtual 155, 3) := by decide +kernel
theorem dX11_about_5 : decode cX11_about 5 = .ok (.ifCond .eq 13, 3) := by decide +kernel
theorem dX11_about_8 : decode cX11_about 8 = .ok (.iload_n 2, 1) := by decide +kernel
theorem dX11_about_9 : decode cX11_about 9 = .ok (.iconst 0, 1) := by decide +kernel
theorem dX11_about_10 : decode cX11_about 10 = .ok (.bipush 8, 2) := by decide +kernel
theorem dX11_about_12 : decode cX11_about 12 = .ok (.invokestatic 104, 3) := by decide +kernel
theorem dX11_about_15 : decode cX11_about 15 = .ok (.ifCond .ne 9, 3) := by decide +kernel
theorem dX11_about_18 : decode cX11_about 18 = .ok (.aload_n 0, 1) := by decide +kernel
theorem dX11_about_19 : decode cX11_about 19 = .ok (.iconst 1, 1) := by decide +kernel
theorem dX11_about_20 : decode cX11_about 20 = .ok (.invokevirtual 112, 3) := by decide +kernel
theorem dX11_about_23 : decode cX11_about 23 = .ok (.lreturn, 1) := by decide +kernel
theorem dX11_about_24 : decode cX11_about 24 = .ok (.iload_n 2, 1) := by decide +kernel
theorem dX11_about_25 : decode cX11_about 25 = .ok (.tableswitch 127 0 7 #[47, 55, 63, 89, 97, 104, 112, 120], 47) := by decide +kernel
theorem dX11_about_72 : decode cX11_about 72 = .ok (.aload_n 0, 1) := by decide +kernel
theorem dX11_about_73 : decode cX11_about 73 = .ok (.getfield 43, 3) := by decide +kernel
theorem dX11_about_76 : decode cX11_about 76 = .ok (.iload_n 1, 1) := by decide +kernel
theorem dX11_about_77 : decode cX11_about 77 = .ok (.iaload, 1) := by decide +kernel
theorem dX11_about_78 : decode cX11_about 78 = .ok (.i2l, 1) := by decide +kernel
theorem dX11_about_79 : decode cX11_about 79 = .ok (.lreturn, 1) := by decide +kernel
theorem dX11_about_80 : decode cX11_about 80 = .ok (.aload_n 0, 1) := by decide +kernel
theorem dX11_about_81 : decode cX11_about 81 = .ok (.getfield 46, 3) := by decide +kernel
theorem dX11_about_84 : decode cX11_about 84 = .ok (.iload_n 1, 1) := by decide +kernel
theorem dX11_about_85 : decode cX11_about 85 = .ok (.iaload, 1) := by decide +kernel
theorem dX11_about_86 : decode cX11_about 86 = .ok (.i2l, 1) := by decide +kernel
theorem dX11_about_87 : decode cX11_about 87 = .ok (.lreturn, 1) := by decide +kernel
theorem dX11_about_88 : decode cX11_about 88 = .ok (.aload_n 0, 1) := by decide +kernel
theorem dX11_about_89 : decode cX11_about 89 = .ok (.getfield 43, 3) := by decide +kernel
theorem dX11_about_92 : decode cX11_about 92 = .ok (.iload_n 1, 1) := by decide +kernel
theorem dX11_about_93 : decode cX11_about 93 = .ok (.iaload, 1) := by decide +kernel
theorem dX11_about_94 : decode cX11_about 94 = .ok (.iconst 1, 1) := by decide +kernel
theorem dX11_about_95 : decode cX11_about 95 = .ok (.if_icmp .ne 13, 3) := by decide +kernel
theorem dX11_about_98 : decode cX11_about 98 = .ok (.aload_n 0, 1) := by decide +kernel
theorem dX11_about_99 : decode cX11_about 99 = .ok (.getfield 49, 3) := by decide +kernel
theorem dX11_about_102 : decode cX11_about 102 = .ok (.iload_n 1, 1) := by decide +kernel
theorem dX11_about_103 : decode cX11_about 103 = .ok (.iaload, 1) := by decide +kernel
theorem dX11_about_104 : decode cX11_about 104 = .ok (.i2l, 1) := by decide +kernel
theorem dX11_about_105 : decode cX11_about 105 = .ok (.goto 8, 3) := by decide +kernel
theorem dX11_about_108 : decode cX11_about 108 = .ok (.aload_n 0, 1) := by decide +kernel
theorem dX11_about_109 : decode cX11_about 109 = .ok (.iconst 2, 1) := by decide +kernel
theorem dX11_about_110 : decode cX11_about 110 = .ok (.invokevirtual 112, 3) := by decide +kernel
theorem dX11_about_113 : decode cX11_about 113 = .ok (.lreturn, 1) := by decide +kernel
theorem dX11_about_114 : decode cX11_about 114 = .ok (.aload_n 0, 1) := by decide +kernel
theorem dX11_about_115 : decode cX11_about 115 = .ok (.getfield 52, 3) := by decide +kernel
theorem dX11_about_118 : decode cX11_about 118 = .ok (.iload_n 1, 1) := by decide +kernel
theorem dX11_about_119 : decode cX11_about 119 = .ok (.iaload, 1) := by decide +kernel
theorem dX11_about_120 : decode cX11_about 120 = .ok (.i2l, 1) := by decide +kernel
theorem dX11_about_121 : decode cX11_about 121 = .ok (.lreturn, 1) := by decide +kernel
theorem dX11_about_122 : decode cX11_about 122 = .ok (.aload_n 0, 1) := by decide +kernel
theorem dX11_about_123 : decode cX11_about 123 = .ok (.getfield 55, 3) := by decide +kernel
theorem dX11_about_126 : decode cX11_about 126 = .ok (.iload_n 1, 1) := by decide +kernel
theorem dX11_about_127 : decode cX11_about 127 = .ok (.laload, 1) := by decide +kernel
theorem dX11_about_128 : decode cX11_about 128 = .ok (.lreturn, 1) := by decide +kernel
theorem dX11_about_129 : decode cX11_about 129 = .ok (.aload_n 0, 1) := by decide +kernel
theorem dX11_about_130 : decode cX11_about 130 = .ok (.getfield 59, 3) := by decide +kernel
theorem dX11_about_133 : decode cX11_about 133 = .ok (.iload_n 1, 1) := by decide +kernel
theorem dX11_about_134 : decode cX11_about 134 = .ok (.iaload, 1) := by decide +kernel
theorem dX11_about_135 : decode cX11_about 135 = .ok (.i2l, 1) := by decide +kernel
theorem dX11_about_136 : decode cX11_about 136 = .ok (.lreturn, 1) := by decide +kernel
theorem dX11_about_137 : decode cX11_about 137 = .ok (.aload_n 0, 1) := by decide +kernel
theorem dX11_about_138 : decode cX11_about 138 = .ok (.getfield 62, 3) := by decide +kernel
theorem dX11_about_141 : decode cX11_about 141 = .ok (.iload_n 1, 1) := by decide +kernel
theorem dX11_about_142 : decode cX11_about 142 = .ok (.iaload, 1) := by decide +kernel
theorem dX11_about_143 : decode cX11_about 143 = .ok (.i2l, 1) := by decide +kernel
theorem dX11_about_144 : decode cX11_about 144 = .ok (.lreturn, 1) := by decide +kernel
theorem dX11_about_145 : decode cX11_about 145 = .ok (.aload_n 0, 1) := by decide +kernel
theorem dX11_about_146 : decode cX11_about 146 = .ok (.getfield 65, 3) := by decide +kernel
theorem dX11_about_149 : decode cX11_about 149 = .ok (.iload_n 1, 1) := by decide +kernel
theorem dX11_about_150 : decode cX11_about 150 = .ok (.laload, 1) := by decide +kernel
theorem dX11_about_151 : decode cX11_about 151 = .ok (.lreturn, 1) := by decide +kernel
theorem dX11_about_152 : decode cX11_about 152 = .ok (.aload_n 0, 1) := by decide +kernel
theorem dX11_about_153 : decode cX11_about 153 = .ok (.getfield 68, 3) := by decide +kernel
theorem dX11_about_156 : decode cX11_about 156 = .ok (.iload_n 1, 1) := by decide +kernel
theorem dX11_about_157 : decode cX11_about 157 = .ok (.baload, 1) := by decide +kernel
theorem dX11_about_158 : decode cX11_about 158 = .ok (.ifCond .eq 7, 3) := by decide +kernel
theorem dX11_about_161 : decode cX11_about 161 = .ok (.lconst 1, 1) := by decide +kernel
theorem dX11_about_162 : decode cX11_about 162 = .ok (.goto 4, 3) := by decide +kernel
theorem dX11_about_165 : decode cX11_about 165 = .ok (.lconst 0, 1) := by decide +kernel
theorem dX11_about_166 : decode cX11_about 166 = .ok (.lreturn, 1) := by decide +kernel
theorem dX11_as_0 : decode cX11_as 0 = .ok (.aload_n 0, 1) := by decide +kernel
theorem dX11_as_1 : decode cX11_as 1 = .ok (.iload_n 1, 1) := by decide +kernel
theorem dX11_as_2 : decode cX11_as 2 = .ok (.invokevirtual 155, 3) := by decide +kernel
theorem dX11_as_5 : decode cX11_as 5 = .ok (.ifCond .eq 12, 3) := by decide +kernel
theorem dX11_as_8 : decode cX11_as 8 = .ok (.iload_n 2, 1) := by decide +kernel
theorem dX11_as_9 : decode cX11_as 9 = .ok (.iconst 0, 1) := by decide +kernel
theorem dX11_as_10 : decode cX11_as 10 = .ok (.iconst 2, 1) := by decide +kernel
theorem dX11_as_11 : decode cX11_as 11 = .ok (.invokestatic 104, 3) := by decide +kernel
theorem dX11_as_14 : decode cX11_as 14 = .ok (.ifCond .ne 9, 3) := by decide +kernel
theorem dX11_as_17 : decode cX11_as 17 = .ok (.aload_n 0, 1) := by decide +kernel
theorem dX11_as_18 : decode cX11_as 18 = .ok (.iconst 1, 1) := by decide +kernel
theorem dX11_as_19 : decode cX11_as 19 = .ok (.invokevirtual 112, 3) := by decide +kernel
theorem dX11_as_22 : decode cX11_as 22 = .ok (.lreturn, 1) := by decide +kernel
theorem dX11_as_23 : decode cX11_as 23 = .ok (.iload_n 2, 1) := by decide +kernel
theorem dX11_as_24 : decode cX11_as 24 = .ok (.ifCond .eq 19, 3) := by decide +kernel
theorem dX11_as_27 : decode cX11_as 27 = .ok (.aload_n 0, 1) := by decide +kernel
theorem dX11_as_28 : decode cX11_as 28 = .ok (.getfield 43, 3) := by decide +kernel
theorem dX11_as_31 : decode cX11_as 31 = .ok (.iload_n 1, 1) := by decide +kernel
theorem dX11_as_32 : decode cX11_as 32 = .ok (.iaload, 1) := by decide +kernel
theorem dX11_as_33 : decode cX11_as 33 = .ok (.iload_n 2, 1) := by decide +kernel
theorem dX11_as_34 : decode cX11_as 34 = .ok (.if_icmp .eq 9, 3) := by decide +kernel
theorem dX11_as_37 : decode cX11_as 37 = .ok (.aload_n 0, 1) := by decide +kernel
theorem dX11_as_38 : decode cX11_as 38 = .ok (.iconst 5, 1) := by decide +kernel
theorem dX11_as_39 : decode cX11_as 39 = .ok (.invokevirtual 112, 3) := by decide +kernel
theorem dX11_as_42 : decode cX11_as 42 = .ok (.lreturn, 1) := by decide +kernel
theorem dX11_as_43 : decode cX11_as 43 = .ok (.aload_n 0, 1) := by decide +kernel
theorem dX11_as_44 : decode cX11_as 44 = .ok (.getfield 52, 3) := by decide +kernel
theorem dX11_as_47 : decode cX11_as 47 = .ok (.iload_n 1, 1) := by decide +kernel
theorem dX11_as_48 : decode cX11_as 48 = .ok (.iaload, 1) := by decide +kernel
theorem dX11_as_49 : decode cX11_as 49 = .ok (.i2l, 1) := by decide +kernel
theorem dX11_as_50 : decode cX11_as 50 = .ok (.lreturn, 1) := by decide +kernel
theorem dX11_holderIn_0 : decode cX11_holderIn 0 = .ok (.iconst (-1), 1) := by decide +kernel
theorem dX11_holderIn_1 : decode cX11_holderIn 1 = .ok (.istore_n 3, 1) := by decide +kernel
theorem dX11_holderIn_2 : decode cX11_holderIn 2 = .ok (.iconst 0, 1) := by decide +kernel
theorem dX11_holderIn_3 : decode cX11_holderIn 3 = .ok (.istore 4, 2) := by decide +kernel
theorem dX11_holderIn_5 : decode cX11_holderIn 5 = .ok (.iload 4, 2) := by decide +kernel
theorem dX11_holderIn_7 : decode cX11_holderIn 7 = .ok (.aload_n 0, 1) := by decide +kernel
theorem dX11_holderIn_8 : decode cX11_holderIn 8 = .ok (.getfield 72, 3) := by decide +kernel
theorem dX11_holderIn_11 : decode cX11_holderIn 11 = .ok (.iload_n 1, 1) := by decide +kernel
theorem dX11_holderIn_12 : decode cX11_holderIn 12 = .ok (.iaload, 1) := by decide +kernel
theorem dX11_holderIn_13 : decode cX11_holderIn 13 = .ok (.if_icmp .ge 42, 3) := by decide +kernel
theorem dX11_holderIn_16 : decode cX11_holderIn 16 = .ok (.aload_n 0, 1) := by decide +kernel
theorem dX11_holderIn_17 : decode cX11_holderIn 17 = .ok (.getfield 75, 3) := by decide +kernel
theorem dX11_holderIn_20 : decode cX11_holderIn 20 = .ok (.bipush 7, 2) := by decide +kernel
theorem dX11_holderIn_22 : decode cX11_holderIn 22 = .ok (.iload_n 1, 1) := by decide +kernel
theorem dX11_holderIn_23 : decode cX11_holderIn 23 = .ok (.imul, 1) := by decide +kernel
theorem dX11_holderIn_24 : decode cX11_holderIn 24 = .ok (.iload 4, 2) := by decide +kernel
theorem dX11_holderIn_26 : decode cX11_holderIn 26 = .ok (.iadd, 1) := by decide +kernel
theorem dX11_holderIn_27 : decode cX11_holderIn 27 = .ok (.iaload, 1) := by decide +kernel
theorem dX11_holderIn_28 : decode cX11_holderIn 28 = .ok (.iload_n 2, 1) := by decide +kernel
theorem dX11_holderIn_29 : decode cX11_holderIn 29 = .ok (.if_icmp .gt 18, 3) := by decide +kernel
theorem dX11_holderIn_32 : decode cX11_holderIn 32 = .ok (.aload_n 0, 1) := by decide +kernel
theorem dX11_holderIn_33 : decode cX11_holderIn 33 = .ok (.getfield 78, 3) := by decide +kernel
theorem dX11_holderIn_36 : decode cX11_holderIn 36 = .ok (.bipush 7, 2) := by decide +kernel
theorem dX11_holderIn_38 : decode cX11_holderIn 38 = .ok (.iload_n 1, 1) := by decide +kernel
theorem dX11_holderIn_39 : decode cX11_holderIn 39 = .ok (.imul, 1) := by decide +kernel
theorem dX11_holderIn_40 : decode cX11_holderIn 40 = .ok (.iload 4, 2) := by decide +kernel
theorem dX11_holderIn_42 : decode cX11_holderIn 42 = .ok (.iadd, 1) := by decide +kernel
theorem dX11_holderIn_43 : decode cX11_holderIn 43 = .ok (.iaload, 1) := by decide +kernel
theorem dX11_holderIn_44 : decode cX11_holderIn 44 = .ok (.goto 4, 3) := by decide +kernel
theorem dX11_holderIn_47 : decode cX11_holderIn 47 = .ok (.iload_n 3, 1) := by decide +kernel
