theorem dX8_learn_72 : decode cX8_learn 72 = .ok (.goto 12, 3) := by decide +kernel
theorem dX8_learn_75 : decode cX8_learn 75 = .ok (.aload_n 1, 1) := by decide +kernel
theorem dX8_learn_76 : decode cX8_learn 76 = .ok (.aload 4, 2) := by decide +kernel
theorem dX8_learn_78 : decode cX8_learn 78 = .ok (.iload 5, 2) := by decide +kernel
theorem dX8_learn_80 : decode cX8_learn 80 = .ok (.iload_n 2, 1) := by decide +kernel
theorem dX8_learn_81 : decode cX8_learn 81 = .ok (.invokevirtual 49, 3) := by decide +kernel
theorem dX8_learn_84 : decode cX8_learn 84 = .ok (.putfield 53, 3) := by decide +kernel
theorem dX8_learn_87 : decode cX8_learn 87 = .ok (.iinc 3 1, 3) := by decide +kernel
theorem dX8_learn_90 : decode cX8_learn 90 = .ok (.goto (-88), 3) := by decide +kernel
theorem dX8_learn_93 : decode cX8_learn 93 = .ok (.return_, 1) := by decide +kernel
theorem dX8_payFor_0 : decode cX8_payFor 0 = .ok (.aload_n 0, 1) := by decide +kernel
theorem dX8_payFor_1 : decode cX8_payFor 1 = .ok (.iload_n 1, 1) := by decide +kernel
theorem dX8_payFor_2 : decode cX8_payFor 2 = .ok (.invokevirtual 55, 3) := by decide +kernel
theorem dX8_payFor_5 : decode cX8_payFor 5 = .ok (.aload_n 0, 1) := by decide +kernel
theorem dX8_payFor_6 : decode cX8_payFor 6 = .ok (.getfield 23, 3) := by decide +kernel
theorem dX8_payFor_9 : decode cX8_payFor 9 = .ok (.getfield 59, 3) := by decide +kernel
theorem dX8_payFor_12 : decode cX8_payFor 12 = .ok (.aload_n 0, 1) := by decide +kernel
theorem dX8_payFor_13 : decode cX8_payFor 13 = .ok (.getfield 9, 3) := by decide +kernel
theorem dX8_payFor_16 : decode cX8_payFor 16 = .ok (.lcmp, 1) := by decide +kernel
theorem dX8_payFor_17 : decode cX8_payFor 17 = .ok (.ifCond .lt 10, 3) := by decide +kernel
theorem dX8_payFor_20 : decode cX8_payFor 20 = .ok (.aload_n 0, 1) := by decide +kernel
theorem dX8_payFor_21 : decode cX8_payFor 21 = .ok (.invokevirtual 64, 3) := by decide +kernel
theorem dX8_payFor_24 : decode cX8_payFor 24 = .ok (.goto 22, 3) := by decide +kernel
theorem dX8_payFor_27 : decode cX8_payFor 27 = .ok (.aload_n 0, 1) := by decide +kernel
theorem dX8_payFor_28 : decode cX8_payFor 28 = .ok (.aload_n 0, 1) := by decide +kernel
theorem dX8_payFor_29 : decode cX8_payFor 29 = .ok (.getfield 23, 3) := by decide +kernel
theorem dX8_payFor_32 : decode cX8_payFor 32 = .ok (.getfield 59, 3) := by decide +kernel
theorem dX8_payFor_35 : decode cX8_payFor 35 = .ok (.aload_n 0, 1) := by decide +kernel
theorem dX8_payFor_36 : decode cX8_payFor 36 = .ok (.getfield 9, 3) := by decide +kernel
theorem dX8_payFor_39 : decode cX8_payFor 39 = .ok (.invokevirtual 67, 3) := by decide +kernel
theorem dX8_payFor_42 : decode cX8_payFor 42 = .ok (.aload_n 0, 1) := by decide +kernel
theorem dX8_payFor_43 : decode cX8_payFor 43 = .ok (.invokevirtual 71, 3) := by decide +kernel
theorem dX8_payFor_46 : decode cX8_payFor 46 = .ok (.aload_n 0, 1) := by decide +kernel
theorem dX8_payFor_47 : decode cX8_payFor 47 = .ok (.invokevirtual 74, 3) := by decide +kernel
theorem dX8_payFor_50 : decode cX8_payFor 50 = .ok (.return_, 1) := by decide +kernel
theorem dX8_call_0 : decode cX8_call 0 = .ok (.aload_n 0, 1) := by decide +kernel
theorem dX8_call_1 : decode cX8_call 1 = .ok (.lconst 0, 1) := by decide +kernel
theorem dX8_call_2 : decode cX8_call 2 = .ok (.putfield 9, 3) := by decide +kernel
theorem dX8_call_5 : decode cX8_call 5 = .ok (.aload_n 0, 1) := by decide +kernel
theorem dX8_call_6 : decode cX8_call 6 = .ok (.iconst 0, 1) := by decide +kernel
theorem dX8_call_7 : decode cX8_call 7 = .ok (.putfield 15, 3) := by decide +kernel
theorem dX8_call_10 : decode cX8_call 10 = .ok (.iconst 0, 1) := by decide +kernel
theorem dX8_call_11 : decode cX8_call 11 = .ok (.istore_n 2, 1) := by decide +kernel
theorem dX8_call_12 : decode cX8_call 12 = .ok (.iload_n 2, 1) := by decide +kernel
theorem dX8_call_13 : decode cX8_call 13 = .ok (.aload_n 0, 1) := by decide +kernel
theorem dX8_call_14 : decode cX8_call 14 = .ok (.getfield 19, 3) := by decide +kernel
theorem dX8_call_17 : decode cX8_call 17 = .ok (.getfield 27, 3) := by decide +kernel
theorem dX8_call_20 : decode cX8_call 20 = .ok (.if_icmp .ge 64, 3) := by decide +kernel
theorem dX8_call_23 : decode cX8_call 23 = .ok (.aload_n 0, 1) := by decide +kernel
theorem dX8_call_24 : decode cX8_call 24 = .ok (.getfield 19, 3) := by decide +kernel
theorem dX8_call_27 : decode cX8_call 27 = .ok (.iload_n 2, 1) := by decide +kernel
theorem dX8_call_28 : decode cX8_call 28 = .ok (.invokevirtual 30, 3) := by decide +kernel
theorem dX8_call_31 : decode cX8_call 31 = .ok (.astore_n 3, 1) := by decide +kernel
theorem dX8_call_32 : decode cX8_call 32 = .ok (.aload_n 3, 1) := by decide +kernel
theorem dX8_call_33 : decode cX8_call 33 = .ok (.ifnonnull 6, 3) := by decide +kernel
theorem dX8_call_36 : decode cX8_call 36 = .ok (.goto 42, 3) := by decide +kernel
theorem dX8_call_39 : decode cX8_call 39 = .ok (.aload_n 3, 1) := by decide +kernel
theorem dX8_call_40 : decode cX8_call 40 = .ok (.iload_n 1, 1) := by decide +kernel
theorem dX8_call_41 : decode cX8_call 41 = .ok (.invokevirtual 77, 3) := by decide +kernel
theorem dX8_call_44 : decode cX8_call 44 = .ok (.aload_n 0, 1) := by decide +kernel
theorem dX8_call_45 : decode cX8_call 45 = .ok (.dup, 1) := by decide +kernel
theorem dX8_call_46 : decode cX8_call 46 = .ok (.getfield 9, 3) := by decide +kernel
theorem dX8_call_49 : decode cX8_call 49 = .ok (.aload_n 3, 1) := by decide +kernel
theorem dX8_call_50 : decode cX8_call 50 = .ok (.getfield 80, 3) := by decide +kernel
theorem dX8_call_53 : decode cX8_call 53 = .ok (.ladd, 1) := by decide +kernel
theorem dX8_call_54 : decode cX8_call 54 = .ok (.putfield 9, 3) := by decide +kernel
theorem dX8_call_57 : decode cX8_call 57 = .ok (.aload_n 0, 1) := by decide +kernel
theorem dX8_call_58 : decode cX8_call 58 = .ok (.dup, 1) := by decide +kernel
theorem dX8_call_59 : decode cX8_call 59 = .ok (.getfield 15, 3) := by decide +kernel
theorem dX8_call_62 : decode cX8_call 62 = .ok (.aload_n 3, 1) := by decide +kernel
theorem dX8_call_63 : decode cX8_call 63 = .ok (.getfield 81, 3) := by decide +kernel
theorem dX8_call_66 : decode cX8_call 66 = .ok (.ifCond .eq 7, 3) := by decide +kernel
theorem dX8_call_69 : decode cX8_call 69 = .ok (.iconst 1, 1) := by decide +kernel
theorem dX8_call_70 : decode cX8_call 70 = .ok (.goto 4, 3) := by decide +kernel
theorem dX8_call_73 : decode cX8_call 73 = .ok (.iconst 0, 1) := by decide +kernel
theorem dX8_call_74 : decode cX8_call 74 = .ok (.iadd, 1) := by decide +kernel
theorem dX8_call_75 : decode cX8_call 75 = .ok (.putfield 15, 3) := by decide +kernel
theorem dX8_call_78 : decode cX8_call 78 = .ok (.iinc 2 1, 3) := by decide +kernel
theorem dX8_call_81 : decode cX8_call 81 = .ok (.goto (-69), 3) := by decide +kernel
theorem dX8_call_84 : decode cX8_call 84 = .ok (.return_, 1) := by decide +kernel
theorem dX8_payWhole_0 : decode cX8_payWhole 0 = .ok (.iconst 0, 1) := by decide +kernel
theorem dX8_payWhole_1 : decode cX8_payWhole 1 = .ok (.istore_n 1, 1) := by decide +kernel
theorem dX8_payWhole_2 : decode cX8_payWhole 2 = .ok (.iload_n 1, 1) := by decide +kernel
theorem dX8_payWhole_3 : decode cX8_payWhole 3 = .ok (.aload_n 0, 1) := by decide +kernel
theorem dX8_payWhole_4 : decode cX8_payWhole 4 = .ok (.getfield 19, 3) := by decide +kernel
theorem dX8_payWhole_7 : decode cX8_payWhole 7 = .ok (.getfield 27, 3) := by decide +kernel
theorem dX8_payWhole_10 : decode cX8_payWhole 10 = .ok (.if_icmp .ge 31, 3) := by decide +kernel
theorem dX8_payWhole_13 : decode cX8_payWhole 13 = .ok (.aload_n 0, 1) := by decide +kernel
theorem dX8_payWhole_14 : decode cX8_payWhole 14 = .ok (.getfield 19, 3) := by decide +kernel
theorem dX8_payWhole_17 : decode cX8_payWhole 17 = .ok (.iload_n 1, 1) := by decide +kernel
theorem dX8_payWhole_18 : decode cX8_payWhole 18 = .ok (.invokevirtual 30, 3) := by decide +kernel
theorem dX8_payWhole_21 : decode cX8_payWhole 21 = .ok (.astore_n 2, 1) := by decide +kernel
theorem dX8_payWhole_22 : decode cX8_payWhole 22 = .ok (.aload_n 2, 1) := by decide +kernel
theorem dX8_payWhole_23 : decode cX8_payWhole 23 = .ok (.ifnull 12, 3) := by decide +kernel
theorem dX8_payWhole_26 : decode cX8_payWhole 26 = .ok (.aload_n 0, 1) := by decide +kernel
theorem dX8_payWhole_27 : decode cX8_payWhole 27 = .ok (.aload_n 2, 1) := by decide +kernel
theorem dX8_payWhole_28 : decode cX8_payWhole 28 = .ok (.aload_n 2, 1) := by decide +kernel
theorem dX8_payWhole_29 : decode cX8_payWhole 29 = .ok (.getfield 80, 3) := by decide +kernel
theorem dX8_payWhole_32 : decode cX8_payWhole 32 = .ok (.invokevirtual 85, 3) := by decide +kernel
theorem dX8_payWhole_35 : decode cX8_payWhole 35 = .ok (.iinc 1 1, 3) := by decide +kernel
theorem dX8_payWhole_38 : decode cX8_payWhole 38 = .ok (.goto (-36), 3) := by decide +kernel
theorem dX8_payWhole_41 : decode cX8_payWhole 41 = .ok (.return_, 1) := by decide +kernel
theorem dX8_payShares_0 : decode cX8_payShares 0 = .ok (.iconst 0, 1) := by decide +kernel
theorem dX8_payShares_1 : decode cX8_payShares 1 = .ok (.istore 5, 2) := by decide +kernel
theorem dX8_payShares_3 : decode cX8_payShares 3 = .ok (.iload 5, 2) := by decide +kernel
theorem dX8_payShares_5 : decode cX8_payShares 5 = .ok (.aload_n 0, 1) := by decide +kernel
theorem dX8_payShares_6 : decode cX8_payShares 6 = .ok (.getfield 19, 3) := by decide +kernel
theorem dX8_payShares_9 : decode cX8_payShares 9 = .ok (.getfield 27, 3) := by decide +kernel
theorem dX8_payShares_12 : decode cX8_payShares 12 = .ok (.if_icmp .ge 46, 3) := by decide +kernel
theorem dX8_payShares_15 : decode cX8_payShares 15 = .ok (.aload_n 0, 1) := by decide +kernel
theorem dX8_payShares_16 : decode cX8_payShares 16 = .ok (.getfield 19, 3) := by decide +kernel
theorem dX8_payShares_19 : decode cX8_payShares 19 = .ok (.iload 5, 2) := by decide +kernel
theorem dX8_payShares_21 : decode cX8_payShares 21 = .ok (.invokevirtual 30, 3) := by decide +kernel
theorem dX8_payShares_24 : decode cX8_payShares 24 = .ok (.astore 6, 2) := by decide +kernel
theorem dX8_payShares_26 : decode cX8_payShares 26 = .ok (.aload 6, 2) := by decide +kernel
theorem dX8_payShares_28 : decode cX8_payShares 28 = .ok (.ifnull 24, 3) := by decide +kernel
theorem dX8_payShares_31 : decode cX8_payShares 31 = .ok (.lload_n 3, 1) := by decide +kernel
theorem dX8_payShares_32 : decode cX8_payShares 32 = .ok (.lconst 0, 1) := by decide +kernel
theorem dX8_payShares_33 : decode cX8_payShares 33 = .ok (.lcmp, 1) := by decide +kernel
theorem dX8_payShares_34 : decode cX8_payShares 34 = .ok (.ifCond .le 18, 3) := by decide +kernel
theorem dX8_payShares_37 : decode cX8_payShares 37 = .ok (.aload_n 0, 1) := by decide +kernel
theorem dX8_payShares_38 : decode cX8_payShares 38 = .ok (.aload 6, 2) := by decide +kernel
theorem dX8_payShares_40 : decode cX8_payShares 40 = .ok (.aload 6, 2) := by decide +kernel
theorem dX8_payShares_42 : decode cX8_payShares 42 = .ok (.getfield 80, 3) := by decide +kernel
theorem dX8_payShares_45 : decode cX8_payShares 45 = .ok (.lload_n 1, 1) := by decide +kernel
theorem dX8_payShares_46 : decode cX8_payShares 46 = .ok (.lmul, 1) := by decide +kernel
theorem dX8_payShares_47 : decode cX8_payShares 47 = .ok (.lload_n 3, 1) := by decide +kernel
theorem dX8_payShares_48 : decode cX8_payShares 48 = .ok (.ldiv, 1) := by decide +kernel
theorem dX8_payShares_49 : decode cX8_payShares 49 = .ok (.invokevirtual 85, 3) := by decide +kernel
theorem dX8_payShares_52 : decode cX8_payShares 52 = .ok (.iinc 5 1, 3) := by decide +kernel
theorem dX8_payShares_55 : decode cX8_payShares 55 = .ok (.goto (-52), 3) := by decide +kernel
theorem dX8_payShares_58 : decode cX8_payShares 58 = .ok (.return_, 1) := by decide +kernel
theorem dX8_payLeftOver_0 : decode cX8_payLeftOver 0 = .ok (.iconst 0, 1) := by decide +kernel
theorem dX8_payLeftOver_1 : decode cX8_payLeftOver 1 = .ok (.istore_n 1, 1) := by decide +kernel
theorem dX8_payLeftOver_2 : decode cX8_payLeftOver 2 = .ok (.iload_n 1, 1) := by decide +kernel
theorem dX8_payLeftOver_3 : decode cX8_payLeftOver 3 = .ok (.aload_n 0, 1) := by decide +kernel
theorem dX8_payLeftOver_4 : decode cX8_payLeftOver 4 = .ok (.getfield 19, 3) := by decide +kernel
theorem dX8_payLeftOver_7 : decode cX8_payLeftOver 7 = .ok (.getfield 27, 3) := by decide +kernel
theorem dX8_payLeftOver_10 : decode cX8_payLeftOver 10 = .ok (.if_icmp .ge 34, 3) := by decide +kernel
theorem dX8_payLeftOver_13 : decode cX8_payLeftOver 13 = .ok (.aload_n 0, 1) := by decide +kernel
theorem dX8_payLeftOver_14 : decode cX8_payLeftOver 14 = .ok (.getfield 23, 3) := by decide +kernel
theorem dX8_payLeftOver_17 : decode cX8_payLeftOver 17 = .ok (.getfield 59, 3) := by decide +kernel
theorem dX8_payLeftOver_20 : decode cX8_payLeftOver 20 = .ok (.lconst 0, 1) := by decide +kernel
theorem dX8_payLeftOver_21 : decode cX8_payLeftOver 21 = .ok (.lcmp, 1) := by decide +kernel
theorem dX8_payLeftOver_22 : decode cX8_payLeftOver 22 = .ok (.ifCond .le 22, 3) := by decide +kernel
theorem dX8_payLeftOver_25 : decode cX8_payLeftOver 25 = .ok (.aload_n 0, 1) := by decide +kernel
theorem dX8_payLeftOver_26 : decode cX8_payLeftOver 26 = .ok (.aload_n 0, 1) := by decide +kernel
theorem dX8_payLeftOver_27 : decode cX8_payLeftOver 27 = .ok (.getfield 19, 3) := by decide +kernel
theorem dX8_payLeftOver_30 : decode cX8_payLeftOver 30 = .ok (.iload_n 1, 1) := by decide +kernel
theorem dX8_payLeftOver_31 : decode cX8_payLeftOver 31 = .ok (.invokevirtual 30, 3) := by decide +kernel
theorem dX8_payLeftOver_34 : decode cX8_payLeftOver 34 = .ok (.lconst 1, 1) := by decide +kernel
theorem dX8_payLeftOver_35 : decode cX8_payLeftOver 35 = .ok (.invokevirtual 85, 3) := by decide +kernel
theorem dX8_payLeftOver_38 : decode cX8_payLeftOver 38 = .ok (.iinc 1 1, 3) := by decide +kernel
theorem dX8_payLeftOver_41 : decode cX8_payLeftOver 41 = .ok (.goto (-39), 3) := by decide +kernel
theorem dX8_payLeftOver_44 : decode cX8_payLeftOver 44 = .ok (.return_, 1) := by decide +kernel
theorem dX8_payTo_0 : decode cX8_payTo 0 = .ok (.aload_n 1, 1) := by decide +kernel
theorem dX8_payTo_1 : decode cX8_payTo 1 = .ok (.ifnull 10, 3) := by decide +kernel
theorem dX8_payTo_4 : decode cX8_payTo 4 = .ok (.aload_n 1, 1) := by decide +kernel
theorem dX8_payTo_5 : decode cX8_payTo 5 = .ok (.getfield 81, 3) := by decide +kernel
theorem dX8_payTo_8 : decode cX8_payTo 8 = .ok (.ifCond .ne 4, 3) := by decide +kernel
theorem dX8_payTo_11 : decode cX8_payTo 11 = .ok (.return_, 1) := by decide +kernel
theorem dX8_payTo_12 : decode cX8_payTo 12 = .ok (.lload_n 2, 1) := by decide +kernel
theorem dX8_payTo_13 : decode cX8_payTo 13 = .ok (.aload_n 1, 1) := by decide +kernel
theorem dX8_payTo_14 : decode cX8_payTo 14 = .ok (.getfield 80, 3) := by decide +kernel
theorem dX8_payTo_17 : decode cX8_payTo 17 = .ok (.invokestatic 89, 3) := by decide +kernel
theorem dX8_payTo_20 : decode cX8_payTo 20 = .ok (.lstore 4, 2) := by decide +kernel
theorem dX8_payTo_22 : decode cX8_payTo 22 = .ok (.aload_n 0, 1) := by decide +kernel
theorem dX8_payTo_23 : decode cX8_payTo 23 = .ok (.getfield 23, 3) := by decide +kernel
theorem dX8_payTo_26 : decode cX8_payTo 26 = .ok (.aload_n 1, 1) := by decide +kernel
theorem dX8_payTo_27 : decode cX8_payTo 27 = .ok (.lload 4, 2) := by decide +kernel
theorem dX8_payTo_29 : decode cX8_payTo 29 = .ok (.invokevirtual 95, 3) := by decide +kernel
theorem dX8_payTo_32 : decode cX8_payTo 32 = .ok (.aload_n 0, 1) := by decide +kernel
theorem dX8_payTo_33 : decode cX8_payTo 33 = .ok (.dup, 1) := by decide +kernel
theorem dX8_payTo_34 : decode cX8_payTo 34 = .ok (.getfield 9, 3) := by decide +kernel
theorem dX8_payTo_37 : decode cX8_payTo 37 = .ok (.lload 4, 2) := by decide +kernel
theorem dX8_payTo_39 : decode cX8_payTo 39 = .ok (.lsub, 1) := by decide +kernel
theorem dX8_payTo_40 : decode cX8_payTo 40 = .ok (.putfield 9, 3) := by decide +kernel
theorem dX8_payTo_43 : decode cX8_payTo 43 = .ok (.return_, 1) := by decide +kernel
theorem dX8_close_0 : decode cX8_close 0 = .ok (.iconst 0, 1) := by decide +kernel
theorem dX8_close_1 : decode cX8_close 1 = .ok (.istore_n 1, 1) := by decide +kernel
theorem dX8_close_2 : decode cX8_close 2 = .ok (.iload_n 1, 1) := by decide +kernel
theorem dX8_close_3 : decode cX8_close 3 = .ok (.aload_n 0, 1) := by decide +kernel
theorem dX8_close_4 : decode cX8_close 4 = .ok (.getfield 19, 3) := by decide +kernel
theorem dX8_close_7 : decode cX8_close 7 = .ok (.getfield 27, 3) := by decide +kernel
theorem dX8_close_10 : decode cX8_close 10 = .ok (.if_icmp .ge 43, 3) := by decide +kernel
theorem dX8_close_13 : decode cX8_close 13 = .ok (.aload_n 0, 1) := by decide +kernel
theorem dX8_close_14 : decode cX8_close 14 = .ok (.getfield 19, 3) := by decide +kernel
theorem dX8_close_17 : decode cX8_close 17 = .ok (.iload_n 1, 1) := by decide +kernel
theorem dX8_close_18 : decode cX8_close 18 = .ok (.invokevirtual 30, 3) := by decide +kernel
theorem dX8_close_21 : decode cX8_close 21 = .ok (.astore_n 2, 1) := by decide +kernel
theorem dX8_close_22 : decode cX8_close 22 = .ok (.aload_n 2, 1) := by decide +kernel
theorem dX8_close_23 : decode cX8_close 23 = .ok (.ifnull 24, 3) := by decide +kernel
theorem dX8_close_26 : decode cX8_close 26 = .ok (.aload_n 2, 1) := by decide +kernel
theorem dX8_close_27 : decode cX8_close 27 = .ok (.getfield 81, 3) := by decide +kernel
theorem dX8_close_30 : decode cX8_close 30 = .ok (.ifCond .eq 17, 3) := by decide +kernel
theorem dX8_close_33 : decode cX8_close 33 = .ok (.aload_n 2, 1) := by decide +kernel
theorem dX8_close_34 : decode cX8_close 34 = .ok (.getfield 80, 3) := by decide +kernel
theorem dX8_close_37 : decode cX8_close 37 = .ok (.lconst 0, 1) := by decide +kernel
theorem dX8_close_38 : decode cX8_close 38 = .ok (.lcmp, 1) := by decide +kernel
theorem dX8_close_39 : decode cX8_close 39 = .ok (.ifCond .ne 8, 3) := by decide +kernel
theorem dX8_close_42 : decode cX8_close 42 = .ok (.aload_n 2, 1) := by decide +kernel
theorem dX8_close_43 : decode cX8_close 43 = .ok (.iconst 1, 1) := by decide +kernel
theorem dX8_close_44 : decode cX8_close 44 = .ok (.putfield 98, 3) := by decide +kernel
theorem dX8_close_47 : decode cX8_close 47 = .ok (.iinc 1 1, 3) := by decide +kernel
theorem dX8_close_50 : decode cX8_close 50 = .ok (.goto (-48), 3) := by decide +kernel
theorem dX8_close_53 : decode cX8_close 53 = .ok (.return_, 1) := by decide +kernel
theorem dX9_init_0 : decode cX9_init 0 = .ok (.aload_n 0, 1) := by decide +kernel
theorem dX9_init_1 : decode cX9_init 1 = .ok (.invokespecial 1, 3) := by decide +kernel
theorem dX9_init_4 : decode cX9_init 4 = .ok (.aload_n 0, 1) := by decide +kernel
theorem dX9_init_5 : decode cX9_init 5 = .ok (.bipush 30, 2) := by decide +kernel
theorem dX9_init_7 : decode cX9_init 7 = .ok (.newarray .int, 2) := by decide +kernel
theorem dX9_init_9 : decode cX9_init 9 = .ok (.putfield 9, 3) := by decide +kernel
theorem dX9_init_12 : decode cX9_init 12 = .ok (.aload_n 0, 1) := by decide +kernel
theorem dX9_init_13 : decode cX9_init 13 = .ok (.iconst 0, 1) := by decide +kernel
theorem dX9_init_14 : decode cX9_init 14 = .ok (.putfield 13, 3) := by decide +kernel
theorem dX9_init_17 : decode cX9_init 17 = .ok (.return_, 1) := by decide +kernel
theorem dX9_isFull_0 : decode cX9_isFull 0 = .ok (.aload_n 0, 1) := by decide +kernel
theorem dX9_isFull_1 : decode cX9_isFull 1 = .ok (.getfield 13, 3) := by decide +kernel
theorem dX9_isFull_4 : decode cX9_isFull 4 = .ok (.bipush 30, 2) := by decide +kernel
theorem dX9_isFull_6 : decode cX9_isFull 6 = .ok (.if_icmp .lt 7, 3) := by decide +kernel
theorem dX9_isFull_9 : decode cX9_isFull 9 = .ok (.iconst 1, 1) := by decide +kernel
theorem dX9_isFull_10 : decode cX9_isFull 10 = .ok (.goto 4, 3) := by decide +kernel
theorem dX9_isFull_13 : decode cX9_isFull 13 = .ok (.iconst 0, 1) := by decide +kernel
theorem dX9_isFull_14 : decode cX9_isFull 14 = .ok (.ireturn, 1) := by decide +kernel
theorem dX9_add_0 : decode cX9_add 0 = .ok (.aload_n 0, 1) := by decide +kernel
theorem dX9_add_1 : decode cX9_add 1 = .ok (.invokevirtual 17, 3) := by decide +kernel
theorem dX9_add_4 : decode cX9_add 4 = .ok (.ifCond .eq 4, 3) := by decide +kernel
theorem dX9_add_7 : decode cX9_add 7 = .ok (.return_, 1) := by decide +kernel
theorem dX9_add_8 : decode cX9_add 8 = .ok (.aload_n 0, 1) := by decide +kernel
theorem dX9_add_9 : decode cX9_add 9 = .ok (.getfield 9, 3) := by decide +kernel
theorem dX9_add_12 : decode cX9_add 12 = .ok (.aload_n 0, 1) := by decide +kernel
theorem dX9_add_13 : decode cX9_add 13 = .ok (.getfield 13, 3) := by decide +kernel
theorem dX9_add_16 : decode cX9_add 16 = .ok (.iload_n 1, 1) := by decide +kernel
theorem dX9_add_17 : decode cX9_add 17 = .ok (.iastore, 1) := by decide +kernel
theorem dX9_add_18 : decode cX9_add 18 = .ok (.aload_n 0, 1) := by decide +kernel
theorem dX9_add_19 : decode cX9_add 19 = .ok (.dup, 1) := by decide +kernel
theorem dX9_add_20 : decode cX9_add 20 = .ok (.getfield 13, 3) := by decide +kernel
theorem dX9_add_23 : decode cX9_add 23 = .ok (.iconst 1, 1) := by decide +kernel
theorem dX9_add_24 : decode cX9_add 24 = .ok (.iadd, 1) := by decide +kernel
theorem dX9_add_25 : decode cX9_add 25 = .ok (.putfield 13, 3) := by decide +kernel
theorem dX9_add_28 : decode cX9_add 28 = .ok (.return_, 1) := by decide +kernel
theorem dX10_init_0 : decode cX10_init 0 = .ok (.aload_n 0, 1) := by decide +kernel
theorem dX10_init_1 : decode cX10_init 1 = .ok (.invokespecial 1, 3) := by decide +kernel
theorem dX10_init_4 : decode cX10_init 4 = .ok (.aload_n 0, 1) := by decide +kernel
theorem dX10_init_5 : decode cX10_init 5 = .ok (.new 7, 3) := by decide +kernel
theorem dX10_init_8 : decode cX10_init 8 = .ok (.dup, 1) := by decide +kernel
theorem dX10_init_9 : decode cX10_init 9 = .ok (.invokespecial 9, 3) := by decide +kernel
theorem dX10_init_12 : decode cX10_init 12 = .ok (.putfield 10, 3) := by decide +kernel
theorem dX10_init_15 : decode cX10_init 15 = .ok (.aload_n 0, 1) := by decide +kernel
theorem dX10_init_16 : decode cX10_init 16 = .ok (.new 16, 3) := by decide +kernel
theorem dX10_init_19 : decode cX10_init 19 = .ok (.dup, 1) := by decide +kernel
theorem dX10_init_20 : decode cX10_init 20 = .ok (.invokespecial 18, 3) := by decide +kernel
theorem dX10_init_23 : decode cX10_init 23 = .ok (.putfield 19, 3) := by decide +kernel
theorem dX10_init_26 : decode cX10_init 26 = .ok (.aload_n 0, 1) := by decide +kernel
theorem dX10_init_27 : decode cX10_init 27 = .ok (.bipush 21, 2) := by decide +kernel
theorem dX10_init_29 : decode cX10_init 29 = .ok (.newarray .int, 2) := by decide +kernel
theorem dX10_init_31 : decode cX10_init 31 = .ok (.putfield 23, 3) := by decide +kernel
theorem dX10_init_34 : decode cX10_init 34 = .ok (.aload_n 0, 1) := by decide +kernel
theorem dX10_init_35 : decode cX10_init 35 = .ok (.getfield 23, 3) := by decide +kernel
theorem dX10_init_38 : decode cX10_init 38 = .ok (.bipush 100, 2) := by decide +kernel
theorem dX10_init_40 : decode cX10_init 40 = .ok (.invokestatic 27, 3) := by decide +kernel
theorem dX10_init_43 : decode cX10_init 43 = .ok (.aload_n 0, 1) := by decide +kernel
theorem dX10_init_44 : decode cX10_init 44 = .ok (.new 33, 3) := by decide +kernel
theorem dX10_init_47 : decode cX10_init 47 = .ok (.dup, 1) := by decide +kernel
theorem dX10_init_48 : decode cX10_init 48 = .ok (.invokespecial 35, 3) := by decide +kernel
theorem dX10_init_51 : decode cX10_init 51 = .ok (.putfield 36, 3) := by decide +kernel
theorem dX10_init_54 : decode cX10_init 54 = .ok (.aload_n 0, 1) := by decide +kernel
theorem dX10_init_55 : decode cX10_init 55 = .ok (.new 40, 3) := by decide +kernel
theorem dX10_init_58 : decode cX10_init 58 = .ok (.dup, 1) := by decide +kernel
theorem dX10_init_59 : decode cX10_init 59 = .ok (.invokespecial 42, 3) := by decide +kernel
theorem dX10_init_62 : decode cX10_init 62 = .ok (.putfield 43, 3) := by decide +kernel
theorem dX10_init_65 : decode cX10_init 65 = .ok (.aload_n 0, 1) := by decide +kernel
theorem dX10_init_66 : decode cX10_init 66 = .ok (.new 47, 3) := by decide +kernel
theorem dX10_init_69 : decode cX10_init 69 = .ok (.dup, 1) := by decide +kernel
theorem dX10_init_70 : decode cX10_init 70 = .ok (.aload_n 0, 1) := by decide +kernel
theorem dX10_init_71 : decode cX10_init 71 = .ok (.getfield 19, 3) := by decide +kernel
theorem dX10_init_74 : decode cX10_init 74 = .ok (.aload_n 0, 1) := by decide +kernel
theorem dX10_init_75 : decode cX10_init 75 = .ok (.getfield 36, 3) := by decide +kernel
theorem dX10_init_78 : decode cX10_init 78 = .ok (.invokespecial 49, 3) := by decide +kernel
theorem dX10_init_81 : decode cX10_init 81 = .ok (.putfield 52, 3) := by decide +kernel
theorem dX10_init_84 : decode cX10_init 84 = .ok (.aload_n 0, 1) := by decide +kernel
theorem dX10_init_85 : decode cX10_init 85 = .ok (.new 56, 3) := by decide +kernel
theorem dX10_init_88 : decode cX10_init 88 = .ok (.dup, 1) := by decide +kernel
theorem dX10_init_89 : decode cX10_init 89 = .ok (.invokespecial 58, 3) := by decide +kernel
theorem dX10_init_92 : decode cX10_init 92 = .ok (.putfield 59, 3) := by decide +kernel
theorem dX10_init_95 : decode cX10_init 95 = .ok (.aload_n 0, 1) := by decide +kernel
theorem dX10_init_96 : decode cX10_init 96 = .ok (.new 63, 3) := by decide +kernel
theorem dX10_init_99 : decode cX10_init 99 = .ok (.dup, 1) := by decide +kernel
theorem dX10_init_100 : decode cX10_init 100 = .ok (.aload_n 0, 1) := by decide +kernel
theorem dX10_init_101 : decode cX10_init 101 = .ok (.getfield 43, 3) := by decide +kernel
theorem dX10_init_104 : decode cX10_init 104 = .ok (.aload_n 0, 1) := by decide +kernel
theorem dX10_init_105 : decode cX10_init 105 = .ok (.getfield 59, 3) := by decide +kernel
theorem dX10_init_108 : decode cX10_init 108 = .ok (.invokespecial 65, 3) := by decide +kernel
theorem dX10_init_111 : decode cX10_init 111 = .ok (.putfield 68, 3) := by decide +kernel
theorem dX10_init_114 : decode cX10_init 114 = .ok (.aload_n 0, 1) := by decide +kernel
theorem dX10_init_115 : decode cX10_init 115 = .ok (.new 72, 3) := by decide +kernel
theorem dX10_init_118 : decode cX10_init 118 = .ok (.dup, 1) := by decide +kernel
theorem dX10_init_119 : decode cX10_init 119 = .ok (.invokespecial 74, 3) := by decide +kernel
theorem dX10_init_122 : decode cX10_init 122 = .ok (.putfield 75, 3) := by decide +kernel
theorem dX10_init_125 : decode cX10_init 125 = .ok (.aload_n 0, 1) := by decide +kernel
theorem dX10_init_126 : decode cX10_init 126 = .ok (.new 79, 3) := by decide +kernel
theorem dX10_init_129 : decode cX10_init 129 = .ok (.dup, 1) := by decide +kernel
theorem dX10_init_130 : decode cX10_init 130 = .ok (.invokespecial 81, 3) := by decide +kernel
theorem dX10_init_133 : decode cX10_init 133 = .ok (.putfield 82, 3) := by decide +kernel
theorem dX10_init_136 : decode cX10_init 136 = .ok (.aload_n 0, 1) := by decide +kernel
theorem dX10_init_137 : decode cX10_init 137 = .ok (.iconst 0, 1) := by decide +kernel
theorem dX10_init_138 : decode cX10_init 138 = .ok (.putfield 86, 3) := by decide +kernel
theorem dX10_init_141 : decode cX10_init 141 = .ok (.return_, 1) := by decide +kernel
theorem dX10_months_0 : decode cX10_months 0 = .ok (.iload_n 1, 1) := by decide +kernel
theorem dX10_months_1 : decode cX10_months 1 = .ok (.iconst 1, 1) := by decide +kernel
theorem dX10_months_2 : decode cX10_months 2 = .ok (.sipush 240, 3) := by decide +kernel
theorem dX10_months_5 : decode cX10_months 5 = .ok (.invokestatic 90, 3) := by decide +kernel
theorem dX10_months_8 : decode cX10_months 8 = .ok (.ifCond .eq 15, 3) := by decide +kernel
theorem dX10_months_11 : decode cX10_months 11 = .ok (.aload_n 0, 1) := by decide +kernel
theorem dX10_months_12 : decode cX10_months 12 = .ok (.getfield 86, 3) := by decide +kernel
theorem dX10_months_15 : decode cX10_months 15 = .ok (.iload_n 1, 1) := by decide +kernel
theorem dX10_months_16 : decode cX10_months 16 = .ok (.iadd, 1) := by decide +kernel
theorem dX10_months_17 : decode cX10_months 17 = .ok (.sipush 1199, 3) := by decide +kernel
theorem dX10_months_20 : decode cX10_months 20 = .ok (.if_icmp .le 12, 3) := by decide +kernel
theorem dX10_months_23 : decode cX10_months 23 = .ok (.aload_n 0, 1) := by decide +kernel
theorem dX10_months_24 : decode cX10_months 24 = .ok (.getfield 10, 3) := by decide +kernel
theorem dX10_months_27 : decode cX10_months 27 = .ok (.iconst 1, 1) := by decide +kernel
theorem dX10_months_28 : decode cX10_months 28 = .ok (.invokevirtual 94, 3) := by decide +kernel
theorem dX10_months_31 : decode cX10_months 31 = .ok (.lreturn, 1) := by decide +kernel
theorem dX10_months_32 : decode cX10_months 32 = .ok (.aload_n 0, 1) := by decide +kernel
theorem dX10_months_33 : decode cX10_months 33 = .ok (.getfield 68, 3) := by decide +kernel
theorem dX10_months_36 : decode cX10_months 36 = .ok (.aload_n 0, 1) := by decide +kernel
theorem dX10_months_37 : decode cX10_months 37 = .ok (.getfield 52, 3) := by decide +kernel
theorem dX10_months_40 : decode cX10_months 40 = .ok (.aload_n 0, 1) := by decide +kernel
theorem dX10_months_41 : decode cX10_months 41 = .ok (.getfield 86, 3) := by decide +kernel
theorem dX10_months_44 : decode cX10_months 44 = .ok (.invokevirtual 98, 3) := by decide +kernel
theorem dX10_months_47 : decode cX10_months 47 = .ok (.iconst 0, 1) := by decide +kernel
theorem dX10_months_48 : decode cX10_months 48 = .ok (.istore_n 2, 1) := by decide +kernel
theorem dX10_months_49 : decode cX10_months 49 = .ok (.iload_n 2, 1) := by decide +kernel
theorem dX10_months_50 : decode cX10_months 50 = .ok (.iload_n 1, 1) := by decide +kernel
theorem dX10_months_51 : decode cX10_months 51 = .ok (.if_icmp .ge 30, 3) := by decide +kernel
theorem dX10_months_54 : decode cX10_months 54 = .ok (.aload_n 0, 1) := by decide +kernel
theorem dX10_months_55 : decode cX10_months 55 = .ok (.getfield 68, 3) := by decide +kernel
theorem dX10_months_58 : decode cX10_months 58 = .ok (.aload_n 0, 1) := by decide +kernel
theorem dX10_months_59 : decode cX10_months 59 = .ok (.getfield 86, 3) := by decide +kernel
theorem dX10_months_62 : decode cX10_months 62 = .ok (.invokevirtual 102, 3) := by decide +kernel
theorem dX10_months_65 : decode cX10_months 65 = .ok (.aload_n 0, 1) := by decide +kernel
theorem dX10_months_66 : decode cX10_months 66 = .ok (.dup, 1) := by decide +kernel
theorem dX10_months_67 : decode cX10_months 67 = .ok (.getfield 86, 3) := by decide +kernel
theorem dX10_months_70 : decode cX10_months 70 = .ok (.iconst 1, 1) := by decide +kernel
theorem dX10_months_71 : decode cX10_months 71 = .ok (.iadd, 1) := by decide +kernel
theorem dX10_months_72 : decode cX10_months 72 = .ok (.putfield 86, 3) := by decide +kernel
theorem dX10_months_75 : decode cX10_months 75 = .ok (.iinc 2 1, 3) := by decide +kernel
theorem dX10_months_78 : decode cX10_months 78 = .ok (.goto (-29), 3) := by decide +kernel
theorem dX10_months_81 : decode cX10_months 81 = .ok (.aload_n 0, 1) := by decide +kernel
theorem dX10_months_82 : decode cX10_months 82 = .ok (.getfield 86, 3) := by decide +kernel
theorem dX10_months_85 : decode cX10_months 85 = .ok (.i2l, 1) := by decide +kernel
theorem dX10_months_86 : decode cX10_months 86 = .ok (.lreturn, 1) := by decide +kernel
theorem dX10_decree_0 : decode cX10_decree 0 = .ok (.iload_n 1, 1) := by decide +kernel
theorem dX10_decree_1 : decode cX10_decree 1 = .ok (.invokestatic 106, 3) := by decide +kernel
theorem dX10_decree_4 : decode cX10_decree 4 = .ok (.ifCond .eq 18, 3) := by decide +kernel
theorem dX10_decree_7 : decode cX10_decree 7 = .ok (.iload_n 2, 1) := by decide +kernel
theorem dX10_decree_8 : decode cX10_decree 8 = .ok (.invokestatic 110, 3) := by decide +kernel
theorem dX10_decree_11 : decode cX10_decree 11 = .ok (.ifCond .eq 11, 3) := by decide +kernel
theorem dX10_decree_14 : decode cX10_decree 14 = .ok (.iload_n 1, 1) := by decide +kernel
theorem dX10_decree_15 : decode cX10_decree 15 = .ok (.iload_n 3, 1) := by decide +kernel
theorem dX10_decree_16 : decode cX10_decree 16 = .ok (.invokestatic 113, 3) := by decide +kernel
theorem dX10_decree_19 : decode cX10_decree 19 = .ok (.ifCond .ne 12, 3) := by decide +kernel
theorem dX10_decree_22 : decode cX10_decree 22 = .ok (.aload_n 0, 1) := by decide +kernel
theorem dX10_decree_23 : decode cX10_decree 23 = .ok (.getfield 10, 3) := by decide +kernel
theorem dX10_decree_26 : decode cX10_decree 26 = .ok (.iconst 1, 1) := by decide +kernel
theorem dX10_decree_27 : decode cX10_decree 27 = .ok (.invokevirtual 94, 3) := by decide +kernel
theorem dX10_decree_30 : decode cX10_decree 30 = .ok (.lreturn, 1) := by decide +kernel
theorem dX10_decree_31 : decode cX10_decree 31 = .ok (.aload_n 0, 1) := by decide +kernel
theorem dX10_decree_32 : decode cX10_decree 32 = .ok (.getfield 19, 3) := by decide +kernel
theorem dX10_decree_35 : decode cX10_decree 35 = .ok (.invokevirtual 117, 3) := by decide +kernel
theorem dX10_decree_38 : decode cX10_decree 38 = .ok (.ifCond .eq 12, 3) := by decide +kernel
theorem dX10_decree_41 : decode cX10_decree 41 = .ok (.aload_n 0, 1) := by decide +kernel
theorem dX10_decree_42 : decode cX10_decree 42 = .ok (.getfield 10, 3) := by decide +kernel
theorem dX10_decree_45 : decode cX10_decree 45 = .ok (.iconst 4, 1) := by decide +kernel
theorem dX10_decree_46 : decode cX10_decree 46 = .ok (.invokevirtual 94, 3) := by decide +kernel
theorem dX10_decree_49 : decode cX10_decree 49 = .ok (.lreturn, 1) := by decide +kernel
theorem dX10_decree_50 : decode cX10_decree 50 = .ok (.aload_n 0, 1) := by decide +kernel
theorem dX10_decree_51 : decode cX10_decree 51 = .ok (.getfield 19, 3) := by decide +kernel
theorem dX10_decree_54 : decode cX10_decree 54 = .ok (.iload_n 1, 1) := by decide +kernel
theorem dX10_decree_55 : decode cX10_decree 55 = .ok (.iload_n 2, 1) := by decide +kernel
theorem dX10_decree_56 : decode cX10_decree 56 = .ok (.iload_n 3, 1) := by decide +kernel
theorem dX10_decree_57 : decode cX10_decree 57 = .ok (.aload_n 0, 1) := by decide +kernel
theorem dX10_decree_58 : decode cX10_decree 58 = .ok (.getfield 86, 3) := by decide +kernel
theorem dX10_decree_61 : decode cX10_decree 61 = .ok (.invokevirtual 121, 3) := by decide +kernel
theorem dX10_decree_64 : decode cX10_decree 64 = .ok (.aload_n 0, 1) := by decide +kernel
theorem dX10_decree_65 : decode cX10_decree 65 = .ok (.getfield 19, 3) := by decide +kernel
theorem dX10_decree_68 : decode cX10_decree 68 = .ok (.getfield 125, 3) := by decide +kernel
theorem dX10_decree_71 : decode cX10_decree 71 = .ok (.i2l, 1) := by decide +kernel
theorem dX10_decree_72 : decode cX10_decree 72 = .ok (.lreturn, 1) := by decide +kernel
theorem dX10_force_0 : decode cX10_force 0 = .ok (.iload_n 1, 1) := by decide +kernel
theorem dX10_force_1 : decode cX10_force 1 = .ok (.invokestatic 106, 3) := by decide +kernel
theorem dX10_force_4 : decode cX10_force 4 = .ok (.ifCond .eq 17, 3) := by decide +kernel
theorem dX10_force_7 : decode cX10_force 7 = .ok (.iload_n 2, 1) := by decide +kernel
theorem dX10_force_8 : decode cX10_force 8 = .ok (.invokestatic 110, 3) := by decide +kernel
theorem dX10_force_11 : decode cX10_force 11 = .ok (.ifCond .eq 10, 3) := by decide +kernel
theorem dX10_force_14 : decode cX10_force 14 = .ok (.iload_n 3, 1) := by decide +kernel
theorem dX10_force_15 : decode cX10_force 15 = .ok (.invokestatic 110, 3) := by decide +kernel
theorem dX10_force_18 : decode cX10_force 18 = .ok (.ifCond .ne 12, 3) := by decide +kernel
theorem dX10_force_21 : decode cX10_force 21 = .ok (.aload_n 0, 1) := by decide +kernel
theorem dX10_force_22 : decode cX10_force 22 = .ok (.getfield 10, 3) := by decide +kernel
theorem dX10_force_25 : decode cX10_force 25 = .ok (.iconst 1, 1) := by decide +kernel
theorem dX10_force_26 : decode cX10_force 26 = .ok (.invokevirtual 94, 3) := by decide +kernel
theorem dX10_force_29 : decode cX10_force 29 = .ok (.lreturn, 1) := by decide +kernel
theorem dX10_force_30 : decode cX10_force 30 = .ok (.aload_n 0, 1) := by decide +kernel
theorem dX10_force_31 : decode cX10_force 31 = .ok (.getfield 19, 3) := by decide +kernel
theorem dX10_force_34 : decode cX10_force 34 = .ok (.iload_n 1, 1) := by decide +kernel
theorem dX10_force_35 : decode cX10_force 35 = .ok (.iload_n 2, 1) := by decide +kernel
theorem dX10_force_36 : decode cX10_force 36 = .ok (.iload_n 3, 1) := by decide +kernel
theorem dX10_force_37 : decode cX10_force 37 = .ok (.invokevirtual 128, 3) := by decide +kernel
theorem dX10_force_40 : decode cX10_force 40 = .ok (.i2l, 1) := by decide +kernel
theorem dX10_force_41 : decode cX10_force 41 = .ok (.lreturn, 1) := by decide +kernel
theorem dX10_rate_0 : decode cX10_rate 0 = .ok (.iload_n 1, 1) := by decide +kernel
theorem dX10_rate_1 : decode cX10_rate 1 = .ok (.iconst 1, 1) := by decide +kernel
theorem dX10_rate_2 : decode cX10_rate 2 = .ok (.bipush 20, 2) := by decide +kernel
theorem dX10_rate_4 : decode cX10_rate 4 = .ok (.invokestatic 90, 3) := by decide +kernel
theorem dX10_rate_7 : decode cX10_rate 7 = .ok (.ifCond .eq 15, 3) := by decide +kernel
theorem dX10_rate_10 : decode cX10_rate 10 = .ok (.iload_n 2, 1) := by decide +kernel
theorem dX10_rate_11 : decode cX10_rate 11 = .ok (.bipush 100, 2) := by decide +kernel
theorem dX10_rate_13 : decode cX10_rate 13 = .ok (.sipush 1000, 3) := by decide +kernel
theorem dX10_rate_16 : decode cX10_rate 16 = .ok (.invokestatic 90, 3) := by decide +kernel
theorem dX10_rate_19 : decode cX10_rate 19 = .ok (.ifCond .ne 12, 3) := by decide +kernel
theorem dX10_rate_22 : decode cX10_rate 22 = .ok (.aload_n 0, 1) := by decide +kernel
theorem dX10_rate_23 : decode cX10_rate 23 = .ok (.getfield 10, 3) := by decide +kernel
theorem dX10_rate_26 : decode cX10_rate 26 = .ok (.iconst 1, 1) := by decide +kernel
theorem dX10_rate_27 : decode cX10_rate 27 = .ok (.invokevirtual 94, 3) := by decide +kernel
theorem dX10_rate_30 : decode cX10_rate 30 = .ok (.lreturn, 1) := by decide +kernel
theorem dX10_rate_31 : decode cX10_rate 31 = .ok (.aload_n 0, 1) := by decide +kernel
theorem dX10_rate_32 : decode cX10_rate 32 = .ok (.getfield 23, 3) := by decide +kernel
theorem dX10_rate_35 : decode cX10_rate 35 = .ok (.iload_n 1, 1) := by decide +kernel
theorem dX10_rate_36 : decode cX10_rate 36 = .ok (.iaload, 1) := by decide +kernel
theorem dX10_rate_37 : decode cX10_rate 37 = .ok (.istore_n 3, 1) := by decide +kernel
theorem dX10_rate_38 : decode cX10_rate 38 = .ok (.aload_n 0, 1) := by decide +kernel
theorem dX10_rate_39 : decode cX10_rate 39 = .ok (.getfield 23, 3) := by decide +kernel
theorem dX10_rate_42 : decode cX10_rate 42 = .ok (.iload_n 1, 1) := by decide +kernel
theorem dX10_rate_43 : decode cX10_rate 43 = .ok (.iload_n 2, 1) := by decide +kernel
theorem dX10_rate_44 : decode cX10_rate 44 = .ok (.iastore, 1) := by decide +kernel
theorem dX10_rate_45 : decode cX10_rate 45 = .ok (.iload_n 3, 1) := by decide +kernel
theorem dX10_rate_46 : decode cX10_rate 46 = .ok (.i2l, 1) := by decide +kernel
theorem dX10_rate_47 : decode cX10_rate 47 = .ok (.lreturn, 1) := by decide +kernel
theorem dX10_child_0 : decode cX10_child 0 = .ok (.iload_n 1, 1) := by decide +kernel
theorem dX10_child_1 : decode cX10_child 1 = .ok (.iconst 0, 1) := by decide +kernel
theorem dX10_child_2 : decode cX10_child 2 = .ok (.aload_n 0, 1) := by decide +kernel
theorem dX10_child_3 : decode cX10_child 3 = .ok (.getfield 86, 3) := by decide +kernel
theorem dX10_child_6 : decode cX10_child 6 = .ok (.invokestatic 90, 3) := by decide +kernel
theorem dX10_child_9 : decode cX10_child 9 = .ok (.ifCond .ne 12, 3) := by decide +kernel
theorem dX10_child_12 : decode cX10_child 12 = .ok (.aload_n 0, 1) := by decide +kernel
theorem dX10_child_13 : decode cX10_child 13 = .ok (.getfield 10, 3) := by decide +kernel
theorem dX10_child_16 : decode cX10_child 16 = .ok (.iconst 1, 1) := by decide +kernel
theorem dX10_child_17 : decode cX10_child 17 = .ok (.invokevirtual 94, 3) := by decide +kernel
theorem dX10_child_20 : decode cX10_child 20 = .ok (.lreturn, 1) := by decide +kernel
theorem dX10_child_21 : decode cX10_child 21 = .ok (.aload_n 0, 1) := by decide +kernel
theorem dX10_child_22 : decode cX10_child 22 = .ok (.getfield 36, 3) := by decide +kernel
theorem dX10_child_25 : decode cX10_child 25 = .ok (.invokevirtual 132, 3) := by decide +kernel
theorem dX10_child_28 : decode cX10_child 28 = .ok (.ifCond .eq 12, 3) := by decide +kernel
theorem dX10_child_31 : decode cX10_child 31 = .ok (.aload_n 0, 1) := by decide +kernel
theorem dX10_child_32 : decode cX10_child 32 = .ok (.getfield 10, 3) := by decide +kernel
theorem dX10_child_35 : decode cX10_child 35 = .ok (.iconst 4, 1) := by decide +kernel
theorem dX10_child_36 : decode cX10_child 36 = .ok (.invokevirtual 94, 3) := by decide +kernel
theorem dX10_child_39 : decode cX10_child 39 = .ok (.lreturn, 1) := by decide +kernel
theorem dX10_child_40 : decode cX10_child 40 = .ok (.aload_n 0, 1) := by decide +kernel
theorem dX10_child_41 : decode cX10_child 41 = .ok (.getfield 36, 3) := by decide +kernel
theorem dX10_child_44 : decode cX10_child 44 = .ok (.iload_n 1, 1) := by decide +kernel
theorem dX10_child_45 : decode cX10_child 45 = .ok (.invokevirtual 133, 3) := by decide +kernel
theorem dX10_child_48 : decode cX10_child 48 = .ok (.aload_n 0, 1) := by decide +kernel
theorem dX10_child_49 : decode cX10_child 49 = .ok (.getfield 36, 3) := by decide +kernel
theorem dX10_child_52 : decode cX10_child 52 = .ok (.getfield 135, 3) := by decide +kernel
theorem dX10_child_55 : decode cX10_child 55 = .ok (.iconst 1, 1) := by decide +kernel
theorem dX10_child_56 : decode cX10_child 56 = .ok (.isub, 1) := by decide +kernel
theorem dX10_child_57 : decode cX10_child 57 = .ok (.i2l, 1) := by decide +kernel
theorem dX10_child_58 : decode cX10_child 58 = .ok (.lreturn, 1) := by decide +kernel
theorem dX10_fate_0 : decode cX10_fate 0 = .ok (.aload_n 0, 1) := by decide +kernel
theorem dX10_fate_1 : decode cX10_fate 1 = .ok (.getfield 36, 3) := by decide +kernel
theorem dX10_fate_4 : decode cX10_fate 4 = .ok (.iload_n 1, 1) := by decide +kernel
theorem dX10_fate_5 : decode cX10_fate 5 = .ok (.invokevirtual 136, 3) := by decide +kernel
theorem dX10_fate_8 : decode cX10_fate 8 = .ok (.ifCond .eq 12, 3) := by decide +kernel
theorem dX10_fate_11 : decode cX10_fate 11 = .ok (.iload_n 2, 1) := by decide +kernel
theorem dX10_fate_12 : decode cX10_fate 12 = .ok (.iconst 0, 1) := by decide +kernel
theorem dX10_fate_13 : decode cX10_fate 13 = .ok (.iconst 3, 1) := by decide +kernel
theorem dX10_fate_14 : decode cX10_fate 14 = .ok (.invokestatic 90, 3) := by decide +kernel
theorem dX10_fate_17 : decode cX10_fate 17 = .ok (.ifCond .ne 12, 3) := by decide +kernel
theorem dX10_fate_20 : decode cX10_fate 20 = .ok (.aload_n 0, 1) := by decide +kernel
theorem dX10_fate_21 : decode cX10_fate 21 = .ok (.getfield 10, 3) := by decide +kernel
theorem dX10_fate_24 : decode cX10_fate 24 = .ok (.iconst 1, 1) := by decide +kernel
theorem dX10_fate_25 : decode cX10_fate 25 = .ok (.invokevirtual 94, 3) := by decide +kernel
theorem dX10_fate_28 : decode cX10_fate 28 = .ok (.lreturn, 1) := by decide +kernel
theorem dX10_fate_29 : decode cX10_fate 29 = .ok (.iload_n 2, 1) := by decide +kernel
theorem dX10_fate_30 : decode cX10_fate 30 = .ok (.iconst 3, 1) := by decide +kernel
theorem dX10_fate_31 : decode cX10_fate 31 = .ok (.if_icmp .eq 30, 3) := by decide +kernel
theorem dX10_fate_34 : decode cX10_fate 34 = .ok (.iload_n 3, 1) := by decide +kernel
theorem dX10_fate_35 : decode cX10_fate 35 = .ok (.aload_n 0, 1) := by decide +kernel
theorem dX10_fate_36 : decode cX10_fate 36 = .ok (.getfield 36, 3) := by decide +kernel
theorem dX10_fate_39 : decode cX10_fate 39 = .ok (.iload_n 1, 1) := by decide +kernel
theorem dX10_fate_40 : decode cX10_fate 40 = .ok (.invokevirtual 139, 3) := by decide +kernel
theorem dX10_fate_43 : decode cX10_fate 43 = .ok (.sipush 1199, 3) := by decide +kernel
theorem dX10_fate_46 : decode cX10_fate 46 = .ok (.invokestatic 90, 3) := by decide +kernel
theorem dX10_fate_49 : decode cX10_fate 49 = .ok (.ifCond .ne 12, 3) := by decide +kernel
theorem dX10_fate_52 : decode cX10_fate 52 = .ok (.aload_n 0, 1) := by decide +kernel
theorem dX10_fate_53 : decode cX10_fate 53 = .ok (.getfield 10, 3) := by decide +kernel
theorem dX10_fate_56 : decode cX10_fate 56 = .ok (.iconst 1, 1) := by decide +kernel
theorem dX10_fate_57 : decode cX10_fate 57 = .ok (.invokevirtual 94, 3) := by decide +kernel
theorem dX10_fate_60 : decode cX10_fate 60 = .ok (.lreturn, 1) := by decide +kernel
theorem dX10_fate_61 : decode cX10_fate 61 = .ok (.aload_n 0, 1) := by decide +kernel
theorem dX10_fate_62 : decode cX10_fate 62 = .ok (.getfield 36, 3) := by decide +kernel
theorem dX10_fate_65 : decode cX10_fate 65 = .ok (.invokevirtual 143, 3) := by decide +kernel
theorem dX10_fate_68 : decode cX10_fate 68 = .ok (.ifCond .eq 12, 3) := by decide +kernel
theorem dX10_fate_71 : decode cX10_fate 71 = .ok (.aload_n 0, 1) := by decide +kernel
theorem dX10_fate_72 : decode cX10_fate 72 = .ok (.getfield 10, 3) := by decide +kernel
theorem dX10_fate_75 : decode cX10_fate 75 = .ok (.iconst 4, 1) := by decide +kernel
theorem dX10_fate_76 : decode cX10_fate 76 = .ok (.invokevirtual 94, 3) := by decide +kernel
theorem dX10_fate_79 : decode cX10_fate 79 = .ok (.lreturn, 1) := by decide +kernel
theorem dX10_fate_80 : decode cX10_fate 80 = .ok (.aload_n 0, 1) := by decide +kernel
theorem dX10_fate_81 : decode cX10_fate 81 = .ok (.getfield 36, 3) := by decide +kernel
theorem dX10_fate_84 : decode cX10_fate 84 = .ok (.iload_n 1, 1) := by decide +kernel
theorem dX10_fate_85 : decode cX10_fate 85 = .ok (.iload_n 2, 1) := by decide +kernel
theorem dX10_fate_86 : decode cX10_fate 86 = .ok (.iload_n 3, 1) := by decide +kernel
theorem dX10_fate_87 : decode cX10_fate 87 = .ok (.aload_n 0, 1) := by decide +kernel
theorem dX10_fate_88 : decode cX10_fate 88 = .ok (.getfield 86, 3) := by decide +kernel
theorem dX10_fate_91 : decode cX10_fate 91 = .ok (.invokevirtual 146, 3) := by decide +kernel
theorem dX10_fate_94 : decode cX10_fate 94 = .ok (.aload_n 0, 1) := by decide +kernel
theorem dX10_fate_95 : decode cX10_fate 95 = .ok (.getfield 36, 3) := by decide +kernel
theorem dX10_fate_98 : decode cX10_fate 98 = .ok (.getfield 149, 3) := by decide +kernel
theorem dX10_fate_101 : decode cX10_fate 101 = .ok (.i2l, 1) := by decide +kernel
theorem dX10_fate_102 : decode cX10_fate 102 = .ok (.lreturn, 1) := by decide +kernel
theorem dX10_told_0 : decode cX10_told 0 = .ok (.aload_n 0, 1) := by decide +kernel
theorem dX10_told_1 : decode cX10_told 1 = .ok (.getfield 36, 3) := by decide +kernel
theorem dX10_told_4 : decode cX10_told 4 = .ok (.iload_n 1, 1) := by decide +kernel
theorem dX10_told_5 : decode cX10_told 5 = .ok (.invokevirtual 136, 3) := by decide +kernel
theorem dX10_told_8 : decode cX10_told 8 = .ok (.ifCond .eq 10, 3) := by decide +kernel
theorem dX10_told_11 : decode cX10_told 11 = .ok (.iload_n 2, 1) := by decide +kernel
theorem dX10_told_12 : decode cX10_told 12 = .ok (.invokestatic 110, 3) := by decide +kernel
theorem dX10_told_15 : decode cX10_told 15 = .ok (.ifCond .ne 12, 3) := by decide +kernel
theorem dX10_told_18 : decode cX10_told 18 = .ok (.aload_n 0, 1) := by decide +kernel
theorem dX10_told_19 : decode cX10_told 19 = .ok (.getfield 10, 3) := by decide +kernel
theorem dX10_told_22 : decode cX10_told 22 = .ok (.iconst 1, 1) := by decide +kernel
theorem dX10_told_23 : decode cX10_told 23 = .ok (.invokevirtual 94, 3) := by decide +kernel
theorem dX10_told_26 : decode cX10_told 26 = .ok (.lreturn, 1) := by decide +kernel
theorem dX10_told_27 : decode cX10_told 27 = .ok (.aload_n 0, 1) := by decide +kernel
theorem dX10_told_28 : decode cX10_told 28 = .ok (.getfield 36, 3) := by decide +kernel
theorem dX10_told_31 : decode cX10_told 31 = .ok (.iload_n 1, 1) := by decide +kernel
theorem dX10_told_32 : decode cX10_told 32 = .ok (.iload_n 2, 1) := by decide +kernel
theorem dX10_told_33 : decode cX10_told 33 = .ok (.invokevirtual 152, 3) := by decide +kernel
theorem dX10_told_36 : decode cX10_told 36 = .ok (.istore 4, 2) := by decide +kernel
theorem dX10_told_38 : decode cX10_told 38 = .ok (.iload 4, 2) := by decide +kernel
theorem dX10_told_40 : decode cX10_told 40 = .ok (.iconst (-1), 1) := by decide +kernel
theorem dX10_told_41 : decode cX10_told 41 = .ok (.if_icmp .ne 12, 3) := by decide +kernel
theorem dX10_told_44 : decode cX10_told 44 = .ok (.aload_n 0, 1) := by decide +kernel
theorem dX10_told_45 : decode cX10_told 45 = .ok (.getfield 10, 3) := by decide +kernel
theorem dX10_told_48 : decode cX10_told 48 = .ok (.iconst 2, 1) := by decide +kernel
theorem dX10_told_49 : decode cX10_told 49 = .ok (.invokevirtual 94, 3) := by decide +kernel
theorem dX10_told_52 : decode cX10_told 52 = .ok (.lreturn, 1) := by decide +kernel
theorem dX10_told_53 : decode cX10_told 53 = .ok (.iload_n 3, 1) := by decide +kernel
theorem dX10_told_54 : decode cX10_told 54 = .ok (.ifCond .eq 16, 3) := by decide +kernel
theorem dX10_told_57 : decode cX10_told 57 = .ok (.aload_n 0, 1) := by decide +kernel
theorem dX10_told_58 : decode cX10_told 58 = .ok (.getfield 36, 3) := by decide +kernel
theorem dX10_told_61 : decode cX10_told 61 = .ok (.iload 4, 2) := by decide +kernel
theorem dX10_told_63 : decode cX10_told 63 = .ok (.invokevirtual 156, 3) := by decide +kernel
theorem dX10_told_66 : decode cX10_told 66 = .ok (.i2l, 1) := by decide +kernel
theorem dX10_told_67 : decode cX10_told 67 = .ok (.goto 13, 3) := by decide +kernel
theorem dX10_told_70 : decode cX10_told 70 = .ok (.aload_n 0, 1) := by decide +kernel
theorem dX10_told_71 : decode cX10_told 71 = .ok (.getfield 36, 3) := by decide +kernel
theorem dX10_told_74 : decode cX10_told 74 = .ok (.iload 4, 2) := by decide +kernel
theorem dX10_told_76 : decode cX10_told 76 = .ok (.invokevirtual 159, 3) := by decide +kernel
theorem dX10_told_79 : decode cX10_told 79 = .ok (.i2l, 1) := by decide +kernel
theorem dX10_told_80 : decode cX10_told 80 = .ok (.lreturn, 1) := by decide +kernel
theorem dX10_deposit_0 : decode cX10_deposit 0 = .ok (.iload_n 1, 1) := by decide +kernel
theorem dX10_deposit_1 : decode cX10_deposit 1 = .ok (.invokestatic 162, 3) := by decide +kernel
theorem dX10_deposit_4 : decode cX10_deposit 4 = .ok (.ifCond .eq 30, 3) := by decide +kernel
theorem dX10_deposit_7 : decode cX10_deposit 7 = .ok (.aload_n 0, 1) := by decide +kernel
theorem dX10_deposit_8 : decode cX10_deposit 8 = .ok (.getfield 36, 3) := by decide +kernel
theorem dX10_deposit_11 : decode cX10_deposit 11 = .ok (.iload_n 2, 1) := by decide +kernel
theorem dX10_deposit_12 : decode cX10_deposit 12 = .ok (.invokevirtual 136, 3) := by decide +kernel
theorem dX10_deposit_15 : decode cX10_deposit 15 = .ok (.ifCond .eq 19, 3) := by decide +kernel
theorem dX10_deposit_18 : decode cX10_deposit 18 = .ok (.iload_n 1, 1) := by decide +kernel
theorem dX10_deposit_19 : decode cX10_deposit 19 = .ok (.iconst 1, 1) := by decide +kernel
theorem dX10_deposit_20 : decode cX10_deposit 20 = .ok (.if_icmp .ne 23, 3) := by decide +kernel
theorem dX10_deposit_23 : decode cX10_deposit 23 = .ok (.aload_n 0, 1) := by decide +kernel
theorem dX10_deposit_24 : decode cX10_deposit 24 = .ok (.getfield 36, 3) := by decide +kernel
theorem dX10_deposit_27 : decode cX10_deposit 27 = .ok (.iload_n 3, 1) := by decide +kernel
theorem dX10_deposit_28 : decode cX10_deposit 28 = .ok (.invokevirtual 136, 3) := by decide +kernel
theorem dX10_deposit_31 : decode cX10_deposit 31 = .ok (.ifCond .ne 12, 3) := by decide +kernel
theorem dX10_deposit_34 : decode cX10_deposit 34 = .ok (.aload_n 0, 1) := by decide +kernel
theorem dX10_deposit_35 : decode cX10_deposit 35 = .ok (.getfield 10, 3) := by decide +kernel
theorem dX10_deposit_38 : decode cX10_deposit 38 = .ok (.iconst 1, 1) := by decide +kernel
theorem dX10_deposit_39 : decode cX10_deposit 39 = .ok (.invokevirtual 94, 3) := by decide +kernel
theorem dX10_deposit_42 : decode cX10_deposit 42 = .ok (.lreturn, 1) := by decide +kernel
theorem dX10_deposit_43 : decode cX10_deposit 43 = .ok (.iload 5, 2) := by decide +kernel
theorem dX10_deposit_45 : decode cX10_deposit 45 = .ok (.invokestatic 165, 3) := by decide +kernel
theorem dX10_deposit_48 : decode cX10_deposit 48 = .ok (.ifCond .eq 15, 3) := by decide +kernel
theorem dX10_deposit_51 : decode cX10_deposit 51 = .ok (.iload 4, 2) := by decide +kernel
theorem dX10_deposit_53 : decode cX10_deposit 53 = .ok (.iconst 1, 1) := by decide +kernel
theorem dX10_deposit_54 : decode cX10_deposit 54 = .ok (.sipush 10000, 3) := by decide +kernel
theorem dX10_deposit_57 : decode cX10_deposit 57 = .ok (.invokestatic 90, 3) := by decide +kernel
theorem dX10_deposit_60 : decode cX10_deposit 60 = .ok (.ifCond .ne 12, 3) := by decide +kernel
theorem dX10_deposit_63 : decode cX10_deposit 63 = .ok (.aload_n 0, 1) := by decide +kernel
theorem dX10_deposit_64 : decode cX10_deposit 64 = .ok (.getfield 10, 3) := by decide +kernel
theorem dX10_deposit_67 : decode cX10_deposit 67 = .ok (.iconst 1, 1) := by decide +kernel
theorem dX10_deposit_68 : decode cX10_deposit 68 = .ok (.invokevirtual 94, 3) := by decide +kernel
theorem dX10_deposit_71 : decode cX10_deposit 71 = .ok (.lreturn, 1) := by decide +kernel
theorem dX10_deposit_72 : decode cX10_deposit 72 = .ok (.iload_n 1, 1) := by decide +kernel
theorem dX10_deposit_73 : decode cX10_deposit 73 = .ok (.iconst 1, 1) := by decide +kernel
theorem dX10_deposit_74 : decode cX10_deposit 74 = .ok (.if_icmp .ne 17, 3) := by decide +kernel
theorem dX10_deposit_77 : decode cX10_deposit 77 = .ok (.iload_n 2, 1) := by decide +kernel
theorem dX10_deposit_78 : decode cX10_deposit 78 = .ok (.iload_n 3, 1) := by decide +kernel
theorem dX10_deposit_79 : decode cX10_deposit 79 = .ok (.if_icmp .ne 12, 3) := by decide +kernel
theorem dX10_deposit_82 : decode cX10_deposit 82 = .ok (.aload_n 0, 1) := by decide +kernel
theorem dX10_deposit_83 : decode cX10_deposit 83 = .ok (.getfield 10, 3) := by decide +kernel
theorem dX10_deposit_86 : decode cX10_deposit 86 = .ok (.iconst 5, 1) := by decide +kernel
theorem dX10_deposit_87 : decode cX10_deposit 87 = .ok (.invokevirtual 94, 3) := by decide +kernel
theorem dX10_deposit_90 : decode cX10_deposit 90 = .ok (.lreturn, 1) := by decide +kernel
theorem dX10_deposit_91 : decode cX10_deposit 91 = .ok (.aload_n 0, 1) := by decide +kernel
theorem dX10_deposit_92 : decode cX10_deposit 92 = .ok (.iload_n 2, 1) := by decide +kernel
theorem dX10_deposit_93 : decode cX10_deposit 93 = .ok (.invokevirtual 168, 3) := by decide +kernel
theorem dX10_deposit_96 : decode cX10_deposit 96 = .ok (.ifCond .ne 16, 3) := by decide +kernel
theorem dX10_deposit_99 : decode cX10_deposit 99 = .ok (.iload_n 1, 1) := by decide +kernel
theorem dX10_deposit_100 : decode cX10_deposit 100 = .ok (.iconst 1, 1) := by decide +kernel
theorem dX10_deposit_101 : decode cX10_deposit 101 = .ok (.if_icmp .ne 20, 3) := by decide +kernel
theorem dX10_deposit_104 : decode cX10_deposit 104 = .ok (.aload_n 0, 1) := by decide +kernel
theorem dX10_deposit_105 : decode cX10_deposit 105 = .ok (.iload_n 3, 1) := by decide +kernel
theorem dX10_deposit_106 : decode cX10_deposit 106 = .ok (.invokevirtual 168, 3) := by decide +kernel
theorem dX10_deposit_109 : decode cX10_deposit 109 = .ok (.ifCond .eq 12, 3) := by decide +kernel
theorem dX10_deposit_112 : decode cX10_deposit 112 = .ok (.aload_n 0, 1) := by decide +kernel
theorem dX10_deposit_113 : decode cX10_deposit 113 = .ok (.getfield 10, 3) := by decide +kernel
theorem dX10_deposit_116 : decode cX10_deposit 116 = .ok (.iconst 3, 1) := by decide +kernel
theorem dX10_deposit_117 : decode cX10_deposit 117 = .ok (.invokevirtual 94, 3) := by decide +kernel
theorem dX10_deposit_120 : decode cX10_deposit 120 = .ok (.lreturn, 1) := by decide +kernel
theorem dX10_deposit_121 : decode cX10_deposit 121 = .ok (.aload_n 0, 1) := by decide +kernel
theorem dX10_deposit_122 : decode cX10_deposit 122 = .ok (.getfield 43, 3) := by decide +kernel
theorem dX10_deposit_125 : decode cX10_deposit 125 = .ok (.invokevirtual 171, 3) := by decide +kernel
theorem dX10_deposit_128 : decode cX10_deposit 128 = .ok (.ifCond .eq 12, 3) := by decide +kernel
theorem dX10_deposit_131 : decode cX10_deposit 131 = .ok (.aload_n 0, 1) := by decide +kernel
theorem dX10_deposit_132 : decode cX10_deposit 132 = .ok (.getfield 10, 3) := by decide +kernel
theorem dX10_deposit_135 : decode cX10_deposit 135 = .ok (.iconst 4, 1) := by decide +kernel
theorem dX10_deposit_136 : decode cX10_deposit 136 = .ok (.invokevirtual 94, 3) := by decide +kernel
theorem dX10_deposit_139 : decode cX10_deposit 139 = .ok (.lreturn, 1) := by decide +kernel
theorem dX10_deposit_140 : decode cX10_deposit 140 = .ok (.aload_n 0, 1) := by decide +kernel
theorem dX10_deposit_141 : decode cX10_deposit 141 = .ok (.getfield 19, 3) := by decide +kernel
theorem dX10_deposit_144 : decode cX10_deposit 144 = .ok (.iconst 5, 1) := by decide +kernel
theorem dX10_deposit_145 : decode cX10_deposit 145 = .ok (.aload_n 0, 1) := by decide +kernel
theorem dX10_deposit_146 : decode cX10_deposit 146 = .ok (.getfield 86, 3) := by decide +kernel
theorem dX10_deposit_149 : decode cX10_deposit 149 = .ok (.aload_n 0, 1) := by decide +kernel
theorem dX10_deposit_150 : decode cX10_deposit 150 = .ok (.getfield 86, 3) := by decide +kernel
theorem dX10_deposit_153 : decode cX10_deposit 153 = .ok (.invokevirtual 128, 3) := by decide +kernel
theorem dX10_deposit_156 : decode cX10_deposit 156 = .ok (.istore 6, 2) := by decide +kernel
theorem dX10_deposit_158 : decode cX10_deposit 158 = .ok (.new 172, 3) := by decide +kernel
theorem dX10_deposit_161 : decode cX10_deposit 161 = .ok (.dup, 1) := by decide +kernel
theorem dX10_deposit_162 : decode cX10_deposit 162 = .ok (.iload_n 1, 1) := by decide +kernel
theorem dX10_deposit_163 : decode cX10_deposit 163 = .ok (.iload_n 2, 1) := by decide +kernel
theorem dX10_deposit_164 : decode cX10_deposit 164 = .ok (.iload_n 3, 1) := by decide +kernel
theorem dX10_deposit_165 : decode cX10_deposit 165 = .ok (.aload_n 0, 1) := by decide +kernel
theorem dX10_deposit_166 : decode cX10_deposit 166 = .ok (.getfield 86, 3) := by decide +kernel
theorem dX10_deposit_169 : decode cX10_deposit 169 = .ok (.iload 5, 2) := by decide +kernel
theorem dX10_deposit_171 : decode cX10_deposit 171 = .ok (.invokespecial 174, 3) := by decide +kernel
theorem dX10_deposit_174 : decode cX10_deposit 174 = .ok (.astore 7, 2) := by decide +kernel
theorem dX10_deposit_176 : decode cX10_deposit 176 = .ok (.aload 7, 2) := by decide +kernel
theorem dX10_deposit_178 : decode cX10_deposit 178 = .ok (.iload 4, 2) := by decide +kernel
theorem dX10_deposit_180 : decode cX10_deposit 180 = .ok (.aload_n 0, 1) := by decide +kernel
theorem dX10_deposit_181 : decode cX10_deposit 181 = .ok (.iload 4, 2) := by decide +kernel
theorem dX10_deposit_183 : decode cX10_deposit 183 = .ok (.iload 6, 2) := by decide +kernel
theorem dX10_deposit_185 : decode cX10_deposit 185 = .ok (.invokevirtual 177, 3) := by decide +kernel
theorem dX10_deposit_188 : decode cX10_deposit 188 = .ok (.aload_n 0, 1) := by decide +kernel
theorem dX10_deposit_189 : decode cX10_deposit 189 = .ok (.getfield 86, 3) := by decide +kernel
theorem dX10_deposit_192 : decode cX10_deposit 192 = .ok (.iload 6, 2) := by decide +kernel
theorem dX10_deposit_194 : decode cX10_deposit 194 = .ok (.iadd, 1) := by decide +kernel
theorem dX10_deposit_195 : decode cX10_deposit 195 = .ok (.invokevirtual 181, 3) := by decide +kernel
theorem dX10_deposit_198 : decode cX10_deposit 198 = .ok (.aload_n 0, 1) := by decide +kernel
theorem dX10_deposit_199 : decode cX10_deposit 199 = .ok (.getfield 43, 3) := by decide +kernel
theorem dX10_deposit_202 : decode cX10_deposit 202 = .ok (.aload 7, 2) := by decide +kernel
theorem dX10_deposit_204 : decode cX10_deposit 204 = .ok (.invokevirtual 185, 3) := by decide +kernel
theorem dX10_deposit_207 : decode cX10_deposit 207 = .ok (.aload_n 0, 1) := by decide +kernel
theorem dX10_deposit_208 : decode cX10_deposit 208 = .ok (.getfield 43, 3) := by decide +kernel
theorem dX10_deposit_211 : decode cX10_deposit 211 = .ok (.getfield 188, 3) := by decide +kernel
theorem dX10_deposit_214 : decode cX10_deposit 214 = .ok (.iconst 1, 1) := by decide +kernel
theorem dX10_deposit_215 : decode cX10_deposit 215 = .ok (.isub, 1) := by decide +kernel
theorem dX10_deposit_216 : decode cX10_deposit 216 = .ok (.i2l, 1) := by decide +kernel
theorem dX10_deposit_217 : decode cX10_deposit 217 = .ok (.lreturn, 1) := by decide +kernel
theorem dX10_about_0 : decode cX10_about 0 = .ok (.aload_n 0, 1) := by decide +kernel
theorem dX10_about_1 : decode cX10_about 1 = .ok (.getfield 43, 3) := by decide +kernel
theorem dX10_about_4 : decode cX10_about 4 = .ok (.iload_n 1, 1) := by decide +kernel
theorem dX10_about_5 : decode cX10_about 5 = .ok (.invokevirtual 189, 3) := by decide +kernel
theorem dX10_about_8 : decode cX10_about 8 = .ok (.astore_n 3, 1) := by decide +kernel
theorem dX10_about_9 : decode cX10_about 9 = .ok (.aload_n 3, 1) := by decide +kernel
theorem dX10_about_10 : decode cX10_about 10 = .ok (.ifnull 13, 3) := by decide +kernel
theorem dX10_about_13 : decode cX10_about 13 = .ok (.iload_n 2, 1) := by decide +kernel
theorem dX10_about_14 : decode cX10_about 14 = .ok (.iconst 0, 1) := by decide +kernel
theorem dX10_about_15 : decode cX10_about 15 = .ok (.bipush 8, 2) := by decide +kernel
theorem dX10_about_17 : decode cX10_about 17 = .ok (.invokestatic 90, 3) := by decide +kernel
theorem dX10_about_20 : decode cX10_about 20 = .ok (.ifCond .ne 12, 3) := by decide +kernel
theorem dX10_about_23 : decode cX10_about 23 = .ok (.aload_n 0, 1) := by decide +kernel
theorem dX10_about_24 : decode cX10_about 24 = .ok (.getfield 10, 3) := by decide +kernel
theorem dX10_about_27 : decode cX10_about 27 = .ok (.iconst 1, 1) := by decide +kernel
theorem dX10_about_28 : decode cX10_about 28 = .ok (.invokevirtual 94, 3) := by decide +kernel
theorem dX10_about_31 : decode cX10_about 31 = .ok (.lreturn, 1) := by decide +kernel
theorem dX10_about_32 : decode cX10_about 32 = .ok (.iload_n 2, 1) := by decide +kernel
theorem dX10_about_33 : decode cX10_about 33 = .ok (.iconst 2, 1) := by decide +kernel
theorem dX10_about_34 : decode cX10_about 34 = .ok (.if_icmp .ne 20, 3) := by decide +kernel
theorem dX10_about_37 : decode cX10_about 37 = .ok (.aload_n 3, 1) := by decide +kernel
theorem dX10_about_38 : decode cX10_about 38 = .ok (.getfield 193, 3) := by decide +kernel
theorem dX10_about_41 : decode cX10_about 41 = .ok (.iconst 1, 1) := by decide +kernel
theorem dX10_about_42 : decode cX10_about 42 = .ok (.if_icmp .eq 12, 3) := by decide +kernel
theorem dX10_about_45 : decode cX10_about 45 = .ok (.aload_n 0, 1) := by decide +kernel
theorem dX10_about_46 : decode cX10_about 46 = .ok (.getfield 10, 3) := by decide +kernel
theorem dX10_about_49 : decode cX10_about 49 = .ok (.iconst 2, 1) := by decide +kernel
theorem dX10_about_50 : decode cX10_about 50 = .ok (.invokevirtual 94, 3) := by decide +kernel
theorem dX10_about_53 : decode cX10_about 53 = .ok (.lreturn, 1) := by decide +kernel
theorem dX10_about_54 : decode cX10_about 54 = .ok (.aload_n 3, 1) := by decide +kernel
theorem dX10_about_55 : decode cX10_about 55 = .ok (.iload_n 2, 1) := by decide +kernel
theorem dX10_about_56 : decode cX10_about 56 = .ok (.invokevirtual 196, 3) := by decide +kernel
theorem dX10_about_59 : decode cX10_about 59 = .ok (.lreturn, 1) := by decide +kernel
theorem dX10_as_0 : decode cX10_as 0 = .ok (.aload_n 0, 1) := by decide +kernel
theorem dX10_as_1 : decode cX10_as 1 = .ok (.getfield 43, 3) := by decide +kernel
theorem dX10_as_4 : decode cX10_as 4 = .ok (.iload_n 1, 1) := by decide +kernel
theorem dX10_as_5 : decode cX10_as 5 = .ok (.invokevirtual 189, 3) := by decide +kernel
theorem dX10_as_8 : decode cX10_as 8 = .ok (.astore_n 3, 1) := by decide +kernel
theorem dX10_as_9 : decode cX10_as 9 = .ok (.aload_n 3, 1) := by decide +kernel
theorem dX10_as_10 : decode cX10_as 10 = .ok (.ifnull 10, 3) := by decide +kernel
theorem dX10_as_13 : decode cX10_as 13 = .ok (.iload_n 2, 1) := by decide +kernel
theorem dX10_as_14 : decode cX10_as 14 = .ok (.invokestatic 162, 3) := by decide +kernel
theorem dX10_as_17 : decode cX10_as 17 = .ok (.ifCond .ne 12, 3) := by decide +kernel
theorem dX10_as_20 : decode cX10_as 20 = .ok (.aload_n 0, 1) := by decide +kernel
theorem dX10_as_21 : decode cX10_as 21 = .ok (.getfield 10, 3) := by decide +kernel
theorem dX10_as_24 : decode cX10_as 24 = .ok (.iconst 1, 1) := by decide +kernel
theorem dX10_as_25 : decode cX10_as 25 = .ok (.invokevirtual 94, 3) := by decide +kernel
theorem dX10_as_28 : decode cX10_as 28 = .ok (.lreturn, 1) := by decide +kernel
theorem dX10_as_29 : decode cX10_as 29 = .ok (.iload_n 2, 1) := by decide +kernel
theorem dX10_as_30 : decode cX10_as 30 = .ok (.ifCond .eq 20, 3) := by decide +kernel
theorem dX10_as_33 : decode cX10_as 33 = .ok (.iload_n 2, 1) := by decide +kernel
theorem dX10_as_34 : decode cX10_as 34 = .ok (.aload_n 3, 1) := by decide +kernel
theorem dX10_as_35 : decode cX10_as 35 = .ok (.getfield 193, 3) := by decide +kernel
theorem dX10_as_38 : decode cX10_as 38 = .ok (.if_icmp .eq 12, 3) := by decide +kernel
theorem dX10_as_41 : decode cX10_as 41 = .ok (.aload_n 0, 1) := by decide +kernel
theorem dX10_as_42 : decode cX10_as 42 = .ok (.getfield 10, 3) := by decide +kernel
theorem dX10_as_45 : decode cX10_as 45 = .ok (.iconst 5, 1) := by decide +kernel
theorem dX10_as_46 : decode cX10_as 46 = .ok (.invokevirtual 94, 3) := by decide +kernel
theorem dX10_as_49 : decode cX10_as 49 = .ok (.lreturn, 1) := by decide +kernel
theorem dX10_as_50 : decode cX10_as 50 = .ok (.aload_n 3, 1) := by decide +kernel
theorem dX10_as_51 : decode cX10_as 51 = .ok (.getfield 199, 3) := by decide +kernel
theorem dX10_as_54 : decode cX10_as 54 = .ok (.i2l, 1) := by decide +kernel
theorem dX10_as_55 : decode cX10_as 55 = .ok (.lreturn, 1) := by decide +kernel
theorem dX10_sell_0 : decode cX10_sell 0 = .ok (.aload_n 0, 1) := by decide +kernel
theorem dX10_sell_1 : decode cX10_sell 1 = .ok (.getfield 43, 3) := by decide +kernel
theorem dX10_sell_4 : decode cX10_sell 4 = .ok (.iload_n 1, 1) := by decide +kernel
theorem dX10_sell_5 : decode cX10_sell 5 = .ok (.invokevirtual 189, 3) := by decide +kernel
theorem dX10_sell_8 : decode cX10_sell 8 = .ok (.astore_n 3, 1) := by decide +kernel
theorem dX10_sell_9 : decode cX10_sell 9 = .ok (.aload_n 3, 1) := by decide +kernel
theorem dX10_sell_10 : decode cX10_sell 10 = .ok (.ifnull 10, 3) := by decide +kernel
theorem dX10_sell_13 : decode cX10_sell 13 = .ok (.iload_n 2, 1) := by decide +kernel
theorem dX10_sell_14 : decode cX10_sell 14 = .ok (.invokestatic 165, 3) := by decide +kernel
theorem dX10_sell_17 : decode cX10_sell 17 = .ok (.ifCond .ne 12, 3) := by decide +kernel
theorem dX10_sell_20 : decode cX10_sell 20 = .ok (.aload_n 0, 1) := by decide +kernel
theorem dX10_sell_21 : decode cX10_sell 21 = .ok (.getfield 10, 3) := by decide +kernel
theorem dX10_sell_24 : decode cX10_sell 24 = .ok (.iconst 1, 1) := by decide +kernel
theorem dX10_sell_25 : decode cX10_sell 25 = .ok (.invokevirtual 94, 3) := by decide +kernel
theorem dX10_sell_28 : decode cX10_sell 28 = .ok (.lreturn, 1) := by decide +kernel
theorem dX10_sell_29 : decode cX10_sell 29 = .ok (.aload_n 3, 1) := by decide +kernel
theorem dX10_sell_30 : decode cX10_sell 30 = .ok (.getfield 202, 3) := by decide +kernel
theorem dX10_sell_33 : decode cX10_sell 33 = .ok (.ifCond .eq 12, 3) := by decide +kernel
theorem dX10_sell_36 : decode cX10_sell 36 = .ok (.aload_n 0, 1) := by decide +kernel
theorem dX10_sell_37 : decode cX10_sell 37 = .ok (.getfield 10, 3) := by decide +kernel
theorem dX10_sell_40 : decode cX10_sell 40 = .ok (.iconst 3, 1) := by decide +kernel
theorem dX10_sell_41 : decode cX10_sell 41 = .ok (.invokevirtual 94, 3) := by decide +kernel
theorem dX10_sell_44 : decode cX10_sell 44 = .ok (.lreturn, 1) := by decide +kernel
theorem dX10_sell_45 : decode cX10_sell 45 = .ok (.aload_n 3, 1) := by decide +kernel
theorem dX10_sell_46 : decode cX10_sell 46 = .ok (.invokevirtual 206, 3) := by decide +kernel
theorem dX10_sell_49 : decode cX10_sell 49 = .ok (.istore 4, 2) := by decide +kernel
theorem dX10_sell_51 : decode cX10_sell 51 = .ok (.iload 4, 2) := by decide +kernel
theorem dX10_sell_53 : decode cX10_sell 53 = .ok (.iload_n 2, 1) := by decide +kernel
theorem dX10_sell_54 : decode cX10_sell 54 = .ok (.if_icmp .ne 12, 3) := by decide +kernel
theorem dX10_sell_57 : decode cX10_sell 57 = .ok (.aload_n 0, 1) := by decide +kernel
theorem dX10_sell_58 : decode cX10_sell 58 = .ok (.getfield 10, 3) := by decide +kernel
theorem dX10_sell_61 : decode cX10_sell 61 = .ok (.iconst 5, 1) := by decide +kernel
theorem dX10_sell_62 : decode cX10_sell 62 = .ok (.invokevirtual 94, 3) := by decide +kernel
theorem dX10_sell_65 : decode cX10_sell 65 = .ok (.lreturn, 1) := by decide +kernel
theorem dX10_sell_66 : decode cX10_sell 66 = .ok (.aload_n 3, 1) := by decide +kernel
theorem dX10_sell_67 : decode cX10_sell 67 = .ok (.aload_n 0, 1) := by decide +kernel
theorem dX10_sell_68 : decode cX10_sell 68 = .ok (.getfield 86, 3) := by decide +kernel
theorem dX10_sell_71 : decode cX10_sell 71 = .ok (.invokevirtual 210, 3) := by decide +kernel
theorem dX10_sell_74 : decode cX10_sell 74 = .ok (.ifCond .ne 12, 3) := by decide +kernel
theorem dX10_sell_77 : decode cX10_sell 77 = .ok (.aload_n 0, 1) := by decide +kernel
theorem dX10_sell_78 : decode cX10_sell 78 = .ok (.getfield 10, 3) := by decide +kernel
theorem dX10_sell_81 : decode cX10_sell 81 = .ok (.iconst 4, 1) := by decide +kernel
theorem dX10_sell_82 : decode cX10_sell 82 = .ok (.invokevirtual 94, 3) := by decide +kernel
theorem dX10_sell_85 : decode cX10_sell 85 = .ok (.lreturn, 1) := by decide +kernel
theorem dX10_sell_86 : decode cX10_sell 86 = .ok (.aload_n 3, 1) := by decide +kernel
theorem dX10_sell_87 : decode cX10_sell 87 = .ok (.iload_n 2, 1) := by decide +kernel
theorem dX10_sell_88 : decode cX10_sell 88 = .ok (.aload_n 0, 1) := by decide +kernel
theorem dX10_sell_89 : decode cX10_sell 89 = .ok (.getfield 86, 3) := by decide +kernel
theorem dX10_sell_92 : decode cX10_sell 92 = .ok (.invokevirtual 213, 3) := by decide +kernel
theorem dX10_sell_95 : decode cX10_sell 95 = .ok (.iload 4, 2) := by decide +kernel
theorem dX10_sell_97 : decode cX10_sell 97 = .ok (.i2l, 1) := by decide +kernel
theorem dX10_sell_98 : decode cX10_sell 98 = .ok (.lreturn, 1) := by decide +kernel
theorem dX10_holder_0 : decode cX10_holder 0 = .ok (.aload_n 0, 1) := by decide +kernel
theorem dX10_holder_1 : decode cX10_holder 1 = .ok (.getfield 43, 3) := by decide +kernel
theorem dX10_holder_4 : decode cX10_holder 4 = .ok (.iload_n 1, 1) := by decide +kernel
theorem dX10_holder_5 : decode cX10_holder 5 = .ok (.invokevirtual 189, 3) := by decide +kernel
theorem dX10_holder_8 : decode cX10_holder 8 = .ok (.astore_n 3, 1) := by decide +kernel
theorem dX10_holder_9 : decode cX10_holder 9 = .ok (.aload_n 3, 1) := by decide +kernel
theorem dX10_holder_10 : decode cX10_holder 10 = .ok (.ifnull 10, 3) := by decide +kernel
theorem dX10_holder_13 : decode cX10_holder 13 = .ok (.iload_n 2, 1) := by decide +kernel
theorem dX10_holder_14 : decode cX10_holder 14 = .ok (.invokestatic 110, 3) := by decide +kernel
theorem dX10_holder_17 : decode cX10_holder 17 = .ok (.ifCond .ne 12, 3) := by decide +kernel
theorem dX10_holder_20 : decode cX10_holder 20 = .ok (.aload_n 0, 1) := by decide +kernel
theorem dX10_holder_21 : decode cX10_holder 21 = .ok (.getfield 10, 3) := by decide +kernel
theorem dX10_holder_24 : decode cX10_holder 24 = .ok (.iconst 1, 1) := by decide +kernel
theorem dX10_holder_25 : decode cX10_holder 25 = .ok (.invokevirtual 94, 3) := by decide +kernel
theorem dX10_holder_28 : decode cX10_holder 28 = .ok (.lreturn, 1) := by decide +kernel
theorem dX10_holder_29 : decode cX10_holder 29 = .ok (.iload_n 2, 1) := by decide +kernel
theorem dX10_holder_30 : decode cX10_holder 30 = .ok (.aload_n 3, 1) := by decide +kernel
theorem dX10_holder_31 : decode cX10_holder 31 = .ok (.getfield 217, 3) := by decide +kernel
theorem dX10_holder_34 : decode cX10_holder 34 = .ok (.if_icmp .ge 12, 3) := by decide +kernel
theorem dX10_holder_37 : decode cX10_holder 37 = .ok (.aload_n 0, 1) := by decide +kernel
theorem dX10_holder_38 : decode cX10_holder 38 = .ok (.getfield 10, 3) := by decide +kernel
theorem dX10_holder_41 : decode cX10_holder 41 = .ok (.iconst 2, 1) := by decide +kernel
theorem dX10_holder_42 : decode cX10_holder 42 = .ok (.invokevirtual 94, 3) := by decide +kernel
theorem dX10_holder_45 : decode cX10_holder 45 = .ok (.lreturn, 1) := by decide +kernel
theorem dX10_holder_46 : decode cX10_holder 46 = .ok (.aload_n 3, 1) := by decide +kernel
theorem dX10_holder_47 : decode cX10_holder 47 = .ok (.iload_n 2, 1) := by decide +kernel
theorem dX10_holder_48 : decode cX10_holder 48 = .ok (.invokevirtual 220, 3) := by decide +kernel
theorem dX10_holder_51 : decode cX10_holder 51 = .ok (.i2l, 1) := by decide +kernel
theorem dX10_holder_52 : decode cX10_holder 52 = .ok (.lreturn, 1) := by decide +kernel
theorem dX10_due_0 : decode cX10_due 0 = .ok (.aload_n 0, 1) := by decide +kernel
theorem dX10_due_1 : decode cX10_due 1 = .ok (.getfield 43, 3) := by decide +kernel
theorem dX10_due_4 : decode cX10_due 4 = .ok (.iload_n 1, 1) := by decide +kernel
theorem dX10_due_5 : decode cX10_due 5 = .ok (.invokevirtual 189, 3) := by decide +kernel
theorem dX10_due_8 : decode cX10_due 8 = .ok (.astore 4, 2) := by decide +kernel
theorem dX10_due_10 : decode cX10_due 10 = .ok (.aload 4, 2) := by decide +kernel
theorem dX10_due_12 : decode cX10_due 12 = .ok (.ifnull 19, 3) := by decide +kernel
theorem dX10_due_15 : decode cX10_due 15 = .ok (.iload_n 2, 1) := by decide +kernel
theorem dX10_due_16 : decode cX10_due 16 = .ok (.invokestatic 110, 3) := by decide +kernel
theorem dX10_due_19 : decode cX10_due 19 = .ok (.ifCond .eq 12, 3) := by decide +kernel
theorem dX10_due_22 : decode cX10_due 22 = .ok (.iload_n 3, 1) := by decide +kernel
theorem dX10_due_23 : decode cX10_due 23 = .ok (.iconst 0, 1) := by decide +kernel
theorem dX10_due_24 : decode cX10_due 24 = .ok (.iconst 3, 1) := by decide +kernel
theorem dX10_due_25 : decode cX10_due 25 = .ok (.invokestatic 90, 3) := by decide +kernel
theorem dX10_due_28 : decode cX10_due 28 = .ok (.ifCond .ne 12, 3) := by decide +kernel
theorem dX10_due_31 : decode cX10_due 31 = .ok (.aload_n 0, 1) := by decide +kernel
theorem dX10_due_32 : decode cX10_due 32 = .ok (.getfield 10, 3) := by decide +kernel
theorem dX10_due_35 : decode cX10_due 35 = .ok (.iconst 1, 1) := by decide +kernel
theorem dX10_due_36 : decode cX10_due 36 = .ok (.invokevirtual 94, 3) := by decide +kernel
theorem dX10_due_39 : decode cX10_due 39 = .ok (.lreturn, 1) := by decide +kernel
theorem dX10_due_40 : decode cX10_due 40 = .ok (.aload_n 0, 1) := by decide +kernel
theorem dX10_due_41 : decode cX10_due 41 = .ok (.getfield 52, 3) := by decide +kernel
theorem dX10_due_44 : decode cX10_due 44 = .ok (.aload 4, 2) := by decide +kernel
theorem dX10_due_46 : decode cX10_due 46 = .ok (.iload_n 2, 1) := by decide +kernel
theorem dX10_due_47 : decode cX10_due 47 = .ok (.invokevirtual 223, 3) := by decide +kernel
theorem dX10_due_50 : decode cX10_due 50 = .ok (.istore 5, 2) := by decide +kernel
theorem dX10_due_52 : decode cX10_due 52 = .ok (.iload 5, 2) := by decide +kernel
theorem dX10_due_54 : decode cX10_due 54 = .ok (.iconst (-1), 1) := by decide +kernel
theorem dX10_due_55 : decode cX10_due 55 = .ok (.if_icmp .ne 12, 3) := by decide +kernel
theorem dX10_due_58 : decode cX10_due 58 = .ok (.aload_n 0, 1) := by decide +kernel
theorem dX10_due_59 : decode cX10_due 59 = .ok (.getfield 10, 3) := by decide +kernel
theorem dX10_due_62 : decode cX10_due 62 = .ok (.iconst 2, 1) := by decide +kernel
theorem dX10_due_63 : decode cX10_due 63 = .ok (.invokevirtual 94, 3) := by decide +kernel
theorem dX10_due_66 : decode cX10_due 66 = .ok (.lreturn, 1) := by decide +kernel
theorem dX10_due_67 : decode cX10_due 67 = .ok (.iload_n 3, 1) := by decide +kernel
theorem dX10_due_68 : decode cX10_due 68 = .ok (.tableswitch 64 0 2 #[28, 39, 51], 28) := by decide +kernel
theorem dX10_due_96 : decode cX10_due 96 = .ok (.aload_n 0, 1) := by decide +kernel
theorem dX10_due_97 : decode cX10_due 97 = .ok (.getfield 36, 3) := by decide +kernel
theorem dX10_due_100 : decode cX10_due 100 = .ok (.iload 5, 2) := by decide +kernel
theorem dX10_due_102 : decode cX10_due 102 = .ok (.invokevirtual 156, 3) := by decide +kernel
theorem dX10_due_105 : decode cX10_due 105 = .ok (.i2l, 1) := by decide +kernel
theorem dX10_due_106 : decode cX10_due 106 = .ok (.lreturn, 1) := by decide +kernel
theorem dX10_due_107 : decode cX10_due 107 = .ok (.aload_n 0, 1) := by decide +kernel
theorem dX10_due_108 : decode cX10_due 108 = .ok (.getfield 52, 3) := by decide +kernel
theorem dX10_due_111 : decode cX10_due 111 = .ok (.iload 5, 2) := by decide +kernel
theorem dX10_due_113 : decode cX10_due 113 = .ok (.iload_n 2, 1) := by decide +kernel
theorem dX10_due_114 : decode cX10_due 114 = .ok (.invokevirtual 227, 3) := by decide +kernel
theorem dX10_due_117 : decode cX10_due 117 = .ok (.i2l, 1) := by decide +kernel
theorem dX10_due_118 : decode cX10_due 118 = .ok (.lreturn, 1) := by decide +kernel
theorem dX10_due_119 : decode cX10_due 119 = .ok (.aload_n 0, 1) := by decide +kernel
theorem dX10_due_120 : decode cX10_due 120 = .ok (.getfield 52, 3) := by decide +kernel
theorem dX10_due_123 : decode cX10_due 123 = .ok (.aload 4, 2) := by decide +kernel
theorem dX10_due_125 : decode cX10_due 125 = .ok (.iload 5, 2) := by decide +kernel
theorem dX10_due_127 : decode cX10_due 127 = .ok (.iload_n 2, 1) := by decide +kernel
theorem dX10_due_128 : decode cX10_due 128 = .ok (.invokevirtual 230, 3) := by decide +kernel
theorem dX10_due_131 : decode cX10_due 131 = .ok (.lreturn, 1) := by decide +kernel
theorem dX10_due_132 : decode cX10_due 132 = .ok (.aload_n 0, 1) := by decide +kernel
theorem dX10_due_133 : decode cX10_due 133 = .ok (.getfield 36, 3) := by decide +kernel
theorem dX10_due_136 : decode cX10_due 136 = .ok (.iload 5, 2) := by decide +kernel
theorem dX10_due_138 : decode cX10_due 138 = .ok (.invokevirtual 159, 3) := by decide +kernel
theorem dX10_due_141 : decode cX10_due 141 = .ok (.i2l, 1) := by decide +kernel
theorem dX10_due_142 : decode cX10_due 142 = .ok (.lreturn, 1) := by decide +kernel
theorem dX10_foretold_0 : decode cX10_foretold 0 = .ok (.iload_n 1, 1) := by decide +kernel
theorem dX10_foretold_1 : decode cX10_foretold 1 = .ok (.invokestatic 110, 3) := by decide +kernel
theorem dX10_foretold_4 : decode cX10_foretold 4 = .ok (.ifCond .ne 12, 3) := by decide +kernel
theorem dX10_foretold_7 : decode cX10_foretold 7 = .ok (.aload_n 0, 1) := by decide +kernel
theorem dX10_foretold_8 : decode cX10_foretold 8 = .ok (.getfield 10, 3) := by decide +kernel
theorem dX10_foretold_11 : decode cX10_foretold 11 = .ok (.iconst 1, 1) := by decide +kernel
theorem dX10_foretold_12 : decode cX10_foretold 12 = .ok (.invokevirtual 94, 3) := by decide +kernel
theorem dX10_foretold_15 : decode cX10_foretold 15 = .ok (.lreturn, 1) := by decide +kernel
theorem dX10_foretold_16 : decode cX10_foretold 16 = .ok (.lconst 0, 1) := by decide +kernel
theorem dX10_foretold_17 : decode cX10_foretold 17 = .ok (.lstore_n 2, 1) := by decide +kernel
theorem dX10_foretold_18 : decode cX10_foretold 18 = .ok (.iconst 0, 1) := by decide +kernel
theorem dX10_foretold_19 : decode cX10_foretold 19 = .ok (.istore 4, 2) := by decide +kernel
theorem dX10_foretold_21 : decode cX10_foretold 21 = .ok (.iload 4, 2) := by decide +kernel
theorem dX10_foretold_23 : decode cX10_foretold 23 = .ok (.aload_n 0, 1) := by decide +kernel
theorem dX10_foretold_24 : decode cX10_foretold 24 = .ok (.getfield 43, 3) := by decide +kernel
theorem dX10_foretold_27 : decode cX10_foretold 27 = .ok (.getfield 188, 3) := by decide +kernel
theorem dX10_foretold_30 : decode cX10_foretold 30 = .ok (.if_icmp .ge 67, 3) := by decide +kernel
theorem dX10_foretold_33 : decode cX10_foretold 33 = .ok (.aload_n 0, 1) := by decide +kernel
theorem dX10_foretold_34 : decode cX10_foretold 34 = .ok (.getfield 43, 3) := by decide +kernel
theorem dX10_foretold_37 : decode cX10_foretold 37 = .ok (.iload 4, 2) := by decide +kernel
theorem dX10_foretold_39 : decode cX10_foretold 39 = .ok (.invokevirtual 189, 3) := by decide +kernel
theorem dX10_foretold_42 : decode cX10_foretold 42 = .ok (.astore 5, 2) := by decide +kernel
theorem dX10_foretold_44 : decode cX10_foretold 44 = .ok (.aload_n 0, 1) := by decide +kernel
theorem dX10_foretold_45 : decode cX10_foretold 45 = .ok (.getfield 52, 3) := by decide +kernel
theorem dX10_foretold_48 : decode cX10_foretold 48 = .ok (.aload 5, 2) := by decide +kernel
theorem dX10_foretold_50 : decode cX10_foretold 50 = .ok (.iload_n 1, 1) := by decide +kernel
theorem dX10_foretold_51 : decode cX10_foretold 51 = .ok (.invokevirtual 223, 3) := by decide +kernel
theorem dX10_foretold_54 : decode cX10_foretold 54 = .ok (.istore 6, 2) := by decide +kernel
theorem dX10_foretold_56 : decode cX10_foretold 56 = .ok (.iload 6, 2) := by decide +kernel
theorem dX10_foretold_58 : decode cX10_foretold 58 = .ok (.iconst (-1), 1) := by decide +kernel
theorem dX10_foretold_59 : decode cX10_foretold 59 = .ok (.if_icmp .eq 32, 3) := by decide +kernel
theorem dX10_foretold_62 : decode cX10_foretold 62 = .ok (.aload_n 0, 1) := by decide +kernel
theorem dX10_foretold_63 : decode cX10_foretold 63 = .ok (.getfield 52, 3) := by decide +kernel
theorem dX10_foretold_66 : decode cX10_foretold 66 = .ok (.iload 6, 2) := by decide +kernel
theorem dX10_foretold_68 : decode cX10_foretold 68 = .ok (.iload_n 1, 1) := by decide +kernel
theorem dX10_foretold_69 : decode cX10_foretold 69 = .ok (.invokevirtual 227, 3) := by decide +kernel
theorem dX10_foretold_72 : decode cX10_foretold 72 = .ok (.iload_n 1, 1) := by decide +kernel
theorem dX10_foretold_73 : decode cX10_foretold 73 = .ok (.if_icmp .ne 18, 3) := by decide +kernel
theorem dX10_foretold_76 : decode cX10_foretold 76 = .ok (.lload_n 2, 1) := by decide +kernel
theorem dX10_foretold_77 : decode cX10_foretold 77 = .ok (.aload_n 0, 1) := by decide +kernel
theorem dX10_foretold_78 : decode cX10_foretold 78 = .ok (.getfield 52, 3) := by decide +kernel
theorem dX10_foretold_81 : decode cX10_foretold 81 = .ok (.aload 5, 2) := by decide +kernel
theorem dX10_foretold_83 : decode cX10_foretold 83 = .ok (.iload 6, 2) := by decide +kernel
theorem dX10_foretold_85 : decode cX10_foretold 85 = .ok (.iload_n 1, 1) := by decide +kernel
theorem dX10_foretold_86 : decode cX10_foretold 86 = .ok (.invokevirtual 230, 3) := by decide +kernel
theorem dX10_foretold_89 : decode cX10_foretold 89 = .ok (.ladd, 1) := by decide +kernel
theorem dX10_foretold_90 : decode cX10_foretold 90 = .ok (.lstore_n 2, 1) := by decide +kernel
theorem dX10_foretold_91 : decode cX10_foretold 91 = .ok (.iinc 4 1, 3) := by decide +kernel
theorem dX10_foretold_94 : decode cX10_foretold 94 = .ok (.goto (-73), 3) := by decide +kernel
theorem dX10_foretold_97 : decode cX10_foretold 97 = .ok (.lload_n 2, 1) := by decide +kernel
theorem dX10_foretold_98 : decode cX10_foretold 98 = .ok (.lreturn, 1) := by decide +kernel
theorem dX10_income_0 : decode cX10_income 0 = .ok (.iload_n 1, 1) := by decide +kernel
theorem dX10_income_1 : decode cX10_income 1 = .ok (.iconst 0, 1) := by decide +kernel
theorem dX10_income_2 : decode cX10_income 2 = .ok (.ldc 234, 2) := by decide +kernel
theorem dX10_income_4 : decode cX10_income 4 = .ok (.invokestatic 90, 3) := by decide +kernel
theorem dX10_income_7 : decode cX10_income 7 = .ok (.ifCond .ne 12, 3) := by decide +kernel
theorem dX10_income_10 : decode cX10_income 10 = .ok (.aload_n 0, 1) := by decide +kernel
theorem dX10_income_11 : decode cX10_income 11 = .ok (.getfield 10, 3) := by decide +kernel
theorem dX10_income_14 : decode cX10_income 14 = .ok (.iconst 1, 1) := by decide +kernel
theorem dX10_income_15 : decode cX10_income 15 = .ok (.invokevirtual 94, 3) := by decide +kernel
theorem dX10_income_18 : decode cX10_income 18 = .ok (.lreturn, 1) := by decide +kernel
theorem dX10_income_19 : decode cX10_income 19 = .ok (.aload_n 0, 1) := by decide +kernel
theorem dX10_income_20 : decode cX10_income 20 = .ok (.getfield 59, 3) := by decide +kernel
theorem dX10_income_23 : decode cX10_income 23 = .ok (.getfield 235, 3) := by decide +kernel
theorem dX10_income_26 : decode cX10_income 26 = .ok (.iload_n 1, 1) := by decide +kernel
theorem dX10_income_27 : decode cX10_income 27 = .ok (.i2l, 1) := by decide +kernel
theorem dX10_income_28 : decode cX10_income 28 = .ok (.ladd, 1) := by decide +kernel
theorem dX10_income_29 : decode cX10_income 29 = .ok (.ldc2_w 238, 3) := by decide +kernel
theorem dX10_income_32 : decode cX10_income 32 = .ok (.lcmp, 1) := by decide +kernel
theorem dX10_income_33 : decode cX10_income 33 = .ok (.ifCond .le 12, 3) := by decide +kernel
theorem dX10_income_36 : decode cX10_income 36 = .ok (.aload_n 0, 1) := by decide +kernel
theorem dX10_income_37 : decode cX10_income 37 = .ok (.getfield 10, 3) := by decide +kernel
theorem dX10_income_40 : decode cX10_income 40 = .ok (.iconst 4, 1) := by decide +kernel
theorem dX10_income_41 : decode cX10_income 41 = .ok (.invokevirtual 94, 3) := by decide +kernel
theorem dX10_income_44 : decode cX10_income 44 = .ok (.lreturn, 1) := by decide +kernel
theorem dX10_income_45 : decode cX10_income 45 = .ok (.aload_n 0, 1) := by decide +kernel
theorem dX10_income_46 : decode cX10_income 46 = .ok (.getfield 59, 3) := by decide +kernel
theorem dX10_income_49 : decode cX10_income 49 = .ok (.dup, 1) := by decide +kernel
theorem dX10_income_50 : decode cX10_income 50 = .ok (.getfield 235, 3) := by decide +kernel
theorem dX10_income_53 : decode cX10_income 53 = .ok (.iload_n 1, 1) := by decide +kernel
theorem dX10_income_54 : decode cX10_income 54 = .ok (.i2l, 1) := by decide +kernel
theorem dX10_income_55 : decode cX10_income 55 = .ok (.ladd, 1) := by decide +kernel
theorem dX10_income_56 : decode cX10_income 56 = .ok (.putfield 235, 3) := by decide +kernel
theorem dX10_income_59 : decode cX10_income 59 = .ok (.aload_n 0, 1) := by decide +kernel
theorem dX10_income_60 : decode cX10_income 60 = .ok (.getfield 59, 3) := by decide +kernel
theorem dX10_income_63 : decode cX10_income 63 = .ok (.dup, 1) := by decide +kernel
theorem dX10_income_64 : decode cX10_income 64 = .ok (.getfield 240, 3) := by decide +kernel
theorem dX10_income_67 : decode cX10_income 67 = .ok (.iload_n 1, 1) := by decide +kernel
theorem dX10_income_68 : decode cX10_income 68 = .ok (.i2l, 1) := by decide +kernel
theorem dX10_income_69 : decode cX10_income 69 = .ok (.ladd, 1) := by decide +kernel
theorem dX10_income_70 : decode cX10_income 70 = .ok (.putfield 240, 3) := by decide +kernel
theorem dX10_income_73 : decode cX10_income 73 = .ok (.aload_n 0, 1) := by decide +kernel
theorem dX10_income_74 : decode cX10_income 74 = .ok (.getfield 59, 3) := by decide +kernel
theorem dX10_income_77 : decode cX10_income 77 = .ok (.getfield 235, 3) := by decide +kernel
theorem dX10_income_80 : decode cX10_income 80 = .ok (.lreturn, 1) := by decide +kernel
theorem dX10_purse_0 : decode cX10_purse 0 = .ok (.iload_n 1, 1) := by decide +kernel
theorem dX10_purse_1 : decode cX10_purse 1 = .ok (.tableswitch 89 0 5 #[39, 47, 55, 63, 71, 80], 39) := by decide +kernel
theorem dX10_purse_40 : decode cX10_purse 40 = .ok (.aload_n 0, 1) := by decide +kernel
theorem dX10_purse_41 : decode cX10_purse 41 = .ok (.getfield 59, 3) := by decide +kernel
theorem dX10_purse_44 : decode cX10_purse 44 = .ok (.getfield 235, 3) := by decide +kernel
theorem dX10_purse_47 : decode cX10_purse 47 = .ok (.lreturn, 1) := by decide +kernel
theorem dX10_purse_48 : decode cX10_purse 48 = .ok (.aload_n 0, 1) := by decide +kernel
theorem dX10_purse_49 : decode cX10_purse 49 = .ok (.getfield 59, 3) := by decide +kernel
theorem dX10_purse_52 : decode cX10_purse 52 = .ok (.getfield 240, 3) := by decide +kernel
theorem dX10_purse_55 : decode cX10_purse 55 = .ok (.lreturn, 1) := by decide +kernel
theorem dX10_purse_56 : decode cX10_purse 56 = .ok (.aload_n 0, 1) := by decide +kernel
theorem dX10_purse_57 : decode cX10_purse 57 = .ok (.getfield 59, 3) := by decide +kernel
theorem dX10_purse_60 : decode cX10_purse 60 = .ok (.getfield 243, 3) := by decide +kernel
theorem dX10_purse_63 : decode cX10_purse 63 = .ok (.lreturn, 1) := by decide +kernel
theorem dX10_purse_64 : decode cX10_purse 64 = .ok (.aload_n 0, 1) := by decide +kernel
theorem dX10_purse_65 : decode cX10_purse 65 = .ok (.getfield 68, 3) := by decide +kernel
theorem dX10_purse_68 : decode cX10_purse 68 = .ok (.getfield 246, 3) := by decide +kernel
theorem dX10_purse_71 : decode cX10_purse 71 = .ok (.lreturn, 1) := by decide +kernel
theorem dX10_purse_72 : decode cX10_purse 72 = .ok (.aload_n 0, 1) := by decide +kernel
theorem dX10_purse_73 : decode cX10_purse 73 = .ok (.getfield 68, 3) := by decide +kernel
theorem dX10_purse_76 : decode cX10_purse 76 = .ok (.getfield 249, 3) := by decide +kernel
theorem dX10_purse_79 : decode cX10_purse 79 = .ok (.i2l, 1) := by decide +kernel
theorem dX10_purse_80 : decode cX10_purse 80 = .ok (.lreturn, 1) := by decide +kernel
theorem dX10_purse_81 : decode cX10_purse 81 = .ok (.aload_n 0, 1) := by decide +kernel
theorem dX10_purse_82 : decode cX10_purse 82 = .ok (.getfield 43, 3) := by decide +kernel
theorem dX10_purse_85 : decode cX10_purse 85 = .ok (.invokevirtual 250, 3) := by decide +kernel
theorem dX10_purse_88 : decode cX10_purse 88 = .ok (.i2l, 1) := by decide +kernel
theorem dX10_purse_89 : decode cX10_purse 89 = .ok (.lreturn, 1) := by decide +kernel
theorem dX10_purse_90 : decode cX10_purse 90 = .ok (.aload_n 0, 1) := by decide +kernel
theorem dX10_purse_91 : decode cX10_purse 91 = .ok (.getfield 10, 3) := by decide +kernel
theorem dX10_purse_94 : decode cX10_purse 94 = .ok (.iconst 1, 1) := by decide +kernel
theorem dX10_purse_95 : decode cX10_purse 95 = .ok (.invokevirtual 94, 3) := by decide +kernel
theorem dX10_purse_98 : decode cX10_purse 98 = .ok (.lreturn, 1) := by decide +kernel
theorem dX10_paid_0 : decode cX10_paid 0 = .ok (.iload_n 1, 1) := by decide +kernel
theorem dX10_paid_1 : decode cX10_paid 1 = .ok (.invokestatic 165, 3) := by decide +kernel
theorem dX10_paid_4 : decode cX10_paid 4 = .ok (.ifCond .ne 12, 3) := by decide +kernel
theorem dX10_paid_7 : decode cX10_paid 7 = .ok (.aload_n 0, 1) := by decide +kernel
theorem dX10_paid_8 : decode cX10_paid 8 = .ok (.getfield 10, 3) := by decide +kernel
theorem dX10_paid_11 : decode cX10_paid 11 = .ok (.iconst 1, 1) := by decide +kernel
theorem dX10_paid_12 : decode cX10_paid 12 = .ok (.invokevirtual 94, 3) := by decide +kernel
theorem dX10_paid_15 : decode cX10_paid 15 = .ok (.lreturn, 1) := by decide +kernel
theorem dX10_paid_16 : decode cX10_paid 16 = .ok (.aload_n 0, 1) := by decide +kernel
theorem dX10_paid_17 : decode cX10_paid 17 = .ok (.getfield 59, 3) := by decide +kernel
theorem dX10_paid_20 : decode cX10_paid 20 = .ok (.getfield 253, 3) := by decide +kernel
theorem dX10_paid_23 : decode cX10_paid 23 = .ok (.iload_n 1, 1) := by decide +kernel
theorem dX10_paid_24 : decode cX10_paid 24 = .ok (.laload, 1) := by decide +kernel
theorem dX10_paid_25 : decode cX10_paid 25 = .ok (.lreturn, 1) := by decide +kernel
theorem dX10_lives_0 : decode cX10_lives 0 = .ok (.iload_n 1, 1) := by decide +kernel
theorem dX10_lives_1 : decode cX10_lives 1 = .ok (.invokestatic 257, 3) := by decide +kernel
theorem dX10_lives_4 : decode cX10_lives 4 = .ok (.ifCond .eq 13, 3) := by decide +kernel
theorem dX10_lives_7 : decode cX10_lives 7 = .ok (.iload_n 2, 1) := by decide +kernel
theorem dX10_lives_8 : decode cX10_lives 8 = .ok (.iload_n 3, 1) := by decide +kernel
theorem dX10_lives_9 : decode cX10_lives 9 = .ok (.iload 4, 2) := by decide +kernel
theorem dX10_lives_11 : decode cX10_lives 11 = .ok (.invokestatic 260, 3) := by decide +kernel
theorem dX10_lives_14 : decode cX10_lives 14 = .ok (.ifCond .ne 12, 3) := by decide +kernel
theorem dX10_lives_17 : decode cX10_lives 17 = .ok (.aload_n 0, 1) := by decide +kernel
theorem dX10_lives_18 : decode cX10_lives 18 = .ok (.getfield 10, 3) := by decide +kernel
theorem dX10_lives_21 : decode cX10_lives 21 = .ok (.iconst 1, 1) := by decide +kernel
theorem dX10_lives_22 : decode cX10_lives 22 = .ok (.invokevirtual 94, 3) := by decide +kernel
theorem dX10_lives_25 : decode cX10_lives 25 = .ok (.lreturn, 1) := by decide +kernel
theorem dX10_lives_26 : decode cX10_lives 26 = .ok (.aload_n 0, 1) := by decide +kernel
theorem dX10_lives_27 : decode cX10_lives 27 = .ok (.getfield 75, 3) := by decide +kernel
theorem dX10_lives_30 : decode cX10_lives 30 = .ok (.iload_n 1, 1) := by decide +kernel
theorem dX10_lives_31 : decode cX10_lives 31 = .ok (.iload_n 2, 1) := by decide +kernel
theorem dX10_lives_32 : decode cX10_lives 32 = .ok (.iload_n 3, 1) := by decide +kernel
theorem dX10_lives_33 : decode cX10_lives 33 = .ok (.iload 4, 2) := by decide +kernel
theorem dX10_lives_35 : decode cX10_lives 35 = .ok (.invokevirtual 263, 3) := by decide +kernel
theorem dX10_lives_38 : decode cX10_lives 38 = .ok (.sipush 1000, 3) := by decide +kernel
theorem dX10_lives_41 : decode cX10_lives 41 = .ok (.iload_n 2, 1) := by decide +kernel
theorem dX10_lives_42 : decode cX10_lives 42 = .ok (.isub, 1) := by decide +kernel
theorem dX10_lives_43 : decode cX10_lives 43 = .ok (.iload_n 3, 1) := by decide +kernel
theorem dX10_lives_44 : decode cX10_lives 44 = .ok (.isub, 1) := by decide +kernel
theorem dX10_lives_45 : decode cX10_lives 45 = .ok (.iload 4, 2) := by decide +kernel
theorem dX10_lives_47 : decode cX10_lives 47 = .ok (.isub, 1) := by decide +kernel
theorem dX10_lives_48 : decode cX10_lives 48 = .ok (.i2l, 1) := by decide +kernel
theorem dX10_lives_49 : decode cX10_lives 49 = .ok (.lreturn, 1) := by decide +kernel
theorem dX10_value_0 : decode cX10_value 0 = .ok (.iload_n 1, 1) := by decide +kernel
theorem dX10_value_1 : decode cX10_value 1 = .ok (.iload_n 2, 1) := by decide +kernel
theorem dX10_value_2 : decode cX10_value 2 = .ok (.invokestatic 266, 3) := by decide +kernel
theorem dX10_value_5 : decode cX10_value 5 = .ok (.ifCond .eq 14, 3) := by decide +kernel
theorem dX10_value_8 : decode cX10_value 8 = .ok (.iload_n 3, 1) := by decide +kernel
theorem dX10_value_9 : decode cX10_value 9 = .ok (.iconst 0, 1) := by decide +kernel
theorem dX10_value_10 : decode cX10_value 10 = .ok (.ldc_w 269, 3) := by decide +kernel
theorem dX10_value_13 : decode cX10_value 13 = .ok (.invokestatic 90, 3) := by decide +kernel
theorem dX10_value_16 : decode cX10_value 16 = .ok (.ifCond .ne 12, 3) := by decide +kernel
theorem dX10_value_19 : decode cX10_value 19 = .ok (.aload_n 0, 1) := by decide +kernel
theorem dX10_value_20 : decode cX10_value 20 = .ok (.getfield 10, 3) := by decide +kernel
theorem dX10_value_23 : decode cX10_value 23 = .ok (.iconst 1, 1) := by decide +kernel
theorem dX10_value_24 : decode cX10_value 24 = .ok (.invokevirtual 94, 3) := by decide +kernel
theorem dX10_value_27 : decode cX10_value 27 = .ok (.lreturn, 1) := by decide +kernel
theorem dX10_value_28 : decode cX10_value 28 = .ok (.iload_n 3, 1) := by decide +kernel
theorem dX10_value_29 : decode cX10_value 29 = .ok (.i2l, 1) := by decide +kernel
theorem dX10_value_30 : decode cX10_value 30 = .ok (.aload_n 0, 1) := by decide +kernel
theorem dX10_value_31 : decode cX10_value 31 = .ok (.getfield 75, 3) := by decide +kernel
theorem dX10_value_34 : decode cX10_value 34 = .ok (.iload_n 1, 1) := by decide +kernel
theorem dX10_value_35 : decode cX10_value 35 = .ok (.iload_n 2, 1) := by decide +kernel
theorem dX10_value_36 : decode cX10_value 36 = .ok (.invokevirtual 270, 3) := by decide +kernel
theorem dX10_value_39 : decode cX10_value 39 = .ok (.lmul, 1) := by decide +kernel
theorem dX10_value_40 : decode cX10_value 40 = .ok (.ldc2_w 273, 3) := by decide +kernel
theorem dX10_value_43 : decode cX10_value 43 = .ok (.ldiv, 1) := by decide +kernel
theorem dX10_value_44 : decode cX10_value 44 = .ok (.lreturn, 1) := by decide +kernel
theorem dX10_left_0 : decode cX10_left 0 = .ok (.iload_n 1, 1) := by decide +kernel
theorem dX10_left_1 : decode cX10_left 1 = .ok (.iload_n 2, 1) := by decide +kernel
theorem dX10_left_2 : decode cX10_left 2 = .ok (.invokestatic 266, 3) := by decide +kernel
theorem dX10_left_5 : decode cX10_left 5 = .ok (.ifCond .ne 12, 3) := by decide +kernel
theorem dX10_left_8 : decode cX10_left 8 = .ok (.aload_n 0, 1) := by decide +kernel
theorem dX10_left_9 : decode cX10_left 9 = .ok (.getfield 10, 3) := by decide +kernel
theorem dX10_left_12 : decode cX10_left 12 = .ok (.iconst 1, 1) := by decide +kernel
theorem dX10_left_13 : decode cX10_left 13 = .ok (.invokevirtual 94, 3) := by decide +kernel
theorem dX10_left_16 : decode cX10_left 16 = .ok (.lreturn, 1) := by decide +kernel
theorem dX10_left_17 : decode cX10_left 17 = .ok (.aload_n 0, 1) := by decide +kernel
theorem dX10_left_18 : decode cX10_left 18 = .ok (.getfield 75, 3) := by decide +kernel
theorem dX10_left_21 : decode cX10_left 21 = .ok (.iload_n 1, 1) := by decide +kernel
theorem dX10_left_22 : decode cX10_left 22 = .ok (.iload_n 2, 1) := by decide +kernel
theorem dX10_left_23 : decode cX10_left 23 = .ok (.invokevirtual 275, 3) := by decide +kernel
theorem dX10_left_26 : decode cX10_left 26 = .ok (.lreturn, 1) := by decide +kernel
theorem dX10_tell_0 : decode cX10_tell 0 = .ok (.aload_n 0, 1) := by decide +kernel
theorem dX10_tell_1 : decode cX10_tell 1 = .ok (.getfield 82, 3) := by decide +kernel
theorem dX10_tell_4 : decode cX10_tell 4 = .ok (.invokevirtual 278, 3) := by decide +kernel
theorem dX10_tell_7 : decode cX10_tell 7 = .ok (.ifCond .eq 12, 3) := by decide +kernel
theorem dX10_tell_10 : decode cX10_tell 10 = .ok (.aload_n 0, 1) := by decide +kernel
theorem dX10_tell_11 : decode cX10_tell 11 = .ok (.getfield 10, 3) := by decide +kernel
theorem dX10_tell_14 : decode cX10_tell 14 = .ok (.iconst 4, 1) := by decide +kernel
theorem dX10_tell_15 : decode cX10_tell 15 = .ok (.invokevirtual 94, 3) := by decide +kernel
theorem dX10_tell_18 : decode cX10_tell 18 = .ok (.lreturn, 1) := by decide +kernel
theorem dX10_tell_19 : decode cX10_tell 19 = .ok (.aload_n 0, 1) := by decide +kernel
theorem dX10_tell_20 : decode cX10_tell 20 = .ok (.getfield 82, 3) := by decide +kernel
theorem dX10_tell_23 : decode cX10_tell 23 = .ok (.iload_n 1, 1) := by decide +kernel
theorem dX10_tell_24 : decode cX10_tell 24 = .ok (.invokevirtual 279, 3) := by decide +kernel
theorem dX10_tell_27 : decode cX10_tell 27 = .ok (.aload_n 0, 1) := by decide +kernel
theorem dX10_tell_28 : decode cX10_tell 28 = .ok (.getfield 82, 3) := by decide +kernel
