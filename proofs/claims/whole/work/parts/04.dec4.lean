theorem dX11_holderIn_48 : decode cX11_holderIn 48 = .ok (.istore_n 3, 1) := by decide +kernel
theorem dX11_holderIn_49 : decode cX11_holderIn 49 = .ok (.iinc 4 1, 3) := by decide +kernel
theorem dX11_holderIn_52 : decode cX11_holderIn 52 = .ok (.goto (-47), 3) := by decide +kernel
theorem dX11_holderIn_55 : decode cX11_holderIn 55 = .ok (.iload_n 3, 1) := by decide +kernel
theorem dX11_holderIn_56 : decode cX11_holderIn 56 = .ok (.ireturn, 1) := by decide +kernel
theorem dX11_sell_0 : decode cX11_sell 0 = .ok (.aload_n 0, 1) := by decide +kernel
theorem dX11_sell_1 : decode cX11_sell 1 = .ok (.iload_n 1, 1) := by decide +kernel
theorem dX11_sell_2 : decode cX11_sell 2 = .ok (.invokevirtual 155, 3) := by decide +kernel
theorem dX11_sell_5 : decode cX11_sell 5 = .ok (.ifCond .eq 10, 3) := by decide +kernel
theorem dX11_sell_8 : decode cX11_sell 8 = .ok (.iload_n 2, 1) := by decide +kernel
theorem dX11_sell_9 : decode cX11_sell 9 = .ok (.invokestatic 150, 3) := by decide +kernel
theorem dX11_sell_12 : decode cX11_sell 12 = .ok (.ifCond .ne 9, 3) := by decide +kernel
theorem dX11_sell_15 : decode cX11_sell 15 = .ok (.aload_n 0, 1) := by decide +kernel
theorem dX11_sell_16 : decode cX11_sell 16 = .ok (.iconst 1, 1) := by decide +kernel
theorem dX11_sell_17 : decode cX11_sell 17 = .ok (.invokevirtual 112, 3) := by decide +kernel
theorem dX11_sell_20 : decode cX11_sell 20 = .ok (.lreturn, 1) := by decide +kernel
theorem dX11_sell_21 : decode cX11_sell 21 = .ok (.aload_n 0, 1) := by decide +kernel
theorem dX11_sell_22 : decode cX11_sell 22 = .ok (.getfield 68, 3) := by decide +kernel
theorem dX11_sell_25 : decode cX11_sell 25 = .ok (.iload_n 1, 1) := by decide +kernel
theorem dX11_sell_26 : decode cX11_sell 26 = .ok (.baload, 1) := by decide +kernel
theorem dX11_sell_27 : decode cX11_sell 27 = .ok (.ifCond .eq 9, 3) := by decide +kernel
theorem dX11_sell_30 : decode cX11_sell 30 = .ok (.aload_n 0, 1) := by decide +kernel
theorem dX11_sell_31 : decode cX11_sell 31 = .ok (.iconst 3, 1) := by decide +kernel
theorem dX11_sell_32 : decode cX11_sell 32 = .ok (.invokevirtual 112, 3) := by decide +kernel
theorem dX11_sell_35 : decode cX11_sell 35 = .ok (.lreturn, 1) := by decide +kernel
theorem dX11_sell_36 : decode cX11_sell 36 = .ok (.aload_n 0, 1) := by decide +kernel
theorem dX11_sell_37 : decode cX11_sell 37 = .ok (.iload_n 1, 1) := by decide +kernel
theorem dX11_sell_38 : decode cX11_sell 38 = .ok (.aload_n 0, 1) := by decide +kernel
theorem dX11_sell_39 : decode cX11_sell 39 = .ok (.getfield 108, 3) := by decide +kernel
theorem dX11_sell_42 : decode cX11_sell 42 = .ok (.invokevirtual 158, 3) := by decide +kernel
theorem dX11_sell_45 : decode cX11_sell 45 = .ok (.istore_n 3, 1) := by decide +kernel
theorem dX11_sell_46 : decode cX11_sell 46 = .ok (.iload_n 3, 1) := by decide +kernel
theorem dX11_sell_47 : decode cX11_sell 47 = .ok (.iload_n 2, 1) := by decide +kernel
theorem dX11_sell_48 : decode cX11_sell 48 = .ok (.if_icmp .ne 9, 3) := by decide +kernel
theorem dX11_sell_51 : decode cX11_sell 51 = .ok (.aload_n 0, 1) := by decide +kernel
theorem dX11_sell_52 : decode cX11_sell 52 = .ok (.iconst 5, 1) := by decide +kernel
theorem dX11_sell_53 : decode cX11_sell 53 = .ok (.invokevirtual 112, 3) := by decide +kernel
theorem dX11_sell_56 : decode cX11_sell 56 = .ok (.lreturn, 1) := by decide +kernel
theorem dX11_sell_57 : decode cX11_sell 57 = .ok (.bipush 7, 2) := by decide +kernel
theorem dX11_sell_59 : decode cX11_sell 59 = .ok (.iload_n 1, 1) := by decide +kernel
theorem dX11_sell_60 : decode cX11_sell 60 = .ok (.imul, 1) := by decide +kernel
theorem dX11_sell_61 : decode cX11_sell 61 = .ok (.aload_n 0, 1) := by decide +kernel
theorem dX11_sell_62 : decode cX11_sell 62 = .ok (.getfield 72, 3) := by decide +kernel
theorem dX11_sell_65 : decode cX11_sell 65 = .ok (.iload_n 1, 1) := by decide +kernel
theorem dX11_sell_66 : decode cX11_sell 66 = .ok (.iaload, 1) := by decide +kernel
theorem dX11_sell_67 : decode cX11_sell 67 = .ok (.iadd, 1) := by decide +kernel
theorem dX11_sell_68 : decode cX11_sell 68 = .ok (.iconst 1, 1) := by decide +kernel
theorem dX11_sell_69 : decode cX11_sell 69 = .ok (.isub, 1) := by decide +kernel
theorem dX11_sell_70 : decode cX11_sell 70 = .ok (.istore 4, 2) := by decide +kernel
theorem dX11_sell_72 : decode cX11_sell 72 = .ok (.aload_n 0, 1) := by decide +kernel
theorem dX11_sell_73 : decode cX11_sell 73 = .ok (.getfield 75, 3) := by decide +kernel
theorem dX11_sell_76 : decode cX11_sell 76 = .ok (.iload 4, 2) := by decide +kernel
theorem dX11_sell_78 : decode cX11_sell 78 = .ok (.iaload, 1) := by decide +kernel
theorem dX11_sell_79 : decode cX11_sell 79 = .ok (.aload_n 0, 1) := by decide +kernel
theorem dX11_sell_80 : decode cX11_sell 80 = .ok (.getfield 108, 3) := by decide +kernel
theorem dX11_sell_83 : decode cX11_sell 83 = .ok (.if_icmp .eq 33, 3) := by decide +kernel
theorem dX11_sell_86 : decode cX11_sell 86 = .ok (.aload_n 0, 1) := by decide +kernel
theorem dX11_sell_87 : decode cX11_sell 87 = .ok (.getfield 72, 3) := by decide +kernel
theorem dX11_sell_90 : decode cX11_sell 90 = .ok (.iload_n 1, 1) := by decide +kernel
theorem dX11_sell_91 : decode cX11_sell 91 = .ok (.iaload, 1) := by decide +kernel
theorem dX11_sell_92 : decode cX11_sell 92 = .ok (.bipush 7, 2) := by decide +kernel
theorem dX11_sell_94 : decode cX11_sell 94 = .ok (.if_icmp .ne 9, 3) := by decide +kernel
theorem dX11_sell_97 : decode cX11_sell 97 = .ok (.aload_n 0, 1) := by decide +kernel
theorem dX11_sell_98 : decode cX11_sell 98 = .ok (.iconst 4, 1) := by decide +kernel
theorem dX11_sell_99 : decode cX11_sell 99 = .ok (.invokevirtual 112, 3) := by decide +kernel
theorem dX11_sell_102 : decode cX11_sell 102 = .ok (.lreturn, 1) := by decide +kernel
theorem dX11_sell_103 : decode cX11_sell 103 = .ok (.aload_n 0, 1) := by decide +kernel
theorem dX11_sell_104 : decode cX11_sell 104 = .ok (.getfield 72, 3) := by decide +kernel
theorem dX11_sell_107 : decode cX11_sell 107 = .ok (.iload_n 1, 1) := by decide +kernel
theorem dX11_sell_108 : decode cX11_sell 108 = .ok (.dup2, 1) := by decide +kernel
theorem dX11_sell_109 : decode cX11_sell 109 = .ok (.iaload, 1) := by decide +kernel
theorem dX11_sell_110 : decode cX11_sell 110 = .ok (.iconst 1, 1) := by decide +kernel
theorem dX11_sell_111 : decode cX11_sell 111 = .ok (.iadd, 1) := by decide +kernel
theorem dX11_sell_112 : decode cX11_sell 112 = .ok (.iastore, 1) := by decide +kernel
theorem dX11_sell_113 : decode cX11_sell 113 = .ok (.iinc 4 1, 3) := by decide +kernel
theorem dX11_sell_116 : decode cX11_sell 116 = .ok (.aload_n 0, 1) := by decide +kernel
theorem dX11_sell_117 : decode cX11_sell 117 = .ok (.getfield 75, 3) := by decide +kernel
theorem dX11_sell_120 : decode cX11_sell 120 = .ok (.iload 4, 2) := by decide +kernel
theorem dX11_sell_122 : decode cX11_sell 122 = .ok (.aload_n 0, 1) := by decide +kernel
theorem dX11_sell_123 : decode cX11_sell 123 = .ok (.getfield 108, 3) := by decide +kernel
theorem dX11_sell_126 : decode cX11_sell 126 = .ok (.iastore, 1) := by decide +kernel
theorem dX11_sell_127 : decode cX11_sell 127 = .ok (.aload_n 0, 1) := by decide +kernel
theorem dX11_sell_128 : decode cX11_sell 128 = .ok (.getfield 78, 3) := by decide +kernel
theorem dX11_sell_131 : decode cX11_sell 131 = .ok (.iload 4, 2) := by decide +kernel
theorem dX11_sell_133 : decode cX11_sell 133 = .ok (.iload_n 2, 1) := by decide +kernel
theorem dX11_sell_134 : decode cX11_sell 134 = .ok (.iastore, 1) := by decide +kernel
theorem dX11_sell_135 : decode cX11_sell 135 = .ok (.iload_n 3, 1) := by decide +kernel
theorem dX11_sell_136 : decode cX11_sell 136 = .ok (.i2l, 1) := by decide +kernel
theorem dX11_sell_137 : decode cX11_sell 137 = .ok (.lreturn, 1) := by decide +kernel
theorem dX11_holder_0 : decode cX11_holder 0 = .ok (.aload_n 0, 1) := by decide +kernel
theorem dX11_holder_1 : decode cX11_holder 1 = .ok (.iload_n 1, 1) := by decide +kernel
theorem dX11_holder_2 : decode cX11_holder 2 = .ok (.invokevirtual 155, 3) := by decide +kernel
theorem dX11_holder_5 : decode cX11_holder 5 = .ok (.ifCond .eq 10, 3) := by decide +kernel
theorem dX11_holder_8 : decode cX11_holder 8 = .ok (.iload_n 2, 1) := by decide +kernel
theorem dX11_holder_9 : decode cX11_holder 9 = .ok (.invokestatic 119, 3) := by decide +kernel
theorem dX11_holder_12 : decode cX11_holder 12 = .ok (.ifCond .ne 9, 3) := by decide +kernel
theorem dX11_holder_15 : decode cX11_holder 15 = .ok (.aload_n 0, 1) := by decide +kernel
theorem dX11_holder_16 : decode cX11_holder 16 = .ok (.iconst 1, 1) := by decide +kernel
theorem dX11_holder_17 : decode cX11_holder 17 = .ok (.invokevirtual 112, 3) := by decide +kernel
theorem dX11_holder_20 : decode cX11_holder 20 = .ok (.lreturn, 1) := by decide +kernel
theorem dX11_holder_21 : decode cX11_holder 21 = .ok (.aload_n 0, 1) := by decide +kernel
theorem dX11_holder_22 : decode cX11_holder 22 = .ok (.iload_n 1, 1) := by decide +kernel
theorem dX11_holder_23 : decode cX11_holder 23 = .ok (.iload_n 2, 1) := by decide +kernel
theorem dX11_holder_24 : decode cX11_holder 24 = .ok (.invokevirtual 158, 3) := by decide +kernel
theorem dX11_holder_27 : decode cX11_holder 27 = .ok (.istore_n 3, 1) := by decide +kernel
theorem dX11_holder_28 : decode cX11_holder 28 = .ok (.iload_n 3, 1) := by decide +kernel
theorem dX11_holder_29 : decode cX11_holder 29 = .ok (.ifCond .ge 11, 3) := by decide +kernel
theorem dX11_holder_32 : decode cX11_holder 32 = .ok (.aload_n 0, 1) := by decide +kernel
theorem dX11_holder_33 : decode cX11_holder 33 = .ok (.iconst 2, 1) := by decide +kernel
theorem dX11_holder_34 : decode cX11_holder 34 = .ok (.invokevirtual 112, 3) := by decide +kernel
theorem dX11_holder_37 : decode cX11_holder 37 = .ok (.goto 5, 3) := by decide +kernel
theorem dX11_holder_40 : decode cX11_holder 40 = .ok (.iload_n 3, 1) := by decide +kernel
theorem dX11_holder_41 : decode cX11_holder 41 = .ok (.i2l, 1) := by decide +kernel
theorem dX11_holder_42 : decode cX11_holder 42 = .ok (.lreturn, 1) := by decide +kernel
theorem dX11_counted_0 : decode cX11_counted 0 = .ok (.iload_n 2, 1) := by decide +kernel
theorem dX11_counted_1 : decode cX11_counted 1 = .ok (.ifCond .ge 7, 3) := by decide +kernel
theorem dX11_counted_4 : decode cX11_counted 4 = .ok (.iconst (-1), 1) := by decide +kernel
theorem dX11_counted_5 : decode cX11_counted 5 = .ok (.goto 9, 3) := by decide +kernel
theorem dX11_counted_8 : decode cX11_counted 8 = .ok (.aload_n 0, 1) := by decide +kernel
theorem dX11_counted_9 : decode cX11_counted 9 = .ok (.iload_n 2, 1) := by decide +kernel
theorem dX11_counted_10 : decode cX11_counted 10 = .ok (.iload_n 3, 1) := by decide +kernel
theorem dX11_counted_11 : decode cX11_counted 11 = .ok (.invokevirtual 146, 3) := by decide +kernel
theorem dX11_counted_14 : decode cX11_counted 14 = .ok (.istore 4, 2) := by decide +kernel
theorem dX11_counted_16 : decode cX11_counted 16 = .ok (.iload 4, 2) := by decide +kernel
theorem dX11_counted_18 : decode cX11_counted 18 = .ok (.ifCond .lt 24, 3) := by decide +kernel
theorem dX11_counted_21 : decode cX11_counted 21 = .ok (.aload_n 0, 1) := by decide +kernel
theorem dX11_counted_22 : decode cX11_counted 22 = .ok (.getfield 37, 3) := by decide +kernel
theorem dX11_counted_25 : decode cX11_counted 25 = .ok (.iload 4, 2) := by decide +kernel
theorem dX11_counted_27 : decode cX11_counted 27 = .ok (.iaload, 1) := by decide +kernel
theorem dX11_counted_28 : decode cX11_counted 28 = .ok (.aload_n 0, 1) := by decide +kernel
theorem dX11_counted_29 : decode cX11_counted 29 = .ok (.getfield 62, 3) := by decide +kernel
theorem dX11_counted_32 : decode cX11_counted 32 = .ok (.iload_n 1, 1) := by decide +kernel
theorem dX11_counted_33 : decode cX11_counted 33 = .ok (.iaload, 1) := by decide +kernel
theorem dX11_counted_34 : decode cX11_counted 34 = .ok (.if_icmp .lt 8, 3) := by decide +kernel
theorem dX11_counted_37 : decode cX11_counted 37 = .ok (.iload 4, 2) := by decide +kernel
theorem dX11_counted_39 : decode cX11_counted 39 = .ok (.goto 4, 3) := by decide +kernel
theorem dX11_counted_42 : decode cX11_counted 42 = .ok (.iconst (-1), 1) := by decide +kernel
theorem dX11_counted_43 : decode cX11_counted 43 = .ok (.ireturn, 1) := by decide +kernel
theorem dX11_fallOf_0 : decode cX11_fallOf 0 = .ok (.aload_n 0, 1) := by decide +kernel
theorem dX11_fallOf_1 : decode cX11_fallOf 1 = .ok (.getfield 62, 3) := by decide +kernel
theorem dX11_fallOf_4 : decode cX11_fallOf 4 = .ok (.iload_n 1, 1) := by decide +kernel
theorem dX11_fallOf_5 : decode cX11_fallOf 5 = .ok (.iaload, 1) := by decide +kernel
theorem dX11_fallOf_6 : decode cX11_fallOf 6 = .ok (.iload_n 2, 1) := by decide +kernel
theorem dX11_fallOf_7 : decode cX11_fallOf 7 = .ok (.if_icmp .le 5, 3) := by decide +kernel
theorem dX11_fallOf_10 : decode cX11_fallOf 10 = .ok (.iconst (-1), 1) := by decide +kernel
theorem dX11_fallOf_11 : decode cX11_fallOf 11 = .ok (.ireturn, 1) := by decide +kernel
theorem dX11_fallOf_12 : decode cX11_fallOf 12 = .ok (.aload_n 0, 1) := by decide +kernel
theorem dX11_fallOf_13 : decode cX11_fallOf 13 = .ok (.iload_n 1, 1) := by decide +kernel
theorem dX11_fallOf_14 : decode cX11_fallOf 14 = .ok (.aload_n 0, 1) := by decide +kernel
theorem dX11_fallOf_15 : decode cX11_fallOf 15 = .ok (.getfield 46, 3) := by decide +kernel
theorem dX11_fallOf_18 : decode cX11_fallOf 18 = .ok (.iload_n 1, 1) := by decide +kernel
theorem dX11_fallOf_19 : decode cX11_fallOf 19 = .ok (.iaload, 1) := by decide +kernel
theorem dX11_fallOf_20 : decode cX11_fallOf 20 = .ok (.iload_n 2, 1) := by decide +kernel
theorem dX11_fallOf_21 : decode cX11_fallOf 21 = .ok (.invokevirtual 161, 3) := by decide +kernel
theorem dX11_fallOf_24 : decode cX11_fallOf 24 = .ok (.istore_n 3, 1) := by decide +kernel
theorem dX11_fallOf_25 : decode cX11_fallOf 25 = .ok (.aload_n 0, 1) := by decide +kernel
theorem dX11_fallOf_26 : decode cX11_fallOf 26 = .ok (.iload_n 1, 1) := by decide +kernel
theorem dX11_fallOf_27 : decode cX11_fallOf 27 = .ok (.aload_n 0, 1) := by decide +kernel
theorem dX11_fallOf_28 : decode cX11_fallOf 28 = .ok (.getfield 49, 3) := by decide +kernel
theorem dX11_fallOf_31 : decode cX11_fallOf 31 = .ok (.iload_n 1, 1) := by decide +kernel
theorem dX11_fallOf_32 : decode cX11_fallOf 32 = .ok (.iaload, 1) := by decide +kernel
theorem dX11_fallOf_33 : decode cX11_fallOf 33 = .ok (.iload_n 2, 1) := by decide +kernel
theorem dX11_fallOf_34 : decode cX11_fallOf 34 = .ok (.invokevirtual 161, 3) := by decide +kernel
theorem dX11_fallOf_37 : decode cX11_fallOf 37 = .ok (.istore 4, 2) := by decide +kernel
theorem dX11_fallOf_39 : decode cX11_fallOf 39 = .ok (.iload_n 3, 1) := by decide +kernel
theorem dX11_fallOf_40 : decode cX11_fallOf 40 = .ok (.ifCond .lt 8, 3) := by decide +kernel
theorem dX11_fallOf_43 : decode cX11_fallOf 43 = .ok (.iload 4, 2) := by decide +kernel
theorem dX11_fallOf_45 : decode cX11_fallOf 45 = .ok (.ifCond .ge 14, 3) := by decide +kernel
theorem dX11_fallOf_48 : decode cX11_fallOf 48 = .ok (.iload_n 3, 1) := by decide +kernel
theorem dX11_fallOf_49 : decode cX11_fallOf 49 = .ok (.ifCond .ge 8, 3) := by decide +kernel
theorem dX11_fallOf_52 : decode cX11_fallOf 52 = .ok (.iload 4, 2) := by decide +kernel
theorem dX11_fallOf_54 : decode cX11_fallOf 54 = .ok (.goto 4, 3) := by decide +kernel
theorem dX11_fallOf_57 : decode cX11_fallOf 57 = .ok (.iload_n 3, 1) := by decide +kernel
theorem dX11_fallOf_58 : decode cX11_fallOf 58 = .ok (.ireturn, 1) := by decide +kernel
theorem dX11_fallOf_59 : decode cX11_fallOf 59 = .ok (.aload_n 0, 1) := by decide +kernel
theorem dX11_fallOf_60 : decode cX11_fallOf 60 = .ok (.getfield 34, 3) := by decide +kernel
theorem dX11_fallOf_63 : decode cX11_fallOf 63 = .ok (.iload_n 3, 1) := by decide +kernel
theorem dX11_fallOf_64 : decode cX11_fallOf 64 = .ok (.iaload, 1) := by decide +kernel
theorem dX11_fallOf_65 : decode cX11_fallOf 65 = .ok (.ifCond .ne 7, 3) := by decide +kernel
theorem dX11_fallOf_68 : decode cX11_fallOf 68 = .ok (.iconst 1, 1) := by decide +kernel
theorem dX11_fallOf_69 : decode cX11_fallOf 69 = .ok (.goto 4, 3) := by decide +kernel
theorem dX11_fallOf_72 : decode cX11_fallOf 72 = .ok (.iconst 0, 1) := by decide +kernel
theorem dX11_fallOf_73 : decode cX11_fallOf 73 = .ok (.istore 5, 2) := by decide +kernel
theorem dX11_fallOf_75 : decode cX11_fallOf 75 = .ok (.aload_n 0, 1) := by decide +kernel
theorem dX11_fallOf_76 : decode cX11_fallOf 76 = .ok (.getfield 34, 3) := by decide +kernel
theorem dX11_fallOf_79 : decode cX11_fallOf 79 = .ok (.iload 4, 2) := by decide +kernel
theorem dX11_fallOf_81 : decode cX11_fallOf 81 = .ok (.iaload, 1) := by decide +kernel
theorem dX11_fallOf_82 : decode cX11_fallOf 82 = .ok (.ifCond .ne 7, 3) := by decide +kernel
theorem dX11_fallOf_85 : decode cX11_fallOf 85 = .ok (.iconst 1, 1) := by decide +kernel
theorem dX11_fallOf_86 : decode cX11_fallOf 86 = .ok (.goto 4, 3) := by decide +kernel
theorem dX11_fallOf_89 : decode cX11_fallOf 89 = .ok (.iconst 0, 1) := by decide +kernel
theorem dX11_fallOf_90 : decode cX11_fallOf 90 = .ok (.istore 6, 2) := by decide +kernel
theorem dX11_fallOf_92 : decode cX11_fallOf 92 = .ok (.iload 5, 2) := by decide +kernel
theorem dX11_fallOf_94 : decode cX11_fallOf 94 = .ok (.iload 6, 2) := by decide +kernel
theorem dX11_fallOf_96 : decode cX11_fallOf 96 = .ok (.if_icmp .eq 15, 3) := by decide +kernel
theorem dX11_fallOf_99 : decode cX11_fallOf 99 = .ok (.iload 5, 2) := by decide +kernel
theorem dX11_fallOf_101 : decode cX11_fallOf 101 = .ok (.ifCond .eq 7, 3) := by decide +kernel
theorem dX11_fallOf_104 : decode cX11_fallOf 104 = .ok (.iload_n 3, 1) := by decide +kernel
theorem dX11_fallOf_105 : decode cX11_fallOf 105 = .ok (.goto 5, 3) := by decide +kernel
theorem dX11_fallOf_108 : decode cX11_fallOf 108 = .ok (.iload 4, 2) := by decide +kernel
theorem dX11_fallOf_110 : decode cX11_fallOf 110 = .ok (.ireturn, 1) := by decide +kernel
theorem dX11_fallOf_111 : decode cX11_fallOf 111 = .ok (.aload_n 0, 1) := by decide +kernel
theorem dX11_fallOf_112 : decode cX11_fallOf 112 = .ok (.getfield 37, 3) := by decide +kernel
theorem dX11_fallOf_115 : decode cX11_fallOf 115 = .ok (.iload 4, 2) := by decide +kernel
theorem dX11_fallOf_117 : decode cX11_fallOf 117 = .ok (.iaload, 1) := by decide +kernel
theorem dX11_fallOf_118 : decode cX11_fallOf 118 = .ok (.aload_n 0, 1) := by decide +kernel
theorem dX11_fallOf_119 : decode cX11_fallOf 119 = .ok (.getfield 37, 3) := by decide +kernel
theorem dX11_fallOf_122 : decode cX11_fallOf 122 = .ok (.iload_n 3, 1) := by decide +kernel
theorem dX11_fallOf_123 : decode cX11_fallOf 123 = .ok (.iaload, 1) := by decide +kernel
theorem dX11_fallOf_124 : decode cX11_fallOf 124 = .ok (.if_icmp .ge 8, 3) := by decide +kernel
theorem dX11_fallOf_127 : decode cX11_fallOf 127 = .ok (.iload 4, 2) := by decide +kernel
theorem dX11_fallOf_129 : decode cX11_fallOf 129 = .ok (.goto 4, 3) := by decide +kernel
theorem dX11_fallOf_132 : decode cX11_fallOf 132 = .ok (.iload_n 3, 1) := by decide +kernel
theorem dX11_fallOf_133 : decode cX11_fallOf 133 = .ok (.ireturn, 1) := by decide +kernel
theorem dX11_dueMonth_0 : decode cX11_dueMonth 0 = .ok (.aload_n 0, 1) := by decide +kernel
theorem dX11_dueMonth_1 : decode cX11_dueMonth 1 = .ok (.getfield 37, 3) := by decide +kernel
theorem dX11_dueMonth_4 : decode cX11_dueMonth 4 = .ok (.iload_n 1, 1) := by decide +kernel
theorem dX11_dueMonth_5 : decode cX11_dueMonth 5 = .ok (.iaload, 1) := by decide +kernel
theorem dX11_dueMonth_6 : decode cX11_dueMonth 6 = .ok (.aload_n 0, 1) := by decide +kernel
theorem dX11_dueMonth_7 : decode cX11_dueMonth 7 = .ok (.iconst 0, 1) := by decide +kernel
theorem dX11_dueMonth_8 : decode cX11_dueMonth 8 = .ok (.aload_n 0, 1) := by decide +kernel
theorem dX11_dueMonth_9 : decode cX11_dueMonth 9 = .ok (.getfield 37, 3) := by decide +kernel
theorem dX11_dueMonth_12 : decode cX11_dueMonth 12 = .ok (.iload_n 1, 1) := by decide +kernel
theorem dX11_dueMonth_13 : decode cX11_dueMonth 13 = .ok (.iaload, 1) := by decide +kernel
theorem dX11_dueMonth_14 : decode cX11_dueMonth 14 = .ok (.iload_n 2, 1) := by decide +kernel
theorem dX11_dueMonth_15 : decode cX11_dueMonth 15 = .ok (.invokevirtual 130, 3) := by decide +kernel
theorem dX11_dueMonth_18 : decode cX11_dueMonth 18 = .ok (.iadd, 1) := by decide +kernel
theorem dX11_dueMonth_19 : decode cX11_dueMonth 19 = .ok (.ireturn, 1) := by decide +kernel
theorem dX11_dueOf_0 : decode cX11_dueOf 0 = .ok (.aload_n 0, 1) := by decide +kernel
theorem dX11_dueOf_1 : decode cX11_dueOf 1 = .ok (.getfield 37, 3) := by decide +kernel
theorem dX11_dueOf_4 : decode cX11_dueOf 4 = .ok (.iload_n 2, 1) := by decide +kernel
theorem dX11_dueOf_5 : decode cX11_dueOf 5 = .ok (.iaload, 1) := by decide +kernel
theorem dX11_dueOf_6 : decode cX11_dueOf 6 = .ok (.istore 4, 2) := by decide +kernel
theorem dX11_dueOf_8 : decode cX11_dueOf 8 = .ok (.lconst 0, 1) := by decide +kernel
theorem dX11_dueOf_9 : decode cX11_dueOf 9 = .ok (.lstore 5, 2) := by decide +kernel
theorem dX11_dueOf_11 : decode cX11_dueOf 11 = .ok (.aload_n 0, 1) := by decide +kernel
theorem dX11_dueOf_12 : decode cX11_dueOf 12 = .ok (.getfield 34, 3) := by decide +kernel
theorem dX11_dueOf_15 : decode cX11_dueOf 15 = .ok (.iload_n 2, 1) := by decide +kernel
theorem dX11_dueOf_16 : decode cX11_dueOf 16 = .ok (.iaload, 1) := by decide +kernel
theorem dX11_dueOf_17 : decode cX11_dueOf 17 = .ok (.iconst 2, 1) := by decide +kernel
theorem dX11_dueOf_18 : decode cX11_dueOf 18 = .ok (.if_icmp .ne 29, 3) := by decide +kernel
theorem dX11_dueOf_21 : decode cX11_dueOf 21 = .ok (.aload_n 0, 1) := by decide +kernel
theorem dX11_dueOf_22 : decode cX11_dueOf 22 = .ok (.getfield 52, 3) := by decide +kernel
theorem dX11_dueOf_25 : decode cX11_dueOf 25 = .ok (.iload_n 1, 1) := by decide +kernel
theorem dX11_dueOf_26 : decode cX11_dueOf 26 = .ok (.iaload, 1) := by decide +kernel
theorem dX11_dueOf_27 : decode cX11_dueOf 27 = .ok (.i2l, 1) := by decide +kernel
theorem dX11_dueOf_28 : decode cX11_dueOf 28 = .ok (.aload_n 0, 1) := by decide +kernel
theorem dX11_dueOf_29 : decode cX11_dueOf 29 = .ok (.iconst 1, 1) := by decide +kernel
theorem dX11_dueOf_30 : decode cX11_dueOf 30 = .ok (.iload 4, 2) := by decide +kernel
theorem dX11_dueOf_32 : decode cX11_dueOf 32 = .ok (.iload_n 3, 1) := by decide +kernel
theorem dX11_dueOf_33 : decode cX11_dueOf 33 = .ok (.invokevirtual 130, 3) := by decide +kernel
theorem dX11_dueOf_36 : decode cX11_dueOf 36 = .ok (.i2l, 1) := by decide +kernel
theorem dX11_dueOf_37 : decode cX11_dueOf 37 = .ok (.lmul, 1) := by decide +kernel
theorem dX11_dueOf_38 : decode cX11_dueOf 38 = .ok (.ldc2_w 164, 3) := by decide +kernel
theorem dX11_dueOf_41 : decode cX11_dueOf 41 = .ok (.ldiv, 1) := by decide +kernel
theorem dX11_dueOf_42 : decode cX11_dueOf 42 = .ok (.lstore 5, 2) := by decide +kernel
theorem dX11_dueOf_44 : decode cX11_dueOf 44 = .ok (.goto 92, 3) := by decide +kernel
theorem dX11_dueOf_47 : decode cX11_dueOf 47 = .ok (.aload_n 0, 1) := by decide +kernel
theorem dX11_dueOf_48 : decode cX11_dueOf 48 = .ok (.getfield 34, 3) := by decide +kernel
theorem dX11_dueOf_51 : decode cX11_dueOf 51 = .ok (.iload_n 2, 1) := by decide +kernel
theorem dX11_dueOf_52 : decode cX11_dueOf 52 = .ok (.iaload, 1) := by decide +kernel
theorem dX11_dueOf_53 : decode cX11_dueOf 53 = .ok (.iconst 1, 1) := by decide +kernel
theorem dX11_dueOf_54 : decode cX11_dueOf 54 = .ok (.if_icmp .ne 38, 3) := by decide +kernel
theorem dX11_dueOf_57 : decode cX11_dueOf 57 = .ok (.aload_n 0, 1) := by decide +kernel
theorem dX11_dueOf_58 : decode cX11_dueOf 58 = .ok (.getfield 43, 3) := by decide +kernel
theorem dX11_dueOf_61 : decode cX11_dueOf 61 = .ok (.iload_n 1, 1) := by decide +kernel
theorem dX11_dueOf_62 : decode cX11_dueOf 62 = .ok (.iaload, 1) := by decide +kernel
theorem dX11_dueOf_63 : decode cX11_dueOf 63 = .ok (.iconst 2, 1) := by decide +kernel
theorem dX11_dueOf_64 : decode cX11_dueOf 64 = .ok (.if_icmp .eq 28, 3) := by decide +kernel
theorem dX11_dueOf_67 : decode cX11_dueOf 67 = .ok (.aload_n 0, 1) := by decide +kernel
theorem dX11_dueOf_68 : decode cX11_dueOf 68 = .ok (.getfield 55, 3) := by decide +kernel
theorem dX11_dueOf_71 : decode cX11_dueOf 71 = .ok (.iload_n 1, 1) := by decide +kernel
theorem dX11_dueOf_72 : decode cX11_dueOf 72 = .ok (.laload, 1) := by decide +kernel
theorem dX11_dueOf_73 : decode cX11_dueOf 73 = .ok (.aload_n 0, 1) := by decide +kernel
theorem dX11_dueOf_74 : decode cX11_dueOf 74 = .ok (.iconst 2, 1) := by decide +kernel
theorem dX11_dueOf_75 : decode cX11_dueOf 75 = .ok (.iload 4, 2) := by decide +kernel
theorem dX11_dueOf_77 : decode cX11_dueOf 77 = .ok (.iload_n 3, 1) := by decide +kernel
theorem dX11_dueOf_78 : decode cX11_dueOf 78 = .ok (.invokevirtual 130, 3) := by decide +kernel
theorem dX11_dueOf_81 : decode cX11_dueOf 81 = .ok (.i2l, 1) := by decide +kernel
theorem dX11_dueOf_82 : decode cX11_dueOf 82 = .ok (.lmul, 1) := by decide +kernel
theorem dX11_dueOf_83 : decode cX11_dueOf 83 = .ok (.ldc2_w 164, 3) := by decide +kernel
theorem dX11_dueOf_86 : decode cX11_dueOf 86 = .ok (.ldiv, 1) := by decide +kernel
theorem dX11_dueOf_87 : decode cX11_dueOf 87 = .ok (.lstore 5, 2) := by decide +kernel
theorem dX11_dueOf_89 : decode cX11_dueOf 89 = .ok (.goto 47, 3) := by decide +kernel
theorem dX11_dueOf_92 : decode cX11_dueOf 92 = .ok (.iload 4, 2) := by decide +kernel
theorem dX11_dueOf_94 : decode cX11_dueOf 94 = .ok (.aload_n 0, 1) := by decide +kernel
theorem dX11_dueOf_95 : decode cX11_dueOf 95 = .ok (.getfield 59, 3) := by decide +kernel
theorem dX11_dueOf_98 : decode cX11_dueOf 98 = .ok (.iload_n 1, 1) := by decide +kernel
theorem dX11_dueOf_99 : decode cX11_dueOf 99 = .ok (.iaload, 1) := by decide +kernel
theorem dX11_dueOf_100 : decode cX11_dueOf 100 = .ok (.if_icmp .lt 14, 3) := by decide +kernel
theorem dX11_dueOf_103 : decode cX11_dueOf 103 = .ok (.aload_n 0, 1) := by decide +kernel
theorem dX11_dueOf_104 : decode cX11_dueOf 104 = .ok (.getfield 55, 3) := by decide +kernel
theorem dX11_dueOf_107 : decode cX11_dueOf 107 = .ok (.iload_n 1, 1) := by decide +kernel
theorem dX11_dueOf_108 : decode cX11_dueOf 108 = .ok (.laload, 1) := by decide +kernel
theorem dX11_dueOf_109 : decode cX11_dueOf 109 = .ok (.lstore 5, 2) := by decide +kernel
theorem dX11_dueOf_111 : decode cX11_dueOf 111 = .ok (.goto 25, 3) := by decide +kernel
theorem dX11_dueOf_114 : decode cX11_dueOf 114 = .ok (.aload_n 0, 1) := by decide +kernel
theorem dX11_dueOf_115 : decode cX11_dueOf 115 = .ok (.getfield 55, 3) := by decide +kernel
theorem dX11_dueOf_118 : decode cX11_dueOf 118 = .ok (.iload_n 1, 1) := by decide +kernel
theorem dX11_dueOf_119 : decode cX11_dueOf 119 = .ok (.laload, 1) := by decide +kernel
theorem dX11_dueOf_120 : decode cX11_dueOf 120 = .ok (.aload_n 0, 1) := by decide +kernel
theorem dX11_dueOf_121 : decode cX11_dueOf 121 = .ok (.iconst 3, 1) := by decide +kernel
theorem dX11_dueOf_122 : decode cX11_dueOf 122 = .ok (.iload 4, 2) := by decide +kernel
theorem dX11_dueOf_124 : decode cX11_dueOf 124 = .ok (.iload_n 3, 1) := by decide +kernel
theorem dX11_dueOf_125 : decode cX11_dueOf 125 = .ok (.invokevirtual 130, 3) := by decide +kernel
theorem dX11_dueOf_128 : decode cX11_dueOf 128 = .ok (.i2l, 1) := by decide +kernel
theorem dX11_dueOf_129 : decode cX11_dueOf 129 = .ok (.lmul, 1) := by decide +kernel
theorem dX11_dueOf_130 : decode cX11_dueOf 130 = .ok (.ldc2_w 164, 3) := by decide +kernel
theorem dX11_dueOf_133 : decode cX11_dueOf 133 = .ok (.ldiv, 1) := by decide +kernel
theorem dX11_dueOf_134 : decode cX11_dueOf 134 = .ok (.lstore 5, 2) := by decide +kernel
theorem dX11_dueOf_136 : decode cX11_dueOf 136 = .ok (.lload 5, 2) := by decide +kernel
theorem dX11_dueOf_138 : decode cX11_dueOf 138 = .ok (.lload 5, 2) := by decide +kernel
theorem dX11_dueOf_140 : decode cX11_dueOf 140 = .ok (.aload_n 0, 1) := by decide +kernel
theorem dX11_dueOf_141 : decode cX11_dueOf 141 = .ok (.iconst 4, 1) := by decide +kernel
theorem dX11_dueOf_142 : decode cX11_dueOf 142 = .ok (.aload_n 0, 1) := by decide +kernel
theorem dX11_dueOf_143 : decode cX11_dueOf 143 = .ok (.iload_n 2, 1) := by decide +kernel
theorem dX11_dueOf_144 : decode cX11_dueOf 144 = .ok (.iload_n 3, 1) := by decide +kernel
theorem dX11_dueOf_145 : decode cX11_dueOf 145 = .ok (.invokevirtual 166, 3) := by decide +kernel
theorem dX11_dueOf_148 : decode cX11_dueOf 148 = .ok (.iload_n 3, 1) := by decide +kernel
theorem dX11_dueOf_149 : decode cX11_dueOf 149 = .ok (.invokevirtual 130, 3) := by decide +kernel
theorem dX11_dueOf_152 : decode cX11_dueOf 152 = .ok (.i2l, 1) := by decide +kernel
theorem dX11_dueOf_153 : decode cX11_dueOf 153 = .ok (.lmul, 1) := by decide +kernel
theorem dX11_dueOf_154 : decode cX11_dueOf 154 = .ok (.ldc2_w 164, 3) := by decide +kernel
theorem dX11_dueOf_157 : decode cX11_dueOf 157 = .ok (.ldiv, 1) := by decide +kernel
theorem dX11_dueOf_158 : decode cX11_dueOf 158 = .ok (.lsub, 1) := by decide +kernel
theorem dX11_dueOf_159 : decode cX11_dueOf 159 = .ok (.lreturn, 1) := by decide +kernel
theorem dX11_due_0 : decode cX11_due 0 = .ok (.aload_n 0, 1) := by decide +kernel
theorem dX11_due_1 : decode cX11_due 1 = .ok (.iload_n 1, 1) := by decide +kernel
theorem dX11_due_2 : decode cX11_due 2 = .ok (.invokevirtual 155, 3) := by decide +kernel
theorem dX11_due_5 : decode cX11_due 5 = .ok (.ifCond .eq 19, 3) := by decide +kernel
theorem dX11_due_8 : decode cX11_due 8 = .ok (.iload_n 2, 1) := by decide +kernel
theorem dX11_due_9 : decode cX11_due 9 = .ok (.invokestatic 119, 3) := by decide +kernel
theorem dX11_due_12 : decode cX11_due 12 = .ok (.ifCond .eq 12, 3) := by decide +kernel
theorem dX11_due_15 : decode cX11_due 15 = .ok (.iload_n 3, 1) := by decide +kernel
theorem dX11_due_16 : decode cX11_due 16 = .ok (.iconst 0, 1) := by decide +kernel
theorem dX11_due_17 : decode cX11_due 17 = .ok (.iconst 3, 1) := by decide +kernel
theorem dX11_due_18 : decode cX11_due 18 = .ok (.invokestatic 104, 3) := by decide +kernel
theorem dX11_due_21 : decode cX11_due 21 = .ok (.ifCond .ne 9, 3) := by decide +kernel
theorem dX11_due_24 : decode cX11_due 24 = .ok (.aload_n 0, 1) := by decide +kernel
theorem dX11_due_25 : decode cX11_due 25 = .ok (.iconst 1, 1) := by decide +kernel
theorem dX11_due_26 : decode cX11_due 26 = .ok (.invokevirtual 112, 3) := by decide +kernel
theorem dX11_due_29 : decode cX11_due 29 = .ok (.lreturn, 1) := by decide +kernel
theorem dX11_due_30 : decode cX11_due 30 = .ok (.aload_n 0, 1) := by decide +kernel
theorem dX11_due_31 : decode cX11_due 31 = .ok (.iload_n 1, 1) := by decide +kernel
theorem dX11_due_32 : decode cX11_due 32 = .ok (.iload_n 2, 1) := by decide +kernel
theorem dX11_due_33 : decode cX11_due 33 = .ok (.invokevirtual 169, 3) := by decide +kernel
theorem dX11_due_36 : decode cX11_due 36 = .ok (.istore 4, 2) := by decide +kernel
theorem dX11_due_38 : decode cX11_due 38 = .ok (.iload 4, 2) := by decide +kernel
theorem dX11_due_40 : decode cX11_due 40 = .ok (.ifCond .ge 9, 3) := by decide +kernel
theorem dX11_due_43 : decode cX11_due 43 = .ok (.aload_n 0, 1) := by decide +kernel
theorem dX11_due_44 : decode cX11_due 44 = .ok (.iconst 2, 1) := by decide +kernel
theorem dX11_due_45 : decode cX11_due 45 = .ok (.invokevirtual 112, 3) := by decide +kernel
theorem dX11_due_48 : decode cX11_due 48 = .ok (.lreturn, 1) := by decide +kernel
theorem dX11_due_49 : decode cX11_due 49 = .ok (.iload_n 3, 1) := by decide +kernel
theorem dX11_due_50 : decode cX11_due 50 = .ok (.ifCond .ne 14, 3) := by decide +kernel
theorem dX11_due_53 : decode cX11_due 53 = .ok (.aload_n 0, 1) := by decide +kernel
theorem dX11_due_54 : decode cX11_due 54 = .ok (.getfield 37, 3) := by decide +kernel
theorem dX11_due_57 : decode cX11_due 57 = .ok (.iload 4, 2) := by decide +kernel
theorem dX11_due_59 : decode cX11_due 59 = .ok (.iaload, 1) := by decide +kernel
theorem dX11_due_60 : decode cX11_due 60 = .ok (.i2l, 1) := by decide +kernel
theorem dX11_due_61 : decode cX11_due 61 = .ok (.goto 43, 3) := by decide +kernel
theorem dX11_due_64 : decode cX11_due 64 = .ok (.iload_n 3, 1) := by decide +kernel
theorem dX11_due_65 : decode cX11_due 65 = .ok (.iconst 1, 1) := by decide +kernel
theorem dX11_due_66 : decode cX11_due 66 = .ok (.if_icmp .ne 14, 3) := by decide +kernel
theorem dX11_due_69 : decode cX11_due 69 = .ok (.aload_n 0, 1) := by decide +kernel
theorem dX11_due_70 : decode cX11_due 70 = .ok (.iload 4, 2) := by decide +kernel
theorem dX11_due_72 : decode cX11_due 72 = .ok (.iload_n 2, 1) := by decide +kernel
theorem dX11_due_73 : decode cX11_due 73 = .ok (.invokevirtual 166, 3) := by decide +kernel
theorem dX11_due_76 : decode cX11_due 76 = .ok (.i2l, 1) := by decide +kernel
theorem dX11_due_77 : decode cX11_due 77 = .ok (.goto 27, 3) := by decide +kernel
theorem dX11_due_80 : decode cX11_due 80 = .ok (.iload_n 3, 1) := by decide +kernel
theorem dX11_due_81 : decode cX11_due 81 = .ok (.iconst 2, 1) := by decide +kernel
theorem dX11_due_82 : decode cX11_due 82 = .ok (.if_icmp .ne 14, 3) := by decide +kernel
theorem dX11_due_85 : decode cX11_due 85 = .ok (.aload_n 0, 1) := by decide +kernel
theorem dX11_due_86 : decode cX11_due 86 = .ok (.iload_n 1, 1) := by decide +kernel
theorem dX11_due_87 : decode cX11_due 87 = .ok (.iload 4, 2) := by decide +kernel
theorem dX11_due_89 : decode cX11_due 89 = .ok (.iload_n 2, 1) := by decide +kernel
theorem dX11_due_90 : decode cX11_due 90 = .ok (.invokevirtual 172, 3) := by decide +kernel
theorem dX11_due_93 : decode cX11_due 93 = .ok (.goto 11, 3) := by decide +kernel
theorem dX11_due_96 : decode cX11_due 96 = .ok (.aload_n 0, 1) := by decide +kernel
theorem dX11_due_97 : decode cX11_due 97 = .ok (.getfield 34, 3) := by decide +kernel
theorem dX11_due_100 : decode cX11_due 100 = .ok (.iload 4, 2) := by decide +kernel
theorem dX11_due_102 : decode cX11_due 102 = .ok (.iaload, 1) := by decide +kernel
theorem dX11_due_103 : decode cX11_due 103 = .ok (.i2l, 1) := by decide +kernel
theorem dX11_due_104 : decode cX11_due 104 = .ok (.lreturn, 1) := by decide +kernel
theorem dX11_foretold_0 : decode cX11_foretold 0 = .ok (.iload_n 1, 1) := by decide +kernel
theorem dX11_foretold_1 : decode cX11_foretold 1 = .ok (.invokestatic 119, 3) := by decide +kernel
theorem dX11_foretold_4 : decode cX11_foretold 4 = .ok (.ifCond .ne 9, 3) := by decide +kernel
theorem dX11_foretold_7 : decode cX11_foretold 7 = .ok (.aload_n 0, 1) := by decide +kernel
theorem dX11_foretold_8 : decode cX11_foretold 8 = .ok (.iconst 1, 1) := by decide +kernel
theorem dX11_foretold_9 : decode cX11_foretold 9 = .ok (.invokevirtual 112, 3) := by decide +kernel
theorem dX11_foretold_12 : decode cX11_foretold 12 = .ok (.lreturn, 1) := by decide +kernel
theorem dX11_foretold_13 : decode cX11_foretold 13 = .ok (.lconst 0, 1) := by decide +kernel
theorem dX11_foretold_14 : decode cX11_foretold 14 = .ok (.lstore_n 2, 1) := by decide +kernel
theorem dX11_foretold_15 : decode cX11_foretold 15 = .ok (.iconst 0, 1) := by decide +kernel
theorem dX11_foretold_16 : decode cX11_foretold 16 = .ok (.istore 4, 2) := by decide +kernel
theorem dX11_foretold_18 : decode cX11_foretold 18 = .ok (.iload 4, 2) := by decide +kernel
theorem dX11_foretold_20 : decode cX11_foretold 20 = .ok (.aload_n 0, 1) := by decide +kernel
theorem dX11_foretold_21 : decode cX11_foretold 21 = .ok (.getfield 137, 3) := by decide +kernel
theorem dX11_foretold_24 : decode cX11_foretold 24 = .ok (.if_icmp .ge 46, 3) := by decide +kernel
theorem dX11_foretold_27 : decode cX11_foretold 27 = .ok (.aload_n 0, 1) := by decide +kernel
theorem dX11_foretold_28 : decode cX11_foretold 28 = .ok (.iload 4, 2) := by decide +kernel
theorem dX11_foretold_30 : decode cX11_foretold 30 = .ok (.iload_n 1, 1) := by decide +kernel
theorem dX11_foretold_31 : decode cX11_foretold 31 = .ok (.invokevirtual 169, 3) := by decide +kernel
theorem dX11_foretold_34 : decode cX11_foretold 34 = .ok (.istore 5, 2) := by decide +kernel
theorem dX11_foretold_36 : decode cX11_foretold 36 = .ok (.iload 5, 2) := by decide +kernel
theorem dX11_foretold_38 : decode cX11_foretold 38 = .ok (.ifCond .lt 26, 3) := by decide +kernel
theorem dX11_foretold_41 : decode cX11_foretold 41 = .ok (.aload_n 0, 1) := by decide +kernel
theorem dX11_foretold_42 : decode cX11_foretold 42 = .ok (.iload 5, 2) := by decide +kernel
theorem dX11_foretold_44 : decode cX11_foretold 44 = .ok (.iload_n 1, 1) := by decide +kernel
theorem dX11_foretold_45 : decode cX11_foretold 45 = .ok (.invokevirtual 166, 3) := by decide +kernel
theorem dX11_foretold_48 : decode cX11_foretold 48 = .ok (.iload_n 1, 1) := by decide +kernel
theorem dX11_foretold_49 : decode cX11_foretold 49 = .ok (.if_icmp .ne 15, 3) := by decide +kernel
theorem dX11_foretold_52 : decode cX11_foretold 52 = .ok (.lload_n 2, 1) := by decide +kernel
theorem dX11_foretold_53 : decode cX11_foretold 53 = .ok (.aload_n 0, 1) := by decide +kernel
theorem dX11_foretold_54 : decode cX11_foretold 54 = .ok (.iload 4, 2) := by decide +kernel
theorem dX11_foretold_56 : decode cX11_foretold 56 = .ok (.iload 5, 2) := by decide +kernel
theorem dX11_foretold_58 : decode cX11_foretold 58 = .ok (.iload_n 1, 1) := by decide +kernel
theorem dX11_foretold_59 : decode cX11_foretold 59 = .ok (.invokevirtual 172, 3) := by decide +kernel
theorem dX11_foretold_62 : decode cX11_foretold 62 = .ok (.ladd, 1) := by decide +kernel
theorem dX11_foretold_63 : decode cX11_foretold 63 = .ok (.lstore_n 2, 1) := by decide +kernel
theorem dX11_foretold_64 : decode cX11_foretold 64 = .ok (.iinc 4 1, 3) := by decide +kernel
theorem dX11_foretold_67 : decode cX11_foretold 67 = .ok (.goto (-49), 3) := by decide +kernel
theorem dX11_foretold_70 : decode cX11_foretold 70 = .ok (.lload_n 2, 1) := by decide +kernel
theorem dX11_foretold_71 : decode cX11_foretold 71 = .ok (.lreturn, 1) := by decide +kernel
theorem dX11_income_0 : decode cX11_income 0 = .ok (.iload_n 1, 1) := by decide +kernel
theorem dX11_income_1 : decode cX11_income 1 = .ok (.iconst 0, 1) := by decide +kernel
theorem dX11_income_2 : decode cX11_income 2 = .ok (.ldc 176, 2) := by decide +kernel
theorem dX11_income_4 : decode cX11_income 4 = .ok (.invokestatic 104, 3) := by decide +kernel
theorem dX11_income_7 : decode cX11_income 7 = .ok (.ifCond .ne 9, 3) := by decide +kernel
theorem dX11_income_10 : decode cX11_income 10 = .ok (.aload_n 0, 1) := by decide +kernel
theorem dX11_income_11 : decode cX11_income 11 = .ok (.iconst 1, 1) := by decide +kernel
theorem dX11_income_12 : decode cX11_income 12 = .ok (.invokevirtual 112, 3) := by decide +kernel
theorem dX11_income_15 : decode cX11_income 15 = .ok (.lreturn, 1) := by decide +kernel
theorem dX11_income_16 : decode cX11_income 16 = .ok (.aload_n 0, 1) := by decide +kernel
theorem dX11_income_17 : decode cX11_income 17 = .ok (.getfield 177, 3) := by decide +kernel
theorem dX11_income_20 : decode cX11_income 20 = .ok (.iload_n 1, 1) := by decide +kernel
theorem dX11_income_21 : decode cX11_income 21 = .ok (.i2l, 1) := by decide +kernel
theorem dX11_income_22 : decode cX11_income 22 = .ok (.ladd, 1) := by decide +kernel
theorem dX11_income_23 : decode cX11_income 23 = .ok (.ldc2_w 181, 3) := by decide +kernel
theorem dX11_income_26 : decode cX11_income 26 = .ok (.lcmp, 1) := by decide +kernel
theorem dX11_income_27 : decode cX11_income 27 = .ok (.ifCond .le 9, 3) := by decide +kernel
theorem dX11_income_30 : decode cX11_income 30 = .ok (.aload_n 0, 1) := by decide +kernel
theorem dX11_income_31 : decode cX11_income 31 = .ok (.iconst 4, 1) := by decide +kernel
theorem dX11_income_32 : decode cX11_income 32 = .ok (.invokevirtual 112, 3) := by decide +kernel
theorem dX11_income_35 : decode cX11_income 35 = .ok (.lreturn, 1) := by decide +kernel
theorem dX11_income_36 : decode cX11_income 36 = .ok (.aload_n 0, 1) := by decide +kernel
theorem dX11_income_37 : decode cX11_income 37 = .ok (.dup, 1) := by decide +kernel
theorem dX11_income_38 : decode cX11_income 38 = .ok (.getfield 177, 3) := by decide +kernel
theorem dX11_income_41 : decode cX11_income 41 = .ok (.iload_n 1, 1) := by decide +kernel
theorem dX11_income_42 : decode cX11_income 42 = .ok (.i2l, 1) := by decide +kernel
theorem dX11_income_43 : decode cX11_income 43 = .ok (.ladd, 1) := by decide +kernel
theorem dX11_income_44 : decode cX11_income 44 = .ok (.putfield 177, 3) := by decide +kernel
theorem dX11_income_47 : decode cX11_income 47 = .ok (.aload_n 0, 1) := by decide +kernel
theorem dX11_income_48 : decode cX11_income 48 = .ok (.dup, 1) := by decide +kernel
theorem dX11_income_49 : decode cX11_income 49 = .ok (.getfield 183, 3) := by decide +kernel
theorem dX11_income_52 : decode cX11_income 52 = .ok (.iload_n 1, 1) := by decide +kernel
theorem dX11_income_53 : decode cX11_income 53 = .ok (.i2l, 1) := by decide +kernel
theorem dX11_income_54 : decode cX11_income 54 = .ok (.ladd, 1) := by decide +kernel
theorem dX11_income_55 : decode cX11_income 55 = .ok (.putfield 183, 3) := by decide +kernel
theorem dX11_income_58 : decode cX11_income 58 = .ok (.aload_n 0, 1) := by decide +kernel
theorem dX11_income_59 : decode cX11_income 59 = .ok (.getfield 177, 3) := by decide +kernel
theorem dX11_income_62 : decode cX11_income 62 = .ok (.lreturn, 1) := by decide +kernel
theorem dX11_pay_0 : decode cX11_pay 0 = .ok (.aload_n 0, 1) := by decide +kernel
theorem dX11_pay_1 : decode cX11_pay 1 = .ok (.getfield 65, 3) := by decide +kernel
theorem dX11_pay_4 : decode cX11_pay 4 = .ok (.iload_n 1, 1) := by decide +kernel
theorem dX11_pay_5 : decode cX11_pay 5 = .ok (.dup2, 1) := by decide +kernel
theorem dX11_pay_6 : decode cX11_pay 6 = .ok (.laload, 1) := by decide +kernel
theorem dX11_pay_7 : decode cX11_pay 7 = .ok (.lload_n 2, 1) := by decide +kernel
theorem dX11_pay_8 : decode cX11_pay 8 = .ok (.ladd, 1) := by decide +kernel
theorem dX11_pay_9 : decode cX11_pay 9 = .ok (.lastore, 1) := by decide +kernel
theorem dX11_pay_10 : decode cX11_pay 10 = .ok (.aload_n 0, 1) := by decide +kernel
theorem dX11_pay_11 : decode cX11_pay 11 = .ok (.getfield 99, 3) := by decide +kernel
theorem dX11_pay_14 : decode cX11_pay 14 = .ok (.iload_n 1, 1) := by decide +kernel
theorem dX11_pay_15 : decode cX11_pay 15 = .ok (.dup2, 1) := by decide +kernel
theorem dX11_pay_16 : decode cX11_pay 16 = .ok (.laload, 1) := by decide +kernel
theorem dX11_pay_17 : decode cX11_pay 17 = .ok (.lload_n 2, 1) := by decide +kernel
theorem dX11_pay_18 : decode cX11_pay 18 = .ok (.lsub, 1) := by decide +kernel
theorem dX11_pay_19 : decode cX11_pay 19 = .ok (.lastore, 1) := by decide +kernel
theorem dX11_pay_20 : decode cX11_pay 20 = .ok (.aload_n 0, 1) := by decide +kernel
theorem dX11_pay_21 : decode cX11_pay 21 = .ok (.dup, 1) := by decide +kernel
theorem dX11_pay_22 : decode cX11_pay 22 = .ok (.getfield 177, 3) := by decide +kernel
theorem dX11_pay_25 : decode cX11_pay 25 = .ok (.lload_n 2, 1) := by decide +kernel
theorem dX11_pay_26 : decode cX11_pay 26 = .ok (.lsub, 1) := by decide +kernel
theorem dX11_pay_27 : decode cX11_pay 27 = .ok (.putfield 177, 3) := by decide +kernel
theorem dX11_pay_30 : decode cX11_pay 30 = .ok (.aload_n 0, 1) := by decide +kernel
theorem dX11_pay_31 : decode cX11_pay 31 = .ok (.dup, 1) := by decide +kernel
theorem dX11_pay_32 : decode cX11_pay 32 = .ok (.getfield 186, 3) := by decide +kernel
theorem dX11_pay_35 : decode cX11_pay 35 = .ok (.lload_n 2, 1) := by decide +kernel
theorem dX11_pay_36 : decode cX11_pay 36 = .ok (.ladd, 1) := by decide +kernel
theorem dX11_pay_37 : decode cX11_pay 37 = .ok (.putfield 186, 3) := by decide +kernel
theorem dX11_pay_40 : decode cX11_pay 40 = .ok (.aload_n 0, 1) := by decide +kernel
theorem dX11_pay_41 : decode cX11_pay 41 = .ok (.getfield 81, 3) := by decide +kernel
theorem dX11_pay_44 : decode cX11_pay 44 = .ok (.aload_n 0, 1) := by decide +kernel
theorem dX11_pay_45 : decode cX11_pay 45 = .ok (.iload_n 1, 1) := by decide +kernel
theorem dX11_pay_46 : decode cX11_pay 46 = .ok (.aload_n 0, 1) := by decide +kernel
theorem dX11_pay_47 : decode cX11_pay 47 = .ok (.getfield 108, 3) := by decide +kernel
theorem dX11_pay_50 : decode cX11_pay 50 = .ok (.invokevirtual 158, 3) := by decide +kernel
theorem dX11_pay_53 : decode cX11_pay 53 = .ok (.dup2, 1) := by decide +kernel
theorem dX11_pay_54 : decode cX11_pay 54 = .ok (.laload, 1) := by decide +kernel
theorem dX11_pay_55 : decode cX11_pay 55 = .ok (.lload_n 2, 1) := by decide +kernel
theorem dX11_pay_56 : decode cX11_pay 56 = .ok (.ladd, 1) := by decide +kernel
theorem dX11_pay_57 : decode cX11_pay 57 = .ok (.lastore, 1) := by decide +kernel
theorem dX11_pay_58 : decode cX11_pay 58 = .ok (.return_, 1) := by decide +kernel
theorem dX11_goOn_0 : decode cX11_goOn 0 = .ok (.lconst 0, 1) := by decide +kernel
theorem dX11_goOn_1 : decode cX11_goOn 1 = .ok (.lstore_n 1, 1) := by decide +kernel
theorem dX11_goOn_2 : decode cX11_goOn 2 = .ok (.aload_n 0, 1) := by decide +kernel
theorem dX11_goOn_3 : decode cX11_goOn 3 = .ok (.iconst 0, 1) := by decide +kernel
theorem dX11_goOn_4 : decode cX11_goOn 4 = .ok (.putfield 189, 3) := by decide +kernel
theorem dX11_goOn_7 : decode cX11_goOn 7 = .ok (.iconst 0, 1) := by decide +kernel
theorem dX11_goOn_8 : decode cX11_goOn 8 = .ok (.istore_n 3, 1) := by decide +kernel
theorem dX11_goOn_9 : decode cX11_goOn 9 = .ok (.iload_n 3, 1) := by decide +kernel
theorem dX11_goOn_10 : decode cX11_goOn 10 = .ok (.aload_n 0, 1) := by decide +kernel
theorem dX11_goOn_11 : decode cX11_goOn 11 = .ok (.getfield 137, 3) := by decide +kernel
theorem dX11_goOn_14 : decode cX11_goOn 14 = .ok (.if_icmp .ge 133, 3) := by decide +kernel
theorem dX11_goOn_17 : decode cX11_goOn 17 = .ok (.aload_n 0, 1) := by decide +kernel
theorem dX11_goOn_18 : decode cX11_goOn 18 = .ok (.getfield 68, 3) := by decide +kernel
theorem dX11_goOn_21 : decode cX11_goOn 21 = .ok (.iload_n 3, 1) := by decide +kernel
theorem dX11_goOn_22 : decode cX11_goOn 22 = .ok (.baload, 1) := by decide +kernel
theorem dX11_goOn_23 : decode cX11_goOn 23 = .ok (.ifCond .eq 7, 3) := by decide +kernel
theorem dX11_goOn_26 : decode cX11_goOn 26 = .ok (.iconst (-1), 1) := by decide +kernel
theorem dX11_goOn_27 : decode cX11_goOn 27 = .ok (.goto 12, 3) := by decide +kernel
theorem dX11_goOn_30 : decode cX11_goOn 30 = .ok (.aload_n 0, 1) := by decide +kernel
theorem dX11_goOn_31 : decode cX11_goOn 31 = .ok (.iload_n 3, 1) := by decide +kernel
theorem dX11_goOn_32 : decode cX11_goOn 32 = .ok (.aload_n 0, 1) := by decide +kernel
theorem dX11_goOn_33 : decode cX11_goOn 33 = .ok (.getfield 108, 3) := by decide +kernel
theorem dX11_goOn_36 : decode cX11_goOn 36 = .ok (.invokevirtual 169, 3) := by decide +kernel
theorem dX11_goOn_39 : decode cX11_goOn 39 = .ok (.istore 4, 2) := by decide +kernel
theorem dX11_goOn_41 : decode cX11_goOn 41 = .ok (.aload_n 0, 1) := by decide +kernel
theorem dX11_goOn_42 : decode cX11_goOn 42 = .ok (.getfield 96, 3) := by decide +kernel
theorem dX11_goOn_45 : decode cX11_goOn 45 = .ok (.iload_n 3, 1) := by decide +kernel
theorem dX11_goOn_46 : decode cX11_goOn 46 = .ok (.iload 4, 2) := by decide +kernel
theorem dX11_goOn_48 : decode cX11_goOn 48 = .ok (.ifCond .lt 24, 3) := by decide +kernel
theorem dX11_goOn_51 : decode cX11_goOn 51 = .ok (.aload_n 0, 1) := by decide +kernel
theorem dX11_goOn_52 : decode cX11_goOn 52 = .ok (.iload 4, 2) := by decide +kernel
theorem dX11_goOn_54 : decode cX11_goOn 54 = .ok (.aload_n 0, 1) := by decide +kernel
theorem dX11_goOn_55 : decode cX11_goOn 55 = .ok (.getfield 108, 3) := by decide +kernel
theorem dX11_goOn_58 : decode cX11_goOn 58 = .ok (.invokevirtual 166, 3) := by decide +kernel
theorem dX11_goOn_61 : decode cX11_goOn 61 = .ok (.aload_n 0, 1) := by decide +kernel
theorem dX11_goOn_62 : decode cX11_goOn 62 = .ok (.getfield 108, 3) := by decide +kernel
theorem dX11_goOn_65 : decode cX11_goOn 65 = .ok (.if_icmp .gt 7, 3) := by decide +kernel
theorem dX11_goOn_68 : decode cX11_goOn 68 = .ok (.iconst 1, 1) := by decide +kernel
theorem dX11_goOn_69 : decode cX11_goOn 69 = .ok (.goto 4, 3) := by decide +kernel
theorem dX11_goOn_72 : decode cX11_goOn 72 = .ok (.iconst 0, 1) := by decide +kernel
theorem dX11_goOn_73 : decode cX11_goOn 73 = .ok (.bastore, 1) := by decide +kernel
theorem dX11_goOn_74 : decode cX11_goOn 74 = .ok (.aload_n 0, 1) := by decide +kernel
theorem dX11_goOn_75 : decode cX11_goOn 75 = .ok (.getfield 96, 3) := by decide +kernel
theorem dX11_goOn_78 : decode cX11_goOn 78 = .ok (.iload_n 3, 1) := by decide +kernel
theorem dX11_goOn_79 : decode cX11_goOn 79 = .ok (.baload, 1) := by decide +kernel
theorem dX11_goOn_80 : decode cX11_goOn 80 = .ok (.ifCond .eq 61, 3) := by decide +kernel
theorem dX11_goOn_83 : decode cX11_goOn 83 = .ok (.aload_n 0, 1) := by decide +kernel
theorem dX11_goOn_84 : decode cX11_goOn 84 = .ok (.iload_n 3, 1) := by decide +kernel
theorem dX11_goOn_85 : decode cX11_goOn 85 = .ok (.iload 4, 2) := by decide +kernel
theorem dX11_goOn_87 : decode cX11_goOn 87 = .ok (.aload_n 0, 1) := by decide +kernel
theorem dX11_goOn_88 : decode cX11_goOn 88 = .ok (.getfield 108, 3) := by decide +kernel
theorem dX11_goOn_91 : decode cX11_goOn 91 = .ok (.invokevirtual 172, 3) := by decide +kernel
theorem dX11_goOn_94 : decode cX11_goOn 94 = .ok (.aload_n 0, 1) := by decide +kernel
theorem dX11_goOn_95 : decode cX11_goOn 95 = .ok (.getfield 65, 3) := by decide +kernel
theorem dX11_goOn_98 : decode cX11_goOn 98 = .ok (.iload_n 3, 1) := by decide +kernel
theorem dX11_goOn_99 : decode cX11_goOn 99 = .ok (.laload, 1) := by decide +kernel
theorem dX11_goOn_100 : decode cX11_goOn 100 = .ok (.lsub, 1) := by decide +kernel
theorem dX11_goOn_101 : decode cX11_goOn 101 = .ok (.lstore 5, 2) := by decide +kernel
theorem dX11_goOn_103 : decode cX11_goOn 103 = .ok (.aload_n 0, 1) := by decide +kernel
theorem dX11_goOn_104 : decode cX11_goOn 104 = .ok (.getfield 99, 3) := by decide +kernel
theorem dX11_goOn_107 : decode cX11_goOn 107 = .ok (.iload_n 3, 1) := by decide +kernel
theorem dX11_goOn_108 : decode cX11_goOn 108 = .ok (.lload 5, 2) := by decide +kernel
theorem dX11_goOn_110 : decode cX11_goOn 110 = .ok (.lconst 0, 1) := by decide +kernel
theorem dX11_goOn_111 : decode cX11_goOn 111 = .ok (.lcmp, 1) := by decide +kernel
theorem dX11_goOn_112 : decode cX11_goOn 112 = .ok (.ifCond .ge 7, 3) := by decide +kernel
theorem dX11_goOn_115 : decode cX11_goOn 115 = .ok (.lconst 0, 1) := by decide +kernel
theorem dX11_goOn_116 : decode cX11_goOn 116 = .ok (.goto 5, 3) := by decide +kernel
theorem dX11_goOn_119 : decode cX11_goOn 119 = .ok (.lload 5, 2) := by decide +kernel
theorem dX11_goOn_121 : decode cX11_goOn 121 = .ok (.lastore, 1) := by decide +kernel
theorem dX11_goOn_122 : decode cX11_goOn 122 = .ok (.lload_n 1, 1) := by decide +kernel
theorem dX11_goOn_123 : decode cX11_goOn 123 = .ok (.aload_n 0, 1) := by decide +kernel
theorem dX11_goOn_124 : decode cX11_goOn 124 = .ok (.getfield 99, 3) := by decide +kernel
theorem dX11_goOn_127 : decode cX11_goOn 127 = .ok (.iload_n 3, 1) := by decide +kernel
theorem dX11_goOn_128 : decode cX11_goOn 128 = .ok (.laload, 1) := by decide +kernel
theorem dX11_goOn_129 : decode cX11_goOn 129 = .ok (.ladd, 1) := by decide +kernel
theorem dX11_goOn_130 : decode cX11_goOn 130 = .ok (.lstore_n 1, 1) := by decide +kernel
theorem dX11_goOn_131 : decode cX11_goOn 131 = .ok (.aload_n 0, 1) := by decide +kernel
theorem dX11_goOn_132 : decode cX11_goOn 132 = .ok (.dup, 1) := by decide +kernel
theorem dX11_goOn_133 : decode cX11_goOn 133 = .ok (.getfield 189, 3) := by decide +kernel
theorem dX11_goOn_136 : decode cX11_goOn 136 = .ok (.iconst 1, 1) := by decide +kernel
theorem dX11_goOn_137 : decode cX11_goOn 137 = .ok (.iadd, 1) := by decide +kernel
theorem dX11_goOn_138 : decode cX11_goOn 138 = .ok (.putfield 189, 3) := by decide +kernel
theorem dX11_goOn_141 : decode cX11_goOn 141 = .ok (.iinc 3 1, 3) := by decide +kernel
theorem dX11_goOn_144 : decode cX11_goOn 144 = .ok (.goto (-135), 3) := by decide +kernel
theorem dX11_goOn_147 : decode cX11_goOn 147 = .ok (.aload_n 0, 1) := by decide +kernel
theorem dX11_goOn_148 : decode cX11_goOn 148 = .ok (.getfield 177, 3) := by decide +kernel
theorem dX11_goOn_151 : decode cX11_goOn 151 = .ok (.lstore_n 3, 1) := by decide +kernel
theorem dX11_goOn_152 : decode cX11_goOn 152 = .ok (.lload_n 3, 1) := by decide +kernel
theorem dX11_goOn_153 : decode cX11_goOn 153 = .ok (.lload_n 1, 1) := by decide +kernel
theorem dX11_goOn_154 : decode cX11_goOn 154 = .ok (.lcmp, 1) := by decide +kernel
theorem dX11_goOn_155 : decode cX11_goOn 155 = .ok (.ifCond .lt 7, 3) := by decide +kernel
theorem dX11_goOn_158 : decode cX11_goOn 158 = .ok (.iconst 1, 1) := by decide +kernel
theorem dX11_goOn_159 : decode cX11_goOn 159 = .ok (.goto 4, 3) := by decide +kernel
theorem dX11_goOn_162 : decode cX11_goOn 162 = .ok (.iconst 0, 1) := by decide +kernel
theorem dX11_goOn_163 : decode cX11_goOn 163 = .ok (.istore 5, 2) := by decide +kernel
theorem dX11_goOn_165 : decode cX11_goOn 165 = .ok (.iconst 0, 1) := by decide +kernel
theorem dX11_goOn_166 : decode cX11_goOn 166 = .ok (.istore 6, 2) := by decide +kernel
theorem dX11_goOn_168 : decode cX11_goOn 168 = .ok (.iload 6, 2) := by decide +kernel
theorem dX11_goOn_170 : decode cX11_goOn 170 = .ok (.aload_n 0, 1) := by decide +kernel
theorem dX11_goOn_171 : decode cX11_goOn 171 = .ok (.getfield 137, 3) := by decide +kernel
theorem dX11_goOn_174 : decode cX11_goOn 174 = .ok (.if_icmp .ge 51, 3) := by decide +kernel
theorem dX11_goOn_177 : decode cX11_goOn 177 = .ok (.aload_n 0, 1) := by decide +kernel
theorem dX11_goOn_178 : decode cX11_goOn 178 = .ok (.getfield 96, 3) := by decide +kernel
theorem dX11_goOn_181 : decode cX11_goOn 181 = .ok (.iload 6, 2) := by decide +kernel
theorem dX11_goOn_183 : decode cX11_goOn 183 = .ok (.baload, 1) := by decide +kernel
theorem dX11_goOn_184 : decode cX11_goOn 184 = .ok (.ifCond .eq 35, 3) := by decide +kernel
theorem dX11_goOn_187 : decode cX11_goOn 187 = .ok (.aload_n 0, 1) := by decide +kernel
theorem dX11_goOn_188 : decode cX11_goOn 188 = .ok (.iload 6, 2) := by decide +kernel
theorem dX11_goOn_190 : decode cX11_goOn 190 = .ok (.iload 5, 2) := by decide +kernel
theorem dX11_goOn_192 : decode cX11_goOn 192 = .ok (.ifCond .eq 13, 3) := by decide +kernel
theorem dX11_goOn_195 : decode cX11_goOn 195 = .ok (.aload_n 0, 1) := by decide +kernel
theorem dX11_goOn_196 : decode cX11_goOn 196 = .ok (.getfield 99, 3) := by decide +kernel
theorem dX11_goOn_199 : decode cX11_goOn 199 = .ok (.iload 6, 2) := by decide +kernel
theorem dX11_goOn_201 : decode cX11_goOn 201 = .ok (.laload, 1) := by decide +kernel
theorem dX11_goOn_202 : decode cX11_goOn 202 = .ok (.goto 14, 3) := by decide +kernel
theorem dX11_goOn_205 : decode cX11_goOn 205 = .ok (.aload_n 0, 1) := by decide +kernel
theorem dX11_goOn_206 : decode cX11_goOn 206 = .ok (.getfield 99, 3) := by decide +kernel
theorem dX11_goOn_209 : decode cX11_goOn 209 = .ok (.iload 6, 2) := by decide +kernel
theorem dX11_goOn_211 : decode cX11_goOn 211 = .ok (.laload, 1) := by decide +kernel
theorem dX11_goOn_212 : decode cX11_goOn 212 = .ok (.lload_n 3, 1) := by decide +kernel
theorem dX11_goOn_213 : decode cX11_goOn 213 = .ok (.lmul, 1) := by decide +kernel
theorem dX11_goOn_214 : decode cX11_goOn 214 = .ok (.lload_n 1, 1) := by decide +kernel
theorem dX11_goOn_215 : decode cX11_goOn 215 = .ok (.ldiv, 1) := by decide +kernel
theorem dX11_goOn_216 : decode cX11_goOn 216 = .ok (.invokevirtual 192, 3) := by decide +kernel
theorem dX11_goOn_219 : decode cX11_goOn 219 = .ok (.iinc 6 1, 3) := by decide +kernel
theorem dX11_goOn_222 : decode cX11_goOn 222 = .ok (.goto (-54), 3) := by decide +kernel
theorem dX11_goOn_225 : decode cX11_goOn 225 = .ok (.iconst 0, 1) := by decide +kernel
theorem dX11_goOn_226 : decode cX11_goOn 226 = .ok (.istore 6, 2) := by decide +kernel
theorem dX11_goOn_228 : decode cX11_goOn 228 = .ok (.iload 6, 2) := by decide +kernel
theorem dX11_goOn_230 : decode cX11_goOn 230 = .ok (.aload_n 0, 1) := by decide +kernel
theorem dX11_goOn_231 : decode cX11_goOn 231 = .ok (.getfield 137, 3) := by decide +kernel
theorem dX11_goOn_234 : decode cX11_goOn 234 = .ok (.if_icmp .ge 52, 3) := by decide +kernel
theorem dX11_goOn_237 : decode cX11_goOn 237 = .ok (.iload 5, 2) := by decide +kernel
theorem dX11_goOn_239 : decode cX11_goOn 239 = .ok (.ifCond .ne 47, 3) := by decide +kernel
theorem dX11_goOn_242 : decode cX11_goOn 242 = .ok (.aload_n 0, 1) := by decide +kernel
theorem dX11_goOn_243 : decode cX11_goOn 243 = .ok (.getfield 96, 3) := by decide +kernel
theorem dX11_goOn_246 : decode cX11_goOn 246 = .ok (.iload 6, 2) := by decide +kernel
theorem dX11_goOn_248 : decode cX11_goOn 248 = .ok (.baload, 1) := by decide +kernel
theorem dX11_goOn_249 : decode cX11_goOn 249 = .ok (.ifCond .eq 31, 3) := by decide +kernel
theorem dX11_goOn_252 : decode cX11_goOn 252 = .ok (.aload_n 0, 1) := by decide +kernel
theorem dX11_goOn_253 : decode cX11_goOn 253 = .ok (.getfield 99, 3) := by decide +kernel
theorem dX11_goOn_256 : decode cX11_goOn 256 = .ok (.iload 6, 2) := by decide +kernel
theorem dX11_goOn_258 : decode cX11_goOn 258 = .ok (.laload, 1) := by decide +kernel
theorem dX11_goOn_259 : decode cX11_goOn 259 = .ok (.lconst 0, 1) := by decide +kernel
theorem dX11_goOn_260 : decode cX11_goOn 260 = .ok (.lcmp, 1) := by decide +kernel
theorem dX11_goOn_261 : decode cX11_goOn 261 = .ok (.ifCond .le 19, 3) := by decide +kernel
theorem dX11_goOn_264 : decode cX11_goOn 264 = .ok (.aload_n 0, 1) := by decide +kernel
theorem dX11_goOn_265 : decode cX11_goOn 265 = .ok (.getfield 177, 3) := by decide +kernel
theorem dX11_goOn_268 : decode cX11_goOn 268 = .ok (.lconst 0, 1) := by decide +kernel
theorem dX11_goOn_269 : decode cX11_goOn 269 = .ok (.lcmp, 1) := by decide +kernel
theorem dX11_goOn_270 : decode cX11_goOn 270 = .ok (.ifCond .le 10, 3) := by decide +kernel
theorem dX11_goOn_273 : decode cX11_goOn 273 = .ok (.aload_n 0, 1) := by decide +kernel
theorem dX11_goOn_274 : decode cX11_goOn 274 = .ok (.iload 6, 2) := by decide +kernel
theorem dX11_goOn_276 : decode cX11_goOn 276 = .ok (.lconst 1, 1) := by decide +kernel
theorem dX11_goOn_277 : decode cX11_goOn 277 = .ok (.invokevirtual 192, 3) := by decide +kernel
theorem dX11_goOn_280 : decode cX11_goOn 280 = .ok (.iinc 6 1, 3) := by decide +kernel
theorem dX11_goOn_283 : decode cX11_goOn 283 = .ok (.goto (-55), 3) := by decide +kernel
theorem dX11_goOn_286 : decode cX11_goOn 286 = .ok (.aload_n 0, 1) := by decide +kernel
theorem dX11_goOn_287 : decode cX11_goOn 287 = .ok (.lconst 0, 1) := by decide +kernel
theorem dX11_goOn_288 : decode cX11_goOn 288 = .ok (.putfield 196, 3) := by decide +kernel
theorem dX11_goOn_291 : decode cX11_goOn 291 = .ok (.iconst 0, 1) := by decide +kernel
theorem dX11_goOn_292 : decode cX11_goOn 292 = .ok (.istore 6, 2) := by decide +kernel
theorem dX11_goOn_294 : decode cX11_goOn 294 = .ok (.iload 6, 2) := by decide +kernel
theorem dX11_goOn_296 : decode cX11_goOn 296 = .ok (.aload_n 0, 1) := by decide +kernel
theorem dX11_goOn_297 : decode cX11_goOn 297 = .ok (.getfield 137, 3) := by decide +kernel
theorem dX11_goOn_300 : decode cX11_goOn 300 = .ok (.if_icmp .ge 59, 3) := by decide +kernel
theorem dX11_goOn_303 : decode cX11_goOn 303 = .ok (.aload_n 0, 1) := by decide +kernel
theorem dX11_goOn_304 : decode cX11_goOn 304 = .ok (.getfield 96, 3) := by decide +kernel
theorem dX11_goOn_307 : decode cX11_goOn 307 = .ok (.iload 6, 2) := by decide +kernel
theorem dX11_goOn_309 : decode cX11_goOn 309 = .ok (.baload, 1) := by decide +kernel
theorem dX11_goOn_310 : decode cX11_goOn 310 = .ok (.ifCond .eq 43, 3) := by decide +kernel
theorem dX11_goOn_313 : decode cX11_goOn 313 = .ok (.aload_n 0, 1) := by decide +kernel
theorem dX11_goOn_314 : decode cX11_goOn 314 = .ok (.getfield 68, 3) := by decide +kernel
theorem dX11_goOn_317 : decode cX11_goOn 317 = .ok (.iload 6, 2) := by decide +kernel
theorem dX11_goOn_319 : decode cX11_goOn 319 = .ok (.aload_n 0, 1) := by decide +kernel
theorem dX11_goOn_320 : decode cX11_goOn 320 = .ok (.getfield 99, 3) := by decide +kernel
theorem dX11_goOn_323 : decode cX11_goOn 323 = .ok (.iload 6, 2) := by decide +kernel
theorem dX11_goOn_325 : decode cX11_goOn 325 = .ok (.laload, 1) := by decide +kernel
theorem dX11_goOn_326 : decode cX11_goOn 326 = .ok (.lconst 0, 1) := by decide +kernel
theorem dX11_goOn_327 : decode cX11_goOn 327 = .ok (.lcmp, 1) := by decide +kernel
theorem dX11_goOn_328 : decode cX11_goOn 328 = .ok (.ifCond .ne 7, 3) := by decide +kernel
theorem dX11_goOn_331 : decode cX11_goOn 331 = .ok (.iconst 1, 1) := by decide +kernel
theorem dX11_goOn_332 : decode cX11_goOn 332 = .ok (.goto 4, 3) := by decide +kernel
theorem dX11_goOn_335 : decode cX11_goOn 335 = .ok (.iconst 0, 1) := by decide +kernel
theorem dX11_goOn_336 : decode cX11_goOn 336 = .ok (.bastore, 1) := by decide +kernel
theorem dX11_goOn_337 : decode cX11_goOn 337 = .ok (.aload_n 0, 1) := by decide +kernel
theorem dX11_goOn_338 : decode cX11_goOn 338 = .ok (.dup, 1) := by decide +kernel
theorem dX11_goOn_339 : decode cX11_goOn 339 = .ok (.getfield 196, 3) := by decide +kernel
theorem dX11_goOn_342 : decode cX11_goOn 342 = .ok (.aload_n 0, 1) := by decide +kernel
theorem dX11_goOn_343 : decode cX11_goOn 343 = .ok (.getfield 99, 3) := by decide +kernel
theorem dX11_goOn_346 : decode cX11_goOn 346 = .ok (.iload 6, 2) := by decide +kernel
theorem dX11_goOn_348 : decode cX11_goOn 348 = .ok (.laload, 1) := by decide +kernel
theorem dX11_goOn_349 : decode cX11_goOn 349 = .ok (.ladd, 1) := by decide +kernel
theorem dX11_goOn_350 : decode cX11_goOn 350 = .ok (.putfield 196, 3) := by decide +kernel
theorem dX11_goOn_353 : decode cX11_goOn 353 = .ok (.iinc 6 1, 3) := by decide +kernel
theorem dX11_goOn_356 : decode cX11_goOn 356 = .ok (.goto (-62), 3) := by decide +kernel
theorem dX11_goOn_359 : decode cX11_goOn 359 = .ok (.aload_n 0, 1) := by decide +kernel
theorem dX11_goOn_360 : decode cX11_goOn 360 = .ok (.dup, 1) := by decide +kernel
theorem dX11_goOn_361 : decode cX11_goOn 361 = .ok (.getfield 108, 3) := by decide +kernel
theorem dX11_goOn_364 : decode cX11_goOn 364 = .ok (.iconst 1, 1) := by decide +kernel
theorem dX11_goOn_365 : decode cX11_goOn 365 = .ok (.iadd, 1) := by decide +kernel
theorem dX11_goOn_366 : decode cX11_goOn 366 = .ok (.putfield 108, 3) := by decide +kernel
theorem dX11_goOn_369 : decode cX11_goOn 369 = .ok (.return_, 1) := by decide +kernel
theorem dX11_outMany_0 : decode cX11_outMany 0 = .ok (.iconst 0, 1) := by decide +kernel
theorem dX11_outMany_1 : decode cX11_outMany 1 = .ok (.istore_n 1, 1) := by decide +kernel
theorem dX11_outMany_2 : decode cX11_outMany 2 = .ok (.iconst 0, 1) := by decide +kernel
theorem dX11_outMany_3 : decode cX11_outMany 3 = .ok (.istore_n 2, 1) := by decide +kernel
theorem dX11_outMany_4 : decode cX11_outMany 4 = .ok (.iload_n 2, 1) := by decide +kernel
theorem dX11_outMany_5 : decode cX11_outMany 5 = .ok (.aload_n 0, 1) := by decide +kernel
theorem dX11_outMany_6 : decode cX11_outMany 6 = .ok (.getfield 137, 3) := by decide +kernel
theorem dX11_outMany_9 : decode cX11_outMany 9 = .ok (.if_icmp .ge 26, 3) := by decide +kernel
theorem dX11_outMany_12 : decode cX11_outMany 12 = .ok (.iload_n 1, 1) := by decide +kernel
theorem dX11_outMany_13 : decode cX11_outMany 13 = .ok (.aload_n 0, 1) := by decide +kernel
theorem dX11_outMany_14 : decode cX11_outMany 14 = .ok (.getfield 68, 3) := by decide +kernel
theorem dX11_outMany_17 : decode cX11_outMany 17 = .ok (.iload_n 2, 1) := by decide +kernel
theorem dX11_outMany_18 : decode cX11_outMany 18 = .ok (.baload, 1) := by decide +kernel
theorem dX11_outMany_19 : decode cX11_outMany 19 = .ok (.ifCond .eq 7, 3) := by decide +kernel
theorem dX11_outMany_22 : decode cX11_outMany 22 = .ok (.iconst 1, 1) := by decide +kernel
theorem dX11_outMany_23 : decode cX11_outMany 23 = .ok (.goto 4, 3) := by decide +kernel
theorem dX11_outMany_26 : decode cX11_outMany 26 = .ok (.iconst 0, 1) := by decide +kernel
theorem dX11_outMany_27 : decode cX11_outMany 27 = .ok (.iadd, 1) := by decide +kernel
theorem dX11_outMany_28 : decode cX11_outMany 28 = .ok (.istore_n 1, 1) := by decide +kernel
theorem dX11_outMany_29 : decode cX11_outMany 29 = .ok (.iinc 2 1, 3) := by decide +kernel
theorem dX11_outMany_32 : decode cX11_outMany 32 = .ok (.goto (-28), 3) := by decide +kernel
theorem dX11_outMany_35 : decode cX11_outMany 35 = .ok (.iload_n 1, 1) := by decide +kernel
theorem dX11_outMany_36 : decode cX11_outMany 36 = .ok (.ireturn, 1) := by decide +kernel
theorem dX11_purse_0 : decode cX11_purse 0 = .ok (.iload_n 1, 1) := by decide +kernel
theorem dX11_purse_1 : decode cX11_purse 1 = .ok (.tableswitch 71 0 5 #[39, 44, 49, 54, 59, 65], 39) := by decide +kernel
theorem dX11_purse_40 : decode cX11_purse 40 = .ok (.aload_n 0, 1) := by decide +kernel
theorem dX11_purse_41 : decode cX11_purse 41 = .ok (.getfield 177, 3) := by decide +kernel
theorem dX11_purse_44 : decode cX11_purse 44 = .ok (.lreturn, 1) := by decide +kernel
theorem dX11_purse_45 : decode cX11_purse 45 = .ok (.aload_n 0, 1) := by decide +kernel
theorem dX11_purse_46 : decode cX11_purse 46 = .ok (.getfield 183, 3) := by decide +kernel
theorem dX11_purse_49 : decode cX11_purse 49 = .ok (.lreturn, 1) := by decide +kernel
theorem dX11_purse_50 : decode cX11_purse 50 = .ok (.aload_n 0, 1) := by decide +kernel
theorem dX11_purse_51 : decode cX11_purse 51 = .ok (.getfield 186, 3) := by decide +kernel
theorem dX11_purse_54 : decode cX11_purse 54 = .ok (.lreturn, 1) := by decide +kernel
theorem dX11_purse_55 : decode cX11_purse 55 = .ok (.aload_n 0, 1) := by decide +kernel
theorem dX11_purse_56 : decode cX11_purse 56 = .ok (.getfield 196, 3) := by decide +kernel
theorem dX11_purse_59 : decode cX11_purse 59 = .ok (.lreturn, 1) := by decide +kernel
theorem dX11_purse_60 : decode cX11_purse 60 = .ok (.aload_n 0, 1) := by decide +kernel
theorem dX11_purse_61 : decode cX11_purse 61 = .ok (.getfield 189, 3) := by decide +kernel
theorem dX11_purse_64 : decode cX11_purse 64 = .ok (.i2l, 1) := by decide +kernel
theorem dX11_purse_65 : decode cX11_purse 65 = .ok (.lreturn, 1) := by decide +kernel
theorem dX11_purse_66 : decode cX11_purse 66 = .ok (.aload_n 0, 1) := by decide +kernel
theorem dX11_purse_67 : decode cX11_purse 67 = .ok (.invokevirtual 199, 3) := by decide +kernel
theorem dX11_purse_70 : decode cX11_purse 70 = .ok (.i2l, 1) := by decide +kernel
theorem dX11_purse_71 : decode cX11_purse 71 = .ok (.lreturn, 1) := by decide +kernel
theorem dX11_purse_72 : decode cX11_purse 72 = .ok (.aload_n 0, 1) := by decide +kernel
theorem dX11_purse_73 : decode cX11_purse 73 = .ok (.iconst 1, 1) := by decide +kernel
theorem dX11_purse_74 : decode cX11_purse 74 = .ok (.invokevirtual 112, 3) := by decide +kernel
theorem dX11_purse_77 : decode cX11_purse 77 = .ok (.lreturn, 1) := by decide +kernel
theorem dX11_paid_0 : decode cX11_paid 0 = .ok (.iload_n 1, 1) := by decide +kernel
theorem dX11_paid_1 : decode cX11_paid 1 = .ok (.invokestatic 150, 3) := by decide +kernel
theorem dX11_paid_4 : decode cX11_paid 4 = .ok (.ifCond .eq 12, 3) := by decide +kernel
theorem dX11_paid_7 : decode cX11_paid 7 = .ok (.aload_n 0, 1) := by decide +kernel
theorem dX11_paid_8 : decode cX11_paid 8 = .ok (.getfield 81, 3) := by decide +kernel
theorem dX11_paid_11 : decode cX11_paid 11 = .ok (.iload_n 1, 1) := by decide +kernel
theorem dX11_paid_12 : decode cX11_paid 12 = .ok (.laload, 1) := by decide +kernel
theorem dX11_paid_13 : decode cX11_paid 13 = .ok (.goto 8, 3) := by decide +kernel
theorem dX11_paid_16 : decode cX11_paid 16 = .ok (.aload_n 0, 1) := by decide +kernel
theorem dX11_paid_17 : decode cX11_paid 17 = .ok (.iconst 1, 1) := by decide +kernel
theorem dX11_paid_18 : decode cX11_paid 18 = .ok (.invokevirtual 112, 3) := by decide +kernel
theorem dX11_paid_21 : decode cX11_paid 21 = .ok (.lreturn, 1) := by decide +kernel
theorem dX11_lives_0 : decode cX11_lives 0 = .ok (.iload_n 1, 1) := by decide +kernel
theorem dX11_lives_1 : decode cX11_lives 1 = .ok (.iconst 0, 1) := by decide +kernel
theorem dX11_lives_2 : decode cX11_lives 2 = .ok (.bipush 20, 2) := by decide +kernel
theorem dX11_lives_4 : decode cX11_lives 4 = .ok (.invokestatic 104, 3) := by decide +kernel
theorem dX11_lives_7 : decode cX11_lives 7 = .ok (.ifCond .eq 49, 3) := by decide +kernel
theorem dX11_lives_10 : decode cX11_lives 10 = .ok (.iload_n 2, 1) := by decide +kernel
theorem dX11_lives_11 : decode cX11_lives 11 = .ok (.iconst 0, 1) := by decide +kernel
theorem dX11_lives_12 : decode cX11_lives 12 = .ok (.sipush 1000, 3) := by decide +kernel
theorem dX11_lives_15 : decode cX11_lives 15 = .ok (.invokestatic 104, 3) := by decide +kernel
theorem dX11_lives_18 : decode cX11_lives 18 = .ok (.ifCond .eq 38, 3) := by decide +kernel
theorem dX11_lives_21 : decode cX11_lives 21 = .ok (.iload_n 3, 1) := by decide +kernel
theorem dX11_lives_22 : decode cX11_lives 22 = .ok (.iconst 0, 1) := by decide +kernel
theorem dX11_lives_23 : decode cX11_lives 23 = .ok (.sipush 1000, 3) := by decide +kernel
theorem dX11_lives_26 : decode cX11_lives 26 = .ok (.invokestatic 104, 3) := by decide +kernel
theorem dX11_lives_29 : decode cX11_lives 29 = .ok (.ifCond .eq 27, 3) := by decide +kernel
theorem dX11_lives_32 : decode cX11_lives 32 = .ok (.iload 4, 2) := by decide +kernel
theorem dX11_lives_34 : decode cX11_lives 34 = .ok (.iconst 0, 1) := by decide +kernel
theorem dX11_lives_35 : decode cX11_lives 35 = .ok (.sipush 1000, 3) := by decide +kernel
theorem dX11_lives_38 : decode cX11_lives 38 = .ok (.invokestatic 104, 3) := by decide +kernel
theorem dX11_lives_41 : decode cX11_lives 41 = .ok (.ifCond .eq 15, 3) := by decide +kernel
theorem dX11_lives_44 : decode cX11_lives 44 = .ok (.iload_n 2, 1) := by decide +kernel
theorem dX11_lives_45 : decode cX11_lives 45 = .ok (.iload_n 3, 1) := by decide +kernel
theorem dX11_lives_46 : decode cX11_lives 46 = .ok (.iadd, 1) := by decide +kernel
theorem dX11_lives_47 : decode cX11_lives 47 = .ok (.iload 4, 2) := by decide +kernel
theorem dX11_lives_49 : decode cX11_lives 49 = .ok (.iadd, 1) := by decide +kernel
theorem dX11_lives_50 : decode cX11_lives 50 = .ok (.sipush 1000, 3) := by decide +kernel
theorem dX11_lives_53 : decode cX11_lives 53 = .ok (.if_icmp .le 9, 3) := by decide +kernel
theorem dX11_lives_56 : decode cX11_lives 56 = .ok (.aload_n 0, 1) := by decide +kernel
theorem dX11_lives_57 : decode cX11_lives 57 = .ok (.iconst 1, 1) := by decide +kernel
theorem dX11_lives_58 : decode cX11_lives 58 = .ok (.invokevirtual 112, 3) := by decide +kernel
theorem dX11_lives_61 : decode cX11_lives 61 = .ok (.lreturn, 1) := by decide +kernel
theorem dX11_lives_62 : decode cX11_lives 62 = .ok (.aload_n 0, 1) := by decide +kernel
theorem dX11_lives_63 : decode cX11_lives 63 = .ok (.getfield 84, 3) := by decide +kernel
theorem dX11_lives_66 : decode cX11_lives 66 = .ok (.iload_n 1, 1) := by decide +kernel
theorem dX11_lives_67 : decode cX11_lives 67 = .ok (.iload_n 2, 1) := by decide +kernel
theorem dX11_lives_68 : decode cX11_lives 68 = .ok (.iastore, 1) := by decide +kernel
theorem dX11_lives_69 : decode cX11_lives 69 = .ok (.aload_n 0, 1) := by decide +kernel
theorem dX11_lives_70 : decode cX11_lives 70 = .ok (.getfield 87, 3) := by decide +kernel
theorem dX11_lives_73 : decode cX11_lives 73 = .ok (.iload_n 1, 1) := by decide +kernel
theorem dX11_lives_74 : decode cX11_lives 74 = .ok (.iload_n 3, 1) := by decide +kernel
theorem dX11_lives_75 : decode cX11_lives 75 = .ok (.iastore, 1) := by decide +kernel
theorem dX11_lives_76 : decode cX11_lives 76 = .ok (.aload_n 0, 1) := by decide +kernel
theorem dX11_lives_77 : decode cX11_lives 77 = .ok (.getfield 90, 3) := by decide +kernel
theorem dX11_lives_80 : decode cX11_lives 80 = .ok (.iload_n 1, 1) := by decide +kernel
theorem dX11_lives_81 : decode cX11_lives 81 = .ok (.iload 4, 2) := by decide +kernel
theorem dX11_lives_83 : decode cX11_lives 83 = .ok (.iastore, 1) := by decide +kernel
theorem dX11_lives_84 : decode cX11_lives 84 = .ok (.sipush 1000, 3) := by decide +kernel
theorem dX11_lives_87 : decode cX11_lives 87 = .ok (.iload_n 2, 1) := by decide +kernel
theorem dX11_lives_88 : decode cX11_lives 88 = .ok (.isub, 1) := by decide +kernel
theorem dX11_lives_89 : decode cX11_lives 89 = .ok (.iload_n 3, 1) := by decide +kernel
theorem dX11_lives_90 : decode cX11_lives 90 = .ok (.isub, 1) := by decide +kernel
theorem dX11_lives_91 : decode cX11_lives 91 = .ok (.iload 4, 2) := by decide +kernel
theorem dX11_lives_93 : decode cX11_lives 93 = .ok (.isub, 1) := by decide +kernel
theorem dX11_lives_94 : decode cX11_lives 94 = .ok (.i2l, 1) := by decide +kernel
theorem dX11_lives_95 : decode cX11_lives 95 = .ok (.lreturn, 1) := by decide +kernel
theorem dX11_live_0 : decode cX11_live 0 = .ok (.aload_n 0, 1) := by decide +kernel
theorem dX11_live_1 : decode cX11_live 1 = .ok (.ldc2_w 203, 3) := by decide +kernel
theorem dX11_live_4 : decode cX11_live 4 = .ok (.putfield 205, 3) := by decide +kernel
theorem dX11_live_7 : decode cX11_live 7 = .ok (.aload_n 0, 1) := by decide +kernel
theorem dX11_live_8 : decode cX11_live 8 = .ok (.lconst 0, 1) := by decide +kernel
theorem dX11_live_9 : decode cX11_live 9 = .ok (.putfield 208, 3) := by decide +kernel
theorem dX11_live_12 : decode cX11_live 12 = .ok (.iload_n 1, 1) := by decide +kernel
theorem dX11_live_13 : decode cX11_live 13 = .ok (.istore_n 3, 1) := by decide +kernel
theorem dX11_live_14 : decode cX11_live 14 = .ok (.iload_n 3, 1) := by decide +kernel
theorem dX11_live_15 : decode cX11_live 15 = .ok (.iload_n 2, 1) := by decide +kernel
theorem dX11_live_16 : decode cX11_live 16 = .ok (.if_icmp .ge 83, 3) := by decide +kernel
theorem dX11_live_19 : decode cX11_live 19 = .ok (.aload_n 0, 1) := by decide +kernel
theorem dX11_live_20 : decode cX11_live 20 = .ok (.getfield 205, 3) := by decide +kernel
theorem dX11_live_23 : decode cX11_live 23 = .ok (.aload_n 0, 1) := by decide +kernel
theorem dX11_live_24 : decode cX11_live 24 = .ok (.getfield 87, 3) := by decide +kernel
theorem dX11_live_27 : decode cX11_live 27 = .ok (.iload_n 3, 1) := by decide +kernel
theorem dX11_live_28 : decode cX11_live 28 = .ok (.iaload, 1) := by decide +kernel
theorem dX11_live_29 : decode cX11_live 29 = .ok (.i2l, 1) := by decide +kernel
theorem dX11_live_30 : decode cX11_live 30 = .ok (.lmul, 1) := by decide +kernel
theorem dX11_live_31 : decode cX11_live 31 = .ok (.ldc2_w 164, 3) := by decide +kernel
theorem dX11_live_34 : decode cX11_live 34 = .ok (.ldiv, 1) := by decide +kernel
theorem dX11_live_35 : decode cX11_live 35 = .ok (.lstore 4, 2) := by decide +kernel
theorem dX11_live_37 : decode cX11_live 37 = .ok (.aload_n 0, 1) := by decide +kernel
theorem dX11_live_38 : decode cX11_live 38 = .ok (.dup, 1) := by decide +kernel
theorem dX11_live_39 : decode cX11_live 39 = .ok (.getfield 208, 3) := by decide +kernel
theorem dX11_live_42 : decode cX11_live 42 = .ok (.lload 4, 2) := by decide +kernel
theorem dX11_live_44 : decode cX11_live 44 = .ok (.ladd, 1) := by decide +kernel
theorem dX11_live_45 : decode cX11_live 45 = .ok (.putfield 208, 3) := by decide +kernel
theorem dX11_live_48 : decode cX11_live 48 = .ok (.aload_n 0, 1) := by decide +kernel
theorem dX11_live_49 : decode cX11_live 49 = .ok (.dup, 1) := by decide +kernel
theorem dX11_live_50 : decode cX11_live 50 = .ok (.getfield 205, 3) := by decide +kernel
theorem dX11_live_53 : decode cX11_live 53 = .ok (.lload 4, 2) := by decide +kernel
theorem dX11_live_55 : decode cX11_live 55 = .ok (.aload_n 0, 1) := by decide +kernel
theorem dX11_live_56 : decode cX11_live 56 = .ok (.getfield 205, 3) := by decide +kernel
theorem dX11_live_59 : decode cX11_live 59 = .ok (.aload_n 0, 1) := by decide +kernel
theorem dX11_live_60 : decode cX11_live 60 = .ok (.getfield 84, 3) := by decide +kernel
theorem dX11_live_63 : decode cX11_live 63 = .ok (.iload_n 3, 1) := by decide +kernel
theorem dX11_live_64 : decode cX11_live 64 = .ok (.iaload, 1) := by decide +kernel
theorem dX11_live_65 : decode cX11_live 65 = .ok (.i2l, 1) := by decide +kernel
theorem dX11_live_66 : decode cX11_live 66 = .ok (.lmul, 1) := by decide +kernel
theorem dX11_live_67 : decode cX11_live 67 = .ok (.ldc2_w 164, 3) := by decide +kernel
theorem dX11_live_70 : decode cX11_live 70 = .ok (.ldiv, 1) := by decide +kernel
theorem dX11_live_71 : decode cX11_live 71 = .ok (.ladd, 1) := by decide +kernel
theorem dX11_live_72 : decode cX11_live 72 = .ok (.aload_n 0, 1) := by decide +kernel
theorem dX11_live_73 : decode cX11_live 73 = .ok (.getfield 205, 3) := by decide +kernel
theorem dX11_live_76 : decode cX11_live 76 = .ok (.aload_n 0, 1) := by decide +kernel
theorem dX11_live_77 : decode cX11_live 77 = .ok (.getfield 90, 3) := by decide +kernel
theorem dX11_live_80 : decode cX11_live 80 = .ok (.iload_n 3, 1) := by decide +kernel
theorem dX11_live_81 : decode cX11_live 81 = .ok (.iaload, 1) := by decide +kernel
theorem dX11_live_82 : decode cX11_live 82 = .ok (.i2l, 1) := by decide +kernel
theorem dX11_live_83 : decode cX11_live 83 = .ok (.lmul, 1) := by decide +kernel
theorem dX11_live_84 : decode cX11_live 84 = .ok (.ldc2_w 164, 3) := by decide +kernel
theorem dX11_live_87 : decode cX11_live 87 = .ok (.ldiv, 1) := by decide +kernel
theorem dX11_live_88 : decode cX11_live 88 = .ok (.ladd, 1) := by decide +kernel
theorem dX11_live_89 : decode cX11_live 89 = .ok (.lsub, 1) := by decide +kernel
theorem dX11_live_90 : decode cX11_live 90 = .ok (.putfield 205, 3) := by decide +kernel
theorem dX11_live_93 : decode cX11_live 93 = .ok (.iinc 3 1, 3) := by decide +kernel
theorem dX11_live_96 : decode cX11_live 96 = .ok (.goto (-82), 3) := by decide +kernel
theorem dX11_live_99 : decode cX11_live 99 = .ok (.return_, 1) := by decide +kernel
theorem dX11_areAges_0 : decode cX11_areAges 0 = .ok (.iload_n 0, 1) := by decide +kernel
theorem dX11_areAges_1 : decode cX11_areAges 1 = .ok (.iconst 0, 1) := by decide +kernel
theorem dX11_areAges_2 : decode cX11_areAges 2 = .ok (.bipush 20, 2) := by decide +kernel
theorem dX11_areAges_4 : decode cX11_areAges 4 = .ok (.invokestatic 104, 3) := by decide +kernel
theorem dX11_areAges_7 : decode cX11_areAges 7 = .ok (.ifCond .eq 17, 3) := by decide +kernel
theorem dX11_areAges_10 : decode cX11_areAges 10 = .ok (.iload_n 1, 1) := by decide +kernel
theorem dX11_areAges_11 : decode cX11_areAges 11 = .ok (.iload_n 0, 1) := by decide +kernel
theorem dX11_areAges_12 : decode cX11_areAges 12 = .ok (.bipush 21, 2) := by decide +kernel
theorem dX11_areAges_14 : decode cX11_areAges 14 = .ok (.invokestatic 104, 3) := by decide +kernel
theorem dX11_areAges_17 : decode cX11_areAges 17 = .ok (.ifCond .eq 7, 3) := by decide +kernel
theorem dX11_areAges_20 : decode cX11_areAges 20 = .ok (.iconst 1, 1) := by decide +kernel
theorem dX11_areAges_21 : decode cX11_areAges 21 = .ok (.goto 4, 3) := by decide +kernel
theorem dX11_areAges_24 : decode cX11_areAges 24 = .ok (.iconst 0, 1) := by decide +kernel
theorem dX11_areAges_25 : decode cX11_areAges 25 = .ok (.ireturn, 1) := by decide +kernel
theorem dX11_value_0 : decode cX11_value 0 = .ok (.iload_n 1, 1) := by decide +kernel
theorem dX11_value_1 : decode cX11_value 1 = .ok (.iload_n 2, 1) := by decide +kernel
theorem dX11_value_2 : decode cX11_value 2 = .ok (.invokestatic 211, 3) := by decide +kernel
theorem dX11_value_5 : decode cX11_value 5 = .ok (.ifCond .eq 13, 3) := by decide +kernel
theorem dX11_value_8 : decode cX11_value 8 = .ok (.iload_n 3, 1) := by decide +kernel
theorem dX11_value_9 : decode cX11_value 9 = .ok (.iconst 0, 1) := by decide +kernel
theorem dX11_value_10 : decode cX11_value 10 = .ok (.ldc 214, 2) := by decide +kernel
theorem dX11_value_12 : decode cX11_value 12 = .ok (.invokestatic 104, 3) := by decide +kernel
theorem dX11_value_15 : decode cX11_value 15 = .ok (.ifCond .ne 9, 3) := by decide +kernel
theorem dX11_value_18 : decode cX11_value 18 = .ok (.aload_n 0, 1) := by decide +kernel
theorem dX11_value_19 : decode cX11_value 19 = .ok (.iconst 1, 1) := by decide +kernel
theorem dX11_value_20 : decode cX11_value 20 = .ok (.invokevirtual 112, 3) := by decide +kernel
theorem dX11_value_23 : decode cX11_value 23 = .ok (.lreturn, 1) := by decide +kernel
theorem dX11_value_24 : decode cX11_value 24 = .ok (.aload_n 0, 1) := by decide +kernel
theorem dX11_value_25 : decode cX11_value 25 = .ok (.iload_n 1, 1) := by decide +kernel
theorem dX11_value_26 : decode cX11_value 26 = .ok (.iload_n 2, 1) := by decide +kernel
theorem dX11_value_27 : decode cX11_value 27 = .ok (.invokevirtual 215, 3) := by decide +kernel
theorem dX11_value_30 : decode cX11_value 30 = .ok (.iload_n 3, 1) := by decide +kernel
theorem dX11_value_31 : decode cX11_value 31 = .ok (.i2l, 1) := by decide +kernel
theorem dX11_value_32 : decode cX11_value 32 = .ok (.aload_n 0, 1) := by decide +kernel
theorem dX11_value_33 : decode cX11_value 33 = .ok (.getfield 208, 3) := by decide +kernel
theorem dX11_value_36 : decode cX11_value 36 = .ok (.lmul, 1) := by decide +kernel
theorem dX11_value_37 : decode cX11_value 37 = .ok (.ldc2_w 203, 3) := by decide +kernel
theorem dX11_value_40 : decode cX11_value 40 = .ok (.ldiv, 1) := by decide +kernel
theorem dX11_value_41 : decode cX11_value 41 = .ok (.lreturn, 1) := by decide +kernel
theorem dX11_left_0 : decode cX11_left 0 = .ok (.iload_n 1, 1) := by decide +kernel
theorem dX11_left_1 : decode cX11_left 1 = .ok (.iload_n 2, 1) := by decide +kernel
theorem dX11_left_2 : decode cX11_left 2 = .ok (.invokestatic 211, 3) := by decide +kernel
theorem dX11_left_5 : decode cX11_left 5 = .ok (.ifCond .ne 9, 3) := by decide +kernel
theorem dX11_left_8 : decode cX11_left 8 = .ok (.aload_n 0, 1) := by decide +kernel
theorem dX11_left_9 : decode cX11_left 9 = .ok (.iconst 1, 1) := by decide +kernel
theorem dX11_left_10 : decode cX11_left 10 = .ok (.invokevirtual 112, 3) := by decide +kernel
theorem dX11_left_13 : decode cX11_left 13 = .ok (.lreturn, 1) := by decide +kernel
theorem dX11_left_14 : decode cX11_left 14 = .ok (.aload_n 0, 1) := by decide +kernel
theorem dX11_left_15 : decode cX11_left 15 = .ok (.iload_n 1, 1) := by decide +kernel
theorem dX11_left_16 : decode cX11_left 16 = .ok (.iload_n 2, 1) := by decide +kernel
theorem dX11_left_17 : decode cX11_left 17 = .ok (.invokevirtual 215, 3) := by decide +kernel
theorem dX11_left_20 : decode cX11_left 20 = .ok (.aload_n 0, 1) := by decide +kernel
theorem dX11_left_21 : decode cX11_left 21 = .ok (.getfield 205, 3) := by decide +kernel
theorem dX11_left_24 : decode cX11_left 24 = .ok (.lreturn, 1) := by decide +kernel
theorem dX11_tell_0 : decode cX11_tell 0 = .ok (.aload_n 0, 1) := by decide +kernel
theorem dX11_tell_1 : decode cX11_tell 1 = .ok (.getfield 219, 3) := by decide +kernel
theorem dX11_tell_4 : decode cX11_tell 4 = .ok (.bipush 30, 2) := by decide +kernel
theorem dX11_tell_6 : decode cX11_tell 6 = .ok (.if_icmp .ne 9, 3) := by decide +kernel
theorem dX11_tell_9 : decode cX11_tell 9 = .ok (.aload_n 0, 1) := by decide +kernel
theorem dX11_tell_10 : decode cX11_tell 10 = .ok (.iconst 4, 1) := by decide +kernel
theorem dX11_tell_11 : decode cX11_tell 11 = .ok (.invokevirtual 112, 3) := by decide +kernel
theorem dX11_tell_14 : decode cX11_tell 14 = .ok (.lreturn, 1) := by decide +kernel
theorem dX11_tell_15 : decode cX11_tell 15 = .ok (.aload_n 0, 1) := by decide +kernel
theorem dX11_tell_16 : decode cX11_tell 16 = .ok (.getfield 93, 3) := by decide +kernel
theorem dX11_tell_19 : decode cX11_tell 19 = .ok (.aload_n 0, 1) := by decide +kernel
theorem dX11_tell_20 : decode cX11_tell 20 = .ok (.getfield 219, 3) := by decide +kernel
theorem dX11_tell_23 : decode cX11_tell 23 = .ok (.iload_n 1, 1) := by decide +kernel
theorem dX11_tell_24 : decode cX11_tell 24 = .ok (.iastore, 1) := by decide +kernel
theorem dX11_tell_25 : decode cX11_tell 25 = .ok (.aload_n 0, 1) := by decide +kernel
theorem dX11_tell_26 : decode cX11_tell 26 = .ok (.dup, 1) := by decide +kernel
theorem dX11_tell_27 : decode cX11_tell 27 = .ok (.getfield 219, 3) := by decide +kernel
theorem dX11_tell_30 : decode cX11_tell 30 = .ok (.iconst 1, 1) := by decide +kernel
theorem dX11_tell_31 : decode cX11_tell 31 = .ok (.iadd, 1) := by decide +kernel
theorem dX11_tell_32 : decode cX11_tell 32 = .ok (.putfield 219, 3) := by decide +kernel
theorem dX11_tell_35 : decode cX11_tell 35 = .ok (.aload_n 0, 1) := by decide +kernel
theorem dX11_tell_36 : decode cX11_tell 36 = .ok (.getfield 219, 3) := by decide +kernel
theorem dX11_tell_39 : decode cX11_tell 39 = .ok (.i2l, 1) := by decide +kernel
theorem dX11_tell_40 : decode cX11_tell 40 = .ok (.lreturn, 1) := by decide +kernel
theorem dX11_check_0 : decode cX11_check 0 = .ok (.aload_n 0, 1) := by decide +kernel
theorem dX11_check_1 : decode cX11_check 1 = .ok (.getfield 219, 3) := by decide +kernel
theorem dX11_check_4 : decode cX11_check 4 = .ok (.istore_n 1, 1) := by decide +kernel
theorem dX11_check_5 : decode cX11_check 5 = .ok (.aload_n 0, 1) := by decide +kernel
theorem dX11_check_6 : decode cX11_check 6 = .ok (.iconst 0, 1) := by decide +kernel
theorem dX11_check_7 : decode cX11_check 7 = .ok (.putfield 219, 3) := by decide +kernel
theorem dX11_check_10 : decode cX11_check 10 = .ok (.iconst 0, 1) := by decide +kernel
theorem dX11_check_11 : decode cX11_check 11 = .ok (.istore_n 2, 1) := by decide +kernel
theorem dX11_check_12 : decode cX11_check 12 = .ok (.iload_n 2, 1) := by decide +kernel
theorem dX11_check_13 : decode cX11_check 13 = .ok (.aload_n 0, 1) := by decide +kernel
theorem dX11_check_14 : decode cX11_check 14 = .ok (.getfield 137, 3) := by decide +kernel
theorem dX11_check_17 : decode cX11_check 17 = .ok (.if_icmp .ge 62, 3) := by decide +kernel
theorem dX11_check_20 : decode cX11_check 20 = .ok (.aload_n 0, 1) := by decide +kernel
theorem dX11_check_21 : decode cX11_check 21 = .ok (.iload_n 2, 1) := by decide +kernel
theorem dX11_check_22 : decode cX11_check 22 = .ok (.aload_n 0, 1) := by decide +kernel
theorem dX11_check_23 : decode cX11_check 23 = .ok (.getfield 108, 3) := by decide +kernel
theorem dX11_check_26 : decode cX11_check 26 = .ok (.invokevirtual 169, 3) := by decide +kernel
theorem dX11_check_29 : decode cX11_check 29 = .ok (.istore_n 3, 1) := by decide +kernel
theorem dX11_check_30 : decode cX11_check 30 = .ok (.iload_n 3, 1) := by decide +kernel
theorem dX11_check_31 : decode cX11_check 31 = .ok (.ifCond .ge 7, 3) := by decide +kernel
theorem dX11_check_34 : decode cX11_check 34 = .ok (.lconst 0, 1) := by decide +kernel
theorem dX11_check_35 : decode cX11_check 35 = .ok (.goto 13, 3) := by decide +kernel
theorem dX11_check_38 : decode cX11_check 38 = .ok (.aload_n 0, 1) := by decide +kernel
theorem dX11_check_39 : decode cX11_check 39 = .ok (.iload_n 2, 1) := by decide +kernel
theorem dX11_check_40 : decode cX11_check 40 = .ok (.iload_n 3, 1) := by decide +kernel
theorem dX11_check_41 : decode cX11_check 41 = .ok (.aload_n 0, 1) := by decide +kernel
theorem dX11_check_42 : decode cX11_check 42 = .ok (.getfield 108, 3) := by decide +kernel
theorem dX11_check_45 : decode cX11_check 45 = .ok (.invokevirtual 172, 3) := by decide +kernel
theorem dX11_check_48 : decode cX11_check 48 = .ok (.lstore 4, 2) := by decide +kernel
theorem dX11_check_50 : decode cX11_check 50 = .ok (.iload_n 2, 1) := by decide +kernel
theorem dX11_check_51 : decode cX11_check 51 = .ok (.iload_n 1, 1) := by decide +kernel
theorem dX11_check_52 : decode cX11_check 52 = .ok (.if_icmp .ge 16, 3) := by decide +kernel
theorem dX11_check_55 : decode cX11_check 55 = .ok (.aload_n 0, 1) := by decide +kernel
theorem dX11_check_56 : decode cX11_check 56 = .ok (.getfield 93, 3) := by decide +kernel
theorem dX11_check_59 : decode cX11_check 59 = .ok (.iload_n 2, 1) := by decide +kernel
theorem dX11_check_60 : decode cX11_check 60 = .ok (.iaload, 1) := by decide +kernel
theorem dX11_check_61 : decode cX11_check 61 = .ok (.i2l, 1) := by decide +kernel
theorem dX11_check_62 : decode cX11_check 62 = .ok (.lload 4, 2) := by decide +kernel
theorem dX11_check_64 : decode cX11_check 64 = .ok (.lcmp, 1) := by decide +kernel
theorem dX11_check_65 : decode cX11_check 65 = .ok (.ifCond .eq 8, 3) := by decide +kernel
theorem dX11_check_68 : decode cX11_check 68 = .ok (.iconst 1, 1) := by decide +kernel
theorem dX11_check_69 : decode cX11_check 69 = .ok (.iload_n 2, 1) := by decide +kernel
theorem dX11_check_70 : decode cX11_check 70 = .ok (.iadd, 1) := by decide +kernel
theorem dX11_check_71 : decode cX11_check 71 = .ok (.i2l, 1) := by decide +kernel
theorem dX11_check_72 : decode cX11_check 72 = .ok (.lreturn, 1) := by decide +kernel
theorem dX11_check_73 : decode cX11_check 73 = .ok (.iinc 2 1, 3) := by decide +kernel
theorem dX11_check_76 : decode cX11_check 76 = .ok (.goto (-64), 3) := by decide +kernel
theorem dX11_check_79 : decode cX11_check 79 = .ok (.iload_n 1, 1) := by decide +kernel
theorem dX11_check_80 : decode cX11_check 80 = .ok (.aload_n 0, 1) := by decide +kernel
theorem dX11_check_81 : decode cX11_check 81 = .ok (.getfield 137, 3) := by decide +kernel
theorem dX11_check_84 : decode cX11_check 84 = .ok (.if_icmp .le 9, 3) := by decide +kernel
theorem dX11_check_87 : decode cX11_check 87 = .ok (.ldc2_w 222, 3) := by decide +kernel
theorem dX11_check_90 : decode cX11_check 90 = .ok (.goto 4, 3) := by decide +kernel
theorem dX11_check_93 : decode cX11_check 93 = .ok (.lconst 0, 1) := by decide +kernel
theorem dX11_check_94 : decode cX11_check 94 = .ok (.lreturn, 1) := by decide +kernel
theorem dX11_count_0 : decode cX11_count 0 = .ok (.iload_n 1, 1) := by decide +kernel
theorem dX11_count_1 : decode cX11_count 1 = .ok (.tableswitch 75 0 5 #[39, 45, 51, 57, 63, 69], 39) := by decide +kernel
theorem dX11_count_40 : decode cX11_count 40 = .ok (.aload_n 0, 1) := by decide +kernel
theorem dX11_count_41 : decode cX11_count 41 = .ok (.getfield 108, 3) := by decide +kernel
theorem dX11_count_44 : decode cX11_count 44 = .ok (.i2l, 1) := by decide +kernel
theorem dX11_count_45 : decode cX11_count 45 = .ok (.lreturn, 1) := by decide +kernel
theorem dX11_count_46 : decode cX11_count 46 = .ok (.aload_n 0, 1) := by decide +kernel
theorem dX11_count_47 : decode cX11_count 47 = .ok (.getfield 127, 3) := by decide +kernel
theorem dX11_count_50 : decode cX11_count 50 = .ok (.i2l, 1) := by decide +kernel
theorem dX11_count_51 : decode cX11_count 51 = .ok (.lreturn, 1) := by decide +kernel
theorem dX11_count_52 : decode cX11_count 52 = .ok (.aload_n 0, 1) := by decide +kernel
theorem dX11_count_53 : decode cX11_count 53 = .ok (.getfield 134, 3) := by decide +kernel
theorem dX11_count_56 : decode cX11_count 56 = .ok (.i2l, 1) := by decide +kernel
theorem dX11_count_57 : decode cX11_count 57 = .ok (.lreturn, 1) := by decide +kernel
theorem dX11_count_58 : decode cX11_count 58 = .ok (.aload_n 0, 1) := by decide +kernel
theorem dX11_count_59 : decode cX11_count 59 = .ok (.getfield 143, 3) := by decide +kernel
theorem dX11_count_62 : decode cX11_count 62 = .ok (.i2l, 1) := by decide +kernel
theorem dX11_count_63 : decode cX11_count 63 = .ok (.lreturn, 1) := by decide +kernel
theorem dX11_count_64 : decode cX11_count 64 = .ok (.aload_n 0, 1) := by decide +kernel
theorem dX11_count_65 : decode cX11_count 65 = .ok (.getfield 137, 3) := by decide +kernel
theorem dX11_count_68 : decode cX11_count 68 = .ok (.i2l, 1) := by decide +kernel
theorem dX11_count_69 : decode cX11_count 69 = .ok (.lreturn, 1) := by decide +kernel
theorem dX11_count_70 : decode cX11_count 70 = .ok (.aload_n 0, 1) := by decide +kernel
theorem dX11_count_71 : decode cX11_count 71 = .ok (.getfield 219, 3) := by decide +kernel
theorem dX11_count_74 : decode cX11_count 74 = .ok (.i2l, 1) := by decide +kernel
theorem dX11_count_75 : decode cX11_count 75 = .ok (.lreturn, 1) := by decide +kernel
theorem dX11_count_76 : decode cX11_count 76 = .ok (.aload_n 0, 1) := by decide +kernel
theorem dX11_count_77 : decode cX11_count 77 = .ok (.iconst 1, 1) := by decide +kernel
theorem dX11_count_78 : decode cX11_count 78 = .ok (.invokevirtual 112, 3) := by decide +kernel
theorem dX11_count_81 : decode cX11_count 81 = .ok (.lreturn, 1) := by decide +kernel
theorem dX11_found_0 : decode cX11_found 0 = .ok (.iload_n 1, 1) := by decide +kernel
theorem dX11_found_1 : decode cX11_found 1 = .ok (.iconst 1, 1) := by decide +kernel
theorem dX11_found_2 : decode cX11_found 2 = .ok (.iconst 5, 1) := by decide +kernel
theorem dX11_found_3 : decode cX11_found 3 = .ok (.invokestatic 104, 3) := by decide +kernel
theorem dX11_found_6 : decode cX11_found 6 = .ok (.ifCond .eq 13, 3) := by decide +kernel
theorem dX11_found_9 : decode cX11_found 9 = .ok (.aload_n 0, 1) := by decide +kernel
theorem dX11_found_10 : decode cX11_found 10 = .ok (.getfield 7, 3) := by decide +kernel
theorem dX11_found_13 : decode cX11_found 13 = .ok (.iload_n 1, 1) := by decide +kernel
theorem dX11_found_14 : decode cX11_found 14 = .ok (.iaload, 1) := by decide +kernel
theorem dX11_found_15 : decode cX11_found 15 = .ok (.i2l, 1) := by decide +kernel
theorem dX11_found_16 : decode cX11_found 16 = .ok (.goto 8, 3) := by decide +kernel
theorem dX11_found_19 : decode cX11_found 19 = .ok (.aload_n 0, 1) := by decide +kernel
theorem dX11_found_20 : decode cX11_found 20 = .ok (.iconst 1, 1) := by decide +kernel
theorem dX11_found_21 : decode cX11_found 21 = .ok (.invokevirtual 112, 3) := by decide +kernel
theorem dX11_found_24 : decode cX11_found 24 = .ok (.lreturn, 1) := by decide +kernel
theorem dJ9_max_7cf53_0 : decode cJ9_max_7cf53 0 = .ok (.iload_n 0, 1) := by decide +kernel
theorem dJ9_max_7cf53_1 : decode cJ9_max_7cf53 1 = .ok (.iload_n 1, 1) := by decide +kernel
theorem dJ9_max_7cf53_2 : decode cJ9_max_7cf53 2 = .ok (.if_icmp .lt 7, 3) := by decide +kernel
theorem dJ9_max_7cf53_5 : decode cJ9_max_7cf53 5 = .ok (.iload_n 0, 1) := by decide +kernel
theorem dJ9_max_7cf53_6 : decode cJ9_max_7cf53 6 = .ok (.goto 4, 3) := by decide +kernel
theorem dJ9_max_7cf53_9 : decode cJ9_max_7cf53 9 = .ok (.iload_n 1, 1) := by decide +kernel
theorem dJ9_max_7cf53_10 : decode cJ9_max_7cf53 10 = .ok (.ireturn, 1) := by decide +kernel
theorem dJ9_max_f86c9_0 : decode cJ9_max_f86c9 0 = .ok (.lload_n 0, 1) := by decide +kernel
theorem dJ9_max_f86c9_1 : decode cJ9_max_f86c9 1 = .ok (.lload_n 2, 1) := by decide +kernel
theorem dJ9_max_f86c9_2 : decode cJ9_max_f86c9 2 = .ok (.lcmp, 1) := by decide +kernel
theorem dJ9_max_f86c9_3 : decode cJ9_max_f86c9 3 = .ok (.ifCond .lt 7, 3) := by decide +kernel
theorem dJ9_max_f86c9_6 : decode cJ9_max_f86c9 6 = .ok (.lload_n 0, 1) := by decide +kernel
theorem dJ9_max_f86c9_7 : decode cJ9_max_f86c9 7 = .ok (.goto 4, 3) := by decide +kernel
theorem dJ9_max_f86c9_10 : decode cJ9_max_f86c9 10 = .ok (.lload_n 2, 1) := by decide +kernel
theorem dJ9_max_f86c9_11 : decode cJ9_max_f86c9 11 = .ok (.lreturn, 1) := by decide +kernel
theorem dJ9_min_7cf53_0 : decode cJ9_min_7cf53 0 = .ok (.iload_n 0, 1) := by decide +kernel
theorem dJ9_min_7cf53_1 : decode cJ9_min_7cf53 1 = .ok (.iload_n 1, 1) := by decide +kernel
theorem dJ9_min_7cf53_2 : decode cJ9_min_7cf53 2 = .ok (.if_icmp .gt 7, 3) := by decide +kernel
theorem dJ9_min_7cf53_5 : decode cJ9_min_7cf53 5 = .ok (.iload_n 0, 1) := by decide +kernel
theorem dJ9_min_7cf53_6 : decode cJ9_min_7cf53 6 = .ok (.goto 4, 3) := by decide +kernel
theorem dJ9_min_7cf53_9 : decode cJ9_min_7cf53 9 = .ok (.iload_n 1, 1) := by decide +kernel
theorem dJ9_min_7cf53_10 : decode cJ9_min_7cf53 10 = .ok (.ireturn, 1) := by decide +kernel
theorem dJ9_min_f86c9_0 : decode cJ9_min_f86c9 0 = .ok (.lload_n 0, 1) := by decide +kernel
theorem dJ9_min_f86c9_1 : decode cJ9_min_f86c9 1 = .ok (.lload_n 2, 1) := by decide +kernel
theorem dJ9_min_f86c9_2 : decode cJ9_min_f86c9 2 = .ok (.lcmp, 1) := by decide +kernel
theorem dJ9_min_f86c9_3 : decode cJ9_min_f86c9 3 = .ok (.ifCond .gt 7, 3) := by decide +kernel
theorem dJ9_min_f86c9_6 : decode cJ9_min_f86c9 6 = .ok (.lload_n 0, 1) := by decide +kernel
theorem dJ9_min_f86c9_7 : decode cJ9_min_f86c9 7 = .ok (.goto 4, 3) := by decide +kernel
theorem dJ9_min_f86c9_10 : decode cJ9_min_f86c9 10 = .ok (.lload_n 2, 1) := by decide +kernel
theorem dJ9_min_f86c9_11 : decode cJ9_min_f86c9 11 = .ok (.lreturn, 1) := by decide +kernel
theorem dJ7_fill_53178_0 : decode cJ7_fill_53178 0 = .ok (.iconst 0, 1) := by decide +kernel
theorem dJ7_fill_53178_1 : decode cJ7_fill_53178 1 = .ok (.istore_n 2, 1) := by decide +kernel
theorem dJ7_fill_53178_2 : decode cJ7_fill_53178 2 = .ok (.aload_n 0, 1) := by decide +kernel
theorem dJ7_fill_53178_3 : decode cJ7_fill_53178 3 = .ok (.arraylength, 1) := by decide +kernel
theorem dJ7_fill_53178_4 : decode cJ7_fill_53178 4 = .ok (.istore_n 3, 1) := by decide +kernel
theorem dJ7_fill_53178_5 : decode cJ7_fill_53178 5 = .ok (.iload_n 2, 1) := by decide +kernel
theorem dJ7_fill_53178_6 : decode cJ7_fill_53178 6 = .ok (.iload_n 3, 1) := by decide +kernel
theorem dJ7_fill_53178_7 : decode cJ7_fill_53178 7 = .ok (.if_icmp .ge 13, 3) := by decide +kernel
theorem dJ7_fill_53178_10 : decode cJ7_fill_53178 10 = .ok (.aload_n 0, 1) := by decide +kernel
theorem dJ7_fill_53178_11 : decode cJ7_fill_53178 11 = .ok (.iload_n 2, 1) := by decide +kernel
theorem dJ7_fill_53178_12 : decode cJ7_fill_53178 12 = .ok (.iload_n 1, 1) := by decide +kernel
theorem dJ7_fill_53178_13 : decode cJ7_fill_53178 13 = .ok (.iastore, 1) := by decide +kernel
theorem dJ7_fill_53178_14 : decode cJ7_fill_53178 14 = .ok (.iinc 2 1, 3) := by decide +kernel
theorem dJ7_fill_53178_17 : decode cJ7_fill_53178 17 = .ok (.goto (-12), 3) := by decide +kernel
theorem dJ7_fill_53178_20 : decode cJ7_fill_53178 20 = .ok (.return_, 1) := by decide +kernel
