theorem dX0_init_0 : decode cX0_init 0 = .ok (.aload_n 0, 1) := by decide +kernel
theorem dX0_init_1 : decode cX0_init 1 = .ok (.invokespecial 3, 3) := by decide +kernel
theorem dX0_init_4 : decode cX0_init 4 = .ok (.aload_n 0, 1) := by decide +kernel
theorem dX0_init_5 : decode cX0_init 5 = .ok (.bipush 30, 2) := by decide +kernel
theorem dX0_init_7 : decode cX0_init 7 = .ok (.newarray .int, 2) := by decide +kernel
theorem dX0_init_9 : decode cX0_init 9 = .ok (.putfield 11, 3) := by decide +kernel
theorem dX0_init_12 : decode cX0_init 12 = .ok (.aload_n 0, 1) := by decide +kernel
theorem dX0_init_13 : decode cX0_init 13 = .ok (.iconst 0, 1) := by decide +kernel
theorem dX0_init_14 : decode cX0_init 14 = .ok (.putfield 15, 3) := by decide +kernel
theorem dX0_init_17 : decode cX0_init 17 = .ok (.aload_n 0, 1) := by decide +kernel
theorem dX0_init_18 : decode cX0_init 18 = .ok (.bipush 90, 2) := by decide +kernel
theorem dX0_init_20 : decode cX0_init 20 = .ok (.newarray .int, 2) := by decide +kernel
theorem dX0_init_22 : decode cX0_init 22 = .ok (.putfield 19, 3) := by decide +kernel
theorem dX0_init_25 : decode cX0_init 25 = .ok (.aload_n 0, 1) := by decide +kernel
theorem dX0_init_26 : decode cX0_init 26 = .ok (.bipush 90, 2) := by decide +kernel
theorem dX0_init_28 : decode cX0_init 28 = .ok (.newarray .int, 2) := by decide +kernel
theorem dX0_init_30 : decode cX0_init 30 = .ok (.putfield 22, 3) := by decide +kernel
theorem dX0_init_33 : decode cX0_init 33 = .ok (.aload_n 0, 1) := by decide +kernel
theorem dX0_init_34 : decode cX0_init 34 = .ok (.bipush 90, 2) := by decide +kernel
theorem dX0_init_36 : decode cX0_init 36 = .ok (.newarray .int, 2) := by decide +kernel
theorem dX0_init_38 : decode cX0_init 38 = .ok (.putfield 25, 3) := by decide +kernel
theorem dX0_init_41 : decode cX0_init 41 = .ok (.aload_n 0, 1) := by decide +kernel
theorem dX0_init_42 : decode cX0_init 42 = .ok (.bipush 90, 2) := by decide +kernel
theorem dX0_init_44 : decode cX0_init 44 = .ok (.newarray .int, 2) := by decide +kernel
theorem dX0_init_46 : decode cX0_init 46 = .ok (.putfield 28, 3) := by decide +kernel
theorem dX0_init_49 : decode cX0_init 49 = .ok (.aload_n 0, 1) := by decide +kernel
theorem dX0_init_50 : decode cX0_init 50 = .ok (.iconst 0, 1) := by decide +kernel
theorem dX0_init_51 : decode cX0_init 51 = .ok (.putfield 31, 3) := by decide +kernel
theorem dX0_init_54 : decode cX0_init 54 = .ok (.return_, 1) := by decide +kernel
theorem dX0_has_0 : decode cX0_has 0 = .ok (.iload_n 1, 1) := by decide +kernel
theorem dX0_has_1 : decode cX0_has 1 = .ok (.ifCond .lt 15, 3) := by decide +kernel
theorem dX0_has_4 : decode cX0_has 4 = .ok (.iload_n 1, 1) := by decide +kernel
theorem dX0_has_5 : decode cX0_has 5 = .ok (.aload_n 0, 1) := by decide +kernel
theorem dX0_has_6 : decode cX0_has 6 = .ok (.getfield 15, 3) := by decide +kernel
theorem dX0_has_9 : decode cX0_has 9 = .ok (.if_icmp .ge 7, 3) := by decide +kernel
theorem dX0_has_12 : decode cX0_has 12 = .ok (.iconst 1, 1) := by decide +kernel
theorem dX0_has_13 : decode cX0_has 13 = .ok (.goto 4, 3) := by decide +kernel
theorem dX0_has_16 : decode cX0_has 16 = .ok (.iconst 0, 1) := by decide +kernel
theorem dX0_has_17 : decode cX0_has 17 = .ok (.ireturn, 1) := by decide +kernel
theorem dX0_isFull_0 : decode cX0_isFull 0 = .ok (.aload_n 0, 1) := by decide +kernel
theorem dX0_isFull_1 : decode cX0_isFull 1 = .ok (.getfield 15, 3) := by decide +kernel
theorem dX0_isFull_4 : decode cX0_isFull 4 = .ok (.bipush 30, 2) := by decide +kernel
theorem dX0_isFull_6 : decode cX0_isFull 6 = .ok (.if_icmp .lt 7, 3) := by decide +kernel
theorem dX0_isFull_9 : decode cX0_isFull 9 = .ok (.iconst 1, 1) := by decide +kernel
theorem dX0_isFull_10 : decode cX0_isFull 10 = .ok (.goto 4, 3) := by decide +kernel
theorem dX0_isFull_13 : decode cX0_isFull 13 = .ok (.iconst 0, 1) := by decide +kernel
theorem dX0_isFull_14 : decode cX0_isFull 14 = .ok (.ireturn, 1) := by decide +kernel
theorem dX0_add_0 : decode cX0_add 0 = .ok (.aload_n 0, 1) := by decide +kernel
theorem dX0_add_1 : decode cX0_add 1 = .ok (.invokevirtual 34, 3) := by decide +kernel
theorem dX0_add_4 : decode cX0_add 4 = .ok (.ifCond .eq 4, 3) := by decide +kernel
theorem dX0_add_7 : decode cX0_add 7 = .ok (.return_, 1) := by decide +kernel
theorem dX0_add_8 : decode cX0_add 8 = .ok (.aload_n 0, 1) := by decide +kernel
theorem dX0_add_9 : decode cX0_add 9 = .ok (.getfield 11, 3) := by decide +kernel
theorem dX0_add_12 : decode cX0_add 12 = .ok (.aload_n 0, 1) := by decide +kernel
theorem dX0_add_13 : decode cX0_add 13 = .ok (.getfield 15, 3) := by decide +kernel
theorem dX0_add_16 : decode cX0_add 16 = .ok (.iload_n 1, 1) := by decide +kernel
theorem dX0_add_17 : decode cX0_add 17 = .ok (.iastore, 1) := by decide +kernel
theorem dX0_add_18 : decode cX0_add 18 = .ok (.aload_n 0, 1) := by decide +kernel
theorem dX0_add_19 : decode cX0_add 19 = .ok (.dup, 1) := by decide +kernel
theorem dX0_add_20 : decode cX0_add 20 = .ok (.getfield 15, 3) := by decide +kernel
theorem dX0_add_23 : decode cX0_add 23 = .ok (.iconst 1, 1) := by decide +kernel
theorem dX0_add_24 : decode cX0_add 24 = .ok (.iadd, 1) := by decide +kernel
theorem dX0_add_25 : decode cX0_add 25 = .ok (.putfield 15, 3) := by decide +kernel
theorem dX0_add_28 : decode cX0_add 28 = .ok (.return_, 1) := by decide +kernel
theorem dX0_birthOf_0 : decode cX0_birthOf 0 = .ok (.iload_n 1, 1) := by decide +kernel
theorem dX0_birthOf_1 : decode cX0_birthOf 1 = .ok (.iconst 0, 1) := by decide +kernel
theorem dX0_birthOf_2 : decode cX0_birthOf 2 = .ok (.bipush 29, 2) := by decide +kernel
theorem dX0_birthOf_4 : decode cX0_birthOf 4 = .ok (.invokestatic 38, 3) := by decide +kernel
theorem dX0_birthOf_7 : decode cX0_birthOf 7 = .ok (.ifCond .eq 12, 3) := by decide +kernel
theorem dX0_birthOf_10 : decode cX0_birthOf 10 = .ok (.aload_n 0, 1) := by decide +kernel
theorem dX0_birthOf_11 : decode cX0_birthOf 11 = .ok (.getfield 11, 3) := by decide +kernel
theorem dX0_birthOf_14 : decode cX0_birthOf 14 = .ok (.iload_n 1, 1) := by decide +kernel
theorem dX0_birthOf_15 : decode cX0_birthOf 15 = .ok (.iaload, 1) := by decide +kernel
theorem dX0_birthOf_16 : decode cX0_birthOf 16 = .ok (.goto 4, 3) := by decide +kernel
theorem dX0_birthOf_19 : decode cX0_birthOf 19 = .ok (.iconst 0, 1) := by decide +kernel
theorem dX0_birthOf_20 : decode cX0_birthOf 20 = .ok (.ireturn, 1) := by decide +kernel
theorem dX0_areFatesFull_0 : decode cX0_areFatesFull 0 = .ok (.aload_n 0, 1) := by decide +kernel
theorem dX0_areFatesFull_1 : decode cX0_areFatesFull 1 = .ok (.getfield 31, 3) := by decide +kernel
theorem dX0_areFatesFull_4 : decode cX0_areFatesFull 4 = .ok (.bipush 90, 2) := by decide +kernel
theorem dX0_areFatesFull_6 : decode cX0_areFatesFull 6 = .ok (.if_icmp .lt 7, 3) := by decide +kernel
theorem dX0_areFatesFull_9 : decode cX0_areFatesFull 9 = .ok (.iconst 1, 1) := by decide +kernel
theorem dX0_areFatesFull_10 : decode cX0_areFatesFull 10 = .ok (.goto 4, 3) := by decide +kernel
theorem dX0_areFatesFull_13 : decode cX0_areFatesFull 13 = .ok (.iconst 0, 1) := by decide +kernel
theorem dX0_areFatesFull_14 : decode cX0_areFatesFull 14 = .ok (.ireturn, 1) := by decide +kernel
theorem dX0_addFate_0 : decode cX0_addFate 0 = .ok (.aload_n 0, 1) := by decide +kernel
theorem dX0_addFate_1 : decode cX0_addFate 1 = .ok (.invokevirtual 42, 3) := by decide +kernel
theorem dX0_addFate_4 : decode cX0_addFate 4 = .ok (.ifCond .eq 4, 3) := by decide +kernel
theorem dX0_addFate_7 : decode cX0_addFate 7 = .ok (.return_, 1) := by decide +kernel
theorem dX0_addFate_8 : decode cX0_addFate 8 = .ok (.aload_n 0, 1) := by decide +kernel
theorem dX0_addFate_9 : decode cX0_addFate 9 = .ok (.getfield 19, 3) := by decide +kernel
theorem dX0_addFate_12 : decode cX0_addFate 12 = .ok (.aload_n 0, 1) := by decide +kernel
theorem dX0_addFate_13 : decode cX0_addFate 13 = .ok (.getfield 31, 3) := by decide +kernel
theorem dX0_addFate_16 : decode cX0_addFate 16 = .ok (.iload_n 1, 1) := by decide +kernel
theorem dX0_addFate_17 : decode cX0_addFate 17 = .ok (.iastore, 1) := by decide +kernel
theorem dX0_addFate_18 : decode cX0_addFate 18 = .ok (.aload_n 0, 1) := by decide +kernel
theorem dX0_addFate_19 : decode cX0_addFate 19 = .ok (.getfield 22, 3) := by decide +kernel
theorem dX0_addFate_22 : decode cX0_addFate 22 = .ok (.aload_n 0, 1) := by decide +kernel
theorem dX0_addFate_23 : decode cX0_addFate 23 = .ok (.getfield 31, 3) := by decide +kernel
theorem dX0_addFate_26 : decode cX0_addFate 26 = .ok (.iload_n 2, 1) := by decide +kernel
theorem dX0_addFate_27 : decode cX0_addFate 27 = .ok (.iastore, 1) := by decide +kernel
theorem dX0_addFate_28 : decode cX0_addFate 28 = .ok (.aload_n 0, 1) := by decide +kernel
theorem dX0_addFate_29 : decode cX0_addFate 29 = .ok (.getfield 25, 3) := by decide +kernel
theorem dX0_addFate_32 : decode cX0_addFate 32 = .ok (.aload_n 0, 1) := by decide +kernel
theorem dX0_addFate_33 : decode cX0_addFate 33 = .ok (.getfield 31, 3) := by decide +kernel
theorem dX0_addFate_36 : decode cX0_addFate 36 = .ok (.iload_n 3, 1) := by decide +kernel
theorem dX0_addFate_37 : decode cX0_addFate 37 = .ok (.iastore, 1) := by decide +kernel
theorem dX0_addFate_38 : decode cX0_addFate 38 = .ok (.aload_n 0, 1) := by decide +kernel
theorem dX0_addFate_39 : decode cX0_addFate 39 = .ok (.getfield 28, 3) := by decide +kernel
theorem dX0_addFate_42 : decode cX0_addFate 42 = .ok (.aload_n 0, 1) := by decide +kernel
theorem dX0_addFate_43 : decode cX0_addFate 43 = .ok (.getfield 31, 3) := by decide +kernel
theorem dX0_addFate_46 : decode cX0_addFate 46 = .ok (.iload 4, 2) := by decide +kernel
theorem dX0_addFate_48 : decode cX0_addFate 48 = .ok (.iastore, 1) := by decide +kernel
theorem dX0_addFate_49 : decode cX0_addFate 49 = .ok (.aload_n 0, 1) := by decide +kernel
theorem dX0_addFate_50 : decode cX0_addFate 50 = .ok (.dup, 1) := by decide +kernel
theorem dX0_addFate_51 : decode cX0_addFate 51 = .ok (.getfield 31, 3) := by decide +kernel
theorem dX0_addFate_54 : decode cX0_addFate 54 = .ok (.iconst 1, 1) := by decide +kernel
theorem dX0_addFate_55 : decode cX0_addFate 55 = .ok (.iadd, 1) := by decide +kernel
theorem dX0_addFate_56 : decode cX0_addFate 56 = .ok (.putfield 31, 3) := by decide +kernel
theorem dX0_addFate_59 : decode cX0_addFate 59 = .ok (.return_, 1) := by decide +kernel
theorem dX0_fateRow_0 : decode cX0_fateRow 0 = .ok (.aload_n 0, 1) := by decide +kernel
theorem dX0_fateRow_1 : decode cX0_fateRow 1 = .ok (.getfield 31, 3) := by decide +kernel
theorem dX0_fateRow_4 : decode cX0_fateRow 4 = .ok (.bipush 90, 2) := by decide +kernel
theorem dX0_fateRow_6 : decode cX0_fateRow 6 = .ok (.invokestatic 45, 3) := by decide +kernel
theorem dX0_fateRow_9 : decode cX0_fateRow 9 = .ok (.iconst 1, 1) := by decide +kernel
theorem dX0_fateRow_10 : decode cX0_fateRow 10 = .ok (.isub, 1) := by decide +kernel
theorem dX0_fateRow_11 : decode cX0_fateRow 11 = .ok (.istore_n 3, 1) := by decide +kernel
theorem dX0_fateRow_12 : decode cX0_fateRow 12 = .ok (.iload_n 3, 1) := by decide +kernel
theorem dX0_fateRow_13 : decode cX0_fateRow 13 = .ok (.ifCond .lt 45, 3) := by decide +kernel
theorem dX0_fateRow_16 : decode cX0_fateRow 16 = .ok (.aload_n 0, 1) := by decide +kernel
theorem dX0_fateRow_17 : decode cX0_fateRow 17 = .ok (.getfield 19, 3) := by decide +kernel
theorem dX0_fateRow_20 : decode cX0_fateRow 20 = .ok (.iload_n 3, 1) := by decide +kernel
theorem dX0_fateRow_21 : decode cX0_fateRow 21 = .ok (.iaload, 1) := by decide +kernel
theorem dX0_fateRow_22 : decode cX0_fateRow 22 = .ok (.iload_n 1, 1) := by decide +kernel
theorem dX0_fateRow_23 : decode cX0_fateRow 23 = .ok (.if_icmp .ne 29, 3) := by decide +kernel
theorem dX0_fateRow_26 : decode cX0_fateRow 26 = .ok (.aload_n 0, 1) := by decide +kernel
theorem dX0_fateRow_27 : decode cX0_fateRow 27 = .ok (.getfield 28, 3) := by decide +kernel
theorem dX0_fateRow_30 : decode cX0_fateRow 30 = .ok (.iload_n 3, 1) := by decide +kernel
theorem dX0_fateRow_31 : decode cX0_fateRow 31 = .ok (.iaload, 1) := by decide +kernel
theorem dX0_fateRow_32 : decode cX0_fateRow 32 = .ok (.iload_n 2, 1) := by decide +kernel
theorem dX0_fateRow_33 : decode cX0_fateRow 33 = .ok (.if_icmp .gt 19, 3) := by decide +kernel
theorem dX0_fateRow_36 : decode cX0_fateRow 36 = .ok (.aload_n 0, 1) := by decide +kernel
theorem dX0_fateRow_37 : decode cX0_fateRow 37 = .ok (.getfield 22, 3) := by decide +kernel
theorem dX0_fateRow_40 : decode cX0_fateRow 40 = .ok (.iload_n 3, 1) := by decide +kernel
theorem dX0_fateRow_41 : decode cX0_fateRow 41 = .ok (.iaload, 1) := by decide +kernel
theorem dX0_fateRow_42 : decode cX0_fateRow 42 = .ok (.iconst 3, 1) := by decide +kernel
theorem dX0_fateRow_43 : decode cX0_fateRow 43 = .ok (.if_icmp .ne 7, 3) := by decide +kernel
theorem dX0_fateRow_46 : decode cX0_fateRow 46 = .ok (.iconst (-1), 1) := by decide +kernel
theorem dX0_fateRow_47 : decode cX0_fateRow 47 = .ok (.goto 4, 3) := by decide +kernel
theorem dX0_fateRow_50 : decode cX0_fateRow 50 = .ok (.iload_n 3, 1) := by decide +kernel
theorem dX0_fateRow_51 : decode cX0_fateRow 51 = .ok (.ireturn, 1) := by decide +kernel
theorem dX0_fateRow_52 : decode cX0_fateRow 52 = .ok (.iinc 3 (-1), 3) := by decide +kernel
theorem dX0_fateRow_55 : decode cX0_fateRow 55 = .ok (.goto (-43), 3) := by decide +kernel
theorem dX0_fateRow_58 : decode cX0_fateRow 58 = .ok (.iconst (-1), 1) := by decide +kernel
theorem dX0_fateRow_59 : decode cX0_fateRow 59 = .ok (.ireturn, 1) := by decide +kernel
theorem dX0_fateOf_0 : decode cX0_fateOf 0 = .ok (.iload_n 1, 1) := by decide +kernel
theorem dX0_fateOf_1 : decode cX0_fateOf 1 = .ok (.iconst 0, 1) := by decide +kernel
theorem dX0_fateOf_2 : decode cX0_fateOf 2 = .ok (.bipush 89, 2) := by decide +kernel
theorem dX0_fateOf_4 : decode cX0_fateOf 4 = .ok (.invokestatic 38, 3) := by decide +kernel
theorem dX0_fateOf_7 : decode cX0_fateOf 7 = .ok (.ifCond .eq 12, 3) := by decide +kernel
theorem dX0_fateOf_10 : decode cX0_fateOf 10 = .ok (.aload_n 0, 1) := by decide +kernel
theorem dX0_fateOf_11 : decode cX0_fateOf 11 = .ok (.getfield 22, 3) := by decide +kernel
theorem dX0_fateOf_14 : decode cX0_fateOf 14 = .ok (.iload_n 1, 1) := by decide +kernel
theorem dX0_fateOf_15 : decode cX0_fateOf 15 = .ok (.iaload, 1) := by decide +kernel
theorem dX0_fateOf_16 : decode cX0_fateOf 16 = .ok (.goto 4, 3) := by decide +kernel
theorem dX0_fateOf_19 : decode cX0_fateOf 19 = .ok (.iconst 3, 1) := by decide +kernel
theorem dX0_fateOf_20 : decode cX0_fateOf 20 = .ok (.ireturn, 1) := by decide +kernel
theorem dX0_monthOf_0 : decode cX0_monthOf 0 = .ok (.iload_n 1, 1) := by decide +kernel
theorem dX0_monthOf_1 : decode cX0_monthOf 1 = .ok (.iconst 0, 1) := by decide +kernel
theorem dX0_monthOf_2 : decode cX0_monthOf 2 = .ok (.bipush 89, 2) := by decide +kernel
theorem dX0_monthOf_4 : decode cX0_monthOf 4 = .ok (.invokestatic 38, 3) := by decide +kernel
theorem dX0_monthOf_7 : decode cX0_monthOf 7 = .ok (.ifCond .eq 12, 3) := by decide +kernel
theorem dX0_monthOf_10 : decode cX0_monthOf 10 = .ok (.aload_n 0, 1) := by decide +kernel
theorem dX0_monthOf_11 : decode cX0_monthOf 11 = .ok (.getfield 25, 3) := by decide +kernel
theorem dX0_monthOf_14 : decode cX0_monthOf 14 = .ok (.iload_n 1, 1) := by decide +kernel
theorem dX0_monthOf_15 : decode cX0_monthOf 15 = .ok (.iaload, 1) := by decide +kernel
theorem dX0_monthOf_16 : decode cX0_monthOf 16 = .ok (.goto 4, 3) := by decide +kernel
theorem dX0_monthOf_19 : decode cX0_monthOf 19 = .ok (.iconst 0, 1) := by decide +kernel
theorem dX0_monthOf_20 : decode cX0_monthOf 20 = .ok (.ireturn, 1) := by decide +kernel
theorem dX1_init_0 : decode cX1_init 0 = .ok (.aload_n 0, 1) := by decide +kernel
theorem dX1_init_1 : decode cX1_init 1 = .ok (.invokespecial 3, 3) := by decide +kernel
theorem dX1_init_4 : decode cX1_init 4 = .ok (.aload_n 0, 1) := by decide +kernel
theorem dX1_init_5 : decode cX1_init 5 = .ok (.bipush 60, 2) := by decide +kernel
theorem dX1_init_7 : decode cX1_init 7 = .ok (.newarray .int, 2) := by decide +kernel
theorem dX1_init_9 : decode cX1_init 9 = .ok (.putfield 11, 3) := by decide +kernel
theorem dX1_init_12 : decode cX1_init 12 = .ok (.aload_n 0, 1) := by decide +kernel
theorem dX1_init_13 : decode cX1_init 13 = .ok (.bipush 60, 2) := by decide +kernel
theorem dX1_init_15 : decode cX1_init 15 = .ok (.newarray .int, 2) := by decide +kernel
theorem dX1_init_17 : decode cX1_init 17 = .ok (.putfield 15, 3) := by decide +kernel
theorem dX1_init_20 : decode cX1_init 20 = .ok (.aload_n 0, 1) := by decide +kernel
theorem dX1_init_21 : decode cX1_init 21 = .ok (.bipush 60, 2) := by decide +kernel
theorem dX1_init_23 : decode cX1_init 23 = .ok (.newarray .int, 2) := by decide +kernel
theorem dX1_init_25 : decode cX1_init 25 = .ok (.putfield 18, 3) := by decide +kernel
theorem dX1_init_28 : decode cX1_init 28 = .ok (.aload_n 0, 1) := by decide +kernel
theorem dX1_init_29 : decode cX1_init 29 = .ok (.bipush 60, 2) := by decide +kernel
theorem dX1_init_31 : decode cX1_init 31 = .ok (.newarray .int, 2) := by decide +kernel
theorem dX1_init_33 : decode cX1_init 33 = .ok (.putfield 21, 3) := by decide +kernel
theorem dX1_init_36 : decode cX1_init 36 = .ok (.aload_n 0, 1) := by decide +kernel
theorem dX1_init_37 : decode cX1_init 37 = .ok (.iconst 0, 1) := by decide +kernel
theorem dX1_init_38 : decode cX1_init 38 = .ok (.putfield 24, 3) := by decide +kernel
theorem dX1_init_41 : decode cX1_init 41 = .ok (.return_, 1) := by decide +kernel
theorem dX1_isKind_0 : decode cX1_isKind 0 = .ok (.iload_n 0, 1) := by decide +kernel
theorem dX1_isKind_1 : decode cX1_isKind 1 = .ok (.iconst 0, 1) := by decide +kernel
theorem dX1_isKind_2 : decode cX1_isKind 2 = .ok (.iconst 5, 1) := by decide +kernel
theorem dX1_isKind_3 : decode cX1_isKind 3 = .ok (.invokestatic 28, 3) := by decide +kernel
theorem dX1_isKind_6 : decode cX1_isKind 6 = .ok (.ireturn, 1) := by decide +kernel
theorem dX1_mayBe_0 : decode cX1_mayBe 0 = .ok (.iload_n 0, 1) := by decide +kernel
theorem dX1_mayBe_1 : decode cX1_mayBe 1 = .ok (.invokestatic 32, 3) := by decide +kernel
theorem dX1_mayBe_4 : decode cX1_mayBe 4 = .ok (.ifCond .eq 24, 3) := by decide +kernel
theorem dX1_mayBe_7 : decode cX1_mayBe 7 = .ok (.iload_n 1, 1) := by decide +kernel
theorem dX1_mayBe_8 : decode cX1_mayBe 8 = .ok (.getstatic 36, 3) := by decide +kernel
theorem dX1_mayBe_11 : decode cX1_mayBe 11 = .ok (.iload_n 0, 1) := by decide +kernel
theorem dX1_mayBe_12 : decode cX1_mayBe 12 = .ok (.iaload, 1) := by decide +kernel
theorem dX1_mayBe_13 : decode cX1_mayBe 13 = .ok (.getstatic 39, 3) := by decide +kernel
theorem dX1_mayBe_16 : decode cX1_mayBe 16 = .ok (.iload_n 0, 1) := by decide +kernel
theorem dX1_mayBe_17 : decode cX1_mayBe 17 = .ok (.iaload, 1) := by decide +kernel
theorem dX1_mayBe_18 : decode cX1_mayBe 18 = .ok (.invokestatic 28, 3) := by decide +kernel
theorem dX1_mayBe_21 : decode cX1_mayBe 21 = .ok (.ifCond .eq 7, 3) := by decide +kernel
theorem dX1_mayBe_24 : decode cX1_mayBe 24 = .ok (.iconst 1, 1) := by decide +kernel
theorem dX1_mayBe_25 : decode cX1_mayBe 25 = .ok (.goto 4, 3) := by decide +kernel
theorem dX1_mayBe_28 : decode cX1_mayBe 28 = .ok (.iconst 0, 1) := by decide +kernel
theorem dX1_mayBe_29 : decode cX1_mayBe 29 = .ok (.ireturn, 1) := by decide +kernel
theorem dX1_isFull_0 : decode cX1_isFull 0 = .ok (.aload_n 0, 1) := by decide +kernel
theorem dX1_isFull_1 : decode cX1_isFull 1 = .ok (.getfield 24, 3) := by decide +kernel
theorem dX1_isFull_4 : decode cX1_isFull 4 = .ok (.bipush 60, 2) := by decide +kernel
theorem dX1_isFull_6 : decode cX1_isFull 6 = .ok (.if_icmp .lt 7, 3) := by decide +kernel
theorem dX1_isFull_9 : decode cX1_isFull 9 = .ok (.iconst 1, 1) := by decide +kernel
theorem dX1_isFull_10 : decode cX1_isFull 10 = .ok (.goto 4, 3) := by decide +kernel
theorem dX1_isFull_13 : decode cX1_isFull 13 = .ok (.iconst 0, 1) := by decide +kernel
theorem dX1_isFull_14 : decode cX1_isFull 14 = .ok (.ireturn, 1) := by decide +kernel
theorem dX1_add_0 : decode cX1_add 0 = .ok (.aload_n 0, 1) := by decide +kernel
theorem dX1_add_1 : decode cX1_add 1 = .ok (.invokevirtual 42, 3) := by decide +kernel
theorem dX1_add_4 : decode cX1_add 4 = .ok (.ifCond .eq 4, 3) := by decide +kernel
theorem dX1_add_7 : decode cX1_add 7 = .ok (.return_, 1) := by decide +kernel
theorem dX1_add_8 : decode cX1_add 8 = .ok (.aload_n 0, 1) := by decide +kernel
theorem dX1_add_9 : decode cX1_add 9 = .ok (.getfield 11, 3) := by decide +kernel
theorem dX1_add_12 : decode cX1_add 12 = .ok (.aload_n 0, 1) := by decide +kernel
theorem dX1_add_13 : decode cX1_add 13 = .ok (.getfield 24, 3) := by decide +kernel
theorem dX1_add_16 : decode cX1_add 16 = .ok (.iload_n 1, 1) := by decide +kernel
theorem dX1_add_17 : decode cX1_add 17 = .ok (.iastore, 1) := by decide +kernel
theorem dX1_add_18 : decode cX1_add 18 = .ok (.aload_n 0, 1) := by decide +kernel
theorem dX1_add_19 : decode cX1_add 19 = .ok (.getfield 15, 3) := by decide +kernel
theorem dX1_add_22 : decode cX1_add 22 = .ok (.aload_n 0, 1) := by decide +kernel
theorem dX1_add_23 : decode cX1_add 23 = .ok (.getfield 24, 3) := by decide +kernel
theorem dX1_add_26 : decode cX1_add 26 = .ok (.iload_n 2, 1) := by decide +kernel
theorem dX1_add_27 : decode cX1_add 27 = .ok (.iastore, 1) := by decide +kernel
theorem dX1_add_28 : decode cX1_add 28 = .ok (.aload_n 0, 1) := by decide +kernel
theorem dX1_add_29 : decode cX1_add 29 = .ok (.getfield 18, 3) := by decide +kernel
theorem dX1_add_32 : decode cX1_add 32 = .ok (.aload_n 0, 1) := by decide +kernel
theorem dX1_add_33 : decode cX1_add 33 = .ok (.getfield 24, 3) := by decide +kernel
theorem dX1_add_36 : decode cX1_add 36 = .ok (.iload_n 3, 1) := by decide +kernel
theorem dX1_add_37 : decode cX1_add 37 = .ok (.iastore, 1) := by decide +kernel
theorem dX1_add_38 : decode cX1_add 38 = .ok (.aload_n 0, 1) := by decide +kernel
theorem dX1_add_39 : decode cX1_add 39 = .ok (.getfield 21, 3) := by decide +kernel
theorem dX1_add_42 : decode cX1_add 42 = .ok (.aload_n 0, 1) := by decide +kernel
theorem dX1_add_43 : decode cX1_add 43 = .ok (.getfield 24, 3) := by decide +kernel
theorem dX1_add_46 : decode cX1_add 46 = .ok (.iload 4, 2) := by decide +kernel
theorem dX1_add_48 : decode cX1_add 48 = .ok (.iastore, 1) := by decide +kernel
theorem dX1_add_49 : decode cX1_add 49 = .ok (.aload_n 0, 1) := by decide +kernel
theorem dX1_add_50 : decode cX1_add 50 = .ok (.dup, 1) := by decide +kernel
theorem dX1_add_51 : decode cX1_add 51 = .ok (.getfield 24, 3) := by decide +kernel
theorem dX1_add_54 : decode cX1_add 54 = .ok (.iconst 1, 1) := by decide +kernel
theorem dX1_add_55 : decode cX1_add 55 = .ok (.iadd, 1) := by decide +kernel
theorem dX1_add_56 : decode cX1_add 56 = .ok (.putfield 24, 3) := by decide +kernel
theorem dX1_add_59 : decode cX1_add 59 = .ok (.return_, 1) := by decide +kernel
theorem dX1_inForce_0 : decode cX1_inForce 0 = .ok (.iload_n 1, 1) := by decide +kernel
theorem dX1_inForce_1 : decode cX1_inForce 1 = .ok (.invokestatic 32, 3) := by decide +kernel
theorem dX1_inForce_4 : decode cX1_inForce 4 = .ok (.ifCond .eq 11, 3) := by decide +kernel
theorem dX1_inForce_7 : decode cX1_inForce 7 = .ok (.getstatic 46, 3) := by decide +kernel
theorem dX1_inForce_10 : decode cX1_inForce 10 = .ok (.iload_n 1, 1) := by decide +kernel
theorem dX1_inForce_11 : decode cX1_inForce 11 = .ok (.iaload, 1) := by decide +kernel
theorem dX1_inForce_12 : decode cX1_inForce 12 = .ok (.goto 4, 3) := by decide +kernel
theorem dX1_inForce_15 : decode cX1_inForce 15 = .ok (.iconst 0, 1) := by decide +kernel
theorem dX1_inForce_16 : decode cX1_inForce 16 = .ok (.istore 4, 2) := by decide +kernel
theorem dX1_inForce_18 : decode cX1_inForce 18 = .ok (.iconst 0, 1) := by decide +kernel
theorem dX1_inForce_19 : decode cX1_inForce 19 = .ok (.istore 5, 2) := by decide +kernel
theorem dX1_inForce_21 : decode cX1_inForce 21 = .ok (.iconst 0, 1) := by decide +kernel
theorem dX1_inForce_22 : decode cX1_inForce 22 = .ok (.istore 6, 2) := by decide +kernel
theorem dX1_inForce_24 : decode cX1_inForce 24 = .ok (.iload 6, 2) := by decide +kernel
theorem dX1_inForce_26 : decode cX1_inForce 26 = .ok (.aload_n 0, 1) := by decide +kernel
theorem dX1_inForce_27 : decode cX1_inForce 27 = .ok (.getfield 24, 3) := by decide +kernel
theorem dX1_inForce_30 : decode cX1_inForce 30 = .ok (.if_icmp .ge 91, 3) := by decide +kernel
theorem dX1_inForce_33 : decode cX1_inForce 33 = .ok (.iload 6, 2) := by decide +kernel
theorem dX1_inForce_35 : decode cX1_inForce 35 = .ok (.bipush 60, 2) := by decide +kernel
theorem dX1_inForce_37 : decode cX1_inForce 37 = .ok (.if_icmp .ge 84, 3) := by decide +kernel
theorem dX1_inForce_40 : decode cX1_inForce 40 = .ok (.aload_n 0, 1) := by decide +kernel
theorem dX1_inForce_41 : decode cX1_inForce 41 = .ok (.getfield 11, 3) := by decide +kernel
theorem dX1_inForce_44 : decode cX1_inForce 44 = .ok (.iload 6, 2) := by decide +kernel
theorem dX1_inForce_46 : decode cX1_inForce 46 = .ok (.iaload, 1) := by decide +kernel
theorem dX1_inForce_47 : decode cX1_inForce 47 = .ok (.iload_n 1, 1) := by decide +kernel
theorem dX1_inForce_48 : decode cX1_inForce 48 = .ok (.if_icmp .ne 29, 3) := by decide +kernel
theorem dX1_inForce_51 : decode cX1_inForce 51 = .ok (.aload_n 0, 1) := by decide +kernel
theorem dX1_inForce_52 : decode cX1_inForce 52 = .ok (.getfield 21, 3) := by decide +kernel
theorem dX1_inForce_55 : decode cX1_inForce 55 = .ok (.iload 6, 2) := by decide +kernel
theorem dX1_inForce_57 : decode cX1_inForce 57 = .ok (.iaload, 1) := by decide +kernel
theorem dX1_inForce_58 : decode cX1_inForce 58 = .ok (.iload_n 3, 1) := by decide +kernel
theorem dX1_inForce_59 : decode cX1_inForce 59 = .ok (.if_icmp .gt 18, 3) := by decide +kernel
theorem dX1_inForce_62 : decode cX1_inForce 62 = .ok (.aload_n 0, 1) := by decide +kernel
theorem dX1_inForce_63 : decode cX1_inForce 63 = .ok (.getfield 15, 3) := by decide +kernel
theorem dX1_inForce_66 : decode cX1_inForce 66 = .ok (.iload 6, 2) := by decide +kernel
theorem dX1_inForce_68 : decode cX1_inForce 68 = .ok (.iaload, 1) := by decide +kernel
theorem dX1_inForce_69 : decode cX1_inForce 69 = .ok (.iload_n 2, 1) := by decide +kernel
theorem dX1_inForce_70 : decode cX1_inForce 70 = .ok (.if_icmp .gt 7, 3) := by decide +kernel
theorem dX1_inForce_73 : decode cX1_inForce 73 = .ok (.iconst 1, 1) := by decide +kernel
theorem dX1_inForce_74 : decode cX1_inForce 74 = .ok (.goto 4, 3) := by decide +kernel
theorem dX1_inForce_77 : decode cX1_inForce 77 = .ok (.iconst 0, 1) := by decide +kernel
theorem dX1_inForce_78 : decode cX1_inForce 78 = .ok (.istore 7, 2) := by decide +kernel
theorem dX1_inForce_80 : decode cX1_inForce 80 = .ok (.iload 7, 2) := by decide +kernel
theorem dX1_inForce_82 : decode cX1_inForce 82 = .ok (.ifCond .eq 33, 3) := by decide +kernel
theorem dX1_inForce_85 : decode cX1_inForce 85 = .ok (.aload_n 0, 1) := by decide +kernel
theorem dX1_inForce_86 : decode cX1_inForce 86 = .ok (.getfield 15, 3) := by decide +kernel
theorem dX1_inForce_89 : decode cX1_inForce 89 = .ok (.iload 6, 2) := by decide +kernel
theorem dX1_inForce_91 : decode cX1_inForce 91 = .ok (.iaload, 1) := by decide +kernel
theorem dX1_inForce_92 : decode cX1_inForce 92 = .ok (.iload 5, 2) := by decide +kernel
theorem dX1_inForce_94 : decode cX1_inForce 94 = .ok (.if_icmp .lt 21, 3) := by decide +kernel
theorem dX1_inForce_97 : decode cX1_inForce 97 = .ok (.aload_n 0, 1) := by decide +kernel
theorem dX1_inForce_98 : decode cX1_inForce 98 = .ok (.getfield 18, 3) := by decide +kernel
theorem dX1_inForce_101 : decode cX1_inForce 101 = .ok (.iload 6, 2) := by decide +kernel
theorem dX1_inForce_103 : decode cX1_inForce 103 = .ok (.iaload, 1) := by decide +kernel
theorem dX1_inForce_104 : decode cX1_inForce 104 = .ok (.istore 4, 2) := by decide +kernel
theorem dX1_inForce_106 : decode cX1_inForce 106 = .ok (.aload_n 0, 1) := by decide +kernel
theorem dX1_inForce_107 : decode cX1_inForce 107 = .ok (.getfield 15, 3) := by decide +kernel
theorem dX1_inForce_110 : decode cX1_inForce 110 = .ok (.iload 6, 2) := by decide +kernel
theorem dX1_inForce_112 : decode cX1_inForce 112 = .ok (.iaload, 1) := by decide +kernel
theorem dX1_inForce_113 : decode cX1_inForce 113 = .ok (.istore 5, 2) := by decide +kernel
theorem dX1_inForce_115 : decode cX1_inForce 115 = .ok (.iinc 6 1, 3) := by decide +kernel
theorem dX1_inForce_118 : decode cX1_inForce 118 = .ok (.goto (-94), 3) := by decide +kernel
theorem dX1_inForce_121 : decode cX1_inForce 121 = .ok (.iload 4, 2) := by decide +kernel
theorem dX1_inForce_123 : decode cX1_inForce 123 = .ok (.ireturn, 1) := by decide +kernel
theorem dX2_init_0 : decode cX2_init 0 = .ok (.aload_n 0, 1) := by decide +kernel
theorem dX2_init_1 : decode cX2_init 1 = .ok (.invokespecial 1, 3) := by decide +kernel
theorem dX2_init_4 : decode cX2_init 4 = .ok (.aload_n 0, 1) := by decide +kernel
theorem dX2_init_5 : decode cX2_init 5 = .ok (.bipush 7, 2) := by decide +kernel
theorem dX2_init_7 : decode cX2_init 7 = .ok (.newarray .int, 2) := by decide +kernel
theorem dX2_init_9 : decode cX2_init 9 = .ok (.putfield 9, 3) := by decide +kernel
theorem dX2_init_12 : decode cX2_init 12 = .ok (.aload_n 0, 1) := by decide +kernel
theorem dX2_init_13 : decode cX2_init 13 = .ok (.bipush 7, 2) := by decide +kernel
theorem dX2_init_15 : decode cX2_init 15 = .ok (.newarray .int, 2) := by decide +kernel
theorem dX2_init_17 : decode cX2_init 17 = .ok (.putfield 13, 3) := by decide +kernel
theorem dX2_init_20 : decode cX2_init 20 = .ok (.aload_n 0, 1) := by decide +kernel
theorem dX2_init_21 : decode cX2_init 21 = .ok (.iconst 0, 1) := by decide +kernel
theorem dX2_init_22 : decode cX2_init 22 = .ok (.putfield 16, 3) := by decide +kernel
theorem dX2_init_25 : decode cX2_init 25 = .ok (.aload_n 0, 1) := by decide +kernel
theorem dX2_init_26 : decode cX2_init 26 = .ok (.lconst 0, 1) := by decide +kernel
theorem dX2_init_27 : decode cX2_init 27 = .ok (.putfield 20, 3) := by decide +kernel
theorem dX2_init_30 : decode cX2_init 30 = .ok (.aload_n 0, 1) := by decide +kernel
theorem dX2_init_31 : decode cX2_init 31 = .ok (.iconst 0, 1) := by decide +kernel
theorem dX2_init_32 : decode cX2_init 32 = .ok (.putfield 24, 3) := by decide +kernel
theorem dX2_init_35 : decode cX2_init 35 = .ok (.aload_n 0, 1) := by decide +kernel
theorem dX2_init_36 : decode cX2_init 36 = .ok (.ldc 28, 2) := by decide +kernel
theorem dX2_init_38 : decode cX2_init 38 = .ok (.putfield 29, 3) := by decide +kernel
theorem dX2_init_41 : decode cX2_init 41 = .ok (.aload_n 0, 1) := by decide +kernel
theorem dX2_init_42 : decode cX2_init 42 = .ok (.lconst 0, 1) := by decide +kernel
theorem dX2_init_43 : decode cX2_init 43 = .ok (.putfield 32, 3) := by decide +kernel
theorem dX2_init_46 : decode cX2_init 46 = .ok (.aload_n 0, 1) := by decide +kernel
theorem dX2_init_47 : decode cX2_init 47 = .ok (.iconst 0, 1) := by decide +kernel
theorem dX2_init_48 : decode cX2_init 48 = .ok (.putfield 35, 3) := by decide +kernel
theorem dX2_init_51 : decode cX2_init 51 = .ok (.aload_n 0, 1) := by decide +kernel
theorem dX2_init_52 : decode cX2_init 52 = .ok (.lconst 0, 1) := by decide +kernel
theorem dX2_init_53 : decode cX2_init 53 = .ok (.putfield 38, 3) := by decide +kernel
theorem dX2_init_56 : decode cX2_init 56 = .ok (.aload_n 0, 1) := by decide +kernel
theorem dX2_init_57 : decode cX2_init 57 = .ok (.iload_n 1, 1) := by decide +kernel
theorem dX2_init_58 : decode cX2_init 58 = .ok (.putfield 41, 3) := by decide +kernel
theorem dX2_init_61 : decode cX2_init 61 = .ok (.aload_n 0, 1) := by decide +kernel
theorem dX2_init_62 : decode cX2_init 62 = .ok (.iload_n 2, 1) := by decide +kernel
theorem dX2_init_63 : decode cX2_init 63 = .ok (.putfield 44, 3) := by decide +kernel
theorem dX2_init_66 : decode cX2_init 66 = .ok (.aload_n 0, 1) := by decide +kernel
theorem dX2_init_67 : decode cX2_init 67 = .ok (.iload_n 3, 1) := by decide +kernel
theorem dX2_init_68 : decode cX2_init 68 = .ok (.putfield 47, 3) := by decide +kernel
theorem dX2_init_71 : decode cX2_init 71 = .ok (.aload_n 0, 1) := by decide +kernel
theorem dX2_init_72 : decode cX2_init 72 = .ok (.iload 4, 2) := by decide +kernel
theorem dX2_init_74 : decode cX2_init 74 = .ok (.putfield 50, 3) := by decide +kernel
theorem dX2_init_77 : decode cX2_init 77 = .ok (.aload_n 0, 1) := by decide +kernel
theorem dX2_init_78 : decode cX2_init 78 = .ok (.getfield 9, 3) := by decide +kernel
theorem dX2_init_81 : decode cX2_init 81 = .ok (.iconst 0, 1) := by decide +kernel
theorem dX2_init_82 : decode cX2_init 82 = .ok (.iload 5, 2) := by decide +kernel
theorem dX2_init_84 : decode cX2_init 84 = .ok (.iastore, 1) := by decide +kernel
theorem dX2_init_85 : decode cX2_init 85 = .ok (.aload_n 0, 1) := by decide +kernel
theorem dX2_init_86 : decode cX2_init 86 = .ok (.getfield 13, 3) := by decide +kernel
theorem dX2_init_89 : decode cX2_init 89 = .ok (.iconst 0, 1) := by decide +kernel
theorem dX2_init_90 : decode cX2_init 90 = .ok (.iload 4, 2) := by decide +kernel
theorem dX2_init_92 : decode cX2_init 92 = .ok (.iastore, 1) := by decide +kernel
theorem dX2_init_93 : decode cX2_init 93 = .ok (.return_, 1) := by decide +kernel
theorem dX2_setTerms_0 : decode cX2_setTerms 0 = .ok (.aload_n 0, 1) := by decide +kernel
theorem dX2_setTerms_1 : decode cX2_setTerms 1 = .ok (.iload_n 1, 1) := by decide +kernel
theorem dX2_setTerms_2 : decode cX2_setTerms 2 = .ok (.putfield 53, 3) := by decide +kernel
theorem dX2_setTerms_5 : decode cX2_setTerms 5 = .ok (.aload_n 0, 1) := by decide +kernel
theorem dX2_setTerms_6 : decode cX2_setTerms 6 = .ok (.lload_n 2, 1) := by decide +kernel
theorem dX2_setTerms_7 : decode cX2_setTerms 7 = .ok (.putfield 56, 3) := by decide +kernel
theorem dX2_setTerms_10 : decode cX2_setTerms 10 = .ok (.aload_n 0, 1) := by decide +kernel
theorem dX2_setTerms_11 : decode cX2_setTerms 11 = .ok (.iload 4, 2) := by decide +kernel
theorem dX2_setTerms_13 : decode cX2_setTerms 13 = .ok (.putfield 59, 3) := by decide +kernel
theorem dX2_setTerms_16 : decode cX2_setTerms 16 = .ok (.return_, 1) := by decide +kernel
theorem dX2_tellOf_0 : decode cX2_tellOf 0 = .ok (.iload_n 1, 1) := by decide +kernel
theorem dX2_tellOf_1 : decode cX2_tellOf 1 = .ok (.tableswitch 93 0 7 #[47, 53, 59, 65, 71, 76, 82, 88], 47) := by decide +kernel
theorem dX2_tellOf_48 : decode cX2_tellOf 48 = .ok (.aload_n 0, 1) := by decide +kernel
theorem dX2_tellOf_49 : decode cX2_tellOf 49 = .ok (.getfield 41, 3) := by decide +kernel
theorem dX2_tellOf_52 : decode cX2_tellOf 52 = .ok (.i2l, 1) := by decide +kernel
theorem dX2_tellOf_53 : decode cX2_tellOf 53 = .ok (.lreturn, 1) := by decide +kernel
theorem dX2_tellOf_54 : decode cX2_tellOf 54 = .ok (.aload_n 0, 1) := by decide +kernel
theorem dX2_tellOf_55 : decode cX2_tellOf 55 = .ok (.getfield 44, 3) := by decide +kernel
theorem dX2_tellOf_58 : decode cX2_tellOf 58 = .ok (.i2l, 1) := by decide +kernel
theorem dX2_tellOf_59 : decode cX2_tellOf 59 = .ok (.lreturn, 1) := by decide +kernel
theorem dX2_tellOf_60 : decode cX2_tellOf 60 = .ok (.aload_n 0, 1) := by decide +kernel
theorem dX2_tellOf_61 : decode cX2_tellOf 61 = .ok (.getfield 47, 3) := by decide +kernel
theorem dX2_tellOf_64 : decode cX2_tellOf 64 = .ok (.i2l, 1) := by decide +kernel
theorem dX2_tellOf_65 : decode cX2_tellOf 65 = .ok (.lreturn, 1) := by decide +kernel
theorem dX2_tellOf_66 : decode cX2_tellOf 66 = .ok (.aload_n 0, 1) := by decide +kernel
theorem dX2_tellOf_67 : decode cX2_tellOf 67 = .ok (.getfield 53, 3) := by decide +kernel
theorem dX2_tellOf_70 : decode cX2_tellOf 70 = .ok (.i2l, 1) := by decide +kernel
theorem dX2_tellOf_71 : decode cX2_tellOf 71 = .ok (.lreturn, 1) := by decide +kernel
theorem dX2_tellOf_72 : decode cX2_tellOf 72 = .ok (.aload_n 0, 1) := by decide +kernel
theorem dX2_tellOf_73 : decode cX2_tellOf 73 = .ok (.getfield 56, 3) := by decide +kernel
theorem dX2_tellOf_76 : decode cX2_tellOf 76 = .ok (.lreturn, 1) := by decide +kernel
theorem dX2_tellOf_77 : decode cX2_tellOf 77 = .ok (.aload_n 0, 1) := by decide +kernel
theorem dX2_tellOf_78 : decode cX2_tellOf 78 = .ok (.getfield 59, 3) := by decide +kernel
theorem dX2_tellOf_81 : decode cX2_tellOf 81 = .ok (.i2l, 1) := by decide +kernel
theorem dX2_tellOf_82 : decode cX2_tellOf 82 = .ok (.lreturn, 1) := by decide +kernel
theorem dX2_tellOf_83 : decode cX2_tellOf 83 = .ok (.aload_n 0, 1) := by decide +kernel
theorem dX2_tellOf_84 : decode cX2_tellOf 84 = .ok (.getfield 50, 3) := by decide +kernel
theorem dX2_tellOf_87 : decode cX2_tellOf 87 = .ok (.i2l, 1) := by decide +kernel
theorem dX2_tellOf_88 : decode cX2_tellOf 88 = .ok (.lreturn, 1) := by decide +kernel
theorem dX2_tellOf_89 : decode cX2_tellOf 89 = .ok (.aload_n 0, 1) := by decide +kernel
theorem dX2_tellOf_90 : decode cX2_tellOf 90 = .ok (.getfield 20, 3) := by decide +kernel
theorem dX2_tellOf_93 : decode cX2_tellOf 93 = .ok (.lreturn, 1) := by decide +kernel
theorem dX2_tellOf_94 : decode cX2_tellOf 94 = .ok (.aload_n 0, 1) := by decide +kernel
theorem dX2_tellOf_95 : decode cX2_tellOf 95 = .ok (.getfield 24, 3) := by decide +kernel
theorem dX2_tellOf_98 : decode cX2_tellOf 98 = .ok (.ifCond .eq 7, 3) := by decide +kernel
theorem dX2_tellOf_101 : decode cX2_tellOf 101 = .ok (.lconst 1, 1) := by decide +kernel
theorem dX2_tellOf_102 : decode cX2_tellOf 102 = .ok (.goto 4, 3) := by decide +kernel
theorem dX2_tellOf_105 : decode cX2_tellOf 105 = .ok (.lconst 0, 1) := by decide +kernel
theorem dX2_tellOf_106 : decode cX2_tellOf 106 = .ok (.lreturn, 1) := by decide +kernel
theorem dX2_lastRow_0 : decode cX2_lastRow 0 = .ok (.iconst 0, 1) := by decide +kernel
theorem dX2_lastRow_1 : decode cX2_lastRow 1 = .ok (.aload_n 0, 1) := by decide +kernel
theorem dX2_lastRow_2 : decode cX2_lastRow 2 = .ok (.getfield 16, 3) := by decide +kernel
theorem dX2_lastRow_5 : decode cX2_lastRow 5 = .ok (.bipush 6, 2) := by decide +kernel
theorem dX2_lastRow_7 : decode cX2_lastRow 7 = .ok (.invokestatic 62, 3) := by decide +kernel
theorem dX2_lastRow_10 : decode cX2_lastRow 10 = .ok (.invokestatic 68, 3) := by decide +kernel
theorem dX2_lastRow_13 : decode cX2_lastRow 13 = .ok (.ireturn, 1) := by decide +kernel
theorem dX2_latestHolder_0 : decode cX2_latestHolder 0 = .ok (.aload_n 0, 1) := by decide +kernel
theorem dX2_latestHolder_1 : decode cX2_latestHolder 1 = .ok (.getfield 9, 3) := by decide +kernel
theorem dX2_latestHolder_4 : decode cX2_latestHolder 4 = .ok (.aload_n 0, 1) := by decide +kernel
theorem dX2_latestHolder_5 : decode cX2_latestHolder 5 = .ok (.invokevirtual 71, 3) := by decide +kernel
theorem dX2_latestHolder_8 : decode cX2_latestHolder 8 = .ok (.iaload, 1) := by decide +kernel
theorem dX2_latestHolder_9 : decode cX2_latestHolder 9 = .ok (.ireturn, 1) := by decide +kernel
theorem dX2_holderIn_0 : decode cX2_holderIn 0 = .ok (.aload_n 0, 1) := by decide +kernel
theorem dX2_holderIn_1 : decode cX2_holderIn 1 = .ok (.invokevirtual 71, 3) := by decide +kernel
theorem dX2_holderIn_4 : decode cX2_holderIn 4 = .ok (.istore_n 2, 1) := by decide +kernel
theorem dX2_holderIn_5 : decode cX2_holderIn 5 = .ok (.iload_n 2, 1) := by decide +kernel
theorem dX2_holderIn_6 : decode cX2_holderIn 6 = .ok (.ifCond .le 19, 3) := by decide +kernel
theorem dX2_holderIn_9 : decode cX2_holderIn 9 = .ok (.aload_n 0, 1) := by decide +kernel
theorem dX2_holderIn_10 : decode cX2_holderIn 10 = .ok (.getfield 13, 3) := by decide +kernel
theorem dX2_holderIn_13 : decode cX2_holderIn 13 = .ok (.iload_n 2, 1) := by decide +kernel
theorem dX2_holderIn_14 : decode cX2_holderIn 14 = .ok (.iaload, 1) := by decide +kernel
theorem dX2_holderIn_15 : decode cX2_holderIn 15 = .ok (.iload_n 1, 1) := by decide +kernel
theorem dX2_holderIn_16 : decode cX2_holderIn 16 = .ok (.if_icmp .le 9, 3) := by decide +kernel
theorem dX2_holderIn_19 : decode cX2_holderIn 19 = .ok (.iinc 2 (-1), 3) := by decide +kernel
theorem dX2_holderIn_22 : decode cX2_holderIn 22 = .ok (.goto (-17), 3) := by decide +kernel
theorem dX2_holderIn_25 : decode cX2_holderIn 25 = .ok (.aload_n 0, 1) := by decide +kernel
theorem dX2_holderIn_26 : decode cX2_holderIn 26 = .ok (.getfield 9, 3) := by decide +kernel
theorem dX2_holderIn_29 : decode cX2_holderIn 29 = .ok (.iload_n 2, 1) := by decide +kernel
theorem dX2_holderIn_30 : decode cX2_holderIn 30 = .ok (.iaload, 1) := by decide +kernel
theorem dX2_holderIn_31 : decode cX2_holderIn 31 = .ok (.ireturn, 1) := by decide +kernel
theorem dX2_cameIn_0 : decode cX2_cameIn 0 = .ok (.aload_n 0, 1) := by decide +kernel
theorem dX2_cameIn_1 : decode cX2_cameIn 1 = .ok (.getfield 13, 3) := by decide +kernel
theorem dX2_cameIn_4 : decode cX2_cameIn 4 = .ok (.aload_n 0, 1) := by decide +kernel
theorem dX2_cameIn_5 : decode cX2_cameIn 5 = .ok (.invokevirtual 71, 3) := by decide +kernel
theorem dX2_cameIn_8 : decode cX2_cameIn 8 = .ok (.iaload, 1) := by decide +kernel
theorem dX2_cameIn_9 : decode cX2_cameIn 9 = .ok (.iload_n 1, 1) := by decide +kernel
theorem dX2_cameIn_10 : decode cX2_cameIn 10 = .ok (.if_icmp .ne 7, 3) := by decide +kernel
theorem dX2_cameIn_13 : decode cX2_cameIn 13 = .ok (.iconst 1, 1) := by decide +kernel
theorem dX2_cameIn_14 : decode cX2_cameIn 14 = .ok (.goto 4, 3) := by decide +kernel
theorem dX2_cameIn_17 : decode cX2_cameIn 17 = .ok (.iconst 0, 1) := by decide +kernel
theorem dX2_cameIn_18 : decode cX2_cameIn 18 = .ok (.ireturn, 1) := by decide +kernel
theorem dX2_maySellIn_0 : decode cX2_maySellIn 0 = .ok (.aload_n 0, 1) := by decide +kernel
theorem dX2_maySellIn_1 : decode cX2_maySellIn 1 = .ok (.iload_n 1, 1) := by decide +kernel
theorem dX2_maySellIn_2 : decode cX2_maySellIn 2 = .ok (.invokevirtual 75, 3) := by decide +kernel
theorem dX2_maySellIn_5 : decode cX2_maySellIn 5 = .ok (.ifCond .ne 12, 3) := by decide +kernel
theorem dX2_maySellIn_8 : decode cX2_maySellIn 8 = .ok (.aload_n 0, 1) := by decide +kernel
theorem dX2_maySellIn_9 : decode cX2_maySellIn 9 = .ok (.getfield 16, 3) := by decide +kernel
theorem dX2_maySellIn_12 : decode cX2_maySellIn 12 = .ok (.bipush 6, 2) := by decide +kernel
theorem dX2_maySellIn_14 : decode cX2_maySellIn 14 = .ok (.if_icmp .ge 7, 3) := by decide +kernel
theorem dX2_maySellIn_17 : decode cX2_maySellIn 17 = .ok (.iconst 1, 1) := by decide +kernel
theorem dX2_maySellIn_18 : decode cX2_maySellIn 18 = .ok (.goto 4, 3) := by decide +kernel
theorem dX2_maySellIn_21 : decode cX2_maySellIn 21 = .ok (.iconst 0, 1) := by decide +kernel
theorem dX2_maySellIn_22 : decode cX2_maySellIn 22 = .ok (.ireturn, 1) := by decide +kernel
theorem dX2_handTo_0 : decode cX2_handTo 0 = .ok (.aload_n 0, 1) := by decide +kernel
theorem dX2_handTo_1 : decode cX2_handTo 1 = .ok (.iload_n 2, 1) := by decide +kernel
theorem dX2_handTo_2 : decode cX2_handTo 2 = .ok (.invokevirtual 79, 3) := by decide +kernel
theorem dX2_handTo_5 : decode cX2_handTo 5 = .ok (.ifCond .ne 4, 3) := by decide +kernel
theorem dX2_handTo_8 : decode cX2_handTo 8 = .ok (.return_, 1) := by decide +kernel
theorem dX2_handTo_9 : decode cX2_handTo 9 = .ok (.aload_n 0, 1) := by decide +kernel
theorem dX2_handTo_10 : decode cX2_handTo 10 = .ok (.iload_n 2, 1) := by decide +kernel
theorem dX2_handTo_11 : decode cX2_handTo 11 = .ok (.invokevirtual 75, 3) := by decide +kernel
theorem dX2_handTo_14 : decode cX2_handTo 14 = .ok (.ifCond .ne 13, 3) := by decide +kernel
theorem dX2_handTo_17 : decode cX2_handTo 17 = .ok (.aload_n 0, 1) := by decide +kernel
theorem dX2_handTo_18 : decode cX2_handTo 18 = .ok (.dup, 1) := by decide +kernel
theorem dX2_handTo_19 : decode cX2_handTo 19 = .ok (.getfield 16, 3) := by decide +kernel
theorem dX2_handTo_22 : decode cX2_handTo 22 = .ok (.iconst 1, 1) := by decide +kernel
theorem dX2_handTo_23 : decode cX2_handTo 23 = .ok (.iadd, 1) := by decide +kernel
theorem dX2_handTo_24 : decode cX2_handTo 24 = .ok (.putfield 16, 3) := by decide +kernel
theorem dX2_handTo_27 : decode cX2_handTo 27 = .ok (.aload_n 0, 1) := by decide +kernel
theorem dX2_handTo_28 : decode cX2_handTo 28 = .ok (.getfield 9, 3) := by decide +kernel
theorem dX2_handTo_31 : decode cX2_handTo 31 = .ok (.aload_n 0, 1) := by decide +kernel
theorem dX2_handTo_32 : decode cX2_handTo 32 = .ok (.invokevirtual 71, 3) := by decide +kernel
theorem dX2_handTo_35 : decode cX2_handTo 35 = .ok (.iload_n 1, 1) := by decide +kernel
theorem dX2_handTo_36 : decode cX2_handTo 36 = .ok (.iastore, 1) := by decide +kernel
theorem dX2_handTo_37 : decode cX2_handTo 37 = .ok (.aload_n 0, 1) := by decide +kernel
theorem dX2_handTo_38 : decode cX2_handTo 38 = .ok (.getfield 13, 3) := by decide +kernel
theorem dX2_handTo_41 : decode cX2_handTo 41 = .ok (.aload_n 0, 1) := by decide +kernel
theorem dX2_handTo_42 : decode cX2_handTo 42 = .ok (.invokevirtual 71, 3) := by decide +kernel
theorem dX2_handTo_45 : decode cX2_handTo 45 = .ok (.iload_n 2, 1) := by decide +kernel
theorem dX2_handTo_46 : decode cX2_handTo 46 = .ok (.iastore, 1) := by decide +kernel
theorem dX2_handTo_47 : decode cX2_handTo 47 = .ok (.return_, 1) := by decide +kernel
theorem dX2_comeToRoll_0 : decode cX2_comeToRoll 0 = .ok (.aload_n 0, 1) := by decide +kernel
theorem dX2_comeToRoll_1 : decode cX2_comeToRoll 1 = .ok (.aload_n 0, 1) := by decide +kernel
theorem dX2_comeToRoll_2 : decode cX2_comeToRoll 2 = .ok (.getfield 24, 3) := by decide +kernel
theorem dX2_comeToRoll_5 : decode cX2_comeToRoll 5 = .ok (.ifCond .ne 15, 3) := by decide +kernel
theorem dX2_comeToRoll_8 : decode cX2_comeToRoll 8 = .ok (.aload_n 0, 1) := by decide +kernel
theorem dX2_comeToRoll_9 : decode cX2_comeToRoll 9 = .ok (.getfield 29, 3) := by decide +kernel
theorem dX2_comeToRoll_12 : decode cX2_comeToRoll 12 = .ok (.iload_n 1, 1) := by decide +kernel
theorem dX2_comeToRoll_13 : decode cX2_comeToRoll 13 = .ok (.if_icmp .gt 7, 3) := by decide +kernel
theorem dX2_comeToRoll_16 : decode cX2_comeToRoll 16 = .ok (.iconst 1, 1) := by decide +kernel
theorem dX2_comeToRoll_17 : decode cX2_comeToRoll 17 = .ok (.goto 4, 3) := by decide +kernel
theorem dX2_comeToRoll_20 : decode cX2_comeToRoll 20 = .ok (.iconst 0, 1) := by decide +kernel
theorem dX2_comeToRoll_21 : decode cX2_comeToRoll 21 = .ok (.putfield 35, 3) := by decide +kernel
theorem dX2_comeToRoll_24 : decode cX2_comeToRoll 24 = .ok (.aload_n 0, 1) := by decide +kernel
theorem dX2_comeToRoll_25 : decode cX2_comeToRoll 25 = .ok (.aload_n 0, 1) := by decide +kernel
theorem dX2_comeToRoll_26 : decode cX2_comeToRoll 26 = .ok (.getfield 35, 3) := by decide +kernel
theorem dX2_comeToRoll_29 : decode cX2_comeToRoll 29 = .ok (.ifCond .eq 19, 3) := by decide +kernel
theorem dX2_comeToRoll_32 : decode cX2_comeToRoll 32 = .ok (.lconst 0, 1) := by decide +kernel
theorem dX2_comeToRoll_33 : decode cX2_comeToRoll 33 = .ok (.aload_n 0, 1) := by decide +kernel
theorem dX2_comeToRoll_34 : decode cX2_comeToRoll 34 = .ok (.getfield 32, 3) := by decide +kernel
theorem dX2_comeToRoll_37 : decode cX2_comeToRoll 37 = .ok (.aload_n 0, 1) := by decide +kernel
theorem dX2_comeToRoll_38 : decode cX2_comeToRoll 38 = .ok (.getfield 20, 3) := by decide +kernel
theorem dX2_comeToRoll_41 : decode cX2_comeToRoll 41 = .ok (.lsub, 1) := by decide +kernel
theorem dX2_comeToRoll_42 : decode cX2_comeToRoll 42 = .ok (.invokestatic 82, 3) := by decide +kernel
theorem dX2_comeToRoll_45 : decode cX2_comeToRoll 45 = .ok (.goto 4, 3) := by decide +kernel
theorem dX2_comeToRoll_48 : decode cX2_comeToRoll 48 = .ok (.lconst 0, 1) := by decide +kernel
theorem dX2_comeToRoll_49 : decode cX2_comeToRoll 49 = .ok (.putfield 38, 3) := by decide +kernel
theorem dX2_comeToRoll_52 : decode cX2_comeToRoll 52 = .ok (.return_, 1) := by decide +kernel
theorem dX3_init_0 : decode cX3_init 0 = .ok (.aload_n 0, 1) := by decide +kernel
theorem dX3_init_1 : decode cX3_init 1 = .ok (.invokespecial 1, 3) := by decide +kernel
theorem dX3_init_4 : decode cX3_init 4 = .ok (.aload_n 0, 1) := by decide +kernel
theorem dX3_init_5 : decode cX3_init 5 = .ok (.bipush 30, 2) := by decide +kernel
theorem dX3_init_7 : decode cX3_init 7 = .ok (.anewarray 9, 3) := by decide +kernel
theorem dX3_init_10 : decode cX3_init 10 = .ok (.putfield 11, 3) := by decide +kernel
theorem dX3_init_13 : decode cX3_init 13 = .ok (.aload_n 0, 1) := by decide +kernel
theorem dX3_init_14 : decode cX3_init 14 = .ok (.iconst 0, 1) := by decide +kernel
theorem dX3_init_15 : decode cX3_init 15 = .ok (.putfield 15, 3) := by decide +kernel
theorem dX3_init_18 : decode cX3_init 18 = .ok (.return_, 1) := by decide +kernel
theorem dX3_isFull_0 : decode cX3_isFull 0 = .ok (.aload_n 0, 1) := by decide +kernel
theorem dX3_isFull_1 : decode cX3_isFull 1 = .ok (.getfield 15, 3) := by decide +kernel
theorem dX3_isFull_4 : decode cX3_isFull 4 = .ok (.bipush 30, 2) := by decide +kernel
theorem dX3_isFull_6 : decode cX3_isFull 6 = .ok (.if_icmp .lt 7, 3) := by decide +kernel
theorem dX3_isFull_9 : decode cX3_isFull 9 = .ok (.iconst 1, 1) := by decide +kernel
theorem dX3_isFull_10 : decode cX3_isFull 10 = .ok (.goto 4, 3) := by decide +kernel
theorem dX3_isFull_13 : decode cX3_isFull 13 = .ok (.iconst 0, 1) := by decide +kernel
theorem dX3_isFull_14 : decode cX3_isFull 14 = .ok (.ireturn, 1) := by decide +kernel
theorem dX3_add_0 : decode cX3_add 0 = .ok (.aload_n 0, 1) := by decide +kernel
theorem dX3_add_1 : decode cX3_add 1 = .ok (.invokevirtual 19, 3) := by decide +kernel
theorem dX3_add_4 : decode cX3_add 4 = .ok (.ifCond .eq 4, 3) := by decide +kernel
theorem dX3_add_7 : decode cX3_add 7 = .ok (.return_, 1) := by decide +kernel
theorem dX3_add_8 : decode cX3_add 8 = .ok (.aload_n 0, 1) := by decide +kernel
theorem dX3_add_9 : decode cX3_add 9 = .ok (.getfield 11, 3) := by decide +kernel
theorem dX3_add_12 : decode cX3_add 12 = .ok (.aload_n 0, 1) := by decide +kernel
theorem dX3_add_13 : decode cX3_add 13 = .ok (.getfield 15, 3) := by decide +kernel
theorem dX3_add_16 : decode cX3_add 16 = .ok (.aload_n 1, 1) := by decide +kernel
theorem dX3_add_17 : decode cX3_add 17 = .ok (.aastore, 1) := by decide +kernel
theorem dX3_add_18 : decode cX3_add 18 = .ok (.aload_n 0, 1) := by decide +kernel
theorem dX3_add_19 : decode cX3_add 19 = .ok (.dup, 1) := by decide +kernel
theorem dX3_add_20 : decode cX3_add 20 = .ok (.getfield 15, 3) := by decide +kernel
theorem dX3_add_23 : decode cX3_add 23 = .ok (.iconst 1, 1) := by decide +kernel
theorem dX3_add_24 : decode cX3_add 24 = .ok (.iadd, 1) := by decide +kernel
theorem dX3_add_25 : decode cX3_add 25 = .ok (.putfield 15, 3) := by decide +kernel
theorem dX3_add_28 : decode cX3_add 28 = .ok (.return_, 1) := by decide +kernel
theorem dX3_find_0 : decode cX3_find 0 = .ok (.iload_n 1, 1) := by decide +kernel
theorem dX3_find_1 : decode cX3_find 1 = .ok (.ifCond .lt 26, 3) := by decide +kernel
theorem dX3_find_4 : decode cX3_find 4 = .ok (.iload_n 1, 1) := by decide +kernel
theorem dX3_find_5 : decode cX3_find 5 = .ok (.aload_n 0, 1) := by decide +kernel
theorem dX3_find_6 : decode cX3_find 6 = .ok (.getfield 15, 3) := by decide +kernel
theorem dX3_find_9 : decode cX3_find 9 = .ok (.if_icmp .ge 18, 3) := by decide +kernel
theorem dX3_find_12 : decode cX3_find 12 = .ok (.iload_n 1, 1) := by decide +kernel
theorem dX3_find_13 : decode cX3_find 13 = .ok (.bipush 30, 2) := by decide +kernel
theorem dX3_find_15 : decode cX3_find 15 = .ok (.if_icmp .ge 12, 3) := by decide +kernel
theorem dX3_find_18 : decode cX3_find 18 = .ok (.aload_n 0, 1) := by decide +kernel
theorem dX3_find_19 : decode cX3_find 19 = .ok (.getfield 11, 3) := by decide +kernel
theorem dX3_find_22 : decode cX3_find 22 = .ok (.iload_n 1, 1) := by decide +kernel
theorem dX3_find_23 : decode cX3_find 23 = .ok (.aaload, 1) := by decide +kernel
theorem dX3_find_24 : decode cX3_find 24 = .ok (.goto 4, 3) := by decide +kernel
theorem dX3_find_27 : decode cX3_find 27 = .ok (.aconst_null, 1) := by decide +kernel
theorem dX3_find_28 : decode cX3_find 28 = .ok (.areturn, 1) := by decide +kernel
theorem dX3_countPaidOut_0 : decode cX3_countPaidOut 0 = .ok (.iconst 0, 1) := by decide +kernel
theorem dX3_countPaidOut_1 : decode cX3_countPaidOut 1 = .ok (.istore_n 1, 1) := by decide +kernel
theorem dX3_countPaidOut_2 : decode cX3_countPaidOut 2 = .ok (.iconst 0, 1) := by decide +kernel
theorem dX3_countPaidOut_3 : decode cX3_countPaidOut 3 = .ok (.istore_n 2, 1) := by decide +kernel
theorem dX3_countPaidOut_4 : decode cX3_countPaidOut 4 = .ok (.iload_n 2, 1) := by decide +kernel
theorem dX3_countPaidOut_5 : decode cX3_countPaidOut 5 = .ok (.aload_n 0, 1) := by decide +kernel
theorem dX3_countPaidOut_6 : decode cX3_countPaidOut 6 = .ok (.getfield 15, 3) := by decide +kernel
theorem dX3_countPaidOut_9 : decode cX3_countPaidOut 9 = .ok (.if_icmp .ge 29, 3) := by decide +kernel
theorem dX3_countPaidOut_12 : decode cX3_countPaidOut 12 = .ok (.aload_n 0, 1) := by decide +kernel
theorem dX3_countPaidOut_13 : decode cX3_countPaidOut 13 = .ok (.iload_n 2, 1) := by decide +kernel
theorem dX3_countPaidOut_14 : decode cX3_countPaidOut 14 = .ok (.invokevirtual 23, 3) := by decide +kernel
theorem dX3_countPaidOut_17 : decode cX3_countPaidOut 17 = .ok (.astore_n 3, 1) := by decide +kernel
theorem dX3_countPaidOut_18 : decode cX3_countPaidOut 18 = .ok (.aload_n 3, 1) := by decide +kernel
theorem dX3_countPaidOut_19 : decode cX3_countPaidOut 19 = .ok (.ifnull 13, 3) := by decide +kernel
theorem dX3_countPaidOut_22 : decode cX3_countPaidOut 22 = .ok (.aload_n 3, 1) := by decide +kernel
theorem dX3_countPaidOut_23 : decode cX3_countPaidOut 23 = .ok (.getfield 27, 3) := by decide +kernel
theorem dX3_countPaidOut_26 : decode cX3_countPaidOut 26 = .ok (.ifCond .eq 6, 3) := by decide +kernel
theorem dX3_countPaidOut_29 : decode cX3_countPaidOut 29 = .ok (.iinc 1 1, 3) := by decide +kernel
theorem dX3_countPaidOut_32 : decode cX3_countPaidOut 32 = .ok (.iinc 2 1, 3) := by decide +kernel
theorem dX3_countPaidOut_35 : decode cX3_countPaidOut 35 = .ok (.goto (-31), 3) := by decide +kernel
theorem dX3_countPaidOut_38 : decode cX3_countPaidOut 38 = .ok (.iload_n 1, 1) := by decide +kernel
theorem dX3_countPaidOut_39 : decode cX3_countPaidOut 39 = .ok (.ireturn, 1) := by decide +kernel
theorem dX4_init_0 : decode cX4_init 0 = .ok (.aload_n 0, 1) := by decide +kernel
theorem dX4_init_1 : decode cX4_init 1 = .ok (.invokespecial 3, 3) := by decide +kernel
theorem dX4_init_4 : decode cX4_init 4 = .ok (.aload_n 0, 1) := by decide +kernel
theorem dX4_init_5 : decode cX4_init 5 = .ok (.aload_n 1, 1) := by decide +kernel
theorem dX4_init_6 : decode cX4_init 6 = .ok (.putfield 9, 3) := by decide +kernel
theorem dX4_init_9 : decode cX4_init 9 = .ok (.aload_n 0, 1) := by decide +kernel
theorem dX4_init_10 : decode cX4_init 10 = .ok (.aload_n 2, 1) := by decide +kernel
theorem dX4_init_11 : decode cX4_init 11 = .ok (.putfield 15, 3) := by decide +kernel
theorem dX4_init_14 : decode cX4_init 14 = .ok (.return_, 1) := by decide +kernel
theorem dX4_fallRow_0 : decode cX4_fallRow 0 = .ok (.aload_n 1, 1) := by decide +kernel
theorem dX4_fallRow_1 : decode cX4_fallRow 1 = .ok (.ifnull 11, 3) := by decide +kernel
theorem dX4_fallRow_4 : decode cX4_fallRow 4 = .ok (.iload_n 2, 1) := by decide +kernel
theorem dX4_fallRow_5 : decode cX4_fallRow 5 = .ok (.aload_n 1, 1) := by decide +kernel
theorem dX4_fallRow_6 : decode cX4_fallRow 6 = .ok (.getfield 19, 3) := by decide +kernel
theorem dX4_fallRow_9 : decode cX4_fallRow 9 = .ok (.if_icmp .ge 5, 3) := by decide +kernel
theorem dX4_fallRow_12 : decode cX4_fallRow 12 = .ok (.iconst (-1), 1) := by decide +kernel
theorem dX4_fallRow_13 : decode cX4_fallRow 13 = .ok (.ireturn, 1) := by decide +kernel
theorem dX4_fallRow_14 : decode cX4_fallRow 14 = .ok (.aload_n 0, 1) := by decide +kernel
theorem dX4_fallRow_15 : decode cX4_fallRow 15 = .ok (.aload_n 1, 1) := by decide +kernel
theorem dX4_fallRow_16 : decode cX4_fallRow 16 = .ok (.getfield 25, 3) := by decide +kernel
theorem dX4_fallRow_19 : decode cX4_fallRow 19 = .ok (.aload_n 1, 1) := by decide +kernel
theorem dX4_fallRow_20 : decode cX4_fallRow 20 = .ok (.getfield 19, 3) := by decide +kernel
theorem dX4_fallRow_23 : decode cX4_fallRow 23 = .ok (.iload_n 2, 1) := by decide +kernel
theorem dX4_fallRow_24 : decode cX4_fallRow 24 = .ok (.invokevirtual 28, 3) := by decide +kernel
theorem dX4_fallRow_27 : decode cX4_fallRow 27 = .ok (.istore_n 3, 1) := by decide +kernel
theorem dX4_fallRow_28 : decode cX4_fallRow 28 = .ok (.aload_n 1, 1) := by decide +kernel
theorem dX4_fallRow_29 : decode cX4_fallRow 29 = .ok (.getfield 32, 3) := by decide +kernel
theorem dX4_fallRow_32 : decode cX4_fallRow 32 = .ok (.iconst 1, 1) := by decide +kernel
theorem dX4_fallRow_33 : decode cX4_fallRow 33 = .ok (.if_icmp .ne 24, 3) := by decide +kernel
theorem dX4_fallRow_36 : decode cX4_fallRow 36 = .ok (.aload_n 0, 1) := by decide +kernel
theorem dX4_fallRow_37 : decode cX4_fallRow 37 = .ok (.iload_n 3, 1) := by decide +kernel
theorem dX4_fallRow_38 : decode cX4_fallRow 38 = .ok (.aload_n 0, 1) := by decide +kernel
theorem dX4_fallRow_39 : decode cX4_fallRow 39 = .ok (.aload_n 1, 1) := by decide +kernel
theorem dX4_fallRow_40 : decode cX4_fallRow 40 = .ok (.getfield 35, 3) := by decide +kernel
theorem dX4_fallRow_43 : decode cX4_fallRow 43 = .ok (.aload_n 1, 1) := by decide +kernel
theorem dX4_fallRow_44 : decode cX4_fallRow 44 = .ok (.getfield 19, 3) := by decide +kernel
theorem dX4_fallRow_47 : decode cX4_fallRow 47 = .ok (.iload_n 2, 1) := by decide +kernel
theorem dX4_fallRow_48 : decode cX4_fallRow 48 = .ok (.invokevirtual 28, 3) := by decide +kernel
theorem dX4_fallRow_51 : decode cX4_fallRow 51 = .ok (.invokevirtual 38, 3) := by decide +kernel
theorem dX4_fallRow_54 : decode cX4_fallRow 54 = .ok (.goto 4, 3) := by decide +kernel
theorem dX4_fallRow_57 : decode cX4_fallRow 57 = .ok (.iload_n 3, 1) := by decide +kernel
theorem dX4_fallRow_58 : decode cX4_fallRow 58 = .ok (.ireturn, 1) := by decide +kernel
theorem dX4_rowFor_0 : decode cX4_rowFor 0 = .ok (.aload_n 0, 1) := by decide +kernel
theorem dX4_rowFor_1 : decode cX4_rowFor 1 = .ok (.getfield 15, 3) := by decide +kernel
theorem dX4_rowFor_4 : decode cX4_rowFor 4 = .ok (.iload_n 1, 1) := by decide +kernel
theorem dX4_rowFor_5 : decode cX4_rowFor 5 = .ok (.iload_n 3, 1) := by decide +kernel
theorem dX4_rowFor_6 : decode cX4_rowFor 6 = .ok (.invokevirtual 42, 3) := by decide +kernel
theorem dX4_rowFor_9 : decode cX4_rowFor 9 = .ok (.istore 4, 2) := by decide +kernel
theorem dX4_rowFor_11 : decode cX4_rowFor 11 = .ok (.iload 4, 2) := by decide +kernel
theorem dX4_rowFor_13 : decode cX4_rowFor 13 = .ok (.iconst (-1), 1) := by decide +kernel
theorem dX4_rowFor_14 : decode cX4_rowFor 14 = .ok (.if_icmp .eq 20, 3) := by decide +kernel
theorem dX4_rowFor_17 : decode cX4_rowFor 17 = .ok (.aload_n 0, 1) := by decide +kernel
theorem dX4_rowFor_18 : decode cX4_rowFor 18 = .ok (.getfield 15, 3) := by decide +kernel
theorem dX4_rowFor_21 : decode cX4_rowFor 21 = .ok (.iload 4, 2) := by decide +kernel
theorem dX4_rowFor_23 : decode cX4_rowFor 23 = .ok (.invokevirtual 47, 3) := by decide +kernel
theorem dX4_rowFor_26 : decode cX4_rowFor 26 = .ok (.iload_n 2, 1) := by decide +kernel
theorem dX4_rowFor_27 : decode cX4_rowFor 27 = .ok (.if_icmp .ge 7, 3) := by decide +kernel
theorem dX4_rowFor_30 : decode cX4_rowFor 30 = .ok (.iconst (-1), 1) := by decide +kernel
theorem dX4_rowFor_31 : decode cX4_rowFor 31 = .ok (.goto 5, 3) := by decide +kernel
theorem dX4_rowFor_34 : decode cX4_rowFor 34 = .ok (.iload 4, 2) := by decide +kernel
theorem dX4_rowFor_36 : decode cX4_rowFor 36 = .ok (.ireturn, 1) := by decide +kernel
theorem dX4_ahead_0 : decode cX4_ahead 0 = .ok (.iload_n 1, 1) := by decide +kernel
theorem dX4_ahead_1 : decode cX4_ahead 1 = .ok (.iconst (-1), 1) := by decide +kernel
theorem dX4_ahead_2 : decode cX4_ahead 2 = .ok (.if_icmp .eq 8, 3) := by decide +kernel
theorem dX4_ahead_5 : decode cX4_ahead 5 = .ok (.iload_n 2, 1) := by decide +kernel
theorem dX4_ahead_6 : decode cX4_ahead 6 = .ok (.iconst (-1), 1) := by decide +kernel
theorem dX4_ahead_7 : decode cX4_ahead 7 = .ok (.if_icmp .ne 14, 3) := by decide +kernel
theorem dX4_ahead_10 : decode cX4_ahead 10 = .ok (.iload_n 1, 1) := by decide +kernel
theorem dX4_ahead_11 : decode cX4_ahead 11 = .ok (.iconst (-1), 1) := by decide +kernel
theorem dX4_ahead_12 : decode cX4_ahead 12 = .ok (.if_icmp .ne 7, 3) := by decide +kernel
theorem dX4_ahead_15 : decode cX4_ahead 15 = .ok (.iload_n 2, 1) := by decide +kernel
theorem dX4_ahead_16 : decode cX4_ahead 16 = .ok (.goto 4, 3) := by decide +kernel
theorem dX4_ahead_19 : decode cX4_ahead 19 = .ok (.iload_n 1, 1) := by decide +kernel
theorem dX4_ahead_20 : decode cX4_ahead 20 = .ok (.ireturn, 1) := by decide +kernel
theorem dX4_ahead_21 : decode cX4_ahead 21 = .ok (.aload_n 0, 1) := by decide +kernel
theorem dX4_ahead_22 : decode cX4_ahead 22 = .ok (.getfield 15, 3) := by decide +kernel
theorem dX4_ahead_25 : decode cX4_ahead 25 = .ok (.iload_n 1, 1) := by decide +kernel
theorem dX4_ahead_26 : decode cX4_ahead 26 = .ok (.invokevirtual 51, 3) := by decide +kernel
theorem dX4_ahead_29 : decode cX4_ahead 29 = .ok (.ifCond .ne 7, 3) := by decide +kernel
theorem dX4_ahead_32 : decode cX4_ahead 32 = .ok (.iconst 1, 1) := by decide +kernel
theorem dX4_ahead_33 : decode cX4_ahead 33 = .ok (.goto 4, 3) := by decide +kernel
theorem dX4_ahead_36 : decode cX4_ahead 36 = .ok (.iconst 0, 1) := by decide +kernel
theorem dX4_ahead_37 : decode cX4_ahead 37 = .ok (.istore_n 3, 1) := by decide +kernel
theorem dX4_ahead_38 : decode cX4_ahead 38 = .ok (.aload_n 0, 1) := by decide +kernel
theorem dX4_ahead_39 : decode cX4_ahead 39 = .ok (.getfield 15, 3) := by decide +kernel
theorem dX4_ahead_42 : decode cX4_ahead 42 = .ok (.iload_n 2, 1) := by decide +kernel
theorem dX4_ahead_43 : decode cX4_ahead 43 = .ok (.invokevirtual 51, 3) := by decide +kernel
theorem dX4_ahead_46 : decode cX4_ahead 46 = .ok (.ifCond .ne 7, 3) := by decide +kernel
theorem dX4_ahead_49 : decode cX4_ahead 49 = .ok (.iconst 1, 1) := by decide +kernel
theorem dX4_ahead_50 : decode cX4_ahead 50 = .ok (.goto 4, 3) := by decide +kernel
theorem dX4_ahead_53 : decode cX4_ahead 53 = .ok (.iconst 0, 1) := by decide +kernel
theorem dX4_ahead_54 : decode cX4_ahead 54 = .ok (.istore 4, 2) := by decide +kernel
theorem dX4_ahead_56 : decode cX4_ahead 56 = .ok (.iload_n 3, 1) := by decide +kernel
theorem dX4_ahead_57 : decode cX4_ahead 57 = .ok (.iload 4, 2) := by decide +kernel
theorem dX4_ahead_59 : decode cX4_ahead 59 = .ok (.if_icmp .eq 13, 3) := by decide +kernel
theorem dX4_ahead_62 : decode cX4_ahead 62 = .ok (.iload_n 3, 1) := by decide +kernel
theorem dX4_ahead_63 : decode cX4_ahead 63 = .ok (.ifCond .eq 7, 3) := by decide +kernel
theorem dX4_ahead_66 : decode cX4_ahead 66 = .ok (.iload_n 1, 1) := by decide +kernel
theorem dX4_ahead_67 : decode cX4_ahead 67 = .ok (.goto 4, 3) := by decide +kernel
theorem dX4_ahead_70 : decode cX4_ahead 70 = .ok (.iload_n 2, 1) := by decide +kernel
theorem dX4_ahead_71 : decode cX4_ahead 71 = .ok (.ireturn, 1) := by decide +kernel
theorem dX4_ahead_72 : decode cX4_ahead 72 = .ok (.aload_n 0, 1) := by decide +kernel
theorem dX4_ahead_73 : decode cX4_ahead 73 = .ok (.getfield 15, 3) := by decide +kernel
theorem dX4_ahead_76 : decode cX4_ahead 76 = .ok (.iload_n 2, 1) := by decide +kernel
theorem dX4_ahead_77 : decode cX4_ahead 77 = .ok (.invokevirtual 47, 3) := by decide +kernel
theorem dX4_ahead_80 : decode cX4_ahead 80 = .ok (.aload_n 0, 1) := by decide +kernel
theorem dX4_ahead_81 : decode cX4_ahead 81 = .ok (.getfield 15, 3) := by decide +kernel
theorem dX4_ahead_84 : decode cX4_ahead 84 = .ok (.iload_n 1, 1) := by decide +kernel
theorem dX4_ahead_85 : decode cX4_ahead 85 = .ok (.invokevirtual 47, 3) := by decide +kernel
theorem dX4_ahead_88 : decode cX4_ahead 88 = .ok (.if_icmp .ge 7, 3) := by decide +kernel
theorem dX4_ahead_91 : decode cX4_ahead 91 = .ok (.iload_n 2, 1) := by decide +kernel
theorem dX4_ahead_92 : decode cX4_ahead 92 = .ok (.goto 4, 3) := by decide +kernel
theorem dX4_ahead_95 : decode cX4_ahead 95 = .ok (.iload_n 1, 1) := by decide +kernel
theorem dX4_ahead_96 : decode cX4_ahead 96 = .ok (.ireturn, 1) := by decide +kernel
theorem dX4_dueMonth_0 : decode cX4_dueMonth 0 = .ok (.aload_n 0, 1) := by decide +kernel
theorem dX4_dueMonth_1 : decode cX4_dueMonth 1 = .ok (.getfield 15, 3) := by decide +kernel
theorem dX4_dueMonth_4 : decode cX4_dueMonth 4 = .ok (.iload_n 1, 1) := by decide +kernel
theorem dX4_dueMonth_5 : decode cX4_dueMonth 5 = .ok (.invokevirtual 47, 3) := by decide +kernel
theorem dX4_dueMonth_8 : decode cX4_dueMonth 8 = .ok (.istore_n 3, 1) := by decide +kernel
theorem dX4_dueMonth_9 : decode cX4_dueMonth 9 = .ok (.iload_n 3, 1) := by decide +kernel
theorem dX4_dueMonth_10 : decode cX4_dueMonth 10 = .ok (.aload_n 0, 1) := by decide +kernel
theorem dX4_dueMonth_11 : decode cX4_dueMonth 11 = .ok (.getfield 9, 3) := by decide +kernel
theorem dX4_dueMonth_14 : decode cX4_dueMonth 14 = .ok (.iconst 0, 1) := by decide +kernel
theorem dX4_dueMonth_15 : decode cX4_dueMonth 15 = .ok (.iload_n 3, 1) := by decide +kernel
theorem dX4_dueMonth_16 : decode cX4_dueMonth 16 = .ok (.iload_n 2, 1) := by decide +kernel
theorem dX4_dueMonth_17 : decode cX4_dueMonth 17 = .ok (.invokevirtual 54, 3) := by decide +kernel
theorem dX4_dueMonth_20 : decode cX4_dueMonth 20 = .ok (.iadd, 1) := by decide +kernel
theorem dX4_dueMonth_21 : decode cX4_dueMonth 21 = .ok (.ireturn, 1) := by decide +kernel
theorem dX4_dueSum_0 : decode cX4_dueSum 0 = .ok (.aload_n 0, 1) := by decide +kernel
theorem dX4_dueSum_1 : decode cX4_dueSum 1 = .ok (.aload_n 1, 1) := by decide +kernel
theorem dX4_dueSum_2 : decode cX4_dueSum 2 = .ok (.iload_n 2, 1) := by decide +kernel
theorem dX4_dueSum_3 : decode cX4_dueSum 3 = .ok (.iload_n 3, 1) := by decide +kernel
theorem dX4_dueSum_4 : decode cX4_dueSum 4 = .ok (.invokevirtual 59, 3) := by decide +kernel
theorem dX4_dueSum_7 : decode cX4_dueSum 7 = .ok (.lstore 4, 2) := by decide +kernel
theorem dX4_dueSum_9 : decode cX4_dueSum 9 = .ok (.lload 4, 2) := by decide +kernel
theorem dX4_dueSum_11 : decode cX4_dueSum 11 = .ok (.lload 4, 2) := by decide +kernel
theorem dX4_dueSum_13 : decode cX4_dueSum 13 = .ok (.aload_n 0, 1) := by decide +kernel
theorem dX4_dueSum_14 : decode cX4_dueSum 14 = .ok (.getfield 9, 3) := by decide +kernel
theorem dX4_dueSum_17 : decode cX4_dueSum 17 = .ok (.iconst 4, 1) := by decide +kernel
theorem dX4_dueSum_18 : decode cX4_dueSum 18 = .ok (.aload_n 0, 1) := by decide +kernel
theorem dX4_dueSum_19 : decode cX4_dueSum 19 = .ok (.iload_n 2, 1) := by decide +kernel
theorem dX4_dueSum_20 : decode cX4_dueSum 20 = .ok (.iload_n 3, 1) := by decide +kernel
theorem dX4_dueSum_21 : decode cX4_dueSum 21 = .ok (.invokevirtual 63, 3) := by decide +kernel
theorem dX4_dueSum_24 : decode cX4_dueSum 24 = .ok (.iload_n 3, 1) := by decide +kernel
theorem dX4_dueSum_25 : decode cX4_dueSum 25 = .ok (.invokevirtual 54, 3) := by decide +kernel
theorem dX4_dueSum_28 : decode cX4_dueSum 28 = .ok (.invokestatic 66, 3) := by decide +kernel
theorem dX4_dueSum_31 : decode cX4_dueSum 31 = .ok (.lsub, 1) := by decide +kernel
theorem dX4_dueSum_32 : decode cX4_dueSum 32 = .ok (.lreturn, 1) := by decide +kernel
theorem dX4_beforeCut_0 : decode cX4_beforeCut 0 = .ok (.aload_n 1, 1) := by decide +kernel
theorem dX4_beforeCut_1 : decode cX4_beforeCut 1 = .ok (.ifnonnull 5, 3) := by decide +kernel
theorem dX4_beforeCut_4 : decode cX4_beforeCut 4 = .ok (.lconst 0, 1) := by decide +kernel
theorem dX4_beforeCut_5 : decode cX4_beforeCut 5 = .ok (.lreturn, 1) := by decide +kernel
theorem dX4_beforeCut_6 : decode cX4_beforeCut 6 = .ok (.aload_n 0, 1) := by decide +kernel
theorem dX4_beforeCut_7 : decode cX4_beforeCut 7 = .ok (.getfield 15, 3) := by decide +kernel
theorem dX4_beforeCut_10 : decode cX4_beforeCut 10 = .ok (.iload_n 2, 1) := by decide +kernel
theorem dX4_beforeCut_11 : decode cX4_beforeCut 11 = .ok (.invokevirtual 51, 3) := by decide +kernel
theorem dX4_beforeCut_14 : decode cX4_beforeCut 14 = .ok (.istore 4, 2) := by decide +kernel
theorem dX4_beforeCut_16 : decode cX4_beforeCut 16 = .ok (.aload_n 0, 1) := by decide +kernel
theorem dX4_beforeCut_17 : decode cX4_beforeCut 17 = .ok (.getfield 15, 3) := by decide +kernel
theorem dX4_beforeCut_20 : decode cX4_beforeCut 20 = .ok (.iload_n 2, 1) := by decide +kernel
theorem dX4_beforeCut_21 : decode cX4_beforeCut 21 = .ok (.invokevirtual 47, 3) := by decide +kernel
theorem dX4_beforeCut_24 : decode cX4_beforeCut 24 = .ok (.istore 5, 2) := by decide +kernel
theorem dX4_beforeCut_26 : decode cX4_beforeCut 26 = .ok (.iload 4, 2) := by decide +kernel
theorem dX4_beforeCut_28 : decode cX4_beforeCut 28 = .ok (.iconst 2, 1) := by decide +kernel
theorem dX4_beforeCut_29 : decode cX4_beforeCut 29 = .ok (.if_icmp .ne 23, 3) := by decide +kernel
theorem dX4_beforeCut_32 : decode cX4_beforeCut 32 = .ok (.aload_n 1, 1) := by decide +kernel
theorem dX4_beforeCut_33 : decode cX4_beforeCut 33 = .ok (.getfield 70, 3) := by decide +kernel
theorem dX4_beforeCut_36 : decode cX4_beforeCut 36 = .ok (.i2l, 1) := by decide +kernel
theorem dX4_beforeCut_37 : decode cX4_beforeCut 37 = .ok (.aload_n 0, 1) := by decide +kernel
theorem dX4_beforeCut_38 : decode cX4_beforeCut 38 = .ok (.getfield 9, 3) := by decide +kernel
theorem dX4_beforeCut_41 : decode cX4_beforeCut 41 = .ok (.iconst 1, 1) := by decide +kernel
theorem dX4_beforeCut_42 : decode cX4_beforeCut 42 = .ok (.iload 5, 2) := by decide +kernel
theorem dX4_beforeCut_44 : decode cX4_beforeCut 44 = .ok (.iload_n 3, 1) := by decide +kernel
theorem dX4_beforeCut_45 : decode cX4_beforeCut 45 = .ok (.invokevirtual 54, 3) := by decide +kernel
theorem dX4_beforeCut_48 : decode cX4_beforeCut 48 = .ok (.invokestatic 66, 3) := by decide +kernel
theorem dX4_beforeCut_51 : decode cX4_beforeCut 51 = .ok (.lreturn, 1) := by decide +kernel
theorem dX4_beforeCut_52 : decode cX4_beforeCut 52 = .ok (.iload 4, 2) := by decide +kernel
theorem dX4_beforeCut_54 : decode cX4_beforeCut 54 = .ok (.iconst 1, 1) := by decide +kernel
theorem dX4_beforeCut_55 : decode cX4_beforeCut 55 = .ok (.if_icmp .ne 30, 3) := by decide +kernel
theorem dX4_beforeCut_58 : decode cX4_beforeCut 58 = .ok (.aload_n 1, 1) := by decide +kernel
theorem dX4_beforeCut_59 : decode cX4_beforeCut 59 = .ok (.getfield 32, 3) := by decide +kernel
theorem dX4_beforeCut_62 : decode cX4_beforeCut 62 = .ok (.iconst 2, 1) := by decide +kernel
theorem dX4_beforeCut_63 : decode cX4_beforeCut 63 = .ok (.if_icmp .eq 22, 3) := by decide +kernel
theorem dX4_beforeCut_66 : decode cX4_beforeCut 66 = .ok (.aload_n 1, 1) := by decide +kernel
theorem dX4_beforeCut_67 : decode cX4_beforeCut 67 = .ok (.getfield 73, 3) := by decide +kernel
theorem dX4_beforeCut_70 : decode cX4_beforeCut 70 = .ok (.aload_n 0, 1) := by decide +kernel
theorem dX4_beforeCut_71 : decode cX4_beforeCut 71 = .ok (.getfield 9, 3) := by decide +kernel
theorem dX4_beforeCut_74 : decode cX4_beforeCut 74 = .ok (.iconst 2, 1) := by decide +kernel
theorem dX4_beforeCut_75 : decode cX4_beforeCut 75 = .ok (.iload 5, 2) := by decide +kernel
theorem dX4_beforeCut_77 : decode cX4_beforeCut 77 = .ok (.iload_n 3, 1) := by decide +kernel
theorem dX4_beforeCut_78 : decode cX4_beforeCut 78 = .ok (.invokevirtual 54, 3) := by decide +kernel
theorem dX4_beforeCut_81 : decode cX4_beforeCut 81 = .ok (.invokestatic 66, 3) := by decide +kernel
theorem dX4_beforeCut_84 : decode cX4_beforeCut 84 = .ok (.lreturn, 1) := by decide +kernel
theorem dX4_beforeCut_85 : decode cX4_beforeCut 85 = .ok (.iload 5, 2) := by decide +kernel
theorem dX4_beforeCut_87 : decode cX4_beforeCut 87 = .ok (.aload_n 1, 1) := by decide +kernel
theorem dX4_beforeCut_88 : decode cX4_beforeCut 88 = .ok (.getfield 77, 3) := by decide +kernel
theorem dX4_beforeCut_91 : decode cX4_beforeCut 91 = .ok (.if_icmp .lt 8, 3) := by decide +kernel
theorem dX4_beforeCut_94 : decode cX4_beforeCut 94 = .ok (.aload_n 1, 1) := by decide +kernel
theorem dX4_beforeCut_95 : decode cX4_beforeCut 95 = .ok (.getfield 73, 3) := by decide +kernel
theorem dX4_beforeCut_98 : decode cX4_beforeCut 98 = .ok (.lreturn, 1) := by decide +kernel
theorem dX4_beforeCut_99 : decode cX4_beforeCut 99 = .ok (.aload_n 1, 1) := by decide +kernel
theorem dX4_beforeCut_100 : decode cX4_beforeCut 100 = .ok (.getfield 73, 3) := by decide +kernel
theorem dX4_beforeCut_103 : decode cX4_beforeCut 103 = .ok (.aload_n 0, 1) := by decide +kernel
theorem dX4_beforeCut_104 : decode cX4_beforeCut 104 = .ok (.getfield 9, 3) := by decide +kernel
theorem dX4_beforeCut_107 : decode cX4_beforeCut 107 = .ok (.iconst 3, 1) := by decide +kernel
theorem dX4_beforeCut_108 : decode cX4_beforeCut 108 = .ok (.iload 5, 2) := by decide +kernel
theorem dX4_beforeCut_110 : decode cX4_beforeCut 110 = .ok (.iload_n 3, 1) := by decide +kernel
theorem dX4_beforeCut_111 : decode cX4_beforeCut 111 = .ok (.invokevirtual 54, 3) := by decide +kernel
theorem dX4_beforeCut_114 : decode cX4_beforeCut 114 = .ok (.invokestatic 66, 3) := by decide +kernel
theorem dX4_beforeCut_117 : decode cX4_beforeCut 117 = .ok (.lreturn, 1) := by decide +kernel
theorem dX5_init_0 : decode cX5_init 0 = .ok (.aload_n 0, 1) := by decide +kernel
theorem dX5_init_1 : decode cX5_init 1 = .ok (.invokespecial 3, 3) := by decide +kernel
theorem dX5_init_4 : decode cX5_init 4 = .ok (.aload_n 0, 1) := by decide +kernel
theorem dX5_init_5 : decode cX5_init 5 = .ok (.bipush 6, 2) := by decide +kernel
theorem dX5_init_7 : decode cX5_init 7 = .ok (.newarray .int, 2) := by decide +kernel
theorem dX5_init_9 : decode cX5_init 9 = .ok (.putfield 9, 3) := by decide +kernel
theorem dX5_init_12 : decode cX5_init 12 = .ok (.return_, 1) := by decide +kernel
theorem dX5_answer_0 : decode cX5_answer 0 = .ok (.iload_n 1, 1) := by decide +kernel
theorem dX5_answer_1 : decode cX5_answer 1 = .ok (.iconst 1, 1) := by decide +kernel
theorem dX5_answer_2 : decode cX5_answer 2 = .ok (.iconst 5, 1) := by decide +kernel
theorem dX5_answer_3 : decode cX5_answer 3 = .ok (.invokestatic 15, 3) := by decide +kernel
theorem dX5_answer_6 : decode cX5_answer 6 = .ok (.ifCond .eq 13, 3) := by decide +kernel
theorem dX5_answer_9 : decode cX5_answer 9 = .ok (.aload_n 0, 1) := by decide +kernel
theorem dX5_answer_10 : decode cX5_answer 10 = .ok (.getfield 9, 3) := by decide +kernel
theorem dX5_answer_13 : decode cX5_answer 13 = .ok (.iload_n 1, 1) := by decide +kernel
theorem dX5_answer_14 : decode cX5_answer 14 = .ok (.dup2, 1) := by decide +kernel
theorem dX5_answer_15 : decode cX5_answer 15 = .ok (.iaload, 1) := by decide +kernel
theorem dX5_answer_16 : decode cX5_answer 16 = .ok (.iconst 1, 1) := by decide +kernel
theorem dX5_answer_17 : decode cX5_answer 17 = .ok (.iadd, 1) := by decide +kernel
theorem dX5_answer_18 : decode cX5_answer 18 = .ok (.iastore, 1) := by decide +kernel
theorem dX5_answer_19 : decode cX5_answer 19 = .ok (.ldc2_w 19, 3) := by decide +kernel
theorem dX5_answer_22 : decode cX5_answer 22 = .ok (.iload_n 1, 1) := by decide +kernel
theorem dX5_answer_23 : decode cX5_answer 23 = .ok (.i2l, 1) := by decide +kernel
theorem dX5_answer_24 : decode cX5_answer 24 = .ok (.lsub, 1) := by decide +kernel
theorem dX5_answer_25 : decode cX5_answer 25 = .ok (.lreturn, 1) := by decide +kernel
theorem dX6_init_0 : decode cX6_init 0 = .ok (.aload_n 0, 1) := by decide +kernel
theorem dX6_init_1 : decode cX6_init 1 = .ok (.invokespecial 1, 3) := by decide +kernel
theorem dX6_init_4 : decode cX6_init 4 = .ok (.aload_n 0, 1) := by decide +kernel
theorem dX6_init_5 : decode cX6_init 5 = .ok (.bipush 21, 2) := by decide +kernel
theorem dX6_init_7 : decode cX6_init 7 = .ok (.newarray .int, 2) := by decide +kernel
theorem dX6_init_9 : decode cX6_init 9 = .ok (.putfield 9, 3) := by decide +kernel
theorem dX6_init_12 : decode cX6_init 12 = .ok (.aload_n 0, 1) := by decide +kernel
theorem dX6_init_13 : decode cX6_init 13 = .ok (.bipush 21, 2) := by decide +kernel
theorem dX6_init_15 : decode cX6_init 15 = .ok (.newarray .int, 2) := by decide +kernel
theorem dX6_init_17 : decode cX6_init 17 = .ok (.putfield 13, 3) := by decide +kernel
theorem dX6_init_20 : decode cX6_init 20 = .ok (.aload_n 0, 1) := by decide +kernel
theorem dX6_init_21 : decode cX6_init 21 = .ok (.bipush 21, 2) := by decide +kernel
theorem dX6_init_23 : decode cX6_init 23 = .ok (.newarray .int, 2) := by decide +kernel
theorem dX6_init_25 : decode cX6_init 25 = .ok (.putfield 16, 3) := by decide +kernel
theorem dX6_init_28 : decode cX6_init 28 = .ok (.return_, 1) := by decide +kernel
theorem dX6_isAge_0 : decode cX6_isAge 0 = .ok (.iload_n 0, 1) := by decide +kernel
theorem dX6_isAge_1 : decode cX6_isAge 1 = .ok (.iconst 0, 1) := by decide +kernel
theorem dX6_isAge_2 : decode cX6_isAge 2 = .ok (.bipush 20, 2) := by decide +kernel
theorem dX6_isAge_4 : decode cX6_isAge 4 = .ok (.invokestatic 19, 3) := by decide +kernel
theorem dX6_isAge_7 : decode cX6_isAge 7 = .ok (.ireturn, 1) := by decide +kernel
theorem dX6_isSpan_0 : decode cX6_isSpan 0 = .ok (.iload_n 0, 1) := by decide +kernel
theorem dX6_isSpan_1 : decode cX6_isSpan 1 = .ok (.invokestatic 25, 3) := by decide +kernel
theorem dX6_isSpan_4 : decode cX6_isSpan 4 = .ok (.ifCond .eq 17, 3) := by decide +kernel
theorem dX6_isSpan_7 : decode cX6_isSpan 7 = .ok (.iload_n 1, 1) := by decide +kernel
theorem dX6_isSpan_8 : decode cX6_isSpan 8 = .ok (.iload_n 0, 1) := by decide +kernel
theorem dX6_isSpan_9 : decode cX6_isSpan 9 = .ok (.bipush 21, 2) := by decide +kernel
theorem dX6_isSpan_11 : decode cX6_isSpan 11 = .ok (.invokestatic 19, 3) := by decide +kernel
theorem dX6_isSpan_14 : decode cX6_isSpan 14 = .ok (.ifCond .eq 7, 3) := by decide +kernel
theorem dX6_isSpan_17 : decode cX6_isSpan 17 = .ok (.iconst 1, 1) := by decide +kernel
theorem dX6_isSpan_18 : decode cX6_isSpan 18 = .ok (.goto 4, 3) := by decide +kernel
theorem dX6_isSpan_21 : decode cX6_isSpan 21 = .ok (.iconst 0, 1) := by decide +kernel
theorem dX6_isSpan_22 : decode cX6_isSpan 22 = .ok (.ireturn, 1) := by decide +kernel
theorem dX6_mayGo_0 : decode cX6_mayGo 0 = .ok (.iload_n 0, 1) := by decide +kernel
theorem dX6_mayGo_1 : decode cX6_mayGo 1 = .ok (.ifCond .lt 30, 3) := by decide +kernel
theorem dX6_mayGo_4 : decode cX6_mayGo 4 = .ok (.iload_n 1, 1) := by decide +kernel
theorem dX6_mayGo_5 : decode cX6_mayGo 5 = .ok (.ifCond .lt 26, 3) := by decide +kernel
theorem dX6_mayGo_8 : decode cX6_mayGo 8 = .ok (.iload_n 2, 1) := by decide +kernel
theorem dX6_mayGo_9 : decode cX6_mayGo 9 = .ok (.ifCond .lt 22, 3) := by decide +kernel
theorem dX6_mayGo_12 : decode cX6_mayGo 12 = .ok (.iload_n 0, 1) := by decide +kernel
theorem dX6_mayGo_13 : decode cX6_mayGo 13 = .ok (.i2l, 1) := by decide +kernel
theorem dX6_mayGo_14 : decode cX6_mayGo 14 = .ok (.iload_n 1, 1) := by decide +kernel
theorem dX6_mayGo_15 : decode cX6_mayGo 15 = .ok (.i2l, 1) := by decide +kernel
theorem dX6_mayGo_16 : decode cX6_mayGo 16 = .ok (.ladd, 1) := by decide +kernel
theorem dX6_mayGo_17 : decode cX6_mayGo 17 = .ok (.iload_n 2, 1) := by decide +kernel
theorem dX6_mayGo_18 : decode cX6_mayGo 18 = .ok (.i2l, 1) := by decide +kernel
theorem dX6_mayGo_19 : decode cX6_mayGo 19 = .ok (.ladd, 1) := by decide +kernel
theorem dX6_mayGo_20 : decode cX6_mayGo 20 = .ok (.ldc2_w 29, 3) := by decide +kernel
theorem dX6_mayGo_23 : decode cX6_mayGo 23 = .ok (.lcmp, 1) := by decide +kernel
theorem dX6_mayGo_24 : decode cX6_mayGo 24 = .ok (.ifCond .gt 7, 3) := by decide +kernel
theorem dX6_mayGo_27 : decode cX6_mayGo 27 = .ok (.iconst 1, 1) := by decide +kernel
theorem dX6_mayGo_28 : decode cX6_mayGo 28 = .ok (.goto 4, 3) := by decide +kernel
theorem dX6_mayGo_31 : decode cX6_mayGo 31 = .ok (.iconst 0, 1) := by decide +kernel
theorem dX6_mayGo_32 : decode cX6_mayGo 32 = .ok (.ireturn, 1) := by decide +kernel
theorem dX6_set_0 : decode cX6_set 0 = .ok (.iload_n 1, 1) := by decide +kernel
theorem dX6_set_1 : decode cX6_set 1 = .ok (.invokestatic 25, 3) := by decide +kernel
theorem dX6_set_4 : decode cX6_set 4 = .ok (.ifCond .ne 4, 3) := by decide +kernel
theorem dX6_set_7 : decode cX6_set 7 = .ok (.return_, 1) := by decide +kernel
theorem dX6_set_8 : decode cX6_set 8 = .ok (.aload_n 0, 1) := by decide +kernel
theorem dX6_set_9 : decode cX6_set 9 = .ok (.getfield 9, 3) := by decide +kernel
theorem dX6_set_12 : decode cX6_set 12 = .ok (.iload_n 1, 1) := by decide +kernel
theorem dX6_set_13 : decode cX6_set 13 = .ok (.iload_n 2, 1) := by decide +kernel
theorem dX6_set_14 : decode cX6_set 14 = .ok (.iastore, 1) := by decide +kernel
theorem dX6_set_15 : decode cX6_set 15 = .ok (.aload_n 0, 1) := by decide +kernel
theorem dX6_set_16 : decode cX6_set 16 = .ok (.getfield 13, 3) := by decide +kernel
theorem dX6_set_19 : decode cX6_set 19 = .ok (.iload_n 1, 1) := by decide +kernel
theorem dX6_set_20 : decode cX6_set 20 = .ok (.iload_n 3, 1) := by decide +kernel
theorem dX6_set_21 : decode cX6_set 21 = .ok (.iastore, 1) := by decide +kernel
theorem dX6_set_22 : decode cX6_set 22 = .ok (.aload_n 0, 1) := by decide +kernel
theorem dX6_set_23 : decode cX6_set 23 = .ok (.getfield 16, 3) := by decide +kernel
theorem dX6_set_26 : decode cX6_set 26 = .ok (.iload_n 1, 1) := by decide +kernel
theorem dX6_set_27 : decode cX6_set 27 = .ok (.iload 4, 2) := by decide +kernel
theorem dX6_set_29 : decode cX6_set 29 = .ok (.iastore, 1) := by decide +kernel
theorem dX6_set_30 : decode cX6_set 30 = .ok (.return_, 1) := by decide +kernel
theorem dX6_stillThere_0 : decode cX6_stillThere 0 = .ok (.ldc2_w 31, 3) := by decide +kernel
theorem dX6_stillThere_3 : decode cX6_stillThere 3 = .ok (.lstore_n 3, 1) := by decide +kernel
theorem dX6_stillThere_4 : decode cX6_stillThere 4 = .ok (.iconst 0, 1) := by decide +kernel
theorem dX6_stillThere_5 : decode cX6_stillThere 5 = .ok (.iload_n 1, 1) := by decide +kernel
theorem dX6_stillThere_6 : decode cX6_stillThere 6 = .ok (.invokestatic 33, 3) := by decide +kernel
theorem dX6_stillThere_9 : decode cX6_stillThere 9 = .ok (.istore 5, 2) := by decide +kernel
theorem dX6_stillThere_11 : decode cX6_stillThere 11 = .ok (.iload 5, 2) := by decide +kernel
theorem dX6_stillThere_13 : decode cX6_stillThere 13 = .ok (.iload_n 2, 1) := by decide +kernel
theorem dX6_stillThere_14 : decode cX6_stillThere 14 = .ok (.if_icmp .ge 24, 3) := by decide +kernel
theorem dX6_stillThere_17 : decode cX6_stillThere 17 = .ok (.iload 5, 2) := by decide +kernel
theorem dX6_stillThere_19 : decode cX6_stillThere 19 = .ok (.bipush 20, 2) := by decide +kernel
theorem dX6_stillThere_21 : decode cX6_stillThere 21 = .ok (.if_icmp .gt 17, 3) := by decide +kernel
theorem dX6_stillThere_24 : decode cX6_stillThere 24 = .ok (.aload_n 0, 1) := by decide +kernel
theorem dX6_stillThere_25 : decode cX6_stillThere 25 = .ok (.lload_n 3, 1) := by decide +kernel
theorem dX6_stillThere_26 : decode cX6_stillThere 26 = .ok (.iload 5, 2) := by decide +kernel
theorem dX6_stillThere_28 : decode cX6_stillThere 28 = .ok (.invokevirtual 39, 3) := by decide +kernel
theorem dX6_stillThere_31 : decode cX6_stillThere 31 = .ok (.lstore_n 3, 1) := by decide +kernel
theorem dX6_stillThere_32 : decode cX6_stillThere 32 = .ok (.iinc 5 1, 3) := by decide +kernel
theorem dX6_stillThere_35 : decode cX6_stillThere 35 = .ok (.goto (-24), 3) := by decide +kernel
theorem dX6_stillThere_38 : decode cX6_stillThere 38 = .ok (.lload_n 3, 1) := by decide +kernel
theorem dX6_stillThere_39 : decode cX6_stillThere 39 = .ok (.lreturn, 1) := by decide +kernel
theorem dX6_wedBetween_0 : decode cX6_wedBetween 0 = .ok (.ldc2_w 31, 3) := by decide +kernel
theorem dX6_wedBetween_3 : decode cX6_wedBetween 3 = .ok (.lstore_n 3, 1) := by decide +kernel
theorem dX6_wedBetween_4 : decode cX6_wedBetween 4 = .ok (.lconst 0, 1) := by decide +kernel
theorem dX6_wedBetween_5 : decode cX6_wedBetween 5 = .ok (.lstore 5, 2) := by decide +kernel
theorem dX6_wedBetween_7 : decode cX6_wedBetween 7 = .ok (.iconst 0, 1) := by decide +kernel
theorem dX6_wedBetween_8 : decode cX6_wedBetween 8 = .ok (.iload_n 1, 1) := by decide +kernel
theorem dX6_wedBetween_9 : decode cX6_wedBetween 9 = .ok (.invokestatic 33, 3) := by decide +kernel
theorem dX6_wedBetween_12 : decode cX6_wedBetween 12 = .ok (.istore 7, 2) := by decide +kernel
theorem dX6_wedBetween_14 : decode cX6_wedBetween 14 = .ok (.iload 7, 2) := by decide +kernel
theorem dX6_wedBetween_16 : decode cX6_wedBetween 16 = .ok (.iload_n 2, 1) := by decide +kernel
theorem dX6_wedBetween_17 : decode cX6_wedBetween 17 = .ok (.if_icmp .ge 40, 3) := by decide +kernel
theorem dX6_wedBetween_20 : decode cX6_wedBetween 20 = .ok (.iload 7, 2) := by decide +kernel
theorem dX6_wedBetween_22 : decode cX6_wedBetween 22 = .ok (.bipush 20, 2) := by decide +kernel
theorem dX6_wedBetween_24 : decode cX6_wedBetween 24 = .ok (.if_icmp .gt 33, 3) := by decide +kernel
theorem dX6_wedBetween_27 : decode cX6_wedBetween 27 = .ok (.lload 5, 2) := by decide +kernel
theorem dX6_wedBetween_29 : decode cX6_wedBetween 29 = .ok (.lload_n 3, 1) := by decide +kernel
theorem dX6_wedBetween_30 : decode cX6_wedBetween 30 = .ok (.aload_n 0, 1) := by decide +kernel
theorem dX6_wedBetween_31 : decode cX6_wedBetween 31 = .ok (.getfield 13, 3) := by decide +kernel
theorem dX6_wedBetween_34 : decode cX6_wedBetween 34 = .ok (.iload 7, 2) := by decide +kernel
theorem dX6_wedBetween_36 : decode cX6_wedBetween 36 = .ok (.iaload, 1) := by decide +kernel
theorem dX6_wedBetween_37 : decode cX6_wedBetween 37 = .ok (.invokestatic 43, 3) := by decide +kernel
theorem dX6_wedBetween_40 : decode cX6_wedBetween 40 = .ok (.ladd, 1) := by decide +kernel
theorem dX6_wedBetween_41 : decode cX6_wedBetween 41 = .ok (.lstore 5, 2) := by decide +kernel
theorem dX6_wedBetween_43 : decode cX6_wedBetween 43 = .ok (.aload_n 0, 1) := by decide +kernel
theorem dX6_wedBetween_44 : decode cX6_wedBetween 44 = .ok (.lload_n 3, 1) := by decide +kernel
theorem dX6_wedBetween_45 : decode cX6_wedBetween 45 = .ok (.iload 7, 2) := by decide +kernel
theorem dX6_wedBetween_47 : decode cX6_wedBetween 47 = .ok (.invokevirtual 39, 3) := by decide +kernel
theorem dX6_wedBetween_50 : decode cX6_wedBetween 50 = .ok (.lstore_n 3, 1) := by decide +kernel
theorem dX6_wedBetween_51 : decode cX6_wedBetween 51 = .ok (.iinc 7 1, 3) := by decide +kernel
theorem dX6_wedBetween_54 : decode cX6_wedBetween 54 = .ok (.goto (-40), 3) := by decide +kernel
theorem dX6_wedBetween_57 : decode cX6_wedBetween 57 = .ok (.lload 5, 2) := by decide +kernel
theorem dX6_wedBetween_59 : decode cX6_wedBetween 59 = .ok (.lreturn, 1) := by decide +kernel
theorem dX6_afterYear_0 : decode cX6_afterYear 0 = .ok (.iload_n 3, 1) := by decide +kernel
theorem dX6_afterYear_1 : decode cX6_afterYear 1 = .ok (.invokestatic 25, 3) := by decide +kernel
theorem dX6_afterYear_4 : decode cX6_afterYear 4 = .ok (.ifCond .ne 5, 3) := by decide +kernel
theorem dX6_afterYear_7 : decode cX6_afterYear 7 = .ok (.lload_n 1, 1) := by decide +kernel
theorem dX6_afterYear_8 : decode cX6_afterYear 8 = .ok (.lreturn, 1) := by decide +kernel
theorem dX6_afterYear_9 : decode cX6_afterYear 9 = .ok (.lload_n 1, 1) := by decide +kernel
theorem dX6_afterYear_10 : decode cX6_afterYear 10 = .ok (.lload_n 1, 1) := by decide +kernel
theorem dX6_afterYear_11 : decode cX6_afterYear 11 = .ok (.aload_n 0, 1) := by decide +kernel
theorem dX6_afterYear_12 : decode cX6_afterYear 12 = .ok (.getfield 9, 3) := by decide +kernel
theorem dX6_afterYear_15 : decode cX6_afterYear 15 = .ok (.iload_n 3, 1) := by decide +kernel
theorem dX6_afterYear_16 : decode cX6_afterYear 16 = .ok (.iaload, 1) := by decide +kernel
theorem dX6_afterYear_17 : decode cX6_afterYear 17 = .ok (.invokestatic 43, 3) := by decide +kernel
theorem dX6_afterYear_20 : decode cX6_afterYear 20 = .ok (.lsub, 1) := by decide +kernel
theorem dX6_afterYear_21 : decode cX6_afterYear 21 = .ok (.lload_n 1, 1) := by decide +kernel
theorem dX6_afterYear_22 : decode cX6_afterYear 22 = .ok (.aload_n 0, 1) := by decide +kernel
theorem dX6_afterYear_23 : decode cX6_afterYear 23 = .ok (.getfield 13, 3) := by decide +kernel
theorem dX6_afterYear_26 : decode cX6_afterYear 26 = .ok (.iload_n 3, 1) := by decide +kernel
theorem dX6_afterYear_27 : decode cX6_afterYear 27 = .ok (.iaload, 1) := by decide +kernel
theorem dX6_afterYear_28 : decode cX6_afterYear 28 = .ok (.invokestatic 43, 3) := by decide +kernel
theorem dX6_afterYear_31 : decode cX6_afterYear 31 = .ok (.lsub, 1) := by decide +kernel
theorem dX6_afterYear_32 : decode cX6_afterYear 32 = .ok (.lload_n 1, 1) := by decide +kernel
theorem dX6_afterYear_33 : decode cX6_afterYear 33 = .ok (.aload_n 0, 1) := by decide +kernel
theorem dX6_afterYear_34 : decode cX6_afterYear 34 = .ok (.getfield 16, 3) := by decide +kernel
theorem dX6_afterYear_37 : decode cX6_afterYear 37 = .ok (.iload_n 3, 1) := by decide +kernel
theorem dX6_afterYear_38 : decode cX6_afterYear 38 = .ok (.iaload, 1) := by decide +kernel
theorem dX6_afterYear_39 : decode cX6_afterYear 39 = .ok (.invokestatic 43, 3) := by decide +kernel
theorem dX6_afterYear_42 : decode cX6_afterYear 42 = .ok (.lsub, 1) := by decide +kernel
theorem dX6_afterYear_43 : decode cX6_afterYear 43 = .ok (.lreturn, 1) := by decide +kernel
theorem dX7_init_0 : decode cX7_init 0 = .ok (.aload_n 0, 1) := by decide +kernel
theorem dX7_init_1 : decode cX7_init 1 = .ok (.invokespecial 3, 3) := by decide +kernel
theorem dX7_init_4 : decode cX7_init 4 = .ok (.aload_n 0, 1) := by decide +kernel
theorem dX7_init_5 : decode cX7_init 5 = .ok (.lconst 0, 1) := by decide +kernel
theorem dX7_init_6 : decode cX7_init 6 = .ok (.putfield 9, 3) := by decide +kernel
theorem dX7_init_9 : decode cX7_init 9 = .ok (.aload_n 0, 1) := by decide +kernel
theorem dX7_init_10 : decode cX7_init 10 = .ok (.lconst 0, 1) := by decide +kernel
theorem dX7_init_11 : decode cX7_init 11 = .ok (.putfield 15, 3) := by decide +kernel
theorem dX7_init_14 : decode cX7_init 14 = .ok (.aload_n 0, 1) := by decide +kernel
theorem dX7_init_15 : decode cX7_init 15 = .ok (.lconst 0, 1) := by decide +kernel
theorem dX7_init_16 : decode cX7_init 16 = .ok (.putfield 18, 3) := by decide +kernel
theorem dX7_init_19 : decode cX7_init 19 = .ok (.aload_n 0, 1) := by decide +kernel
theorem dX7_init_20 : decode cX7_init 20 = .ok (.bipush 10, 2) := by decide +kernel
theorem dX7_init_22 : decode cX7_init 22 = .ok (.newarray .long, 2) := by decide +kernel
theorem dX7_init_24 : decode cX7_init 24 = .ok (.putfield 21, 3) := by decide +kernel
theorem dX7_init_27 : decode cX7_init 27 = .ok (.return_, 1) := by decide +kernel
theorem dX7_pay_0 : decode cX7_pay 0 = .ok (.aload_n 0, 1) := by decide +kernel
theorem dX7_pay_1 : decode cX7_pay 1 = .ok (.dup, 1) := by decide +kernel
theorem dX7_pay_2 : decode cX7_pay 2 = .ok (.getfield 9, 3) := by decide +kernel
theorem dX7_pay_5 : decode cX7_pay 5 = .ok (.lload_n 2, 1) := by decide +kernel
theorem dX7_pay_6 : decode cX7_pay 6 = .ok (.lsub, 1) := by decide +kernel
theorem dX7_pay_7 : decode cX7_pay 7 = .ok (.putfield 9, 3) := by decide +kernel
theorem dX7_pay_10 : decode cX7_pay 10 = .ok (.aload_n 0, 1) := by decide +kernel
theorem dX7_pay_11 : decode cX7_pay 11 = .ok (.dup, 1) := by decide +kernel
theorem dX7_pay_12 : decode cX7_pay 12 = .ok (.getfield 18, 3) := by decide +kernel
theorem dX7_pay_15 : decode cX7_pay 15 = .ok (.lload_n 2, 1) := by decide +kernel
theorem dX7_pay_16 : decode cX7_pay 16 = .ok (.ladd, 1) := by decide +kernel
theorem dX7_pay_17 : decode cX7_pay 17 = .ok (.putfield 18, 3) := by decide +kernel
theorem dX7_pay_20 : decode cX7_pay 20 = .ok (.aload_n 1, 1) := by decide +kernel
theorem dX7_pay_21 : decode cX7_pay 21 = .ok (.dup, 1) := by decide +kernel
theorem dX7_pay_22 : decode cX7_pay 22 = .ok (.getfield 25, 3) := by decide +kernel
theorem dX7_pay_25 : decode cX7_pay 25 = .ok (.lload_n 2, 1) := by decide +kernel
theorem dX7_pay_26 : decode cX7_pay 26 = .ok (.ladd, 1) := by decide +kernel
theorem dX7_pay_27 : decode cX7_pay 27 = .ok (.putfield 25, 3) := by decide +kernel
theorem dX7_pay_30 : decode cX7_pay 30 = .ok (.aload_n 1, 1) := by decide +kernel
theorem dX7_pay_31 : decode cX7_pay 31 = .ok (.dup, 1) := by decide +kernel
theorem dX7_pay_32 : decode cX7_pay 32 = .ok (.getfield 30, 3) := by decide +kernel
theorem dX7_pay_35 : decode cX7_pay 35 = .ok (.lload_n 2, 1) := by decide +kernel
theorem dX7_pay_36 : decode cX7_pay 36 = .ok (.lsub, 1) := by decide +kernel
theorem dX7_pay_37 : decode cX7_pay 37 = .ok (.putfield 30, 3) := by decide +kernel
theorem dX7_pay_40 : decode cX7_pay 40 = .ok (.aload_n 1, 1) := by decide +kernel
theorem dX7_pay_41 : decode cX7_pay 41 = .ok (.invokevirtual 33, 3) := by decide +kernel
theorem dX7_pay_44 : decode cX7_pay 44 = .ok (.istore 4, 2) := by decide +kernel
theorem dX7_pay_46 : decode cX7_pay 46 = .ok (.iload 4, 2) := by decide +kernel
theorem dX7_pay_48 : decode cX7_pay 48 = .ok (.invokestatic 37, 3) := by decide +kernel
theorem dX7_pay_51 : decode cX7_pay 51 = .ok (.ifCond .eq 14, 3) := by decide +kernel
theorem dX7_pay_54 : decode cX7_pay 54 = .ok (.aload_n 0, 1) := by decide +kernel
theorem dX7_pay_55 : decode cX7_pay 55 = .ok (.getfield 21, 3) := by decide +kernel
theorem dX7_pay_58 : decode cX7_pay 58 = .ok (.iload 4, 2) := by decide +kernel
theorem dX7_pay_60 : decode cX7_pay 60 = .ok (.dup2, 1) := by decide +kernel
theorem dX7_pay_61 : decode cX7_pay 61 = .ok (.laload, 1) := by decide +kernel
theorem dX7_pay_62 : decode cX7_pay 62 = .ok (.lload_n 2, 1) := by decide +kernel
theorem dX7_pay_63 : decode cX7_pay 63 = .ok (.ladd, 1) := by decide +kernel
theorem dX7_pay_64 : decode cX7_pay 64 = .ok (.lastore, 1) := by decide +kernel
theorem dX7_pay_65 : decode cX7_pay 65 = .ok (.return_, 1) := by decide +kernel
theorem dX8_init_0 : decode cX8_init 0 = .ok (.aload_n 0, 1) := by decide +kernel
theorem dX8_init_1 : decode cX8_init 1 = .ok (.invokespecial 3, 3) := by decide +kernel
theorem dX8_init_4 : decode cX8_init 4 = .ok (.aload_n 0, 1) := by decide +kernel
theorem dX8_init_5 : decode cX8_init 5 = .ok (.lconst 0, 1) := by decide +kernel
theorem dX8_init_6 : decode cX8_init 6 = .ok (.putfield 9, 3) := by decide +kernel
theorem dX8_init_9 : decode cX8_init 9 = .ok (.aload_n 0, 1) := by decide +kernel
theorem dX8_init_10 : decode cX8_init 10 = .ok (.iconst 0, 1) := by decide +kernel
theorem dX8_init_11 : decode cX8_init 11 = .ok (.putfield 15, 3) := by decide +kernel
theorem dX8_init_14 : decode cX8_init 14 = .ok (.aload_n 0, 1) := by decide +kernel
theorem dX8_init_15 : decode cX8_init 15 = .ok (.aload_n 1, 1) := by decide +kernel
theorem dX8_init_16 : decode cX8_init 16 = .ok (.putfield 19, 3) := by decide +kernel
theorem dX8_init_19 : decode cX8_init 19 = .ok (.aload_n 0, 1) := by decide +kernel
theorem dX8_init_20 : decode cX8_init 20 = .ok (.aload_n 2, 1) := by decide +kernel
theorem dX8_init_21 : decode cX8_init 21 = .ok (.putfield 23, 3) := by decide +kernel
theorem dX8_init_24 : decode cX8_init 24 = .ok (.return_, 1) := by decide +kernel
theorem dX8_learn_0 : decode cX8_learn 0 = .ok (.iconst 0, 1) := by decide +kernel
theorem dX8_learn_1 : decode cX8_learn 1 = .ok (.istore_n 3, 1) := by decide +kernel
theorem dX8_learn_2 : decode cX8_learn 2 = .ok (.iload_n 3, 1) := by decide +kernel
theorem dX8_learn_3 : decode cX8_learn 3 = .ok (.aload_n 0, 1) := by decide +kernel
theorem dX8_learn_4 : decode cX8_learn 4 = .ok (.getfield 19, 3) := by decide +kernel
theorem dX8_learn_7 : decode cX8_learn 7 = .ok (.getfield 27, 3) := by decide +kernel
theorem dX8_learn_10 : decode cX8_learn 10 = .ok (.if_icmp .ge 83, 3) := by decide +kernel
theorem dX8_learn_13 : decode cX8_learn 13 = .ok (.aload_n 0, 1) := by decide +kernel
theorem dX8_learn_14 : decode cX8_learn 14 = .ok (.getfield 19, 3) := by decide +kernel
theorem dX8_learn_17 : decode cX8_learn 17 = .ok (.iload_n 3, 1) := by decide +kernel
theorem dX8_learn_18 : decode cX8_learn 18 = .ok (.invokevirtual 30, 3) := by decide +kernel
theorem dX8_learn_21 : decode cX8_learn 21 = .ok (.astore 4, 2) := by decide +kernel
theorem dX8_learn_23 : decode cX8_learn 23 = .ok (.aload 4, 2) := by decide +kernel
theorem dX8_learn_25 : decode cX8_learn 25 = .ok (.ifnonnull 6, 3) := by decide +kernel
theorem dX8_learn_28 : decode cX8_learn 28 = .ok (.goto 59, 3) := by decide +kernel
theorem dX8_learn_31 : decode cX8_learn 31 = .ok (.aload_n 1, 1) := by decide +kernel
theorem dX8_learn_32 : decode cX8_learn 32 = .ok (.aload 4, 2) := by decide +kernel
theorem dX8_learn_34 : decode cX8_learn 34 = .ok (.iload_n 2, 1) := by decide +kernel
theorem dX8_learn_35 : decode cX8_learn 35 = .ok (.invokevirtual 34, 3) := by decide +kernel
theorem dX8_learn_38 : decode cX8_learn 38 = .ok (.istore 5, 2) := by decide +kernel
theorem dX8_learn_40 : decode cX8_learn 40 = .ok (.aload 4, 2) := by decide +kernel
theorem dX8_learn_42 : decode cX8_learn 42 = .ok (.iload 5, 2) := by decide +kernel
theorem dX8_learn_44 : decode cX8_learn 44 = .ok (.iconst (-1), 1) := by decide +kernel
theorem dX8_learn_45 : decode cX8_learn 45 = .ok (.if_icmp .ne 8, 3) := by decide +kernel
theorem dX8_learn_48 : decode cX8_learn 48 = .ok (.ldc 42, 2) := by decide +kernel
theorem dX8_learn_50 : decode cX8_learn 50 = .ok (.goto 10, 3) := by decide +kernel
theorem dX8_learn_53 : decode cX8_learn 53 = .ok (.aload_n 1, 1) := by decide +kernel
theorem dX8_learn_54 : decode cX8_learn 54 = .ok (.iload 5, 2) := by decide +kernel
theorem dX8_learn_56 : decode cX8_learn 56 = .ok (.iload_n 2, 1) := by decide +kernel
theorem dX8_learn_57 : decode cX8_learn 57 = .ok (.invokevirtual 43, 3) := by decide +kernel
theorem dX8_learn_60 : decode cX8_learn 60 = .ok (.putfield 47, 3) := by decide +kernel
theorem dX8_learn_63 : decode cX8_learn 63 = .ok (.aload 4, 2) := by decide +kernel
theorem dX8_learn_65 : decode cX8_learn 65 = .ok (.iload 5, 2) := by decide +kernel
theorem dX8_learn_67 : decode cX8_learn 67 = .ok (.iconst (-1), 1) := by decide +kernel
theorem dX8_learn_68 : decode cX8_learn 68 = .ok (.if_icmp .ne 7, 3) := by decide +kernel
theorem dX8_learn_71 : decode cX8_learn 71 = .ok (.lconst 0, 1) := by decide +kernel
