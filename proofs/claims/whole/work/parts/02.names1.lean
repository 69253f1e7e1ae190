theorem dX0_clear_11 : decode cX0_clear 11 = .ok (.iconst 0, 1) := by decide +kernel
theorem dX0_clear_12 : decode cX0_clear 12 = .ok (.putfield 23, 3) := by decide +kernel
theorem dX0_clear_15 : decode cX0_clear 15 = .ok (.return_, 1) := by decide +kernel
theorem dX0_add_0 : decode cX0_add 0 = .ok (.aload_n 0, 1) := by decide +kernel
theorem dX0_add_1 : decode cX0_add 1 = .ok (.aload_n 0, 1) := by decide +kernel
theorem dX0_add_2 : decode cX0_add 2 = .ok (.getfield 15, 3) := by decide +kernel
theorem dX0_add_5 : decode cX0_add 5 = .ok (.ifCond .ne 7, 3) := by decide +kernel
theorem dX0_add_8 : decode cX0_add 8 = .ok (.iload_n 2, 1) := by decide +kernel
theorem dX0_add_9 : decode cX0_add 9 = .ok (.goto 11, 3) := by decide +kernel
theorem dX0_add_12 : decode cX0_add 12 = .ok (.aload_n 0, 1) := by decide +kernel
theorem dX0_add_13 : decode cX0_add 13 = .ok (.getfield 26, 3) := by decide +kernel
theorem dX0_add_16 : decode cX0_add 16 = .ok (.iload_n 2, 1) := by decide +kernel
theorem dX0_add_17 : decode cX0_add 17 = .ok (.invokestatic 29, 3) := by decide +kernel
theorem dX0_add_20 : decode cX0_add 20 = .ok (.putfield 26, 3) := by decide +kernel
theorem dX0_add_23 : decode cX0_add 23 = .ok (.aload_n 0, 1) := by decide +kernel
theorem dX0_add_24 : decode cX0_add 24 = .ok (.aload_n 0, 1) := by decide +kernel
theorem dX0_add_25 : decode cX0_add 25 = .ok (.getfield 15, 3) := by decide +kernel
theorem dX0_add_28 : decode cX0_add 28 = .ok (.ifCond .ne 7, 3) := by decide +kernel
theorem dX0_add_31 : decode cX0_add 31 = .ok (.iload_n 2, 1) := by decide +kernel
theorem dX0_add_32 : decode cX0_add 32 = .ok (.goto 11, 3) := by decide +kernel
theorem dX0_add_35 : decode cX0_add 35 = .ok (.aload_n 0, 1) := by decide +kernel
theorem dX0_add_36 : decode cX0_add 36 = .ok (.getfield 35, 3) := by decide +kernel
theorem dX0_add_39 : decode cX0_add 39 = .ok (.iload_n 2, 1) := by decide +kernel
theorem dX0_add_40 : decode cX0_add 40 = .ok (.invokestatic 38, 3) := by decide +kernel
theorem dX0_add_43 : decode cX0_add 43 = .ok (.putfield 35, 3) := by decide +kernel
theorem dX0_add_46 : decode cX0_add 46 = .ok (.aload_n 0, 1) := by decide +kernel
theorem dX0_add_47 : decode cX0_add 47 = .ok (.aload_n 0, 1) := by decide +kernel
theorem dX0_add_48 : decode cX0_add 48 = .ok (.getfield 19, 3) := by decide +kernel
theorem dX0_add_51 : decode cX0_add 51 = .ok (.ifCond .eq 11, 3) := by decide +kernel
theorem dX0_add_54 : decode cX0_add 54 = .ok (.iload_n 3, 1) := by decide +kernel
theorem dX0_add_55 : decode cX0_add 55 = .ok (.ifCond .ne 7, 3) := by decide +kernel
theorem dX0_add_58 : decode cX0_add 58 = .ok (.iconst 1, 1) := by decide +kernel
theorem dX0_add_59 : decode cX0_add 59 = .ok (.goto 4, 3) := by decide +kernel
theorem dX0_add_62 : decode cX0_add 62 = .ok (.iconst 0, 1) := by decide +kernel
theorem dX0_add_63 : decode cX0_add 63 = .ok (.putfield 19, 3) := by decide +kernel
theorem dX0_add_66 : decode cX0_add 66 = .ok (.aload_n 0, 1) := by decide +kernel
theorem dX0_add_67 : decode cX0_add 67 = .ok (.getfield 9, 3) := by decide +kernel
theorem dX0_add_70 : decode cX0_add 70 = .ok (.aload_n 0, 1) := by decide +kernel
theorem dX0_add_71 : decode cX0_add 71 = .ok (.getfield 15, 3) := by decide +kernel
theorem dX0_add_74 : decode cX0_add 74 = .ok (.iload_n 1, 1) := by decide +kernel
theorem dX0_add_75 : decode cX0_add 75 = .ok (.iastore, 1) := by decide +kernel
theorem dX0_add_76 : decode cX0_add 76 = .ok (.aload_n 0, 1) := by decide +kernel
theorem dX0_add_77 : decode cX0_add 77 = .ok (.dup, 1) := by decide +kernel
theorem dX0_add_78 : decode cX0_add 78 = .ok (.getfield 15, 3) := by decide +kernel
theorem dX0_add_81 : decode cX0_add 81 = .ok (.iconst 1, 1) := by decide +kernel
theorem dX0_add_82 : decode cX0_add 82 = .ok (.iadd, 1) := by decide +kernel
theorem dX0_add_83 : decode cX0_add 83 = .ok (.putfield 15, 3) := by decide +kernel
theorem dX0_add_86 : decode cX0_add 86 = .ok (.return_, 1) := by decide +kernel
theorem dX0_liesLow_0 : decode cX0_liesLow 0 = .ok (.aload_n 0, 1) := by decide +kernel
theorem dX0_liesLow_1 : decode cX0_liesLow 1 = .ok (.getfield 35, 3) := by decide +kernel
theorem dX0_liesLow_4 : decode cX0_liesLow 4 = .ok (.iconst 4, 1) := by decide +kernel
theorem dX0_liesLow_5 : decode cX0_liesLow 5 = .ok (.isub, 1) := by decide +kernel
theorem dX0_liesLow_6 : decode cX0_liesLow 6 = .ok (.iconst 4, 1) := by decide +kernel
theorem dX0_liesLow_7 : decode cX0_liesLow 7 = .ok (.aload_n 0, 1) := by decide +kernel
theorem dX0_liesLow_8 : decode cX0_liesLow 8 = .ok (.getfield 26, 3) := by decide +kernel
theorem dX0_liesLow_11 : decode cX0_liesLow 11 = .ok (.isub, 1) := by decide +kernel
theorem dX0_liesLow_12 : decode cX0_liesLow 12 = .ok (.if_icmp .ge 7, 3) := by decide +kernel
theorem dX0_liesLow_15 : decode cX0_liesLow 15 = .ok (.iconst 1, 1) := by decide +kernel
theorem dX0_liesLow_16 : decode cX0_liesLow 16 = .ok (.goto 4, 3) := by decide +kernel
theorem dX0_liesLow_19 : decode cX0_liesLow 19 = .ok (.iconst 0, 1) := by decide +kernel
theorem dX0_liesLow_20 : decode cX0_liesLow 20 = .ok (.ireturn, 1) := by decide +kernel
set_option maxRecDepth 20000 in
theorem ggX0_sortFromStemsFarEnd_X0_isBefore : GoodIn wsX0_sortFromStemsFarEnd wsX0_isBefore := goodIn_r _ [7, 8, 9, 10, 11, 12, 13, 14, 15] rfl (by decide +kernel)
set_option maxRecDepth 20000 in
theorem gX0_sortFromStemsFarEnd_X0_isBefore : GoodIn wsX0_sortFromStemsFarEnd (wsV RX0 41 RX0 yX0_isBefore wsX0_isBefore) := goodIn_app (goodIn_r _ [3, 4, 5, 6] rfl (by decide +kernel)) ggX0_sortFromStemsFarEnd_X0_isBefore
theorem dX0_sortFromStemsFarEnd_0 : decode cX0_sortFromStemsFarEnd 0 = .ok (.iconst 1, 1) := by decide +kernel
theorem dX0_sortFromStemsFarEnd_1 : decode cX0_sortFromStemsFarEnd 1 = .ok (.istore_n 2, 1) := by decide +kernel
theorem dX0_sortFromStemsFarEnd_2 : decode cX0_sortFromStemsFarEnd 2 = .ok (.iload_n 2, 1) := by decide +kernel
theorem dX0_sortFromStemsFarEnd_3 : decode cX0_sortFromStemsFarEnd 3 = .ok (.aload_n 0, 1) := by decide +kernel
theorem dX0_sortFromStemsFarEnd_4 : decode cX0_sortFromStemsFarEnd 4 = .ok (.getfield 15, 3) := by decide +kernel
theorem dX0_sortFromStemsFarEnd_7 : decode cX0_sortFromStemsFarEnd 7 = .ok (.if_icmp .ge 75, 3) := by decide +kernel
theorem dX0_sortFromStemsFarEnd_10 : decode cX0_sortFromStemsFarEnd 10 = .ok (.aload_n 0, 1) := by decide +kernel
theorem dX0_sortFromStemsFarEnd_11 : decode cX0_sortFromStemsFarEnd 11 = .ok (.getfield 9, 3) := by decide +kernel
theorem dX0_sortFromStemsFarEnd_14 : decode cX0_sortFromStemsFarEnd 14 = .ok (.iload_n 2, 1) := by decide +kernel
theorem dX0_sortFromStemsFarEnd_15 : decode cX0_sortFromStemsFarEnd 15 = .ok (.iaload, 1) := by decide +kernel
theorem dX0_sortFromStemsFarEnd_16 : decode cX0_sortFromStemsFarEnd 16 = .ok (.istore_n 3, 1) := by decide +kernel
theorem dX0_sortFromStemsFarEnd_17 : decode cX0_sortFromStemsFarEnd 17 = .ok (.iload_n 2, 1) := by decide +kernel
theorem dX0_sortFromStemsFarEnd_18 : decode cX0_sortFromStemsFarEnd 18 = .ok (.istore 4, 2) := by decide +kernel
theorem dX0_sortFromStemsFarEnd_20 : decode cX0_sortFromStemsFarEnd 20 = .ok (.iload 4, 2) := by decide +kernel
theorem dX0_sortFromStemsFarEnd_22 : decode cX0_sortFromStemsFarEnd 22 = .ok (.ifCond .le 46, 3) := by decide +kernel
theorem dX0_sortFromStemsFarEnd_25 : decode cX0_sortFromStemsFarEnd 25 = .ok (.aload_n 0, 1) := by decide +kernel
theorem dX0_sortFromStemsFarEnd_26 : decode cX0_sortFromStemsFarEnd 26 = .ok (.aload_n 1, 1) := by decide +kernel
theorem dX0_sortFromStemsFarEnd_27 : decode cX0_sortFromStemsFarEnd 27 = .ok (.iload_n 3, 1) := by decide +kernel
theorem dX0_sortFromStemsFarEnd_28 : decode cX0_sortFromStemsFarEnd 28 = .ok (.iaload, 1) := by decide +kernel
theorem dX0_sortFromStemsFarEnd_29 : decode cX0_sortFromStemsFarEnd 29 = .ok (.aload_n 1, 1) := by decide +kernel
theorem dX0_sortFromStemsFarEnd_30 : decode cX0_sortFromStemsFarEnd 30 = .ok (.aload_n 0, 1) := by decide +kernel
theorem dX0_sortFromStemsFarEnd_31 : decode cX0_sortFromStemsFarEnd 31 = .ok (.getfield 9, 3) := by decide +kernel
theorem dX0_sortFromStemsFarEnd_34 : decode cX0_sortFromStemsFarEnd 34 = .ok (.iload 4, 2) := by decide +kernel
theorem dX0_sortFromStemsFarEnd_36 : decode cX0_sortFromStemsFarEnd 36 = .ok (.iconst 1, 1) := by decide +kernel
theorem dX0_sortFromStemsFarEnd_37 : decode cX0_sortFromStemsFarEnd 37 = .ok (.isub, 1) := by decide +kernel
theorem dX0_sortFromStemsFarEnd_38 : decode cX0_sortFromStemsFarEnd 38 = .ok (.iaload, 1) := by decide +kernel
theorem dX0_sortFromStemsFarEnd_39 : decode cX0_sortFromStemsFarEnd 39 = .ok (.iaload, 1) := by decide +kernel
theorem dX0_sortFromStemsFarEnd_40 : decode cX0_sortFromStemsFarEnd 40 = .ok (.invokevirtual 41, 3) := by decide +kernel
theorem dX0_sortFromStemsFarEnd_43 : decode cX0_sortFromStemsFarEnd 43 = .ok (.ifCond .eq 25, 3) := by decide +kernel
theorem dX0_sortFromStemsFarEnd_46 : decode cX0_sortFromStemsFarEnd 46 = .ok (.aload_n 0, 1) := by decide +kernel
theorem dX0_sortFromStemsFarEnd_47 : decode cX0_sortFromStemsFarEnd 47 = .ok (.getfield 9, 3) := by decide +kernel
theorem dX0_sortFromStemsFarEnd_50 : decode cX0_sortFromStemsFarEnd 50 = .ok (.iload 4, 2) := by decide +kernel
theorem dX0_sortFromStemsFarEnd_52 : decode cX0_sortFromStemsFarEnd 52 = .ok (.aload_n 0, 1) := by decide +kernel
theorem dX0_sortFromStemsFarEnd_53 : decode cX0_sortFromStemsFarEnd 53 = .ok (.getfield 9, 3) := by decide +kernel
theorem dX0_sortFromStemsFarEnd_56 : decode cX0_sortFromStemsFarEnd 56 = .ok (.iload 4, 2) := by decide +kernel
theorem dX0_sortFromStemsFarEnd_58 : decode cX0_sortFromStemsFarEnd 58 = .ok (.iconst 1, 1) := by decide +kernel
theorem dX0_sortFromStemsFarEnd_59 : decode cX0_sortFromStemsFarEnd 59 = .ok (.isub, 1) := by decide +kernel
theorem dX0_sortFromStemsFarEnd_60 : decode cX0_sortFromStemsFarEnd 60 = .ok (.iaload, 1) := by decide +kernel
theorem dX0_sortFromStemsFarEnd_61 : decode cX0_sortFromStemsFarEnd 61 = .ok (.iastore, 1) := by decide +kernel
theorem dX0_sortFromStemsFarEnd_62 : decode cX0_sortFromStemsFarEnd 62 = .ok (.iinc 4 (-1), 3) := by decide +kernel
theorem dX0_sortFromStemsFarEnd_65 : decode cX0_sortFromStemsFarEnd 65 = .ok (.goto (-45), 3) := by decide +kernel
theorem dX0_sortFromStemsFarEnd_68 : decode cX0_sortFromStemsFarEnd 68 = .ok (.aload_n 0, 1) := by decide +kernel
theorem dX0_sortFromStemsFarEnd_69 : decode cX0_sortFromStemsFarEnd 69 = .ok (.getfield 9, 3) := by decide +kernel
theorem dX0_sortFromStemsFarEnd_72 : decode cX0_sortFromStemsFarEnd 72 = .ok (.iload 4, 2) := by decide +kernel
theorem dX0_sortFromStemsFarEnd_74 : decode cX0_sortFromStemsFarEnd 74 = .ok (.iload_n 3, 1) := by decide +kernel
theorem dX0_sortFromStemsFarEnd_75 : decode cX0_sortFromStemsFarEnd 75 = .ok (.iastore, 1) := by decide +kernel
theorem dX0_sortFromStemsFarEnd_76 : decode cX0_sortFromStemsFarEnd 76 = .ok (.iinc 2 1, 3) := by decide +kernel
theorem dX0_sortFromStemsFarEnd_79 : decode cX0_sortFromStemsFarEnd 79 = .ok (.goto (-77), 3) := by decide +kernel
theorem dX0_sortFromStemsFarEnd_82 : decode cX0_sortFromStemsFarEnd 82 = .ok (.return_, 1) := by decide +kernel
theorem dX0_isBefore_0 : decode cX0_isBefore 0 = .ok (.aload_n 0, 1) := by decide +kernel
theorem dX0_isBefore_1 : decode cX0_isBefore 1 = .ok (.getfield 45, 3) := by decide +kernel
theorem dX0_isBefore_4 : decode cX0_isBefore 4 = .ok (.ifCond .eq 16, 3) := by decide +kernel
theorem dX0_isBefore_7 : decode cX0_isBefore 7 = .ok (.iload_n 1, 1) := by decide +kernel
theorem dX0_isBefore_8 : decode cX0_isBefore 8 = .ok (.iload_n 2, 1) := by decide +kernel
theorem dX0_isBefore_9 : decode cX0_isBefore 9 = .ok (.if_icmp .ge 7, 3) := by decide +kernel
theorem dX0_isBefore_12 : decode cX0_isBefore 12 = .ok (.iconst 1, 1) := by decide +kernel
theorem dX0_isBefore_13 : decode cX0_isBefore 13 = .ok (.goto 17, 3) := by decide +kernel
theorem dX0_isBefore_16 : decode cX0_isBefore 16 = .ok (.iconst 0, 1) := by decide +kernel
theorem dX0_isBefore_17 : decode cX0_isBefore 17 = .ok (.goto 13, 3) := by decide +kernel
theorem dX0_isBefore_20 : decode cX0_isBefore 20 = .ok (.iload_n 1, 1) := by decide +kernel
theorem dX0_isBefore_21 : decode cX0_isBefore 21 = .ok (.iload_n 2, 1) := by decide +kernel
theorem dX0_isBefore_22 : decode cX0_isBefore 22 = .ok (.if_icmp .le 7, 3) := by decide +kernel
theorem dX0_isBefore_25 : decode cX0_isBefore 25 = .ok (.iconst 1, 1) := by decide +kernel
theorem dX0_isBefore_26 : decode cX0_isBefore 26 = .ok (.goto 4, 3) := by decide +kernel
theorem dX0_isBefore_29 : decode cX0_isBefore 29 = .ok (.iconst 0, 1) := by decide +kernel
theorem dX0_isBefore_30 : decode cX0_isBefore 30 = .ok (.ireturn, 1) := by decide +kernel
theorem dX0_turnHeads_0 : decode cX0_turnHeads 0 = .ok (.iconst 0, 1) := by decide +kernel
theorem dX0_turnHeads_1 : decode cX0_turnHeads 1 = .ok (.istore_n 3, 1) := by decide +kernel
theorem dX0_turnHeads_2 : decode cX0_turnHeads 2 = .ok (.iconst 0, 1) := by decide +kernel
theorem dX0_turnHeads_3 : decode cX0_turnHeads 3 = .ok (.istore 4, 2) := by decide +kernel
theorem dX0_turnHeads_5 : decode cX0_turnHeads 5 = .ok (.iload 4, 2) := by decide +kernel
theorem dX0_turnHeads_7 : decode cX0_turnHeads 7 = .ok (.aload_n 0, 1) := by decide +kernel
theorem dX0_turnHeads_8 : decode cX0_turnHeads 8 = .ok (.getfield 15, 3) := by decide +kernel
theorem dX0_turnHeads_11 : decode cX0_turnHeads 11 = .ok (.if_icmp .ge 92, 3) := by decide +kernel
theorem dX0_turnHeads_14 : decode cX0_turnHeads 14 = .ok (.aload_n 0, 1) := by decide +kernel
theorem dX0_turnHeads_15 : decode cX0_turnHeads 15 = .ok (.getfield 9, 3) := by decide +kernel
theorem dX0_turnHeads_18 : decode cX0_turnHeads 18 = .ok (.iload 4, 2) := by decide +kernel
theorem dX0_turnHeads_20 : decode cX0_turnHeads 20 = .ok (.iaload, 1) := by decide +kernel
theorem dX0_turnHeads_21 : decode cX0_turnHeads 21 = .ok (.istore 5, 2) := by decide +kernel
theorem dX0_turnHeads_23 : decode cX0_turnHeads 23 = .ok (.iload 4, 2) := by decide +kernel
theorem dX0_turnHeads_25 : decode cX0_turnHeads 25 = .ok (.ifCond .le 30, 3) := by decide +kernel
theorem dX0_turnHeads_28 : decode cX0_turnHeads 28 = .ok (.aload_n 1, 1) := by decide +kernel
theorem dX0_turnHeads_29 : decode cX0_turnHeads 29 = .ok (.iload 5, 2) := by decide +kernel
theorem dX0_turnHeads_31 : decode cX0_turnHeads 31 = .ok (.iaload, 1) := by decide +kernel
theorem dX0_turnHeads_32 : decode cX0_turnHeads 32 = .ok (.aload_n 1, 1) := by decide +kernel
theorem dX0_turnHeads_33 : decode cX0_turnHeads 33 = .ok (.aload_n 0, 1) := by decide +kernel
theorem dX0_turnHeads_34 : decode cX0_turnHeads 34 = .ok (.getfield 9, 3) := by decide +kernel
theorem dX0_turnHeads_37 : decode cX0_turnHeads 37 = .ok (.iload 4, 2) := by decide +kernel
theorem dX0_turnHeads_39 : decode cX0_turnHeads 39 = .ok (.iconst 1, 1) := by decide +kernel
theorem dX0_turnHeads_40 : decode cX0_turnHeads 40 = .ok (.isub, 1) := by decide +kernel
theorem dX0_turnHeads_41 : decode cX0_turnHeads 41 = .ok (.iaload, 1) := by decide +kernel
theorem dX0_turnHeads_42 : decode cX0_turnHeads 42 = .ok (.iaload, 1) := by decide +kernel
theorem dX0_turnHeads_43 : decode cX0_turnHeads 43 = .ok (.isub, 1) := by decide +kernel
theorem dX0_turnHeads_44 : decode cX0_turnHeads 44 = .ok (.invokestatic 48, 3) := by decide +kernel
theorem dX0_turnHeads_47 : decode cX0_turnHeads 47 = .ok (.iconst 1, 1) := by decide +kernel
theorem dX0_turnHeads_48 : decode cX0_turnHeads 48 = .ok (.if_icmp .gt 7, 3) := by decide +kernel
theorem dX0_turnHeads_51 : decode cX0_turnHeads 51 = .ok (.iconst 1, 1) := by decide +kernel
theorem dX0_turnHeads_52 : decode cX0_turnHeads 52 = .ok (.goto 4, 3) := by decide +kernel
theorem dX0_turnHeads_55 : decode cX0_turnHeads 55 = .ok (.iconst 0, 1) := by decide +kernel
theorem dX0_turnHeads_56 : decode cX0_turnHeads 56 = .ok (.istore 6, 2) := by decide +kernel
theorem dX0_turnHeads_58 : decode cX0_turnHeads 58 = .ok (.iload 6, 2) := by decide +kernel
theorem dX0_turnHeads_60 : decode cX0_turnHeads 60 = .ok (.ifCond .eq 11, 3) := by decide +kernel
theorem dX0_turnHeads_63 : decode cX0_turnHeads 63 = .ok (.iload_n 3, 1) := by decide +kernel
theorem dX0_turnHeads_64 : decode cX0_turnHeads 64 = .ok (.ifCond .ne 7, 3) := by decide +kernel
theorem dX0_turnHeads_67 : decode cX0_turnHeads 67 = .ok (.iconst 1, 1) := by decide +kernel
theorem dX0_turnHeads_68 : decode cX0_turnHeads 68 = .ok (.goto 4, 3) := by decide +kernel
theorem dX0_turnHeads_71 : decode cX0_turnHeads 71 = .ok (.iconst 0, 1) := by decide +kernel
theorem dX0_turnHeads_72 : decode cX0_turnHeads 72 = .ok (.istore_n 3, 1) := by decide +kernel
theorem dX0_turnHeads_73 : decode cX0_turnHeads 73 = .ok (.aload_n 2, 1) := by decide +kernel
theorem dX0_turnHeads_74 : decode cX0_turnHeads 74 = .ok (.iload 5, 2) := by decide +kernel
theorem dX0_turnHeads_76 : decode cX0_turnHeads 76 = .ok (.iload_n 3, 1) := by decide +kernel
theorem dX0_turnHeads_77 : decode cX0_turnHeads 77 = .ok (.ifCond .eq 18, 3) := by decide +kernel
theorem dX0_turnHeads_80 : decode cX0_turnHeads 80 = .ok (.aload_n 0, 1) := by decide +kernel
theorem dX0_turnHeads_81 : decode cX0_turnHeads 81 = .ok (.getfield 45, 3) := by decide +kernel
theorem dX0_turnHeads_84 : decode cX0_turnHeads 84 = .ok (.ifCond .eq 7, 3) := by decide +kernel
theorem dX0_turnHeads_87 : decode cX0_turnHeads 87 = .ok (.iconst 1, 1) := by decide +kernel
theorem dX0_turnHeads_88 : decode cX0_turnHeads 88 = .ok (.goto 8, 3) := by decide +kernel
theorem dX0_turnHeads_91 : decode cX0_turnHeads 91 = .ok (.iconst (-1), 1) := by decide +kernel
theorem dX0_turnHeads_92 : decode cX0_turnHeads 92 = .ok (.goto 4, 3) := by decide +kernel
theorem dX0_turnHeads_95 : decode cX0_turnHeads 95 = .ok (.iconst 0, 1) := by decide +kernel
theorem dX0_turnHeads_96 : decode cX0_turnHeads 96 = .ok (.iastore, 1) := by decide +kernel
theorem dX0_turnHeads_97 : decode cX0_turnHeads 97 = .ok (.iinc 4 1, 3) := by decide +kernel
theorem dX0_turnHeads_100 : decode cX0_turnHeads 100 = .ok (.goto (-95), 3) := by decide +kernel
theorem dX0_turnHeads_103 : decode cX0_turnHeads 103 = .ok (.return_, 1) := by decide +kernel
theorem dX0_reachUp_0 : decode cX0_reachUp 0 = .ok (.aload_n 0, 1) := by decide +kernel
theorem dX0_reachUp_1 : decode cX0_reachUp 1 = .ok (.getfield 45, 3) := by decide +kernel
theorem dX0_reachUp_4 : decode cX0_reachUp 4 = .ok (.ifCond .eq 24, 3) := by decide +kernel
theorem dX0_reachUp_7 : decode cX0_reachUp 7 = .ok (.aload_n 0, 1) := by decide +kernel
theorem dX0_reachUp_8 : decode cX0_reachUp 8 = .ok (.getfield 19, 3) := by decide +kernel
theorem dX0_reachUp_11 : decode cX0_reachUp 11 = .ok (.ifCond .ne 17, 3) := by decide +kernel
theorem dX0_reachUp_14 : decode cX0_reachUp 14 = .ok (.aload_n 0, 1) := by decide +kernel
theorem dX0_reachUp_15 : decode cX0_reachUp 15 = .ok (.getfield 35, 3) := by decide +kernel
theorem dX0_reachUp_18 : decode cX0_reachUp 18 = .ok (.bipush 7, 2) := by decide +kernel
theorem dX0_reachUp_20 : decode cX0_reachUp 20 = .ok (.iadd, 1) := by decide +kernel
theorem dX0_reachUp_21 : decode cX0_reachUp 21 = .ok (.iconst 4, 1) := by decide +kernel
theorem dX0_reachUp_22 : decode cX0_reachUp 22 = .ok (.invokestatic 38, 3) := by decide +kernel
theorem dX0_reachUp_25 : decode cX0_reachUp 25 = .ok (.goto 7, 3) := by decide +kernel
theorem dX0_reachUp_28 : decode cX0_reachUp 28 = .ok (.aload_n 0, 1) := by decide +kernel
theorem dX0_reachUp_29 : decode cX0_reachUp 29 = .ok (.getfield 35, 3) := by decide +kernel
theorem dX0_reachUp_32 : decode cX0_reachUp 32 = .ok (.ireturn, 1) := by decide +kernel
theorem dX0_reachDown_0 : decode cX0_reachDown 0 = .ok (.aload_n 0, 1) := by decide +kernel
theorem dX0_reachDown_1 : decode cX0_reachDown 1 = .ok (.getfield 45, 3) := by decide +kernel
theorem dX0_reachDown_4 : decode cX0_reachDown 4 = .ok (.ifCond .ne 24, 3) := by decide +kernel
theorem dX0_reachDown_7 : decode cX0_reachDown 7 = .ok (.aload_n 0, 1) := by decide +kernel
theorem dX0_reachDown_8 : decode cX0_reachDown 8 = .ok (.getfield 19, 3) := by decide +kernel
theorem dX0_reachDown_11 : decode cX0_reachDown 11 = .ok (.ifCond .ne 17, 3) := by decide +kernel
theorem dX0_reachDown_14 : decode cX0_reachDown 14 = .ok (.aload_n 0, 1) := by decide +kernel
theorem dX0_reachDown_15 : decode cX0_reachDown 15 = .ok (.getfield 26, 3) := by decide +kernel
theorem dX0_reachDown_18 : decode cX0_reachDown 18 = .ok (.bipush 7, 2) := by decide +kernel
theorem dX0_reachDown_20 : decode cX0_reachDown 20 = .ok (.isub, 1) := by decide +kernel
theorem dX0_reachDown_21 : decode cX0_reachDown 21 = .ok (.iconst 4, 1) := by decide +kernel
theorem dX0_reachDown_22 : decode cX0_reachDown 22 = .ok (.invokestatic 29, 3) := by decide +kernel
theorem dX0_reachDown_25 : decode cX0_reachDown 25 = .ok (.goto 7, 3) := by decide +kernel
theorem dX0_reachDown_28 : decode cX0_reachDown 28 = .ok (.aload_n 0, 1) := by decide +kernel
theorem dX0_reachDown_29 : decode cX0_reachDown 29 = .ok (.getfield 26, 3) := by decide +kernel
theorem dX0_reachDown_32 : decode cX0_reachDown 32 = .ok (.ireturn, 1) := by decide +kernel
set_option maxRecDepth 20000 in
theorem ggX1_init_X0_init : GoodIn wsX1_init wsX0_init := goodIn_r _ [27, 28, 2, 3, 5, 29, 50, 51, 52, 53, 54, 55, 56] rfl (by decide +kernel)
set_option maxRecDepth 20000 in
theorem gX1_init_X0_init_n54 : GoodIn wsX1_init (wsX0_init) := ggX1_init_X0_init
set_option maxRecDepth 20000 in
theorem ggX1_init_X3_init : GoodIn wsX1_init wsX3_init := goodIn_r _ [31, 32, 2, 3, 5, 33, 34, 57, 58, 59] rfl (by decide +kernel)
set_option maxRecDepth 20000 in
theorem gX1_init_X3_init_n61 : GoodIn wsX1_init (wsX3_init) := ggX1_init_X3_init
theorem dX1_init_0 : decode cX1_init 0 = .ok (.aload_n 0, 1) := by decide +kernel
theorem dX1_init_1 : decode cX1_init 1 = .ok (.invokespecial 3, 3) := by decide +kernel
theorem dX1_init_4 : decode cX1_init 4 = .ok (.aload_n 0, 1) := by decide +kernel
theorem dX1_init_5 : decode cX1_init 5 = .ok (.iconst 1, 1) := by decide +kernel
theorem dX1_init_6 : decode cX1_init 6 = .ok (.putfield 9, 3) := by decide +kernel
theorem dX1_init_9 : decode cX1_init 9 = .ok (.aload_n 0, 1) := by decide +kernel
theorem dX1_init_10 : decode cX1_init 10 = .ok (.bipush 60, 2) := by decide +kernel
theorem dX1_init_12 : decode cX1_init 12 = .ok (.newarray .int, 2) := by decide +kernel
theorem dX1_init_14 : decode cX1_init 14 = .ok (.putfield 15, 3) := by decide +kernel
theorem dX1_init_17 : decode cX1_init 17 = .ok (.aload_n 0, 1) := by decide +kernel
theorem dX1_init_18 : decode cX1_init 18 = .ok (.bipush 60, 2) := by decide +kernel
theorem dX1_init_20 : decode cX1_init 20 = .ok (.newarray .int, 2) := by decide +kernel
theorem dX1_init_22 : decode cX1_init 22 = .ok (.putfield 19, 3) := by decide +kernel
theorem dX1_init_25 : decode cX1_init 25 = .ok (.aload_n 0, 1) := by decide +kernel
theorem dX1_init_26 : decode cX1_init 26 = .ok (.bipush 60, 2) := by decide +kernel
theorem dX1_init_28 : decode cX1_init 28 = .ok (.newarray .int, 2) := by decide +kernel
theorem dX1_init_30 : decode cX1_init 30 = .ok (.putfield 22, 3) := by decide +kernel
theorem dX1_init_33 : decode cX1_init 33 = .ok (.aload_n 0, 1) := by decide +kernel
theorem dX1_init_34 : decode cX1_init 34 = .ok (.bipush 60, 2) := by decide +kernel
theorem dX1_init_36 : decode cX1_init 36 = .ok (.newarray .int, 2) := by decide +kernel
theorem dX1_init_38 : decode cX1_init 38 = .ok (.putfield 25, 3) := by decide +kernel
theorem dX1_init_41 : decode cX1_init 41 = .ok (.aload_n 0, 1) := by decide +kernel
theorem dX1_init_42 : decode cX1_init 42 = .ok (.bipush 60, 2) := by decide +kernel
theorem dX1_init_44 : decode cX1_init 44 = .ok (.newarray .int, 2) := by decide +kernel
theorem dX1_init_46 : decode cX1_init 46 = .ok (.putfield 28, 3) := by decide +kernel
theorem dX1_init_49 : decode cX1_init 49 = .ok (.aload_n 0, 1) := by decide +kernel
theorem dX1_init_50 : decode cX1_init 50 = .ok (.bipush 60, 2) := by decide +kernel
theorem dX1_init_52 : decode cX1_init 52 = .ok (.newarray .int, 2) := by decide +kernel
theorem dX1_init_54 : decode cX1_init 54 = .ok (.putfield 31, 3) := by decide +kernel
theorem dX1_init_57 : decode cX1_init 57 = .ok (.aload_n 0, 1) := by decide +kernel
theorem dX1_init_58 : decode cX1_init 58 = .ok (.sipush 400, 3) := by decide +kernel
theorem dX1_init_61 : decode cX1_init 61 = .ok (.newarray .int, 2) := by decide +kernel
theorem dX1_init_63 : decode cX1_init 63 = .ok (.putfield 34, 3) := by decide +kernel
theorem dX1_init_66 : decode cX1_init 66 = .ok (.aload_n 0, 1) := by decide +kernel
theorem dX1_init_67 : decode cX1_init 67 = .ok (.sipush 400, 3) := by decide +kernel
theorem dX1_init_70 : decode cX1_init 70 = .ok (.newarray .int, 2) := by decide +kernel
theorem dX1_init_72 : decode cX1_init 72 = .ok (.putfield 37, 3) := by decide +kernel
theorem dX1_init_75 : decode cX1_init 75 = .ok (.aload_n 0, 1) := by decide +kernel
theorem dX1_init_76 : decode cX1_init 76 = .ok (.sipush 400, 3) := by decide +kernel
theorem dX1_init_79 : decode cX1_init 79 = .ok (.newarray .int, 2) := by decide +kernel
theorem dX1_init_81 : decode cX1_init 81 = .ok (.putfield 40, 3) := by decide +kernel
theorem dX1_init_84 : decode cX1_init 84 = .ok (.aload_n 0, 1) := by decide +kernel
theorem dX1_init_85 : decode cX1_init 85 = .ok (.sipush 400, 3) := by decide +kernel
theorem dX1_init_88 : decode cX1_init 88 = .ok (.newarray .int, 2) := by decide +kernel
theorem dX1_init_90 : decode cX1_init 90 = .ok (.putfield 43, 3) := by decide +kernel
theorem dX1_init_93 : decode cX1_init 93 = .ok (.aload_n 0, 1) := by decide +kernel
theorem dX1_init_94 : decode cX1_init 94 = .ok (.sipush 400, 3) := by decide +kernel
theorem dX1_init_97 : decode cX1_init 97 = .ok (.newarray .int, 2) := by decide +kernel
theorem dX1_init_99 : decode cX1_init 99 = .ok (.putfield 46, 3) := by decide +kernel
theorem dX1_init_102 : decode cX1_init 102 = .ok (.aload_n 0, 1) := by decide +kernel
theorem dX1_init_103 : decode cX1_init 103 = .ok (.sipush 400, 3) := by decide +kernel
theorem dX1_init_106 : decode cX1_init 106 = .ok (.newarray .int, 2) := by decide +kernel
theorem dX1_init_108 : decode cX1_init 108 = .ok (.putfield 49, 3) := by decide +kernel
theorem dX1_init_111 : decode cX1_init 111 = .ok (.aload_n 0, 1) := by decide +kernel
theorem dX1_init_112 : decode cX1_init 112 = .ok (.iconst 3, 1) := by decide +kernel
theorem dX1_init_113 : decode cX1_init 113 = .ok (.anewarray 52, 3) := by decide +kernel
theorem dX1_init_116 : decode cX1_init 116 = .ok (.dup, 1) := by decide +kernel
theorem dX1_init_117 : decode cX1_init 117 = .ok (.iconst 0, 1) := by decide +kernel
theorem dX1_init_118 : decode cX1_init 118 = .ok (.new 52, 3) := by decide +kernel
theorem dX1_init_121 : decode cX1_init 121 = .ok (.dup, 1) := by decide +kernel
theorem dX1_init_122 : decode cX1_init 122 = .ok (.invokespecial 54, 3) := by decide +kernel
theorem dX1_init_125 : decode cX1_init 125 = .ok (.aastore, 1) := by decide +kernel
theorem dX1_init_126 : decode cX1_init 126 = .ok (.dup, 1) := by decide +kernel
theorem dX1_init_127 : decode cX1_init 127 = .ok (.iconst 1, 1) := by decide +kernel
theorem dX1_init_128 : decode cX1_init 128 = .ok (.new 52, 3) := by decide +kernel
theorem dX1_init_131 : decode cX1_init 131 = .ok (.dup, 1) := by decide +kernel
theorem dX1_init_132 : decode cX1_init 132 = .ok (.invokespecial 54, 3) := by decide +kernel
theorem dX1_init_135 : decode cX1_init 135 = .ok (.aastore, 1) := by decide +kernel
theorem dX1_init_136 : decode cX1_init 136 = .ok (.dup, 1) := by decide +kernel
theorem dX1_init_137 : decode cX1_init 137 = .ok (.iconst 2, 1) := by decide +kernel
theorem dX1_init_138 : decode cX1_init 138 = .ok (.new 52, 3) := by decide +kernel
theorem dX1_init_141 : decode cX1_init 141 = .ok (.dup, 1) := by decide +kernel
theorem dX1_init_142 : decode cX1_init 142 = .ok (.invokespecial 54, 3) := by decide +kernel
theorem dX1_init_145 : decode cX1_init 145 = .ok (.aastore, 1) := by decide +kernel
theorem dX1_init_146 : decode cX1_init 146 = .ok (.putfield 55, 3) := by decide +kernel
theorem dX1_init_149 : decode cX1_init 149 = .ok (.aload_n 0, 1) := by decide +kernel
theorem dX1_init_150 : decode cX1_init 150 = .ok (.new 59, 3) := by decide +kernel
theorem dX1_init_153 : decode cX1_init 153 = .ok (.dup, 1) := by decide +kernel
theorem dX1_init_154 : decode cX1_init 154 = .ok (.invokespecial 61, 3) := by decide +kernel
theorem dX1_init_157 : decode cX1_init 157 = .ok (.putfield 62, 3) := by decide +kernel
theorem dX1_init_160 : decode cX1_init 160 = .ok (.return_, 1) := by decide +kernel
set_option maxRecDepth 20000 in
theorem ggX1_refresh_X1_clear : GoodIn wsX1_refresh wsX1_clear := goodIn_r _ [12, 13, 14, 15, 7, 16, 17, 18, 19, 20, 21, 22, 171, 172, 173, 174, 175, 176, 177, 178, 179, 180, 181, 182, 183, 184, 185] rfl (by decide +kernel)
set_option maxRecDepth 20000 in
theorem gX1_refresh_X1_clear : GoodIn wsX1_refresh (wsV RX1 66 RX1 yX1_clear wsX1_clear) := goodIn_app (goodIn_r _ [8, 9, 10, 11] rfl (by decide +kernel)) ggX1_refresh_X1_clear
set_option maxRecDepth 20000 in
theorem ggX1_refresh_X4_stepOf : GoodIn wsX1_refresh wsX4_stepOf := goodIn_r _ [27, 28, 29, 30, 31, 32, 33, 34, 35, 36, 193, 194, 195, 196, 197, 198] rfl (by decide +kernel)
set_option maxRecDepth 20000 in
theorem gX1_refresh_X4_stepOf : GoodIn wsX1_refresh (wsV RX1 84 RX4 yX4_stepOf wsX4_stepOf) := goodIn_app (goodIn_r _ [23, 24, 25, 26] rfl (by decide +kernel)) ggX1_refresh_X4_stepOf
set_option maxRecDepth 20000 in
theorem ggX1_refresh_X5_cellOf : GoodIn wsX1_refresh wsX5_cellOf := goodIn_r _ [38] rfl (by decide +kernel)
set_option maxRecDepth 20000 in
theorem gX1_refresh_X5_cellOf_n90 : GoodIn wsX1_refresh (wsX5_cellOf) := ggX1_refresh_X5_cellOf
set_option maxRecDepth 20000 in
theorem ggX1_refresh_X1_layCell : GoodIn wsX1_refresh wsX1_layCell := goodIn_r _ [42, 43, 3, 44, 45, 17, 46, 47, 13, 48, 49, 50, 11, 51, 2, 52, 53, 7, 54, 55, 56, 57, 58, 59, 60, 61, 62, 63, 64, 65, 66, 67, 68, 69, 70, 71, 72, 73, 74, 75, 76, 77, 78, 79, 80, 81, 82, 83, 84, 85, 86, 87, 88, 89, 90, 91, 92, 93, 94, 95, 96, 97, 16, 98, 99, 100, 101, 102, 103, 104, 105, 106, 107, 108, 109, 110, 111, 112, 113, 114, 115, 116, 117, 118, 119, 120, 121, 122, 123, 124, 125, 126, 127, 128, 129, 130, 131, 132, 133, 134, 135, 136, 137, 138, 139, 140, 141, 142, 143, 144, 14, 145, 15, 146, 18, 147, 148, 149, 150, 151, 152, 153, 154, 155, 156, 157, 158, 159, 160, 161, 20, 21, 22, 162, 163, 164, 165, 166, 167, 168, 169, 170, 171, 172, 173, 174, 175, 176, 177, 178, 179, 180, 181, 182, 183, 184, 185, 199, 200, 201, 202, 203, 204, 205, 186, 187, 188, 189, 190, 191, 192, 206, 207, 208] rfl (by decide +kernel)
set_option maxRecDepth 20000 in
theorem gX1_refresh_X1_layCell : GoodIn wsX1_refresh (wsV RX1 94 RX1 yX1_layCell wsX1_layCell) := goodIn_app (goodIn_r _ [39, 40, 41, 11] rfl (by decide +kernel)) ggX1_refresh_X1_layCell
theorem dX1_refresh_0 : decode cX1_refresh 0 = .ok (.aload_n 0, 1) := by decide +kernel
theorem dX1_refresh_1 : decode cX1_refresh 1 = .ok (.getfield 9, 3) := by decide +kernel
theorem dX1_refresh_4 : decode cX1_refresh 4 = .ok (.ifCond .ne 4, 3) := by decide +kernel
theorem dX1_refresh_7 : decode cX1_refresh 7 = .ok (.return_, 1) := by decide +kernel
theorem dX1_refresh_8 : decode cX1_refresh 8 = .ok (.aload_n 0, 1) := by decide +kernel
theorem dX1_refresh_9 : decode cX1_refresh 9 = .ok (.invokevirtual 66, 3) := by decide +kernel
theorem dX1_refresh_12 : decode cX1_refresh 12 = .ok (.iconst 0, 1) := by decide +kernel
theorem dX1_refresh_13 : decode cX1_refresh 13 = .ok (.istore_n 3, 1) := by decide +kernel
theorem dX1_refresh_14 : decode cX1_refresh 14 = .ok (.iload_n 3, 1) := by decide +kernel
theorem dX1_refresh_15 : decode cX1_refresh 15 = .ok (.aload_n 1, 1) := by decide +kernel
theorem dX1_refresh_16 : decode cX1_refresh 16 = .ok (.getfield 69, 3) := by decide +kernel
theorem dX1_refresh_19 : decode cX1_refresh 19 = .ok (.if_icmp .ge 37, 3) := by decide +kernel
theorem dX1_refresh_22 : decode cX1_refresh 22 = .ok (.aload_n 0, 1) := by decide +kernel
theorem dX1_refresh_23 : decode cX1_refresh 23 = .ok (.getfield 15, 3) := by decide +kernel
theorem dX1_refresh_26 : decode cX1_refresh 26 = .ok (.iload_n 3, 1) := by decide +kernel
theorem dX1_refresh_27 : decode cX1_refresh 27 = .ok (.aload_n 2, 1) := by decide +kernel
theorem dX1_refresh_28 : decode cX1_refresh 28 = .ok (.aload_n 1, 1) := by decide +kernel
theorem dX1_refresh_29 : decode cX1_refresh 29 = .ok (.getfield 75, 3) := by decide +kernel
theorem dX1_refresh_32 : decode cX1_refresh 32 = .ok (.iload_n 3, 1) := by decide +kernel
theorem dX1_refresh_33 : decode cX1_refresh 33 = .ok (.iaload, 1) := by decide +kernel
theorem dX1_refresh_34 : decode cX1_refresh 34 = .ok (.aload_n 1, 1) := by decide +kernel
theorem dX1_refresh_35 : decode cX1_refresh 35 = .ok (.getfield 78, 3) := by decide +kernel
theorem dX1_refresh_38 : decode cX1_refresh 38 = .ok (.iload_n 3, 1) := by decide +kernel
theorem dX1_refresh_39 : decode cX1_refresh 39 = .ok (.iaload, 1) := by decide +kernel
theorem dX1_refresh_40 : decode cX1_refresh 40 = .ok (.aload_n 1, 1) := by decide +kernel
theorem dX1_refresh_41 : decode cX1_refresh 41 = .ok (.getfield 81, 3) := by decide +kernel
theorem dX1_refresh_44 : decode cX1_refresh 44 = .ok (.iload_n 3, 1) := by decide +kernel
theorem dX1_refresh_45 : decode cX1_refresh 45 = .ok (.iaload, 1) := by decide +kernel
theorem dX1_refresh_46 : decode cX1_refresh 46 = .ok (.invokevirtual 84, 3) := by decide +kernel
theorem dX1_refresh_49 : decode cX1_refresh 49 = .ok (.iastore, 1) := by decide +kernel
theorem dX1_refresh_50 : decode cX1_refresh 50 = .ok (.iinc 3 1, 3) := by decide +kernel
theorem dX1_refresh_53 : decode cX1_refresh 53 = .ok (.goto (-39), 3) := by decide +kernel
theorem dX1_refresh_56 : decode cX1_refresh 56 = .ok (.iconst 0, 1) := by decide +kernel
theorem dX1_refresh_57 : decode cX1_refresh 57 = .ok (.istore_n 3, 1) := by decide +kernel
theorem dX1_refresh_58 : decode cX1_refresh 58 = .ok (.iload_n 3, 1) := by decide +kernel
theorem dX1_refresh_59 : decode cX1_refresh 59 = .ok (.aload_n 1, 1) := by decide +kernel
theorem dX1_refresh_60 : decode cX1_refresh 60 = .ok (.getfield 69, 3) := by decide +kernel
theorem dX1_refresh_63 : decode cX1_refresh 63 = .ok (.if_icmp .ge 44, 3) := by decide +kernel
theorem dX1_refresh_66 : decode cX1_refresh 66 = .ok (.aload_n 1, 1) := by decide +kernel
theorem dX1_refresh_67 : decode cX1_refresh 67 = .ok (.getfield 75, 3) := by decide +kernel
theorem dX1_refresh_70 : decode cX1_refresh 70 = .ok (.iload_n 3, 1) := by decide +kernel
theorem dX1_refresh_71 : decode cX1_refresh 71 = .ok (.iaload, 1) := by decide +kernel
theorem dX1_refresh_72 : decode cX1_refresh 72 = .ok (.aload_n 1, 1) := by decide +kernel
theorem dX1_refresh_73 : decode cX1_refresh 73 = .ok (.getfield 78, 3) := by decide +kernel
theorem dX1_refresh_76 : decode cX1_refresh 76 = .ok (.iload_n 3, 1) := by decide +kernel
theorem dX1_refresh_77 : decode cX1_refresh 77 = .ok (.iaload, 1) := by decide +kernel
theorem dX1_refresh_78 : decode cX1_refresh 78 = .ok (.invokestatic 90, 3) := by decide +kernel
theorem dX1_refresh_81 : decode cX1_refresh 81 = .ok (.istore 4, 2) := by decide +kernel
theorem dX1_refresh_83 : decode cX1_refresh 83 = .ok (.aload_n 0, 1) := by decide +kernel
theorem dX1_refresh_84 : decode cX1_refresh 84 = .ok (.getfield 40, 3) := by decide +kernel
theorem dX1_refresh_87 : decode cX1_refresh 87 = .ok (.iload 4, 2) := by decide +kernel
theorem dX1_refresh_89 : decode cX1_refresh 89 = .ok (.iaload, 1) := by decide +kernel
theorem dX1_refresh_90 : decode cX1_refresh 90 = .ok (.ifCond .ne 11, 3) := by decide +kernel
theorem dX1_refresh_93 : decode cX1_refresh 93 = .ok (.aload_n 0, 1) := by decide +kernel
theorem dX1_refresh_94 : decode cX1_refresh 94 = .ok (.aload_n 1, 1) := by decide +kernel
theorem dX1_refresh_95 : decode cX1_refresh 95 = .ok (.iload_n 3, 1) := by decide +kernel
theorem dX1_refresh_96 : decode cX1_refresh 96 = .ok (.iload 4, 2) := by decide +kernel
theorem dX1_refresh_98 : decode cX1_refresh 98 = .ok (.invokevirtual 94, 3) := by decide +kernel
theorem dX1_refresh_101 : decode cX1_refresh 101 = .ok (.iinc 3 1, 3) := by decide +kernel
theorem dX1_refresh_104 : decode cX1_refresh 104 = .ok (.goto (-46), 3) := by decide +kernel
theorem dX1_refresh_107 : decode cX1_refresh 107 = .ok (.aload_n 0, 1) := by decide +kernel
theorem dX1_refresh_108 : decode cX1_refresh 108 = .ok (.iconst 0, 1) := by decide +kernel
theorem dX1_refresh_109 : decode cX1_refresh 109 = .ok (.putfield 9, 3) := by decide +kernel
theorem dX1_refresh_112 : decode cX1_refresh 112 = .ok (.return_, 1) := by decide +kernel
set_option maxRecDepth 20000 in
theorem ggX1_clear_J7_fill_53178 : GoodIn wsX1_clear wsJ7_fill_53178 := goodIn_r _ [11] rfl (by decide +kernel)
set_option maxRecDepth 20000 in
theorem gX1_clear_J7_fill_53178 : GoodIn wsX1_clear (va_wsS RX1 98 yJ7_fill_53178 wsJ7_fill_53178) := goodIn_app (goodIn_r _ [8, 9, 10] rfl (by decide +kernel)) ggX1_clear_J7_fill_53178
theorem dX1_clear_0 : decode cX1_clear 0 = .ok (.aload_n 0, 1) := by decide +kernel
theorem dX1_clear_1 : decode cX1_clear 1 = .ok (.getfield 31, 3) := by decide +kernel
theorem dX1_clear_4 : decode cX1_clear 4 = .ok (.iconst 0, 1) := by decide +kernel
theorem dX1_clear_5 : decode cX1_clear 5 = .ok (.invokestatic 98, 3) := by decide +kernel
theorem dX1_clear_8 : decode cX1_clear 8 = .ok (.aload_n 0, 1) := by decide +kernel
theorem dX1_clear_9 : decode cX1_clear 9 = .ok (.getfield 34, 3) := by decide +kernel
theorem dX1_clear_12 : decode cX1_clear 12 = .ok (.bipush 8, 2) := by decide +kernel
theorem dX1_clear_14 : decode cX1_clear 14 = .ok (.invokestatic 98, 3) := by decide +kernel
theorem dX1_clear_17 : decode cX1_clear 17 = .ok (.aload_n 0, 1) := by decide +kernel
theorem dX1_clear_18 : decode cX1_clear 18 = .ok (.getfield 37, 3) := by decide +kernel
theorem dX1_clear_21 : decode cX1_clear 21 = .ok (.iconst 0, 1) := by decide +kernel
theorem dX1_clear_22 : decode cX1_clear 22 = .ok (.invokestatic 98, 3) := by decide +kernel
theorem dX1_clear_25 : decode cX1_clear 25 = .ok (.aload_n 0, 1) := by decide +kernel
theorem dX1_clear_26 : decode cX1_clear 26 = .ok (.getfield 40, 3) := by decide +kernel
theorem dX1_clear_29 : decode cX1_clear 29 = .ok (.iconst 0, 1) := by decide +kernel
theorem dX1_clear_30 : decode cX1_clear 30 = .ok (.invokestatic 98, 3) := by decide +kernel
theorem dX1_clear_33 : decode cX1_clear 33 = .ok (.aload_n 0, 1) := by decide +kernel
theorem dX1_clear_34 : decode cX1_clear 34 = .ok (.getfield 43, 3) := by decide +kernel
theorem dX1_clear_37 : decode cX1_clear 37 = .ok (.iconst 0, 1) := by decide +kernel
theorem dX1_clear_38 : decode cX1_clear 38 = .ok (.invokestatic 98, 3) := by decide +kernel
theorem dX1_clear_41 : decode cX1_clear 41 = .ok (.aload_n 0, 1) := by decide +kernel
theorem dX1_clear_42 : decode cX1_clear 42 = .ok (.getfield 46, 3) := by decide +kernel
theorem dX1_clear_45 : decode cX1_clear 45 = .ok (.iconst 0, 1) := by decide +kernel
theorem dX1_clear_46 : decode cX1_clear 46 = .ok (.invokestatic 98, 3) := by decide +kernel
theorem dX1_clear_49 : decode cX1_clear 49 = .ok (.aload_n 0, 1) := by decide +kernel
theorem dX1_clear_50 : decode cX1_clear 50 = .ok (.getfield 49, 3) := by decide +kernel
theorem dX1_clear_53 : decode cX1_clear 53 = .ok (.iconst 0, 1) := by decide +kernel
theorem dX1_clear_54 : decode cX1_clear 54 = .ok (.invokestatic 98, 3) := by decide +kernel
theorem dX1_clear_57 : decode cX1_clear 57 = .ok (.return_, 1) := by decide +kernel
set_option maxRecDepth 20000 in
theorem ggX1_layCell_X1_gather : GoodIn wsX1_layCell wsX1_gather := goodIn_r _ [13, 1, 6, 14, 15, 2, 16, 17, 7, 18, 19, 20, 21, 22, 23, 24, 25, 26, 27, 28, 29, 30, 31, 32, 33, 34, 35, 36, 37, 38, 39, 40, 41, 42, 43, 44, 45, 46, 47, 48, 49, 50, 51, 52, 53, 54, 55, 56, 57, 142, 143, 144, 145, 146, 147, 148, 149, 150, 151, 152, 153, 154, 155, 156, 164, 165, 166, 167, 168, 169, 170, 157, 158, 159, 160, 161, 162, 163, 171, 172, 173] rfl (by decide +kernel)
set_option maxRecDepth 20000 in
theorem gX1_layCell_X1_gather : GoodIn wsX1_layCell (wsV RX1 104 RX1 yX1_gather wsX1_gather) := goodIn_app (goodIn_r _ [9, 10, 11, 12] rfl (by decide +kernel)) ggX1_layCell_X1_gather
set_option maxRecDepth 20000 in
theorem ggX1_layCell_X1_turnStems : GoodIn wsX1_layCell wsX1_turnStems := goodIn_r _ [61, 62, 1, 4, 63, 64, 65, 66, 67, 68, 21, 69, 48, 43, 142, 143, 144, 145, 146, 147, 148, 149, 150, 151, 152, 153, 154, 155, 156, 157, 158, 159, 160, 161, 162, 163] rfl (by decide +kernel)
set_option maxRecDepth 20000 in
theorem gX1_layCell_X1_turnStems : GoodIn wsX1_layCell (wsV RX1 107 RX1 yX1_turnStems wsX1_turnStems) := goodIn_app (goodIn_r _ [58, 59, 60, 12] rfl (by decide +kernel)) ggX1_layCell_X1_turnStems
set_option maxRecDepth 20000 in
theorem ggX1_layCell_X0_sortFromStemsFarEnd : GoodIn wsX1_layCell wsX0_sortFromStemsFarEnd := goodIn_r _ [73, 23, 52, 74, 75, 76, 21, 77, 78, 157, 158, 159, 160, 161, 162, 163] rfl (by decide +kernel)
set_option maxRecDepth 20000 in
theorem gX1_layCell_X0_sortFromStemsFarEnd : GoodIn wsX1_layCell (wsV RX1 111 RX0 yX0_sortFromStemsFarEnd wsX0_sortFromStemsFarEnd) := goodIn_app (goodIn_r _ [70, 71, 72, 21] rfl (by decide +kernel)) ggX1_layCell_X0_sortFromStemsFarEnd
set_option maxRecDepth 20000 in
theorem ggX1_layCell_X0_turnHeads : GoodIn wsX1_layCell wsX0_turnHeads := goodIn_r _ [82, 23, 52, 83, 84, 46, 85, 78, 157, 158, 159, 160, 161, 162, 163] rfl (by decide +kernel)
set_option maxRecDepth 20000 in
theorem gX1_layCell_X0_turnHeads : GoodIn wsX1_layCell (wsV RX1 115 RX0 yX0_turnHeads wsX0_turnHeads) := goodIn_app (goodIn_r _ [79, 80, 81, 21] rfl (by decide +kernel)) ggX1_layCell_X0_turnHeads
set_option maxRecDepth 20000 in
theorem ggX1_layCell_X1_moveChords : GoodIn wsX1_layCell wsX1_moveChords := goodIn_r _ [89, 1, 90, 91, 92, 93, 12, 94, 95, 96, 97, 98, 4, 65, 3, 2, 99, 84, 46, 85, 100, 101, 102, 103, 16, 7, 64, 142, 143, 144, 145, 146, 147, 148, 149, 150, 151, 152, 153, 154, 155, 156, 157, 158, 159, 160, 161, 162, 163, 164, 165, 166, 167, 168, 169, 170] rfl (by decide +kernel)
set_option maxRecDepth 20000 in
theorem gX1_layCell_X1_moveChords : GoodIn wsX1_layCell (wsV RX1 119 RX1 yX1_moveChords wsX1_moveChords) := goodIn_app (goodIn_r _ [86, 87, 88, 12] rfl (by decide +kernel)) ggX1_layCell_X1_moveChords
set_option maxRecDepth 20000 in
theorem ggX1_layCell_X1_keep : GoodIn wsX1_layCell wsX1_keep := goodIn_r _ [107, 4, 108, 65, 90, 109, 110, 111, 50, 46, 51, 112, 113, 45, 47, 114, 115, 116, 117, 21, 118, 78, 24, 48, 49, 119, 120, 121, 122, 43, 44, 157, 158, 159, 160, 161, 162, 163, 142, 143, 144, 145, 146, 147, 148, 149, 150, 151, 152, 153, 154, 155, 156] rfl (by decide +kernel)
set_option maxRecDepth 20000 in
theorem gX1_layCell_X1_keep : GoodIn wsX1_layCell (wsV RX1 126 RX1 yX1_keep wsX1_keep) := goodIn_app (goodIn_r _ [104, 105, 106, 12] rfl (by decide +kernel)) ggX1_layCell_X1_keep
set_option maxRecDepth 20000 in
theorem ggX1_layCell_X3_placeAll : GoodIn wsX1_layCell wsX3_placeAll := goodIn_r _ [126, 127, 31, 128, 50, 46, 51, 129, 130, 131, 132, 133, 134, 135, 29, 136, 57, 137, 138, 139, 140, 141, 84, 85, 171, 172, 173] rfl (by decide +kernel)
set_option maxRecDepth 20000 in
theorem gX1_layCell_X3_placeAll : GoodIn wsX1_layCell (wsV RX1 133 RX3 yX3_placeAll wsX3_placeAll) := goodIn_app (goodIn_r _ [123, 124, 125, 29] rfl (by decide +kernel)) ggX1_layCell_X3_placeAll
theorem dX1_layCell_0 : decode cX1_layCell 0 = .ok (.aload_n 0, 1) := by decide +kernel
theorem dX1_layCell_1 : decode cX1_layCell 1 = .ok (.aload_n 1, 1) := by decide +kernel
theorem dX1_layCell_2 : decode cX1_layCell 2 = .ok (.iload_n 2, 1) := by decide +kernel
theorem dX1_layCell_3 : decode cX1_layCell 3 = .ok (.iload_n 3, 1) := by decide +kernel
theorem dX1_layCell_4 : decode cX1_layCell 4 = .ok (.invokevirtual 104, 3) := by decide +kernel
theorem dX1_layCell_7 : decode cX1_layCell 7 = .ok (.aload_n 0, 1) := by decide +kernel
theorem dX1_layCell_8 : decode cX1_layCell 8 = .ok (.iload_n 3, 1) := by decide +kernel
theorem dX1_layCell_9 : decode cX1_layCell 9 = .ok (.invokevirtual 107, 3) := by decide +kernel
theorem dX1_layCell_12 : decode cX1_layCell 12 = .ok (.iconst 0, 1) := by decide +kernel
theorem dX1_layCell_13 : decode cX1_layCell 13 = .ok (.istore 4, 2) := by decide +kernel
theorem dX1_layCell_15 : decode cX1_layCell 15 = .ok (.iload 4, 2) := by decide +kernel
theorem dX1_layCell_17 : decode cX1_layCell 17 = .ok (.iconst 3, 1) := by decide +kernel
theorem dX1_layCell_18 : decode cX1_layCell 18 = .ok (.if_icmp .ge 41, 3) := by decide +kernel
theorem dX1_layCell_21 : decode cX1_layCell 21 = .ok (.aload_n 0, 1) := by decide +kernel
theorem dX1_layCell_22 : decode cX1_layCell 22 = .ok (.getfield 55, 3) := by decide +kernel
theorem dX1_layCell_25 : decode cX1_layCell 25 = .ok (.iload 4, 2) := by decide +kernel
theorem dX1_layCell_27 : decode cX1_layCell 27 = .ok (.aaload, 1) := by decide +kernel
theorem dX1_layCell_28 : decode cX1_layCell 28 = .ok (.aload_n 0, 1) := by decide +kernel
theorem dX1_layCell_29 : decode cX1_layCell 29 = .ok (.getfield 15, 3) := by decide +kernel
theorem dX1_layCell_32 : decode cX1_layCell 32 = .ok (.invokevirtual 111, 3) := by decide +kernel
theorem dX1_layCell_35 : decode cX1_layCell 35 = .ok (.aload_n 0, 1) := by decide +kernel
theorem dX1_layCell_36 : decode cX1_layCell 36 = .ok (.getfield 55, 3) := by decide +kernel
theorem dX1_layCell_39 : decode cX1_layCell 39 = .ok (.iload 4, 2) := by decide +kernel
theorem dX1_layCell_41 : decode cX1_layCell 41 = .ok (.aaload, 1) := by decide +kernel
theorem dX1_layCell_42 : decode cX1_layCell 42 = .ok (.aload_n 0, 1) := by decide +kernel
theorem dX1_layCell_43 : decode cX1_layCell 43 = .ok (.getfield 15, 3) := by decide +kernel
theorem dX1_layCell_46 : decode cX1_layCell 46 = .ok (.aload_n 0, 1) := by decide +kernel
theorem dX1_layCell_47 : decode cX1_layCell 47 = .ok (.getfield 22, 3) := by decide +kernel
theorem dX1_layCell_50 : decode cX1_layCell 50 = .ok (.invokevirtual 115, 3) := by decide +kernel
theorem dX1_layCell_53 : decode cX1_layCell 53 = .ok (.iinc 4 1, 3) := by decide +kernel
theorem dX1_layCell_56 : decode cX1_layCell 56 = .ok (.goto (-41), 3) := by decide +kernel
theorem dX1_layCell_59 : decode cX1_layCell 59 = .ok (.aload_n 0, 1) := by decide +kernel
theorem dX1_layCell_60 : decode cX1_layCell 60 = .ok (.aload_n 1, 1) := by decide +kernel
theorem dX1_layCell_61 : decode cX1_layCell 61 = .ok (.invokevirtual 119, 3) := by decide +kernel
theorem dX1_layCell_64 : decode cX1_layCell 64 = .ok (.iconst 0, 1) := by decide +kernel
theorem dX1_layCell_65 : decode cX1_layCell 65 = .ok (.istore 4, 2) := by decide +kernel
theorem dX1_layCell_67 : decode cX1_layCell 67 = .ok (.iload 4, 2) := by decide +kernel
theorem dX1_layCell_69 : decode cX1_layCell 69 = .ok (.iconst 3, 1) := by decide +kernel
theorem dX1_layCell_70 : decode cX1_layCell 70 = .ok (.if_icmp .ge 34, 3) := by decide +kernel
theorem dX1_layCell_73 : decode cX1_layCell 73 = .ok (.aload_n 0, 1) := by decide +kernel
theorem dX1_layCell_74 : decode cX1_layCell 74 = .ok (.getfield 55, 3) := by decide +kernel
theorem dX1_layCell_77 : decode cX1_layCell 77 = .ok (.iload 4, 2) := by decide +kernel
theorem dX1_layCell_79 : decode cX1_layCell 79 = .ok (.aaload, 1) := by decide +kernel
theorem dX1_layCell_80 : decode cX1_layCell 80 = .ok (.getfield 123, 3) := by decide +kernel
theorem dX1_layCell_83 : decode cX1_layCell 83 = .ok (.ifCond .le 15, 3) := by decide +kernel
theorem dX1_layCell_86 : decode cX1_layCell 86 = .ok (.aload_n 0, 1) := by decide +kernel
theorem dX1_layCell_87 : decode cX1_layCell 87 = .ok (.aload_n 0, 1) := by decide +kernel
theorem dX1_layCell_88 : decode cX1_layCell 88 = .ok (.getfield 55, 3) := by decide +kernel
theorem dX1_layCell_91 : decode cX1_layCell 91 = .ok (.iload 4, 2) := by decide +kernel
theorem dX1_layCell_93 : decode cX1_layCell 93 = .ok (.aaload, 1) := by decide +kernel
theorem dX1_layCell_94 : decode cX1_layCell 94 = .ok (.iload_n 3, 1) := by decide +kernel
theorem dX1_layCell_95 : decode cX1_layCell 95 = .ok (.invokevirtual 126, 3) := by decide +kernel
theorem dX1_layCell_98 : decode cX1_layCell 98 = .ok (.iinc 4 1, 3) := by decide +kernel
theorem dX1_layCell_101 : decode cX1_layCell 101 = .ok (.goto (-34), 3) := by decide +kernel
theorem dX1_layCell_104 : decode cX1_layCell 104 = .ok (.aload_n 0, 1) := by decide +kernel
theorem dX1_layCell_105 : decode cX1_layCell 105 = .ok (.getfield 46, 3) := by decide +kernel
theorem dX1_layCell_108 : decode cX1_layCell 108 = .ok (.iload_n 3, 1) := by decide +kernel
theorem dX1_layCell_109 : decode cX1_layCell 109 = .ok (.aload_n 0, 1) := by decide +kernel
theorem dX1_layCell_110 : decode cX1_layCell 110 = .ok (.getfield 62, 3) := by decide +kernel
theorem dX1_layCell_113 : decode cX1_layCell 113 = .ok (.aload_n 1, 1) := by decide +kernel
theorem dX1_layCell_114 : decode cX1_layCell 114 = .ok (.getfield 130, 3) := by decide +kernel
theorem dX1_layCell_117 : decode cX1_layCell 117 = .ok (.aload_n 0, 1) := by decide +kernel
theorem dX1_layCell_118 : decode cX1_layCell 118 = .ok (.getfield 15, 3) := by decide +kernel
theorem dX1_layCell_121 : decode cX1_layCell 121 = .ok (.aload_n 0, 1) := by decide +kernel
theorem dX1_layCell_122 : decode cX1_layCell 122 = .ok (.getfield 31, 3) := by decide +kernel
theorem dX1_layCell_125 : decode cX1_layCell 125 = .ok (.invokevirtual 133, 3) := by decide +kernel
theorem dX1_layCell_128 : decode cX1_layCell 128 = .ok (.iastore, 1) := by decide +kernel
theorem dX1_layCell_129 : decode cX1_layCell 129 = .ok (.return_, 1) := by decide +kernel
set_option maxRecDepth 20000 in
theorem ggX1_gather_X0_clear : GoodIn wsX1_gather wsX0_clear := goodIn_r _ [13, 14, 15, 16, 71, 72, 73, 74, 75, 76, 77] rfl (by decide +kernel)
set_option maxRecDepth 20000 in
theorem gX1_gather_X0_clear : GoodIn wsX1_gather (wsV RX1 137 RX0 yX0_clear wsX0_clear) := goodIn_app (goodIn_r _ [9, 10, 11, 12] rfl (by decide +kernel)) ggX1_gather_X0_clear
set_option maxRecDepth 20000 in
theorem ggX1_gather_X3_clear : GoodIn wsX1_gather wsX3_clear := goodIn_r _ [21, 22, 78, 79, 80] rfl (by decide +kernel)
set_option maxRecDepth 20000 in
theorem gX1_gather_X3_clear : GoodIn wsX1_gather (wsV RX1 138 RX3 yX3_clear wsX3_clear) := goodIn_app (goodIn_r _ [17, 18, 19, 20] rfl (by decide +kernel)) ggX1_gather_X3_clear
set_option maxRecDepth 20000 in
theorem ggX1_gather_X2_together : GoodIn wsX1_gather wsX2_together := goodIn_r _ [27, 28, 29, 64, 65, 66, 67, 68, 69, 70] rfl (by decide +kernel)
set_option maxRecDepth 20000 in
theorem gX1_gather_X2_together : GoodIn wsX1_gather (wsV RX1 139 RX2 yX2_together wsX2_together) := goodIn_app (goodIn_r _ [23, 24, 25, 26] rfl (by decide +kernel)) ggX1_gather_X2_together
set_option maxRecDepth 20000 in
theorem ggX1_gather_X0_add : GoodIn wsX1_gather wsX0_add := goodIn_r _ [33, 14, 34, 35, 36, 37, 38, 39, 40, 41, 42, 15, 43, 71, 72, 73, 74, 75, 76, 77] rfl (by decide +kernel)
set_option maxRecDepth 20000 in
theorem gX1_gather_X0_add : GoodIn wsX1_gather (wsV RX1 149 RX0 yX0_add wsX0_add) := goodIn_app (goodIn_r _ [30, 31, 32, 12] rfl (by decide +kernel)) ggX1_gather_X0_add
set_option maxRecDepth 20000 in
theorem ggX1_gather_X3_add : GoodIn wsX1_gather wsX3_add := goodIn_r _ [47, 48, 22, 78, 79, 80] rfl (by decide +kernel)
set_option maxRecDepth 20000 in
theorem gX1_gather_X3_add : GoodIn wsX1_gather (wsV RX1 153 RX3 yX3_add wsX3_add) := goodIn_app (goodIn_r _ [44, 45, 46, 20] rfl (by decide +kernel)) ggX1_gather_X3_add
theorem dX1_gather_0 : decode cX1_gather 0 = .ok (.iconst 0, 1) := by decide +kernel
theorem dX1_gather_1 : decode cX1_gather 1 = .ok (.istore 4, 2) := by decide +kernel
theorem dX1_gather_3 : decode cX1_gather 3 = .ok (.iload 4, 2) := by decide +kernel
theorem dX1_gather_5 : decode cX1_gather 5 = .ok (.iconst 3, 1) := by decide +kernel
theorem dX1_gather_6 : decode cX1_gather 6 = .ok (.if_icmp .ge 19, 3) := by decide +kernel
theorem dX1_gather_9 : decode cX1_gather 9 = .ok (.aload_n 0, 1) := by decide +kernel
theorem dX1_gather_10 : decode cX1_gather 10 = .ok (.getfield 55, 3) := by decide +kernel
theorem dX1_gather_13 : decode cX1_gather 13 = .ok (.iload 4, 2) := by decide +kernel
theorem dX1_gather_15 : decode cX1_gather 15 = .ok (.aaload, 1) := by decide +kernel
theorem dX1_gather_16 : decode cX1_gather 16 = .ok (.invokevirtual 137, 3) := by decide +kernel
theorem dX1_gather_19 : decode cX1_gather 19 = .ok (.iinc 4 1, 3) := by decide +kernel
theorem dX1_gather_22 : decode cX1_gather 22 = .ok (.goto (-19), 3) := by decide +kernel
theorem dX1_gather_25 : decode cX1_gather 25 = .ok (.aload_n 0, 1) := by decide +kernel
theorem dX1_gather_26 : decode cX1_gather 26 = .ok (.getfield 62, 3) := by decide +kernel
theorem dX1_gather_29 : decode cX1_gather 29 = .ok (.invokevirtual 138, 3) := by decide +kernel
theorem dX1_gather_32 : decode cX1_gather 32 = .ok (.iload_n 2, 1) := by decide +kernel
theorem dX1_gather_33 : decode cX1_gather 33 = .ok (.istore 4, 2) := by decide +kernel
theorem dX1_gather_35 : decode cX1_gather 35 = .ok (.iload 4, 2) := by decide +kernel
theorem dX1_gather_37 : decode cX1_gather 37 = .ok (.aload_n 1, 1) := by decide +kernel
theorem dX1_gather_38 : decode cX1_gather 38 = .ok (.getfield 69, 3) := by decide +kernel
theorem dX1_gather_41 : decode cX1_gather 41 = .ok (.if_icmp .ge 80, 3) := by decide +kernel
theorem dX1_gather_44 : decode cX1_gather 44 = .ok (.aload_n 1, 1) := by decide +kernel
theorem dX1_gather_45 : decode cX1_gather 45 = .ok (.iload_n 2, 1) := by decide +kernel
theorem dX1_gather_46 : decode cX1_gather 46 = .ok (.iload 4, 2) := by decide +kernel
theorem dX1_gather_48 : decode cX1_gather 48 = .ok (.invokevirtual 139, 3) := by decide +kernel
theorem dX1_gather_51 : decode cX1_gather 51 = .ok (.ifCond .eq 64, 3) := by decide +kernel
theorem dX1_gather_54 : decode cX1_gather 54 = .ok (.aload_n 0, 1) := by decide +kernel
theorem dX1_gather_55 : decode cX1_gather 55 = .ok (.getfield 55, 3) := by decide +kernel
theorem dX1_gather_58 : decode cX1_gather 58 = .ok (.aload_n 1, 1) := by decide +kernel
theorem dX1_gather_59 : decode cX1_gather 59 = .ok (.getfield 143, 3) := by decide +kernel
theorem dX1_gather_62 : decode cX1_gather 62 = .ok (.iload 4, 2) := by decide +kernel
theorem dX1_gather_64 : decode cX1_gather 64 = .ok (.iaload, 1) := by decide +kernel
theorem dX1_gather_65 : decode cX1_gather 65 = .ok (.aaload, 1) := by decide +kernel
theorem dX1_gather_66 : decode cX1_gather 66 = .ok (.iload 4, 2) := by decide +kernel
theorem dX1_gather_68 : decode cX1_gather 68 = .ok (.aload_n 0, 1) := by decide +kernel
theorem dX1_gather_69 : decode cX1_gather 69 = .ok (.getfield 15, 3) := by decide +kernel
theorem dX1_gather_72 : decode cX1_gather 72 = .ok (.iload 4, 2) := by decide +kernel
theorem dX1_gather_74 : decode cX1_gather 74 = .ok (.iaload, 1) := by decide +kernel
theorem dX1_gather_75 : decode cX1_gather 75 = .ok (.aload_n 1, 1) := by decide +kernel
theorem dX1_gather_76 : decode cX1_gather 76 = .ok (.getfield 146, 3) := by decide +kernel
theorem dX1_gather_79 : decode cX1_gather 79 = .ok (.iload 4, 2) := by decide +kernel
theorem dX1_gather_81 : decode cX1_gather 81 = .ok (.iaload, 1) := by decide +kernel
theorem dX1_gather_82 : decode cX1_gather 82 = .ok (.invokevirtual 149, 3) := by decide +kernel
theorem dX1_gather_85 : decode cX1_gather 85 = .ok (.aload_n 0, 1) := by decide +kernel
theorem dX1_gather_86 : decode cX1_gather 86 = .ok (.getfield 40, 3) := by decide +kernel
theorem dX1_gather_89 : decode cX1_gather 89 = .ok (.iload_n 3, 1) := by decide +kernel
theorem dX1_gather_90 : decode cX1_gather 90 = .ok (.dup2, 1) := by decide +kernel
theorem dX1_gather_91 : decode cX1_gather 91 = .ok (.iaload, 1) := by decide +kernel
theorem dX1_gather_92 : decode cX1_gather 92 = .ok (.iconst 1, 1) := by decide +kernel
theorem dX1_gather_93 : decode cX1_gather 93 = .ok (.iadd, 1) := by decide +kernel
theorem dX1_gather_94 : decode cX1_gather 94 = .ok (.iastore, 1) := by decide +kernel
theorem dX1_gather_95 : decode cX1_gather 95 = .ok (.aload_n 1, 1) := by decide +kernel
theorem dX1_gather_96 : decode cX1_gather 96 = .ok (.getfield 130, 3) := by decide +kernel
theorem dX1_gather_99 : decode cX1_gather 99 = .ok (.iload 4, 2) := by decide +kernel
theorem dX1_gather_101 : decode cX1_gather 101 = .ok (.iaload, 1) := by decide +kernel
theorem dX1_gather_102 : decode cX1_gather 102 = .ok (.iconst 3, 1) := by decide +kernel
theorem dX1_gather_103 : decode cX1_gather 103 = .ok (.if_icmp .eq 12, 3) := by decide +kernel
theorem dX1_gather_106 : decode cX1_gather 106 = .ok (.aload_n 0, 1) := by decide +kernel
theorem dX1_gather_107 : decode cX1_gather 107 = .ok (.getfield 62, 3) := by decide +kernel
theorem dX1_gather_110 : decode cX1_gather 110 = .ok (.iload 4, 2) := by decide +kernel
theorem dX1_gather_112 : decode cX1_gather 112 = .ok (.invokevirtual 153, 3) := by decide +kernel
theorem dX1_gather_115 : decode cX1_gather 115 = .ok (.iinc 4 1, 3) := by decide +kernel
theorem dX1_gather_118 : decode cX1_gather 118 = .ok (.goto (-83), 3) := by decide +kernel
theorem dX1_gather_121 : decode cX1_gather 121 = .ok (.return_, 1) := by decide +kernel
set_option maxRecDepth 20000 in
theorem ggX1_turnStems_X0_liesLow : GoodIn wsX1_turnStems wsX0_liesLow := goodIn_r _ [11, 12, 13, 29, 30, 31, 32, 33, 34, 35] rfl (by decide +kernel)
set_option maxRecDepth 20000 in
theorem gX1_turnStems_X0_liesLow : GoodIn wsX1_turnStems (wsV RX1 155 RX0 yX0_liesLow wsX0_liesLow) := goodIn_app (goodIn_r _ [7, 8, 9, 10] rfl (by decide +kernel)) ggX1_turnStems_X0_liesLow
theorem dX1_turnStems_0 : decode cX1_turnStems 0 = .ok (.iconst 0, 1) := by decide +kernel
theorem dX1_turnStems_1 : decode cX1_turnStems 1 = .ok (.istore_n 2, 1) := by decide +kernel
theorem dX1_turnStems_2 : decode cX1_turnStems 2 = .ok (.iload_n 2, 1) := by decide +kernel
theorem dX1_turnStems_3 : decode cX1_turnStems 3 = .ok (.iconst 3, 1) := by decide +kernel
theorem dX1_turnStems_4 : decode cX1_turnStems 4 = .ok (.if_icmp .ge 35, 3) := by decide +kernel
theorem dX1_turnStems_7 : decode cX1_turnStems 7 = .ok (.aload_n 0, 1) := by decide +kernel
theorem dX1_turnStems_8 : decode cX1_turnStems 8 = .ok (.getfield 43, 3) := by decide +kernel
theorem dX1_turnStems_11 : decode cX1_turnStems 11 = .ok (.iload_n 1, 1) := by decide +kernel
theorem dX1_turnStems_12 : decode cX1_turnStems 12 = .ok (.dup2, 1) := by decide +kernel
theorem dX1_turnStems_13 : decode cX1_turnStems 13 = .ok (.iaload, 1) := by decide +kernel
theorem dX1_turnStems_14 : decode cX1_turnStems 14 = .ok (.aload_n 0, 1) := by decide +kernel
theorem dX1_turnStems_15 : decode cX1_turnStems 15 = .ok (.getfield 55, 3) := by decide +kernel
theorem dX1_turnStems_18 : decode cX1_turnStems 18 = .ok (.iload_n 2, 1) := by decide +kernel
theorem dX1_turnStems_19 : decode cX1_turnStems 19 = .ok (.aaload, 1) := by decide +kernel
theorem dX1_turnStems_20 : decode cX1_turnStems 20 = .ok (.getfield 123, 3) := by decide +kernel
theorem dX1_turnStems_23 : decode cX1_turnStems 23 = .ok (.ifCond .le 7, 3) := by decide +kernel
theorem dX1_turnStems_26 : decode cX1_turnStems 26 = .ok (.iconst 1, 1) := by decide +kernel
theorem dX1_turnStems_27 : decode cX1_turnStems 27 = .ok (.goto 4, 3) := by decide +kernel
theorem dX1_turnStems_30 : decode cX1_turnStems 30 = .ok (.iconst 0, 1) := by decide +kernel
theorem dX1_turnStems_31 : decode cX1_turnStems 31 = .ok (.iadd, 1) := by decide +kernel
theorem dX1_turnStems_32 : decode cX1_turnStems 32 = .ok (.iastore, 1) := by decide +kernel
theorem dX1_turnStems_33 : decode cX1_turnStems 33 = .ok (.iinc 2 1, 3) := by decide +kernel
theorem dX1_turnStems_36 : decode cX1_turnStems 36 = .ok (.goto (-34), 3) := by decide +kernel
theorem dX1_turnStems_39 : decode cX1_turnStems 39 = .ok (.iconst 1, 1) := by decide +kernel
theorem dX1_turnStems_40 : decode cX1_turnStems 40 = .ok (.istore_n 2, 1) := by decide +kernel
theorem dX1_turnStems_41 : decode cX1_turnStems 41 = .ok (.iconst 0, 1) := by decide +kernel
theorem dX1_turnStems_42 : decode cX1_turnStems 42 = .ok (.istore_n 3, 1) := by decide +kernel
theorem dX1_turnStems_43 : decode cX1_turnStems 43 = .ok (.iload_n 3, 1) := by decide +kernel
theorem dX1_turnStems_44 : decode cX1_turnStems 44 = .ok (.iconst 3, 1) := by decide +kernel
theorem dX1_turnStems_45 : decode cX1_turnStems 45 = .ok (.if_icmp .ge 96, 3) := by decide +kernel
theorem dX1_turnStems_48 : decode cX1_turnStems 48 = .ok (.aload_n 0, 1) := by decide +kernel
theorem dX1_turnStems_49 : decode cX1_turnStems 49 = .ok (.getfield 55, 3) := by decide +kernel
theorem dX1_turnStems_52 : decode cX1_turnStems 52 = .ok (.iload_n 3, 1) := by decide +kernel
theorem dX1_turnStems_53 : decode cX1_turnStems 53 = .ok (.aaload, 1) := by decide +kernel
theorem dX1_turnStems_54 : decode cX1_turnStems 54 = .ok (.astore 4, 2) := by decide +kernel
theorem dX1_turnStems_56 : decode cX1_turnStems 56 = .ok (.aload 4, 2) := by decide +kernel
theorem dX1_turnStems_58 : decode cX1_turnStems 58 = .ok (.getfield 123, 3) := by decide +kernel
theorem dX1_turnStems_61 : decode cX1_turnStems 61 = .ok (.ifCond .le 29, 3) := by decide +kernel
theorem dX1_turnStems_64 : decode cX1_turnStems 64 = .ok (.aload 4, 2) := by decide +kernel
theorem dX1_turnStems_66 : decode cX1_turnStems 66 = .ok (.aload_n 0, 1) := by decide +kernel
theorem dX1_turnStems_67 : decode cX1_turnStems 67 = .ok (.getfield 43, 3) := by decide +kernel
theorem dX1_turnStems_70 : decode cX1_turnStems 70 = .ok (.iload_n 1, 1) := by decide +kernel
theorem dX1_turnStems_71 : decode cX1_turnStems 71 = .ok (.iaload, 1) := by decide +kernel
theorem dX1_turnStems_72 : decode cX1_turnStems 72 = .ok (.iconst 1, 1) := by decide +kernel
theorem dX1_turnStems_73 : decode cX1_turnStems 73 = .ok (.if_icmp .le 7, 3) := by decide +kernel
theorem dX1_turnStems_76 : decode cX1_turnStems 76 = .ok (.iload_n 2, 1) := by decide +kernel
theorem dX1_turnStems_77 : decode cX1_turnStems 77 = .ok (.goto 8, 3) := by decide +kernel
theorem dX1_turnStems_80 : decode cX1_turnStems 80 = .ok (.aload 4, 2) := by decide +kernel
theorem dX1_turnStems_82 : decode cX1_turnStems 82 = .ok (.invokevirtual 155, 3) := by decide +kernel
theorem dX1_turnStems_85 : decode cX1_turnStems 85 = .ok (.putfield 159, 3) := by decide +kernel
theorem dX1_turnStems_88 : decode cX1_turnStems 88 = .ok (.iconst 0, 1) := by decide +kernel
theorem dX1_turnStems_89 : decode cX1_turnStems 89 = .ok (.istore_n 2, 1) := by decide +kernel
theorem dX1_turnStems_90 : decode cX1_turnStems 90 = .ok (.iconst 0, 1) := by decide +kernel
theorem dX1_turnStems_91 : decode cX1_turnStems 91 = .ok (.istore 5, 2) := by decide +kernel
theorem dX1_turnStems_93 : decode cX1_turnStems 93 = .ok (.iload 5, 2) := by decide +kernel
theorem dX1_turnStems_95 : decode cX1_turnStems 95 = .ok (.aload 4, 2) := by decide +kernel
theorem dX1_turnStems_97 : decode cX1_turnStems 97 = .ok (.getfield 123, 3) := by decide +kernel
theorem dX1_turnStems_100 : decode cX1_turnStems 100 = .ok (.if_icmp .ge 35, 3) := by decide +kernel
theorem dX1_turnStems_103 : decode cX1_turnStems 103 = .ok (.aload_n 0, 1) := by decide +kernel
theorem dX1_turnStems_104 : decode cX1_turnStems 104 = .ok (.getfield 19, 3) := by decide +kernel
theorem dX1_turnStems_107 : decode cX1_turnStems 107 = .ok (.aload 4, 2) := by decide +kernel
theorem dX1_turnStems_109 : decode cX1_turnStems 109 = .ok (.getfield 162, 3) := by decide +kernel
theorem dX1_turnStems_112 : decode cX1_turnStems 112 = .ok (.iload 5, 2) := by decide +kernel
theorem dX1_turnStems_114 : decode cX1_turnStems 114 = .ok (.iaload, 1) := by decide +kernel
theorem dX1_turnStems_115 : decode cX1_turnStems 115 = .ok (.aload 4, 2) := by decide +kernel
theorem dX1_turnStems_117 : decode cX1_turnStems 117 = .ok (.getfield 159, 3) := by decide +kernel
theorem dX1_turnStems_120 : decode cX1_turnStems 120 = .ok (.ifCond .eq 7, 3) := by decide +kernel
theorem dX1_turnStems_123 : decode cX1_turnStems 123 = .ok (.iconst 1, 1) := by decide +kernel
theorem dX1_turnStems_124 : decode cX1_turnStems 124 = .ok (.goto 4, 3) := by decide +kernel
theorem dX1_turnStems_127 : decode cX1_turnStems 127 = .ok (.iconst 0, 1) := by decide +kernel
theorem dX1_turnStems_128 : decode cX1_turnStems 128 = .ok (.iastore, 1) := by decide +kernel
theorem dX1_turnStems_129 : decode cX1_turnStems 129 = .ok (.iinc 5 1, 3) := by decide +kernel
theorem dX1_turnStems_132 : decode cX1_turnStems 132 = .ok (.goto (-39), 3) := by decide +kernel
theorem dX1_turnStems_135 : decode cX1_turnStems 135 = .ok (.iinc 3 1, 3) := by decide +kernel
theorem dX1_turnStems_138 : decode cX1_turnStems 138 = .ok (.goto (-95), 3) := by decide +kernel
theorem dX1_turnStems_141 : decode cX1_turnStems 141 = .ok (.return_, 1) := by decide +kernel
set_option maxRecDepth 20000 in
theorem ggX1_moveChords_X1_liesOverLesser : GoodIn wsX1_moveChords wsX1_liesOverLesser := goodIn_r _ [7, 1, 8, 9, 10, 6, 11, 12, 13, 2, 14, 15, 16, 17, 18, 19, 20, 21, 22, 23, 24, 25, 26, 27, 28, 29, 30, 31, 32, 33, 34, 35, 36, 37, 38, 39, 40, 41, 42, 43, 44, 45, 46, 47, 48, 49, 50, 51, 52, 53, 54, 55] rfl (by decide +kernel)
set_option maxRecDepth 20000 in
theorem gX1_moveChords_X1_liesOverLesser : GoodIn wsX1_moveChords (wsV RX1 167 RX1 yX1_liesOverLesser wsX1_liesOverLesser) := goodIn_app (goodIn_r _ [3, 4, 5, 6] rfl (by decide +kernel)) ggX1_moveChords_X1_liesOverLesser
theorem dX1_moveChords_0 : decode cX1_moveChords 0 = .ok (.iconst 1, 1) := by decide +kernel
theorem dX1_moveChords_1 : decode cX1_moveChords 1 = .ok (.istore_n 2, 1) := by decide +kernel
theorem dX1_moveChords_2 : decode cX1_moveChords 2 = .ok (.iload_n 2, 1) := by decide +kernel
theorem dX1_moveChords_3 : decode cX1_moveChords 3 = .ok (.iconst 3, 1) := by decide +kernel
theorem dX1_moveChords_4 : decode cX1_moveChords 4 = .ok (.if_icmp .ge 47, 3) := by decide +kernel
theorem dX1_moveChords_7 : decode cX1_moveChords 7 = .ok (.aload_n 0, 1) := by decide +kernel
theorem dX1_moveChords_8 : decode cX1_moveChords 8 = .ok (.getfield 55, 3) := by decide +kernel
theorem dX1_moveChords_11 : decode cX1_moveChords 11 = .ok (.iload_n 2, 1) := by decide +kernel
theorem dX1_moveChords_12 : decode cX1_moveChords 12 = .ok (.aaload, 1) := by decide +kernel
theorem dX1_moveChords_13 : decode cX1_moveChords 13 = .ok (.astore_n 3, 1) := by decide +kernel
theorem dX1_moveChords_14 : decode cX1_moveChords 14 = .ok (.aload_n 3, 1) := by decide +kernel
theorem dX1_moveChords_15 : decode cX1_moveChords 15 = .ok (.getfield 165, 3) := by decide +kernel
theorem dX1_moveChords_18 : decode cX1_moveChords 18 = .ok (.bipush 16, 2) := by decide +kernel
theorem dX1_moveChords_20 : decode cX1_moveChords 20 = .ok (.if_icmp .ge 25, 3) := by decide +kernel
theorem dX1_moveChords_23 : decode cX1_moveChords 23 = .ok (.aload_n 0, 1) := by decide +kernel
theorem dX1_moveChords_24 : decode cX1_moveChords 24 = .ok (.aload_n 1, 1) := by decide +kernel
theorem dX1_moveChords_25 : decode cX1_moveChords 25 = .ok (.iload_n 2, 1) := by decide +kernel
theorem dX1_moveChords_26 : decode cX1_moveChords 26 = .ok (.invokevirtual 167, 3) := by decide +kernel
theorem dX1_moveChords_29 : decode cX1_moveChords 29 = .ok (.ifCond .eq 16, 3) := by decide +kernel
theorem dX1_moveChords_32 : decode cX1_moveChords 32 = .ok (.aload_n 3, 1) := by decide +kernel
theorem dX1_moveChords_33 : decode cX1_moveChords 33 = .ok (.dup, 1) := by decide +kernel
theorem dX1_moveChords_34 : decode cX1_moveChords 34 = .ok (.getfield 165, 3) := by decide +kernel
theorem dX1_moveChords_37 : decode cX1_moveChords 37 = .ok (.iconst 1, 1) := by decide +kernel
theorem dX1_moveChords_38 : decode cX1_moveChords 38 = .ok (.iadd, 1) := by decide +kernel
theorem dX1_moveChords_39 : decode cX1_moveChords 39 = .ok (.putfield 165, 3) := by decide +kernel
theorem dX1_moveChords_42 : decode cX1_moveChords 42 = .ok (.goto (-28), 3) := by decide +kernel
theorem dX1_moveChords_45 : decode cX1_moveChords 45 = .ok (.iinc 2 1, 3) := by decide +kernel
theorem dX1_moveChords_48 : decode cX1_moveChords 48 = .ok (.goto (-46), 3) := by decide +kernel
theorem dX1_moveChords_51 : decode cX1_moveChords 51 = .ok (.return_, 1) := by decide +kernel
set_option maxRecDepth 20000 in
theorem ggX1_liesOverLesser_X1_lieOver : GoodIn wsX1_liesOverLesser wsX1_lieOver := goodIn_r _ [6, 7, 8, 9, 10, 11, 12, 13, 14, 15, 16, 17, 18, 5, 19, 20, 21, 22, 38, 39, 40, 41, 42, 43, 44, 23, 24, 25, 26, 27, 28, 29, 30, 31, 32, 33, 34, 35, 36, 37, 45, 46, 47, 48, 49, 50, 51] rfl (by decide +kernel)
set_option maxRecDepth 20000 in
theorem gX1_liesOverLesser_X1_lieOver : GoodIn wsX1_liesOverLesser (wsV RX1 171 RX1 yX1_lieOver wsX1_lieOver) := goodIn_app (goodIn_r _ [2, 3, 4, 5] rfl (by decide +kernel)) ggX1_liesOverLesser_X1_lieOver
theorem dX1_liesOverLesser_0 : decode cX1_liesOverLesser 0 = .ok (.iconst 0, 1) := by decide +kernel
theorem dX1_liesOverLesser_1 : decode cX1_liesOverLesser 1 = .ok (.istore_n 3, 1) := by decide +kernel
theorem dX1_liesOverLesser_2 : decode cX1_liesOverLesser 2 = .ok (.iload_n 3, 1) := by decide +kernel
theorem dX1_liesOverLesser_3 : decode cX1_liesOverLesser 3 = .ok (.iload_n 2, 1) := by decide +kernel
theorem dX1_liesOverLesser_4 : decode cX1_liesOverLesser 4 = .ok (.if_icmp .ge 31, 3) := by decide +kernel
theorem dX1_liesOverLesser_7 : decode cX1_liesOverLesser 7 = .ok (.aload_n 0, 1) := by decide +kernel
theorem dX1_liesOverLesser_8 : decode cX1_liesOverLesser 8 = .ok (.aload_n 1, 1) := by decide +kernel
theorem dX1_liesOverLesser_9 : decode cX1_liesOverLesser 9 = .ok (.aload_n 0, 1) := by decide +kernel
theorem dX1_liesOverLesser_10 : decode cX1_liesOverLesser 10 = .ok (.getfield 55, 3) := by decide +kernel
theorem dX1_liesOverLesser_13 : decode cX1_liesOverLesser 13 = .ok (.iload_n 2, 1) := by decide +kernel
theorem dX1_liesOverLesser_14 : decode cX1_liesOverLesser 14 = .ok (.aaload, 1) := by decide +kernel
theorem dX1_liesOverLesser_15 : decode cX1_liesOverLesser 15 = .ok (.aload_n 0, 1) := by decide +kernel
theorem dX1_liesOverLesser_16 : decode cX1_liesOverLesser 16 = .ok (.getfield 55, 3) := by decide +kernel
theorem dX1_liesOverLesser_19 : decode cX1_liesOverLesser 19 = .ok (.iload_n 3, 1) := by decide +kernel
theorem dX1_liesOverLesser_20 : decode cX1_liesOverLesser 20 = .ok (.aaload, 1) := by decide +kernel
theorem dX1_liesOverLesser_21 : decode cX1_liesOverLesser 21 = .ok (.invokevirtual 171, 3) := by decide +kernel
theorem dX1_liesOverLesser_24 : decode cX1_liesOverLesser 24 = .ok (.ifCond .eq 5, 3) := by decide +kernel
theorem dX1_liesOverLesser_27 : decode cX1_liesOverLesser 27 = .ok (.iconst 1, 1) := by decide +kernel
theorem dX1_liesOverLesser_28 : decode cX1_liesOverLesser 28 = .ok (.ireturn, 1) := by decide +kernel
theorem dX1_liesOverLesser_29 : decode cX1_liesOverLesser 29 = .ok (.iinc 3 1, 3) := by decide +kernel
theorem dX1_liesOverLesser_32 : decode cX1_liesOverLesser 32 = .ok (.goto (-30), 3) := by decide +kernel
theorem dX1_liesOverLesser_35 : decode cX1_liesOverLesser 35 = .ok (.iconst 0, 1) := by decide +kernel
theorem dX1_liesOverLesser_36 : decode cX1_liesOverLesser 36 = .ok (.ireturn, 1) := by decide +kernel
set_option maxRecDepth 20000 in
theorem ggX1_lieOver_X1_areShared : GoodIn wsX1_lieOver wsX1_areShared := goodIn_r _ [14, 5, 15, 16, 17, 25, 26, 27, 28, 29, 30, 31, 32, 33, 34, 35, 36, 37, 38, 39, 40, 41, 42, 43, 44, 45, 46] rfl (by decide +kernel)
set_option maxRecDepth 20000 in
theorem gX1_lieOver_X1_areShared : GoodIn wsX1_lieOver (wsV RX1 181 RX1 yX1_areShared wsX1_areShared) := goodIn_app (goodIn_r _ [10, 11, 12, 13] rfl (by decide +kernel)) ggX1_lieOver_X1_areShared
theorem dX1_lieOver_0 : decode cX1_lieOver 0 = .ok (.iconst 0, 1) := by decide +kernel
theorem dX1_lieOver_1 : decode cX1_lieOver 1 = .ok (.istore 4, 2) := by decide +kernel
theorem dX1_lieOver_3 : decode cX1_lieOver 3 = .ok (.iload 4, 2) := by decide +kernel
theorem dX1_lieOver_5 : decode cX1_lieOver 5 = .ok (.aload_n 2, 1) := by decide +kernel
theorem dX1_lieOver_6 : decode cX1_lieOver 6 = .ok (.getfield 123, 3) := by decide +kernel
theorem dX1_lieOver_9 : decode cX1_lieOver 9 = .ok (.if_icmp .ge 108, 3) := by decide +kernel
theorem dX1_lieOver_12 : decode cX1_lieOver 12 = .ok (.aload_n 2, 1) := by decide +kernel
theorem dX1_lieOver_13 : decode cX1_lieOver 13 = .ok (.getfield 162, 3) := by decide +kernel
theorem dX1_lieOver_16 : decode cX1_lieOver 16 = .ok (.iload 4, 2) := by decide +kernel
theorem dX1_lieOver_18 : decode cX1_lieOver 18 = .ok (.iaload, 1) := by decide +kernel
theorem dX1_lieOver_19 : decode cX1_lieOver 19 = .ok (.istore 5, 2) := by decide +kernel
theorem dX1_lieOver_21 : decode cX1_lieOver 21 = .ok (.iconst 0, 1) := by decide +kernel
theorem dX1_lieOver_22 : decode cX1_lieOver 22 = .ok (.istore 6, 2) := by decide +kernel
theorem dX1_lieOver_24 : decode cX1_lieOver 24 = .ok (.iload 6, 2) := by decide +kernel
theorem dX1_lieOver_26 : decode cX1_lieOver 26 = .ok (.aload_n 3, 1) := by decide +kernel
theorem dX1_lieOver_27 : decode cX1_lieOver 27 = .ok (.getfield 123, 3) := by decide +kernel
theorem dX1_lieOver_30 : decode cX1_lieOver 30 = .ok (.if_icmp .ge 81, 3) := by decide +kernel
theorem dX1_lieOver_33 : decode cX1_lieOver 33 = .ok (.aload_n 3, 1) := by decide +kernel
theorem dX1_lieOver_34 : decode cX1_lieOver 34 = .ok (.getfield 162, 3) := by decide +kernel
theorem dX1_lieOver_37 : decode cX1_lieOver 37 = .ok (.iload 6, 2) := by decide +kernel
theorem dX1_lieOver_39 : decode cX1_lieOver 39 = .ok (.iaload, 1) := by decide +kernel
theorem dX1_lieOver_40 : decode cX1_lieOver 40 = .ok (.istore 7, 2) := by decide +kernel
theorem dX1_lieOver_42 : decode cX1_lieOver 42 = .ok (.aload_n 2, 1) := by decide +kernel
theorem dX1_lieOver_43 : decode cX1_lieOver 43 = .ok (.getfield 165, 3) := by decide +kernel
theorem dX1_lieOver_46 : decode cX1_lieOver 46 = .ok (.aload_n 0, 1) := by decide +kernel
theorem dX1_lieOver_47 : decode cX1_lieOver 47 = .ok (.getfield 22, 3) := by decide +kernel
theorem dX1_lieOver_50 : decode cX1_lieOver 50 = .ok (.iload 5, 2) := by decide +kernel
theorem dX1_lieOver_52 : decode cX1_lieOver 52 = .ok (.iaload, 1) := by decide +kernel
theorem dX1_lieOver_53 : decode cX1_lieOver 53 = .ok (.iadd, 1) := by decide +kernel
theorem dX1_lieOver_54 : decode cX1_lieOver 54 = .ok (.aload_n 3, 1) := by decide +kernel
theorem dX1_lieOver_55 : decode cX1_lieOver 55 = .ok (.getfield 165, 3) := by decide +kernel
theorem dX1_lieOver_58 : decode cX1_lieOver 58 = .ok (.aload_n 0, 1) := by decide +kernel
theorem dX1_lieOver_59 : decode cX1_lieOver 59 = .ok (.getfield 22, 3) := by decide +kernel
theorem dX1_lieOver_62 : decode cX1_lieOver 62 = .ok (.iload 7, 2) := by decide +kernel
theorem dX1_lieOver_64 : decode cX1_lieOver 64 = .ok (.iaload, 1) := by decide +kernel
theorem dX1_lieOver_65 : decode cX1_lieOver 65 = .ok (.iadd, 1) := by decide +kernel
theorem dX1_lieOver_66 : decode cX1_lieOver 66 = .ok (.if_icmp .ne 39, 3) := by decide +kernel
theorem dX1_lieOver_69 : decode cX1_lieOver 69 = .ok (.aload_n 0, 1) := by decide +kernel
theorem dX1_lieOver_70 : decode cX1_lieOver 70 = .ok (.getfield 15, 3) := by decide +kernel
theorem dX1_lieOver_73 : decode cX1_lieOver 73 = .ok (.iload 5, 2) := by decide +kernel
theorem dX1_lieOver_75 : decode cX1_lieOver 75 = .ok (.iaload, 1) := by decide +kernel
theorem dX1_lieOver_76 : decode cX1_lieOver 76 = .ok (.aload_n 0, 1) := by decide +kernel
theorem dX1_lieOver_77 : decode cX1_lieOver 77 = .ok (.getfield 15, 3) := by decide +kernel
theorem dX1_lieOver_80 : decode cX1_lieOver 80 = .ok (.iload 7, 2) := by decide +kernel
theorem dX1_lieOver_82 : decode cX1_lieOver 82 = .ok (.iaload, 1) := by decide +kernel
theorem dX1_lieOver_83 : decode cX1_lieOver 83 = .ok (.isub, 1) := by decide +kernel
theorem dX1_lieOver_84 : decode cX1_lieOver 84 = .ok (.invokestatic 175, 3) := by decide +kernel
theorem dX1_lieOver_87 : decode cX1_lieOver 87 = .ok (.iconst 1, 1) := by decide +kernel
theorem dX1_lieOver_88 : decode cX1_lieOver 88 = .ok (.if_icmp .gt 17, 3) := by decide +kernel
theorem dX1_lieOver_91 : decode cX1_lieOver 91 = .ok (.aload_n 0, 1) := by decide +kernel
theorem dX1_lieOver_92 : decode cX1_lieOver 92 = .ok (.aload_n 1, 1) := by decide +kernel
theorem dX1_lieOver_93 : decode cX1_lieOver 93 = .ok (.iload 5, 2) := by decide +kernel
theorem dX1_lieOver_95 : decode cX1_lieOver 95 = .ok (.iload 7, 2) := by decide +kernel
theorem dX1_lieOver_97 : decode cX1_lieOver 97 = .ok (.invokevirtual 181, 3) := by decide +kernel
theorem dX1_lieOver_100 : decode cX1_lieOver 100 = .ok (.ifCond .ne 5, 3) := by decide +kernel
theorem dX1_lieOver_103 : decode cX1_lieOver 103 = .ok (.iconst 1, 1) := by decide +kernel
theorem dX1_lieOver_104 : decode cX1_lieOver 104 = .ok (.ireturn, 1) := by decide +kernel
theorem dX1_lieOver_105 : decode cX1_lieOver 105 = .ok (.iinc 6 1, 3) := by decide +kernel
theorem dX1_lieOver_108 : decode cX1_lieOver 108 = .ok (.goto (-84), 3) := by decide +kernel
theorem dX1_lieOver_111 : decode cX1_lieOver 111 = .ok (.iinc 4 1, 3) := by decide +kernel
theorem dX1_lieOver_114 : decode cX1_lieOver 114 = .ok (.goto (-111), 3) := by decide +kernel
theorem dX1_lieOver_117 : decode cX1_lieOver 117 = .ok (.iconst 0, 1) := by decide +kernel
theorem dX1_lieOver_118 : decode cX1_lieOver 118 = .ok (.ireturn, 1) := by decide +kernel
theorem dX1_areShared_0 : decode cX1_areShared 0 = .ok (.aload_n 0, 1) := by decide +kernel
theorem dX1_areShared_1 : decode cX1_areShared 1 = .ok (.getfield 15, 3) := by decide +kernel
theorem dX1_areShared_4 : decode cX1_areShared 4 = .ok (.iload_n 2, 1) := by decide +kernel
theorem dX1_areShared_5 : decode cX1_areShared 5 = .ok (.iaload, 1) := by decide +kernel
theorem dX1_areShared_6 : decode cX1_areShared 6 = .ok (.aload_n 0, 1) := by decide +kernel
theorem dX1_areShared_7 : decode cX1_areShared 7 = .ok (.getfield 15, 3) := by decide +kernel
theorem dX1_areShared_10 : decode cX1_areShared 10 = .ok (.iload_n 3, 1) := by decide +kernel
theorem dX1_areShared_11 : decode cX1_areShared 11 = .ok (.iaload, 1) := by decide +kernel
theorem dX1_areShared_12 : decode cX1_areShared 12 = .ok (.if_icmp .ne 52, 3) := by decide +kernel
theorem dX1_areShared_15 : decode cX1_areShared 15 = .ok (.aload_n 1, 1) := by decide +kernel
theorem dX1_areShared_16 : decode cX1_areShared 16 = .ok (.getfield 146, 3) := by decide +kernel
theorem dX1_areShared_19 : decode cX1_areShared 19 = .ok (.iload_n 2, 1) := by decide +kernel
theorem dX1_areShared_20 : decode cX1_areShared 20 = .ok (.iaload, 1) := by decide +kernel
theorem dX1_areShared_21 : decode cX1_areShared 21 = .ok (.aload_n 1, 1) := by decide +kernel
theorem dX1_areShared_22 : decode cX1_areShared 22 = .ok (.getfield 146, 3) := by decide +kernel
theorem dX1_areShared_25 : decode cX1_areShared 25 = .ok (.iload_n 3, 1) := by decide +kernel
theorem dX1_areShared_26 : decode cX1_areShared 26 = .ok (.iaload, 1) := by decide +kernel
theorem dX1_areShared_27 : decode cX1_areShared 27 = .ok (.if_icmp .ne 37, 3) := by decide +kernel
theorem dX1_areShared_30 : decode cX1_areShared 30 = .ok (.aload_n 1, 1) := by decide +kernel
theorem dX1_areShared_31 : decode cX1_areShared 31 = .ok (.getfield 130, 3) := by decide +kernel
theorem dX1_areShared_34 : decode cX1_areShared 34 = .ok (.iload_n 2, 1) := by decide +kernel
theorem dX1_areShared_35 : decode cX1_areShared 35 = .ok (.iaload, 1) := by decide +kernel
theorem dX1_areShared_36 : decode cX1_areShared 36 = .ok (.aload_n 1, 1) := by decide +kernel
theorem dX1_areShared_37 : decode cX1_areShared 37 = .ok (.getfield 130, 3) := by decide +kernel
theorem dX1_areShared_40 : decode cX1_areShared 40 = .ok (.iload_n 3, 1) := by decide +kernel
theorem dX1_areShared_41 : decode cX1_areShared 41 = .ok (.iaload, 1) := by decide +kernel
theorem dX1_areShared_42 : decode cX1_areShared 42 = .ok (.if_icmp .ne 22, 3) := by decide +kernel
theorem dX1_areShared_45 : decode cX1_areShared 45 = .ok (.aload_n 0, 1) := by decide +kernel
theorem dX1_areShared_46 : decode cX1_areShared 46 = .ok (.getfield 19, 3) := by decide +kernel
theorem dX1_areShared_49 : decode cX1_areShared 49 = .ok (.iload_n 2, 1) := by decide +kernel
theorem dX1_areShared_50 : decode cX1_areShared 50 = .ok (.iaload, 1) := by decide +kernel
theorem dX1_areShared_51 : decode cX1_areShared 51 = .ok (.aload_n 0, 1) := by decide +kernel
theorem dX1_areShared_52 : decode cX1_areShared 52 = .ok (.getfield 19, 3) := by decide +kernel
theorem dX1_areShared_55 : decode cX1_areShared 55 = .ok (.iload_n 3, 1) := by decide +kernel
theorem dX1_areShared_56 : decode cX1_areShared 56 = .ok (.iaload, 1) := by decide +kernel
theorem dX1_areShared_57 : decode cX1_areShared 57 = .ok (.if_icmp .eq 7, 3) := by decide +kernel
theorem dX1_areShared_60 : decode cX1_areShared 60 = .ok (.iconst 1, 1) := by decide +kernel
theorem dX1_areShared_61 : decode cX1_areShared 61 = .ok (.goto 4, 3) := by decide +kernel
theorem dX1_areShared_64 : decode cX1_areShared 64 = .ok (.iconst 0, 1) := by decide +kernel
theorem dX1_areShared_65 : decode cX1_areShared 65 = .ok (.ireturn, 1) := by decide +kernel
set_option maxRecDepth 20000 in
theorem ggX1_keep_X0_reachUp : GoodIn wsX1_keep wsX0_reachUp := goodIn_r _ [20, 21, 22, 23, 24, 8, 9, 10, 31, 32, 33, 34, 35, 36, 37] rfl (by decide +kernel)
set_option maxRecDepth 20000 in
theorem gX1_keep_X0_reachUp : GoodIn wsX1_keep (wsV RX1 185 RX0 yX0_reachUp wsX0_reachUp) := goodIn_app (goodIn_r _ [16, 17, 18, 19] rfl (by decide +kernel)) ggX1_keep_X0_reachUp
set_option maxRecDepth 20000 in
theorem ggX1_keep_X0_reachDown : GoodIn wsX1_keep wsX0_reachDown := goodIn_r _ [28, 21, 22, 29, 30, 13, 9, 14, 31, 32, 33, 34, 35, 36, 37] rfl (by decide +kernel)
set_option maxRecDepth 20000 in
theorem gX1_keep_X0_reachDown : GoodIn wsX1_keep (wsV RX1 192 RX0 yX0_reachDown wsX0_reachDown) := goodIn_app (goodIn_r _ [25, 26, 27, 19] rfl (by decide +kernel)) ggX1_keep_X0_reachDown
theorem dX1_keep_0 : decode cX1_keep 0 = .ok (.iconst 0, 1) := by decide +kernel
theorem dX1_keep_1 : decode cX1_keep 1 = .ok (.istore_n 3, 1) := by decide +kernel
theorem dX1_keep_2 : decode cX1_keep 2 = .ok (.iload_n 3, 1) := by decide +kernel
theorem dX1_keep_3 : decode cX1_keep 3 = .ok (.aload_n 1, 1) := by decide +kernel
theorem dX1_keep_4 : decode cX1_keep 4 = .ok (.getfield 123, 3) := by decide +kernel
theorem dX1_keep_7 : decode cX1_keep 7 = .ok (.if_icmp .ge 39, 3) := by decide +kernel
theorem dX1_keep_10 : decode cX1_keep 10 = .ok (.aload_n 0, 1) := by decide +kernel
theorem dX1_keep_11 : decode cX1_keep 11 = .ok (.getfield 25, 3) := by decide +kernel
theorem dX1_keep_14 : decode cX1_keep 14 = .ok (.aload_n 1, 1) := by decide +kernel
theorem dX1_keep_15 : decode cX1_keep 15 = .ok (.getfield 162, 3) := by decide +kernel
theorem dX1_keep_18 : decode cX1_keep 18 = .ok (.iload_n 3, 1) := by decide +kernel
theorem dX1_keep_19 : decode cX1_keep 19 = .ok (.iaload, 1) := by decide +kernel
theorem dX1_keep_20 : decode cX1_keep 20 = .ok (.aload_n 1, 1) := by decide +kernel
theorem dX1_keep_21 : decode cX1_keep 21 = .ok (.getfield 165, 3) := by decide +kernel
theorem dX1_keep_24 : decode cX1_keep 24 = .ok (.iastore, 1) := by decide +kernel
theorem dX1_keep_25 : decode cX1_keep 25 = .ok (.aload_n 0, 1) := by decide +kernel
theorem dX1_keep_26 : decode cX1_keep 26 = .ok (.getfield 28, 3) := by decide +kernel
theorem dX1_keep_29 : decode cX1_keep 29 = .ok (.aload_n 1, 1) := by decide +kernel
theorem dX1_keep_30 : decode cX1_keep 30 = .ok (.getfield 162, 3) := by decide +kernel
theorem dX1_keep_33 : decode cX1_keep 33 = .ok (.iload_n 3, 1) := by decide +kernel
theorem dX1_keep_34 : decode cX1_keep 34 = .ok (.iaload, 1) := by decide +kernel
theorem dX1_keep_35 : decode cX1_keep 35 = .ok (.aload_n 1, 1) := by decide +kernel
theorem dX1_keep_36 : decode cX1_keep 36 = .ok (.getfield 123, 3) := by decide +kernel
theorem dX1_keep_39 : decode cX1_keep 39 = .ok (.iastore, 1) := by decide +kernel
theorem dX1_keep_40 : decode cX1_keep 40 = .ok (.iinc 3 1, 3) := by decide +kernel
theorem dX1_keep_43 : decode cX1_keep 43 = .ok (.goto (-41), 3) := by decide +kernel
theorem dX1_keep_46 : decode cX1_keep 46 = .ok (.aload_n 0, 1) := by decide +kernel
theorem dX1_keep_47 : decode cX1_keep 47 = .ok (.getfield 34, 3) := by decide +kernel
theorem dX1_keep_50 : decode cX1_keep 50 = .ok (.iload_n 2, 1) := by decide +kernel
theorem dX1_keep_51 : decode cX1_keep 51 = .ok (.aload_n 0, 1) := by decide +kernel
theorem dX1_keep_52 : decode cX1_keep 52 = .ok (.getfield 34, 3) := by decide +kernel
theorem dX1_keep_55 : decode cX1_keep 55 = .ok (.iload_n 2, 1) := by decide +kernel
theorem dX1_keep_56 : decode cX1_keep 56 = .ok (.iaload, 1) := by decide +kernel
theorem dX1_keep_57 : decode cX1_keep 57 = .ok (.aload_n 1, 1) := by decide +kernel
theorem dX1_keep_58 : decode cX1_keep 58 = .ok (.invokevirtual 185, 3) := by decide +kernel
theorem dX1_keep_61 : decode cX1_keep 61 = .ok (.invokestatic 189, 3) := by decide +kernel
theorem dX1_keep_64 : decode cX1_keep 64 = .ok (.iastore, 1) := by decide +kernel
theorem dX1_keep_65 : decode cX1_keep 65 = .ok (.aload_n 0, 1) := by decide +kernel
theorem dX1_keep_66 : decode cX1_keep 66 = .ok (.getfield 37, 3) := by decide +kernel
theorem dX1_keep_69 : decode cX1_keep 69 = .ok (.iload_n 2, 1) := by decide +kernel
theorem dX1_keep_70 : decode cX1_keep 70 = .ok (.aload_n 0, 1) := by decide +kernel
theorem dX1_keep_71 : decode cX1_keep 71 = .ok (.getfield 37, 3) := by decide +kernel
theorem dX1_keep_74 : decode cX1_keep 74 = .ok (.iload_n 2, 1) := by decide +kernel
theorem dX1_keep_75 : decode cX1_keep 75 = .ok (.iaload, 1) := by decide +kernel
theorem dX1_keep_76 : decode cX1_keep 76 = .ok (.aload_n 1, 1) := by decide +kernel
theorem dX1_keep_77 : decode cX1_keep 77 = .ok (.invokevirtual 192, 3) := by decide +kernel
theorem dX1_keep_80 : decode cX1_keep 80 = .ok (.invokestatic 195, 3) := by decide +kernel
theorem dX1_keep_83 : decode cX1_keep 83 = .ok (.iastore, 1) := by decide +kernel
theorem dX1_keep_84 : decode cX1_keep 84 = .ok (.aload_n 0, 1) := by decide +kernel
theorem dX1_keep_85 : decode cX1_keep 85 = .ok (.getfield 49, 3) := by decide +kernel
theorem dX1_keep_88 : decode cX1_keep 88 = .ok (.iload_n 2, 1) := by decide +kernel
theorem dX1_keep_89 : decode cX1_keep 89 = .ok (.aload_n 0, 1) := by decide +kernel
theorem dX1_keep_90 : decode cX1_keep 90 = .ok (.getfield 49, 3) := by decide +kernel
theorem dX1_keep_93 : decode cX1_keep 93 = .ok (.iload_n 2, 1) := by decide +kernel
theorem dX1_keep_94 : decode cX1_keep 94 = .ok (.iaload, 1) := by decide +kernel
theorem dX1_keep_95 : decode cX1_keep 95 = .ok (.aload_n 1, 1) := by decide +kernel
theorem dX1_keep_96 : decode cX1_keep 96 = .ok (.getfield 165, 3) := by decide +kernel
theorem dX1_keep_99 : decode cX1_keep 99 = .ok (.invokestatic 189, 3) := by decide +kernel
theorem dX1_keep_102 : decode cX1_keep 102 = .ok (.iastore, 1) := by decide +kernel
theorem dX1_keep_103 : decode cX1_keep 103 = .ok (.return_, 1) := by decide +kernel
theorem dX2_init_0 : decode cX2_init 0 = .ok (.aload_n 0, 1) := by decide +kernel
theorem dX2_init_1 : decode cX2_init 1 = .ok (.invokespecial 3, 3) := by decide +kernel
theorem dX2_init_4 : decode cX2_init 4 = .ok (.aload_n 0, 1) := by decide +kernel
theorem dX2_init_5 : decode cX2_init 5 = .ok (.bipush 60, 2) := by decide +kernel
theorem dX2_init_7 : decode cX2_init 7 = .ok (.newarray .int, 2) := by decide +kernel
theorem dX2_init_9 : decode cX2_init 9 = .ok (.putfield 9, 3) := by decide +kernel
theorem dX2_init_12 : decode cX2_init 12 = .ok (.aload_n 0, 1) := by decide +kernel
theorem dX2_init_13 : decode cX2_init 13 = .ok (.bipush 60, 2) := by decide +kernel
theorem dX2_init_15 : decode cX2_init 15 = .ok (.newarray .int, 2) := by decide +kernel
theorem dX2_init_17 : decode cX2_init 17 = .ok (.putfield 15, 3) := by decide +kernel
theorem dX2_init_20 : decode cX2_init 20 = .ok (.aload_n 0, 1) := by decide +kernel
theorem dX2_init_21 : decode cX2_init 21 = .ok (.bipush 60, 2) := by decide +kernel
theorem dX2_init_23 : decode cX2_init 23 = .ok (.newarray .int, 2) := by decide +kernel
theorem dX2_init_25 : decode cX2_init 25 = .ok (.putfield 18, 3) := by decide +kernel
theorem dX2_init_28 : decode cX2_init 28 = .ok (.aload_n 0, 1) := by decide +kernel
theorem dX2_init_29 : decode cX2_init 29 = .ok (.bipush 60, 2) := by decide +kernel
theorem dX2_init_31 : decode cX2_init 31 = .ok (.newarray .int, 2) := by decide +kernel
theorem dX2_init_33 : decode cX2_init 33 = .ok (.putfield 21, 3) := by decide +kernel
theorem dX2_init_36 : decode cX2_init 36 = .ok (.aload_n 0, 1) := by decide +kernel
theorem dX2_init_37 : decode cX2_init 37 = .ok (.bipush 60, 2) := by decide +kernel
theorem dX2_init_39 : decode cX2_init 39 = .ok (.newarray .int, 2) := by decide +kernel
theorem dX2_init_41 : decode cX2_init 41 = .ok (.putfield 24, 3) := by decide +kernel
theorem dX2_init_44 : decode cX2_init 44 = .ok (.aload_n 0, 1) := by decide +kernel
theorem dX2_init_45 : decode cX2_init 45 = .ok (.bipush 60, 2) := by decide +kernel
theorem dX2_init_47 : decode cX2_init 47 = .ok (.newarray .int, 2) := by decide +kernel
theorem dX2_init_49 : decode cX2_init 49 = .ok (.putfield 27, 3) := by decide +kernel
theorem dX2_init_52 : decode cX2_init 52 = .ok (.aload_n 0, 1) := by decide +kernel
theorem dX2_init_53 : decode cX2_init 53 = .ok (.iconst 0, 1) := by decide +kernel
theorem dX2_init_54 : decode cX2_init 54 = .ok (.putfield 30, 3) := by decide +kernel
theorem dX2_init_57 : decode cX2_init 57 = .ok (.return_, 1) := by decide +kernel
set_option maxRecDepth 20000 in
theorem ggX2_has_X5_within : GoodIn wsX2_has wsX5_within := goodIn_r _ [4] rfl (by decide +kernel)
set_option maxRecDepth 20000 in
theorem gX2_has_X5_within_n34 : GoodIn wsX2_has (wsX5_within) := ggX2_has_X5_within
theorem dX2_has_0 : decode cX2_has 0 = .ok (.iload_n 1, 1) := by decide +kernel
theorem dX2_has_1 : decode cX2_has 1 = .ok (.iconst 0, 1) := by decide +kernel
theorem dX2_has_2 : decode cX2_has 2 = .ok (.aload_n 0, 1) := by decide +kernel
theorem dX2_has_3 : decode cX2_has 3 = .ok (.getfield 30, 3) := by decide +kernel
theorem dX2_has_6 : decode cX2_has 6 = .ok (.iconst 1, 1) := by decide +kernel
theorem dX2_has_7 : decode cX2_has 7 = .ok (.isub, 1) := by decide +kernel
theorem dX2_has_8 : decode cX2_has 8 = .ok (.invokestatic 34, 3) := by decide +kernel
theorem dX2_has_11 : decode cX2_has 11 = .ok (.ireturn, 1) := by decide +kernel
theorem dX2_anyOn_0 : decode cX2_anyOn 0 = .ok (.iconst 0, 1) := by decide +kernel
theorem dX2_anyOn_1 : decode cX2_anyOn 1 = .ok (.istore_n 2, 1) := by decide +kernel
theorem dX2_anyOn_2 : decode cX2_anyOn 2 = .ok (.iload_n 2, 1) := by decide +kernel
theorem dX2_anyOn_3 : decode cX2_anyOn 3 = .ok (.aload_n 0, 1) := by decide +kernel
theorem dX2_anyOn_4 : decode cX2_anyOn 4 = .ok (.getfield 30, 3) := by decide +kernel
theorem dX2_anyOn_7 : decode cX2_anyOn 7 = .ok (.if_icmp .ge 21, 3) := by decide +kernel
theorem dX2_anyOn_10 : decode cX2_anyOn 10 = .ok (.aload_n 0, 1) := by decide +kernel
theorem dX2_anyOn_11 : decode cX2_anyOn 11 = .ok (.getfield 9, 3) := by decide +kernel
theorem dX2_anyOn_14 : decode cX2_anyOn 14 = .ok (.iload_n 2, 1) := by decide +kernel
theorem dX2_anyOn_15 : decode cX2_anyOn 15 = .ok (.iaload, 1) := by decide +kernel
theorem dX2_anyOn_16 : decode cX2_anyOn 16 = .ok (.iload_n 1, 1) := by decide +kernel
theorem dX2_anyOn_17 : decode cX2_anyOn 17 = .ok (.if_icmp .ne 5, 3) := by decide +kernel
theorem dX2_anyOn_20 : decode cX2_anyOn 20 = .ok (.iconst 1, 1) := by decide +kernel
theorem dX2_anyOn_21 : decode cX2_anyOn 21 = .ok (.ireturn, 1) := by decide +kernel
theorem dX2_anyOn_22 : decode cX2_anyOn 22 = .ok (.iinc 2 1, 3) := by decide +kernel
theorem dX2_anyOn_25 : decode cX2_anyOn 25 = .ok (.goto (-23), 3) := by decide +kernel
theorem dX2_anyOn_28 : decode cX2_anyOn 28 = .ok (.iconst 0, 1) := by decide +kernel
theorem dX2_anyOn_29 : decode cX2_anyOn 29 = .ok (.ireturn, 1) := by decide +kernel
theorem dX2_together_0 : decode cX2_together 0 = .ok (.aload_n 0, 1) := by decide +kernel
theorem dX2_together_1 : decode cX2_together 1 = .ok (.getfield 9, 3) := by decide +kernel
theorem dX2_together_4 : decode cX2_together 4 = .ok (.iload_n 1, 1) := by decide +kernel
theorem dX2_together_5 : decode cX2_together 5 = .ok (.iaload, 1) := by decide +kernel
theorem dX2_together_6 : decode cX2_together 6 = .ok (.aload_n 0, 1) := by decide +kernel
theorem dX2_together_7 : decode cX2_together 7 = .ok (.getfield 9, 3) := by decide +kernel
theorem dX2_together_10 : decode cX2_together 10 = .ok (.iload_n 2, 1) := by decide +kernel
theorem dX2_together_11 : decode cX2_together 11 = .ok (.iaload, 1) := by decide +kernel
theorem dX2_together_12 : decode cX2_together 12 = .ok (.if_icmp .ne 22, 3) := by decide +kernel
theorem dX2_together_15 : decode cX2_together 15 = .ok (.aload_n 0, 1) := by decide +kernel
theorem dX2_together_16 : decode cX2_together 16 = .ok (.getfield 18, 3) := by decide +kernel
theorem dX2_together_19 : decode cX2_together 19 = .ok (.iload_n 1, 1) := by decide +kernel
theorem dX2_together_20 : decode cX2_together 20 = .ok (.iaload, 1) := by decide +kernel
theorem dX2_together_21 : decode cX2_together 21 = .ok (.aload_n 0, 1) := by decide +kernel
theorem dX2_together_22 : decode cX2_together 22 = .ok (.getfield 18, 3) := by decide +kernel
theorem dX2_together_25 : decode cX2_together 25 = .ok (.iload_n 2, 1) := by decide +kernel
theorem dX2_together_26 : decode cX2_together 26 = .ok (.iaload, 1) := by decide +kernel
theorem dX2_together_27 : decode cX2_together 27 = .ok (.if_icmp .ne 7, 3) := by decide +kernel
theorem dX2_together_30 : decode cX2_together 30 = .ok (.iconst 1, 1) := by decide +kernel
theorem dX2_together_31 : decode cX2_together 31 = .ok (.goto 4, 3) := by decide +kernel
theorem dX2_together_34 : decode cX2_together 34 = .ok (.iconst 0, 1) := by decide +kernel
theorem dX2_together_35 : decode cX2_together 35 = .ok (.ireturn, 1) := by decide +kernel
theorem dX2_add_0 : decode cX2_add 0 = .ok (.aload_n 0, 1) := by decide +kernel
theorem dX2_add_1 : decode cX2_add 1 = .ok (.getfield 9, 3) := by decide +kernel
theorem dX2_add_4 : decode cX2_add 4 = .ok (.aload_n 0, 1) := by decide +kernel
theorem dX2_add_5 : decode cX2_add 5 = .ok (.getfield 30, 3) := by decide +kernel
theorem dX2_add_8 : decode cX2_add 8 = .ok (.iload_n 1, 1) := by decide +kernel
theorem dX2_add_9 : decode cX2_add 9 = .ok (.iastore, 1) := by decide +kernel
theorem dX2_add_10 : decode cX2_add 10 = .ok (.aload_n 0, 1) := by decide +kernel
theorem dX2_add_11 : decode cX2_add 11 = .ok (.getfield 15, 3) := by decide +kernel
theorem dX2_add_14 : decode cX2_add 14 = .ok (.aload_n 0, 1) := by decide +kernel
theorem dX2_add_15 : decode cX2_add 15 = .ok (.getfield 30, 3) := by decide +kernel
theorem dX2_add_18 : decode cX2_add 18 = .ok (.iload_n 2, 1) := by decide +kernel
theorem dX2_add_19 : decode cX2_add 19 = .ok (.iastore, 1) := by decide +kernel
theorem dX2_add_20 : decode cX2_add 20 = .ok (.aload_n 0, 1) := by decide +kernel
theorem dX2_add_21 : decode cX2_add 21 = .ok (.getfield 18, 3) := by decide +kernel
theorem dX2_add_24 : decode cX2_add 24 = .ok (.aload_n 0, 1) := by decide +kernel
theorem dX2_add_25 : decode cX2_add 25 = .ok (.getfield 30, 3) := by decide +kernel
theorem dX2_add_28 : decode cX2_add 28 = .ok (.iload_n 3, 1) := by decide +kernel
theorem dX2_add_29 : decode cX2_add 29 = .ok (.iastore, 1) := by decide +kernel
theorem dX2_add_30 : decode cX2_add 30 = .ok (.aload_n 0, 1) := by decide +kernel
theorem dX2_add_31 : decode cX2_add 31 = .ok (.getfield 21, 3) := by decide +kernel
theorem dX2_add_34 : decode cX2_add 34 = .ok (.aload_n 0, 1) := by decide +kernel
theorem dX2_add_35 : decode cX2_add 35 = .ok (.getfield 30, 3) := by decide +kernel
theorem dX2_add_38 : decode cX2_add 38 = .ok (.iload 4, 2) := by decide +kernel
theorem dX2_add_40 : decode cX2_add 40 = .ok (.iastore, 1) := by decide +kernel
theorem dX2_add_41 : decode cX2_add 41 = .ok (.aload_n 0, 1) := by decide +kernel
theorem dX2_add_42 : decode cX2_add 42 = .ok (.getfield 24, 3) := by decide +kernel
theorem dX2_add_45 : decode cX2_add 45 = .ok (.aload_n 0, 1) := by decide +kernel
theorem dX2_add_46 : decode cX2_add 46 = .ok (.getfield 30, 3) := by decide +kernel
theorem dX2_add_49 : decode cX2_add 49 = .ok (.iload 5, 2) := by decide +kernel
theorem dX2_add_51 : decode cX2_add 51 = .ok (.iastore, 1) := by decide +kernel
theorem dX2_add_52 : decode cX2_add 52 = .ok (.aload_n 0, 1) := by decide +kernel
theorem dX2_add_53 : decode cX2_add 53 = .ok (.getfield 27, 3) := by decide +kernel
theorem dX2_add_56 : decode cX2_add 56 = .ok (.aload_n 0, 1) := by decide +kernel
theorem dX2_add_57 : decode cX2_add 57 = .ok (.getfield 30, 3) := by decide +kernel
theorem dX2_add_60 : decode cX2_add 60 = .ok (.iload 6, 2) := by decide +kernel
theorem dX2_add_62 : decode cX2_add 62 = .ok (.iastore, 1) := by decide +kernel
theorem dX2_add_63 : decode cX2_add 63 = .ok (.aload_n 0, 1) := by decide +kernel
theorem dX2_add_64 : decode cX2_add 64 = .ok (.dup, 1) := by decide +kernel
theorem dX2_add_65 : decode cX2_add 65 = .ok (.getfield 30, 3) := by decide +kernel
theorem dX2_add_68 : decode cX2_add 68 = .ok (.iconst 1, 1) := by decide +kernel
theorem dX2_add_69 : decode cX2_add 69 = .ok (.iadd, 1) := by decide +kernel
theorem dX2_add_70 : decode cX2_add 70 = .ok (.putfield 30, 3) := by decide +kernel
theorem dX2_add_73 : decode cX2_add 73 = .ok (.return_, 1) := by decide +kernel
theorem dX2_remove_0 : decode cX2_remove 0 = .ok (.iload_n 1, 1) := by decide +kernel
theorem dX2_remove_1 : decode cX2_remove 1 = .ok (.istore_n 2, 1) := by decide +kernel
theorem dX2_remove_2 : decode cX2_remove 2 = .ok (.iload_n 2, 1) := by decide +kernel
theorem dX2_remove_3 : decode cX2_remove 3 = .ok (.iconst 1, 1) := by decide +kernel
theorem dX2_remove_4 : decode cX2_remove 4 = .ok (.iadd, 1) := by decide +kernel
theorem dX2_remove_5 : decode cX2_remove 5 = .ok (.aload_n 0, 1) := by decide +kernel
theorem dX2_remove_6 : decode cX2_remove 6 = .ok (.getfield 30, 3) := by decide +kernel
theorem dX2_remove_9 : decode cX2_remove 9 = .ok (.if_icmp .ge 93, 3) := by decide +kernel
theorem dX2_remove_12 : decode cX2_remove 12 = .ok (.aload_n 0, 1) := by decide +kernel
theorem dX2_remove_13 : decode cX2_remove 13 = .ok (.getfield 9, 3) := by decide +kernel
theorem dX2_remove_16 : decode cX2_remove 16 = .ok (.iload_n 2, 1) := by decide +kernel
theorem dX2_remove_17 : decode cX2_remove 17 = .ok (.aload_n 0, 1) := by decide +kernel
theorem dX2_remove_18 : decode cX2_remove 18 = .ok (.getfield 9, 3) := by decide +kernel
theorem dX2_remove_21 : decode cX2_remove 21 = .ok (.iload_n 2, 1) := by decide +kernel
theorem dX2_remove_22 : decode cX2_remove 22 = .ok (.iconst 1, 1) := by decide +kernel
theorem dX2_remove_23 : decode cX2_remove 23 = .ok (.iadd, 1) := by decide +kernel
theorem dX2_remove_24 : decode cX2_remove 24 = .ok (.iaload, 1) := by decide +kernel
theorem dX2_remove_25 : decode cX2_remove 25 = .ok (.iastore, 1) := by decide +kernel
theorem dX2_remove_26 : decode cX2_remove 26 = .ok (.aload_n 0, 1) := by decide +kernel
theorem dX2_remove_27 : decode cX2_remove 27 = .ok (.getfield 15, 3) := by decide +kernel
theorem dX2_remove_30 : decode cX2_remove 30 = .ok (.iload_n 2, 1) := by decide +kernel
theorem dX2_remove_31 : decode cX2_remove 31 = .ok (.aload_n 0, 1) := by decide +kernel
theorem dX2_remove_32 : decode cX2_remove 32 = .ok (.getfield 15, 3) := by decide +kernel
theorem dX2_remove_35 : decode cX2_remove 35 = .ok (.iload_n 2, 1) := by decide +kernel
theorem dX2_remove_36 : decode cX2_remove 36 = .ok (.iconst 1, 1) := by decide +kernel
theorem dX2_remove_37 : decode cX2_remove 37 = .ok (.iadd, 1) := by decide +kernel
theorem dX2_remove_38 : decode cX2_remove 38 = .ok (.iaload, 1) := by decide +kernel
theorem dX2_remove_39 : decode cX2_remove 39 = .ok (.iastore, 1) := by decide +kernel
theorem dX2_remove_40 : decode cX2_remove 40 = .ok (.aload_n 0, 1) := by decide +kernel
theorem dX2_remove_41 : decode cX2_remove 41 = .ok (.getfield 18, 3) := by decide +kernel
theorem dX2_remove_44 : decode cX2_remove 44 = .ok (.iload_n 2, 1) := by decide +kernel
theorem dX2_remove_45 : decode cX2_remove 45 = .ok (.aload_n 0, 1) := by decide +kernel
theorem dX2_remove_46 : decode cX2_remove 46 = .ok (.getfield 18, 3) := by decide +kernel
theorem dX2_remove_49 : decode cX2_remove 49 = .ok (.iload_n 2, 1) := by decide +kernel
theorem dX2_remove_50 : decode cX2_remove 50 = .ok (.iconst 1, 1) := by decide +kernel
theorem dX2_remove_51 : decode cX2_remove 51 = .ok (.iadd, 1) := by decide +kernel
theorem dX2_remove_52 : decode cX2_remove 52 = .ok (.iaload, 1) := by decide +kernel
theorem dX2_remove_53 : decode cX2_remove 53 = .ok (.iastore, 1) := by decide +kernel
theorem dX2_remove_54 : decode cX2_remove 54 = .ok (.aload_n 0, 1) := by decide +kernel
theorem dX2_remove_55 : decode cX2_remove 55 = .ok (.getfield 21, 3) := by decide +kernel
theorem dX2_remove_58 : decode cX2_remove 58 = .ok (.iload_n 2, 1) := by decide +kernel
theorem dX2_remove_59 : decode cX2_remove 59 = .ok (.aload_n 0, 1) := by decide +kernel
theorem dX2_remove_60 : decode cX2_remove 60 = .ok (.getfield 21, 3) := by decide +kernel
theorem dX2_remove_63 : decode cX2_remove 63 = .ok (.iload_n 2, 1) := by decide +kernel
theorem dX2_remove_64 : decode cX2_remove 64 = .ok (.iconst 1, 1) := by decide +kernel
theorem dX2_remove_65 : decode cX2_remove 65 = .ok (.iadd, 1) := by decide +kernel
theorem dX2_remove_66 : decode cX2_remove 66 = .ok (.iaload, 1) := by decide +kernel
theorem dX2_remove_67 : decode cX2_remove 67 = .ok (.iastore, 1) := by decide +kernel
theorem dX2_remove_68 : decode cX2_remove 68 = .ok (.aload_n 0, 1) := by decide +kernel
theorem dX2_remove_69 : decode cX2_remove 69 = .ok (.getfield 24, 3) := by decide +kernel
theorem dX2_remove_72 : decode cX2_remove 72 = .ok (.iload_n 2, 1) := by decide +kernel
theorem dX2_remove_73 : decode cX2_remove 73 = .ok (.aload_n 0, 1) := by decide +kernel
theorem dX2_remove_74 : decode cX2_remove 74 = .ok (.getfield 24, 3) := by decide +kernel
theorem dX2_remove_77 : decode cX2_remove 77 = .ok (.iload_n 2, 1) := by decide +kernel
theorem dX2_remove_78 : decode cX2_remove 78 = .ok (.iconst 1, 1) := by decide +kernel
theorem dX2_remove_79 : decode cX2_remove 79 = .ok (.iadd, 1) := by decide +kernel
theorem dX2_remove_80 : decode cX2_remove 80 = .ok (.iaload, 1) := by decide +kernel
theorem dX2_remove_81 : decode cX2_remove 81 = .ok (.iastore, 1) := by decide +kernel
theorem dX2_remove_82 : decode cX2_remove 82 = .ok (.aload_n 0, 1) := by decide +kernel
theorem dX2_remove_83 : decode cX2_remove 83 = .ok (.getfield 27, 3) := by decide +kernel
theorem dX2_remove_86 : decode cX2_remove 86 = .ok (.iload_n 2, 1) := by decide +kernel
theorem dX2_remove_87 : decode cX2_remove 87 = .ok (.aload_n 0, 1) := by decide +kernel
theorem dX2_remove_88 : decode cX2_remove 88 = .ok (.getfield 27, 3) := by decide +kernel
theorem dX2_remove_91 : decode cX2_remove 91 = .ok (.iload_n 2, 1) := by decide +kernel
theorem dX2_remove_92 : decode cX2_remove 92 = .ok (.iconst 1, 1) := by decide +kernel
theorem dX2_remove_93 : decode cX2_remove 93 = .ok (.iadd, 1) := by decide +kernel
theorem dX2_remove_94 : decode cX2_remove 94 = .ok (.iaload, 1) := by decide +kernel
theorem dX2_remove_95 : decode cX2_remove 95 = .ok (.iastore, 1) := by decide +kernel
theorem dX2_remove_96 : decode cX2_remove 96 = .ok (.iinc 2 1, 3) := by decide +kernel
theorem dX2_remove_99 : decode cX2_remove 99 = .ok (.goto (-97), 3) := by decide +kernel
theorem dX2_remove_102 : decode cX2_remove 102 = .ok (.aload_n 0, 1) := by decide +kernel
theorem dX2_remove_103 : decode cX2_remove 103 = .ok (.dup, 1) := by decide +kernel
theorem dX2_remove_104 : decode cX2_remove 104 = .ok (.getfield 30, 3) := by decide +kernel
theorem dX2_remove_107 : decode cX2_remove 107 = .ok (.iconst 1, 1) := by decide +kernel
theorem dX2_remove_108 : decode cX2_remove 108 = .ok (.isub, 1) := by decide +kernel
theorem dX2_remove_109 : decode cX2_remove 109 = .ok (.putfield 30, 3) := by decide +kernel
theorem dX2_remove_112 : decode cX2_remove 112 = .ok (.return_, 1) := by decide +kernel
theorem dX3_init_0 : decode cX3_init 0 = .ok (.aload_n 0, 1) := by decide +kernel
theorem dX3_init_1 : decode cX3_init 1 = .ok (.invokespecial 3, 3) := by decide +kernel
theorem dX3_init_4 : decode cX3_init 4 = .ok (.aload_n 0, 1) := by decide +kernel
theorem dX3_init_5 : decode cX3_init 5 = .ok (.bipush 60, 2) := by decide +kernel
theorem dX3_init_7 : decode cX3_init 7 = .ok (.newarray .int, 2) := by decide +kernel
theorem dX3_init_9 : decode cX3_init 9 = .ok (.putfield 9, 3) := by decide +kernel
theorem dX3_init_12 : decode cX3_init 12 = .ok (.aload_n 0, 1) := by decide +kernel
theorem dX3_init_13 : decode cX3_init 13 = .ok (.bipush 61, 2) := by decide +kernel
theorem dX3_init_15 : decode cX3_init 15 = .ok (.newarray .int, 2) := by decide +kernel
theorem dX3_init_17 : decode cX3_init 17 = .ok (.putfield 15, 3) := by decide +kernel
theorem dX3_init_20 : decode cX3_init 20 = .ok (.return_, 1) := by decide +kernel
theorem dX3_clear_0 : decode cX3_clear 0 = .ok (.aload_n 0, 1) := by decide +kernel
theorem dX3_clear_1 : decode cX3_clear 1 = .ok (.iconst 0, 1) := by decide +kernel
theorem dX3_clear_2 : decode cX3_clear 2 = .ok (.putfield 18, 3) := by decide +kernel
theorem dX3_clear_5 : decode cX3_clear 5 = .ok (.return_, 1) := by decide +kernel
theorem dX3_add_0 : decode cX3_add 0 = .ok (.aload_n 0, 1) := by decide +kernel
theorem dX3_add_1 : decode cX3_add 1 = .ok (.getfield 9, 3) := by decide +kernel
theorem dX3_add_4 : decode cX3_add 4 = .ok (.aload_n 0, 1) := by decide +kernel
theorem dX3_add_5 : decode cX3_add 5 = .ok (.getfield 18, 3) := by decide +kernel
theorem dX3_add_8 : decode cX3_add 8 = .ok (.iload_n 1, 1) := by decide +kernel
theorem dX3_add_9 : decode cX3_add 9 = .ok (.iastore, 1) := by decide +kernel
theorem dX3_add_10 : decode cX3_add 10 = .ok (.aload_n 0, 1) := by decide +kernel
theorem dX3_add_11 : decode cX3_add 11 = .ok (.dup, 1) := by decide +kernel
theorem dX3_add_12 : decode cX3_add 12 = .ok (.getfield 18, 3) := by decide +kernel
theorem dX3_add_15 : decode cX3_add 15 = .ok (.iconst 1, 1) := by decide +kernel
theorem dX3_add_16 : decode cX3_add 16 = .ok (.iadd, 1) := by decide +kernel
theorem dX3_add_17 : decode cX3_add 17 = .ok (.putfield 18, 3) := by decide +kernel
theorem dX3_add_20 : decode cX3_add 20 = .ok (.return_, 1) := by decide +kernel
set_option maxRecDepth 20000 in
theorem ggX3_placeAll_J7_fill_53178 : GoodIn wsX3_placeAll wsJ7_fill_53178 := goodIn_r _ [10] rfl (by decide +kernel)
set_option maxRecDepth 20000 in
theorem gX3_placeAll_J7_fill_53178 : GoodIn wsX3_placeAll (va_wsS RX3 22 yJ7_fill_53178 wsJ7_fill_53178) := goodIn_app (goodIn_r _ [7, 8, 9] rfl (by decide +kernel)) ggX3_placeAll_J7_fill_53178
set_option maxRecDepth 20000 in
theorem ggX3_placeAll_X3_outermost : GoodIn wsX3_placeAll wsX3_outermost := goodIn_r _ [15, 2, 16, 24, 25, 26] rfl (by decide +kernel)
set_option maxRecDepth 20000 in
theorem gX3_placeAll_X3_outermost : GoodIn wsX3_placeAll (wsV RX3 28 RX3 yX3_outermost wsX3_outermost) := goodIn_app (goodIn_r _ [11, 12, 13, 14] rfl (by decide +kernel)) ggX3_placeAll_X3_outermost
set_option maxRecDepth 20000 in
theorem ggX3_placeAll_X3_columnFor : GoodIn wsX3_placeAll wsX3_columnFor := goodIn_r _ [20, 2, 16, 21, 22, 5, 23, 1, 24, 25, 26] rfl (by decide +kernel)
set_option maxRecDepth 20000 in
theorem gX3_placeAll_X3_columnFor : GoodIn wsX3_placeAll (wsV RX3 32 RX3 yX3_columnFor wsX3_columnFor) := goodIn_app (goodIn_r _ [17, 18, 19, 14] rfl (by decide +kernel)) ggX3_placeAll_X3_columnFor
theorem dX3_placeAll_0 : decode cX3_placeAll 0 = .ok (.aload_n 0, 1) := by decide +kernel
theorem dX3_placeAll_1 : decode cX3_placeAll 1 = .ok (.getfield 15, 3) := by decide +kernel
theorem dX3_placeAll_4 : decode cX3_placeAll 4 = .ok (.iconst 0, 1) := by decide +kernel
theorem dX3_placeAll_5 : decode cX3_placeAll 5 = .ok (.invokestatic 22, 3) := by decide +kernel
theorem dX3_placeAll_8 : decode cX3_placeAll 8 = .ok (.iconst 0, 1) := by decide +kernel
theorem dX3_placeAll_9 : decode cX3_placeAll 9 = .ok (.istore 4, 2) := by decide +kernel
theorem dX3_placeAll_11 : decode cX3_placeAll 11 = .ok (.iconst 1, 1) := by decide +kernel
theorem dX3_placeAll_12 : decode cX3_placeAll 12 = .ok (.istore 5, 2) := by decide +kernel
theorem dX3_placeAll_14 : decode cX3_placeAll 14 = .ok (.iload 5, 2) := by decide +kernel
theorem dX3_placeAll_16 : decode cX3_placeAll 16 = .ok (.aload_n 0, 1) := by decide +kernel
theorem dX3_placeAll_17 : decode cX3_placeAll 17 = .ok (.getfield 18, 3) := by decide +kernel
theorem dX3_placeAll_20 : decode cX3_placeAll 20 = .ok (.if_icmp .gt 61, 3) := by decide +kernel
theorem dX3_placeAll_23 : decode cX3_placeAll 23 = .ok (.aload_n 0, 1) := by decide +kernel
theorem dX3_placeAll_24 : decode cX3_placeAll 24 = .ok (.iload 5, 2) := by decide +kernel
theorem dX3_placeAll_26 : decode cX3_placeAll 26 = .ok (.iconst 2, 1) := by decide +kernel
theorem dX3_placeAll_27 : decode cX3_placeAll 27 = .ok (.irem, 1) := by decide +kernel
theorem dX3_placeAll_28 : decode cX3_placeAll 28 = .ok (.iconst 1, 1) := by decide +kernel
theorem dX3_placeAll_29 : decode cX3_placeAll 29 = .ok (.if_icmp .ne 7, 3) := by decide +kernel
theorem dX3_placeAll_32 : decode cX3_placeAll 32 = .ok (.iconst 1, 1) := by decide +kernel
theorem dX3_placeAll_33 : decode cX3_placeAll 33 = .ok (.goto 4, 3) := by decide +kernel
theorem dX3_placeAll_36 : decode cX3_placeAll 36 = .ok (.iconst 0, 1) := by decide +kernel
theorem dX3_placeAll_37 : decode cX3_placeAll 37 = .ok (.aload_n 2, 1) := by decide +kernel
theorem dX3_placeAll_38 : decode cX3_placeAll 38 = .ok (.aload_n 3, 1) := by decide +kernel
theorem dX3_placeAll_39 : decode cX3_placeAll 39 = .ok (.invokevirtual 28, 3) := by decide +kernel
theorem dX3_placeAll_42 : decode cX3_placeAll 42 = .ok (.istore 6, 2) := by decide +kernel
theorem dX3_placeAll_44 : decode cX3_placeAll 44 = .ok (.iload 6, 2) := by decide +kernel
theorem dX3_placeAll_46 : decode cX3_placeAll 46 = .ok (.ifCond .lt 29, 3) := by decide +kernel
theorem dX3_placeAll_49 : decode cX3_placeAll 49 = .ok (.aload_n 3, 1) := by decide +kernel
theorem dX3_placeAll_50 : decode cX3_placeAll 50 = .ok (.iload 6, 2) := by decide +kernel
theorem dX3_placeAll_52 : decode cX3_placeAll 52 = .ok (.aload_n 0, 1) := by decide +kernel
theorem dX3_placeAll_53 : decode cX3_placeAll 53 = .ok (.iload 6, 2) := by decide +kernel
theorem dX3_placeAll_55 : decode cX3_placeAll 55 = .ok (.iload 5, 2) := by decide +kernel
theorem dX3_placeAll_57 : decode cX3_placeAll 57 = .ok (.aload_n 1, 1) := by decide +kernel
theorem dX3_placeAll_58 : decode cX3_placeAll 58 = .ok (.aload_n 2, 1) := by decide +kernel
theorem dX3_placeAll_59 : decode cX3_placeAll 59 = .ok (.aload_n 3, 1) := by decide +kernel
theorem dX3_placeAll_60 : decode cX3_placeAll 60 = .ok (.invokevirtual 32, 3) := by decide +kernel
theorem dX3_placeAll_63 : decode cX3_placeAll 63 = .ok (.iastore, 1) := by decide +kernel
theorem dX3_placeAll_64 : decode cX3_placeAll 64 = .ok (.iload 4, 2) := by decide +kernel
theorem dX3_placeAll_66 : decode cX3_placeAll 66 = .ok (.aload_n 3, 1) := by decide +kernel
theorem dX3_placeAll_67 : decode cX3_placeAll 67 = .ok (.iload 6, 2) := by decide +kernel
theorem dX3_placeAll_69 : decode cX3_placeAll 69 = .ok (.iaload, 1) := by decide +kernel
theorem dX3_placeAll_70 : decode cX3_placeAll 70 = .ok (.invokestatic 36, 3) := by decide +kernel
theorem dX3_placeAll_73 : decode cX3_placeAll 73 = .ok (.istore 4, 2) := by decide +kernel
theorem dX3_placeAll_75 : decode cX3_placeAll 75 = .ok (.iinc 5 1, 3) := by decide +kernel
theorem dX3_placeAll_78 : decode cX3_placeAll 78 = .ok (.goto (-64), 3) := by decide +kernel
theorem dX3_placeAll_81 : decode cX3_placeAll 81 = .ok (.iload 4, 2) := by decide +kernel
theorem dX3_placeAll_83 : decode cX3_placeAll 83 = .ok (.ireturn, 1) := by decide +kernel
theorem dX3_outermost_0 : decode cX3_outermost 0 = .ok (.iconst (-1), 1) := by decide +kernel
theorem dX3_outermost_1 : decode cX3_outermost 1 = .ok (.istore 4, 2) := by decide +kernel
theorem dX3_outermost_3 : decode cX3_outermost 3 = .ok (.iconst 0, 1) := by decide +kernel
theorem dX3_outermost_4 : decode cX3_outermost 4 = .ok (.istore 5, 2) := by decide +kernel
theorem dX3_outermost_6 : decode cX3_outermost 6 = .ok (.iload 5, 2) := by decide +kernel
theorem dX3_outermost_8 : decode cX3_outermost 8 = .ok (.aload_n 0, 1) := by decide +kernel
theorem dX3_outermost_9 : decode cX3_outermost 9 = .ok (.getfield 18, 3) := by decide +kernel
theorem dX3_outermost_12 : decode cX3_outermost 12 = .ok (.if_icmp .ge 63, 3) := by decide +kernel
theorem dX3_outermost_15 : decode cX3_outermost 15 = .ok (.aload_n 0, 1) := by decide +kernel
theorem dX3_outermost_16 : decode cX3_outermost 16 = .ok (.getfield 9, 3) := by decide +kernel
theorem dX3_outermost_19 : decode cX3_outermost 19 = .ok (.iload 5, 2) := by decide +kernel
theorem dX3_outermost_21 : decode cX3_outermost 21 = .ok (.iaload, 1) := by decide +kernel
theorem dX3_outermost_22 : decode cX3_outermost 22 = .ok (.istore 6, 2) := by decide +kernel
theorem dX3_outermost_24 : decode cX3_outermost 24 = .ok (.aload_n 3, 1) := by decide +kernel
theorem dX3_outermost_25 : decode cX3_outermost 25 = .ok (.iload 6, 2) := by decide +kernel
theorem dX3_outermost_27 : decode cX3_outermost 27 = .ok (.iaload, 1) := by decide +kernel
theorem dX3_outermost_28 : decode cX3_outermost 28 = .ok (.ifCond .ne 41, 3) := by decide +kernel
theorem dX3_outermost_31 : decode cX3_outermost 31 = .ok (.iload 4, 2) := by decide +kernel
theorem dX3_outermost_33 : decode cX3_outermost 33 = .ok (.ifCond .lt 32, 3) := by decide +kernel
theorem dX3_outermost_36 : decode cX3_outermost 36 = .ok (.iload_n 1, 1) := by decide +kernel
theorem dX3_outermost_37 : decode cX3_outermost 37 = .ok (.ifCond .eq 17, 3) := by decide +kernel
theorem dX3_outermost_40 : decode cX3_outermost 40 = .ok (.aload_n 2, 1) := by decide +kernel
theorem dX3_outermost_41 : decode cX3_outermost 41 = .ok (.iload 6, 2) := by decide +kernel
theorem dX3_outermost_43 : decode cX3_outermost 43 = .ok (.iaload, 1) := by decide +kernel
theorem dX3_outermost_44 : decode cX3_outermost 44 = .ok (.aload_n 2, 1) := by decide +kernel
theorem dX3_outermost_45 : decode cX3_outermost 45 = .ok (.iload 4, 2) := by decide +kernel
theorem dX3_outermost_47 : decode cX3_outermost 47 = .ok (.iaload, 1) := by decide +kernel
theorem dX3_outermost_48 : decode cX3_outermost 48 = .ok (.if_icmp .le 21, 3) := by decide +kernel
theorem dX3_outermost_51 : decode cX3_outermost 51 = .ok (.goto 14, 3) := by decide +kernel
theorem dX3_outermost_54 : decode cX3_outermost 54 = .ok (.aload_n 2, 1) := by decide +kernel
theorem dX3_outermost_55 : decode cX3_outermost 55 = .ok (.iload 6, 2) := by decide +kernel
theorem dX3_outermost_57 : decode cX3_outermost 57 = .ok (.iaload, 1) := by decide +kernel
theorem dX3_outermost_58 : decode cX3_outermost 58 = .ok (.aload_n 2, 1) := by decide +kernel
theorem dX3_outermost_59 : decode cX3_outermost 59 = .ok (.iload 4, 2) := by decide +kernel
theorem dX3_outermost_61 : decode cX3_outermost 61 = .ok (.iaload, 1) := by decide +kernel
theorem dX3_outermost_62 : decode cX3_outermost 62 = .ok (.if_icmp .ge 7, 3) := by decide +kernel
theorem dX3_outermost_65 : decode cX3_outermost 65 = .ok (.iload 6, 2) := by decide +kernel
theorem dX3_outermost_67 : decode cX3_outermost 67 = .ok (.istore 4, 2) := by decide +kernel
theorem dX3_outermost_69 : decode cX3_outermost 69 = .ok (.iinc 5 1, 3) := by decide +kernel
theorem dX3_outermost_72 : decode cX3_outermost 72 = .ok (.goto (-66), 3) := by decide +kernel
theorem dX3_outermost_75 : decode cX3_outermost 75 = .ok (.iload 4, 2) := by decide +kernel
theorem dX3_outermost_77 : decode cX3_outermost 77 = .ok (.ireturn, 1) := by decide +kernel
theorem dX3_columnFor_0 : decode cX3_columnFor 0 = .ok (.iconst 0, 1) := by decide +kernel
theorem dX3_columnFor_1 : decode cX3_columnFor 1 = .ok (.istore 6, 2) := by decide +kernel
theorem dX3_columnFor_3 : decode cX3_columnFor 3 = .ok (.iload 6, 2) := by decide +kernel
theorem dX3_columnFor_5 : decode cX3_columnFor 5 = .ok (.aload_n 0, 1) := by decide +kernel
theorem dX3_columnFor_6 : decode cX3_columnFor 6 = .ok (.getfield 18, 3) := by decide +kernel
theorem dX3_columnFor_9 : decode cX3_columnFor 9 = .ok (.if_icmp .ge 83, 3) := by decide +kernel
theorem dX3_columnFor_12 : decode cX3_columnFor 12 = .ok (.aload_n 0, 1) := by decide +kernel
theorem dX3_columnFor_13 : decode cX3_columnFor 13 = .ok (.getfield 9, 3) := by decide +kernel
theorem dX3_columnFor_16 : decode cX3_columnFor 16 = .ok (.iload 6, 2) := by decide +kernel
theorem dX3_columnFor_18 : decode cX3_columnFor 18 = .ok (.iaload, 1) := by decide +kernel
theorem dX3_columnFor_19 : decode cX3_columnFor 19 = .ok (.istore 7, 2) := by decide +kernel
theorem dX3_columnFor_21 : decode cX3_columnFor 21 = .ok (.aload 5, 2) := by decide +kernel
theorem dX3_columnFor_23 : decode cX3_columnFor 23 = .ok (.iload 7, 2) := by decide +kernel
theorem dX3_columnFor_25 : decode cX3_columnFor 25 = .ok (.iaload, 1) := by decide +kernel
theorem dX3_columnFor_26 : decode cX3_columnFor 26 = .ok (.ifCond .le 31, 3) := by decide +kernel
theorem dX3_columnFor_29 : decode cX3_columnFor 29 = .ok (.aload 4, 2) := by decide +kernel
theorem dX3_columnFor_31 : decode cX3_columnFor 31 = .ok (.iload 7, 2) := by decide +kernel
theorem dX3_columnFor_33 : decode cX3_columnFor 33 = .ok (.iaload, 1) := by decide +kernel
theorem dX3_columnFor_34 : decode cX3_columnFor 34 = .ok (.aload 4, 2) := by decide +kernel
theorem dX3_columnFor_36 : decode cX3_columnFor 36 = .ok (.iload_n 1, 1) := by decide +kernel
theorem dX3_columnFor_37 : decode cX3_columnFor 37 = .ok (.iaload, 1) := by decide +kernel
theorem dX3_columnFor_38 : decode cX3_columnFor 38 = .ok (.if_icmp .ne 19, 3) := by decide +kernel
theorem dX3_columnFor_41 : decode cX3_columnFor 41 = .ok (.aload_n 3, 1) := by decide +kernel
theorem dX3_columnFor_42 : decode cX3_columnFor 42 = .ok (.iload 7, 2) := by decide +kernel
theorem dX3_columnFor_44 : decode cX3_columnFor 44 = .ok (.iaload, 1) := by decide +kernel
theorem dX3_columnFor_45 : decode cX3_columnFor 45 = .ok (.aload_n 3, 1) := by decide +kernel
theorem dX3_columnFor_46 : decode cX3_columnFor 46 = .ok (.iload_n 1, 1) := by decide +kernel
theorem dX3_columnFor_47 : decode cX3_columnFor 47 = .ok (.iaload, 1) := by decide +kernel
theorem dX3_columnFor_48 : decode cX3_columnFor 48 = .ok (.if_icmp .ne 9, 3) := by decide +kernel
theorem dX3_columnFor_51 : decode cX3_columnFor 51 = .ok (.aload 5, 2) := by decide +kernel
theorem dX3_columnFor_53 : decode cX3_columnFor 53 = .ok (.iload 7, 2) := by decide +kernel
theorem dX3_columnFor_55 : decode cX3_columnFor 55 = .ok (.iaload, 1) := by decide +kernel
theorem dX3_columnFor_56 : decode cX3_columnFor 56 = .ok (.ireturn, 1) := by decide +kernel
theorem dX3_columnFor_57 : decode cX3_columnFor 57 = .ok (.aload 4, 2) := by decide +kernel
theorem dX3_columnFor_59 : decode cX3_columnFor 59 = .ok (.iload 7, 2) := by decide +kernel
theorem dX3_columnFor_61 : decode cX3_columnFor 61 = .ok (.iaload, 1) := by decide +kernel
theorem dX3_columnFor_62 : decode cX3_columnFor 62 = .ok (.aload 4, 2) := by decide +kernel
theorem dX3_columnFor_64 : decode cX3_columnFor 64 = .ok (.iload_n 1, 1) := by decide +kernel
theorem dX3_columnFor_65 : decode cX3_columnFor 65 = .ok (.iaload, 1) := by decide +kernel
theorem dX3_columnFor_66 : decode cX3_columnFor 66 = .ok (.isub, 1) := by decide +kernel
theorem dX3_columnFor_67 : decode cX3_columnFor 67 = .ok (.invokestatic 42, 3) := by decide +kernel
theorem dX3_columnFor_70 : decode cX3_columnFor 70 = .ok (.bipush 6, 2) := by decide +kernel
theorem dX3_columnFor_72 : decode cX3_columnFor 72 = .ok (.if_icmp .ge 14, 3) := by decide +kernel
theorem dX3_columnFor_75 : decode cX3_columnFor 75 = .ok (.aload_n 0, 1) := by decide +kernel
theorem dX3_columnFor_76 : decode cX3_columnFor 76 = .ok (.getfield 15, 3) := by decide +kernel
theorem dX3_columnFor_79 : decode cX3_columnFor 79 = .ok (.aload 5, 2) := by decide +kernel
theorem dX3_columnFor_81 : decode cX3_columnFor 81 = .ok (.iload 7, 2) := by decide +kernel
theorem dX3_columnFor_83 : decode cX3_columnFor 83 = .ok (.iaload, 1) := by decide +kernel
theorem dX3_columnFor_84 : decode cX3_columnFor 84 = .ok (.iload_n 2, 1) := by decide +kernel
theorem dX3_columnFor_85 : decode cX3_columnFor 85 = .ok (.iastore, 1) := by decide +kernel
theorem dX3_columnFor_86 : decode cX3_columnFor 86 = .ok (.iinc 6 1, 3) := by decide +kernel
theorem dX3_columnFor_89 : decode cX3_columnFor 89 = .ok (.goto (-86), 3) := by decide +kernel
theorem dX3_columnFor_92 : decode cX3_columnFor 92 = .ok (.iconst 1, 1) := by decide +kernel
theorem dX3_columnFor_93 : decode cX3_columnFor 93 = .ok (.istore 6, 2) := by decide +kernel
theorem dX3_columnFor_95 : decode cX3_columnFor 95 = .ok (.iload 6, 2) := by decide +kernel
theorem dX3_columnFor_97 : decode cX3_columnFor 97 = .ok (.bipush 60, 2) := by decide +kernel
theorem dX3_columnFor_99 : decode cX3_columnFor 99 = .ok (.if_icmp .ge 20, 3) := by decide +kernel
theorem dX3_columnFor_102 : decode cX3_columnFor 102 = .ok (.aload_n 0, 1) := by decide +kernel
theorem dX3_columnFor_103 : decode cX3_columnFor 103 = .ok (.getfield 15, 3) := by decide +kernel
theorem dX3_columnFor_106 : decode cX3_columnFor 106 = .ok (.iload 6, 2) := by decide +kernel
theorem dX3_columnFor_108 : decode cX3_columnFor 108 = .ok (.iaload, 1) := by decide +kernel
theorem dX3_columnFor_109 : decode cX3_columnFor 109 = .ok (.iload_n 2, 1) := by decide +kernel
theorem dX3_columnFor_110 : decode cX3_columnFor 110 = .ok (.if_icmp .ne 9, 3) := by decide +kernel
theorem dX3_columnFor_113 : decode cX3_columnFor 113 = .ok (.iinc 6 1, 3) := by decide +kernel
theorem dX3_columnFor_116 : decode cX3_columnFor 116 = .ok (.goto (-21), 3) := by decide +kernel
theorem dX3_columnFor_119 : decode cX3_columnFor 119 = .ok (.iload 6, 2) := by decide +kernel
theorem dX3_columnFor_121 : decode cX3_columnFor 121 = .ok (.ireturn, 1) := by decide +kernel
set_option maxRecDepth 20000 in
theorem ggX4_init_X4_putClef : GoodIn wsX4_init wsX4_putClef := goodIn_r _ [15, 5, 16, 17, 18, 19, 20, 21] rfl (by decide +kernel)
set_option maxRecDepth 20000 in
theorem gX4_init_X4_putClef : GoodIn wsX4_init (wsV RX4 31 RX4 yX4_putClef wsX4_putClef) := goodIn_app (goodIn_r _ [11, 12, 13, 14] rfl (by decide +kernel)) ggX4_init_X4_putClef
theorem dX4_init_0 : decode cX4_init 0 = .ok (.aload_n 0, 1) := by decide +kernel
theorem dX4_init_1 : decode cX4_init 1 = .ok (.invokespecial 3, 3) := by decide +kernel
theorem dX4_init_4 : decode cX4_init 4 = .ok (.aload_n 0, 1) := by decide +kernel
theorem dX4_init_5 : decode cX4_init 5 = .ok (.iconst 4, 1) := by decide +kernel
theorem dX4_init_6 : decode cX4_init 6 = .ok (.newarray .int, 2) := by decide +kernel
theorem dX4_init_8 : decode cX4_init 8 = .ok (.putfield 9, 3) := by decide +kernel
theorem dX4_init_11 : decode cX4_init 11 = .ok (.aload_n 0, 1) := by decide +kernel
theorem dX4_init_12 : decode cX4_init 12 = .ok (.bipush 12, 2) := by decide +kernel
theorem dX4_init_14 : decode cX4_init 14 = .ok (.newarray .int, 2) := by decide +kernel
theorem dX4_init_16 : decode cX4_init 16 = .ok (.putfield 15, 3) := by decide +kernel
theorem dX4_init_19 : decode cX4_init 19 = .ok (.aload_n 0, 1) := by decide +kernel
theorem dX4_init_20 : decode cX4_init 20 = .ok (.bipush 12, 2) := by decide +kernel
theorem dX4_init_22 : decode cX4_init 22 = .ok (.newarray .int, 2) := by decide +kernel
theorem dX4_init_24 : decode cX4_init 24 = .ok (.putfield 18, 3) := by decide +kernel
theorem dX4_init_27 : decode cX4_init 27 = .ok (.aload_n 0, 1) := by decide +kernel
theorem dX4_init_28 : decode cX4_init 28 = .ok (.bipush 12, 2) := by decide +kernel
theorem dX4_init_30 : decode cX4_init 30 = .ok (.newarray .int, 2) := by decide +kernel
theorem dX4_init_32 : decode cX4_init 32 = .ok (.putfield 21, 3) := by decide +kernel
theorem dX4_init_35 : decode cX4_init 35 = .ok (.aload_n 0, 1) := by decide +kernel
theorem dX4_init_36 : decode cX4_init 36 = .ok (.bipush 12, 2) := by decide +kernel
theorem dX4_init_38 : decode cX4_init 38 = .ok (.newarray .int, 2) := by decide +kernel
theorem dX4_init_40 : decode cX4_init 40 = .ok (.putfield 24, 3) := by decide +kernel
theorem dX4_init_43 : decode cX4_init 43 = .ok (.aload_n 0, 1) := by decide +kernel
theorem dX4_init_44 : decode cX4_init 44 = .ok (.iconst 0, 1) := by decide +kernel
theorem dX4_init_45 : decode cX4_init 45 = .ok (.putfield 27, 3) := by decide +kernel
theorem dX4_init_48 : decode cX4_init 48 = .ok (.iconst 0, 1) := by decide +kernel
theorem dX4_init_49 : decode cX4_init 49 = .ok (.istore_n 1, 1) := by decide +kernel
theorem dX4_init_50 : decode cX4_init 50 = .ok (.iload_n 1, 1) := by decide +kernel
theorem dX4_init_51 : decode cX4_init 51 = .ok (.iconst 4, 1) := by decide +kernel
theorem dX4_init_52 : decode cX4_init 52 = .ok (.if_icmp .ge 16, 3) := by decide +kernel
theorem dX4_init_55 : decode cX4_init 55 = .ok (.aload_n 0, 1) := by decide +kernel
theorem dX4_init_56 : decode cX4_init 56 = .ok (.iload_n 1, 1) := by decide +kernel
theorem dX4_init_57 : decode cX4_init 57 = .ok (.iconst 0, 1) := by decide +kernel
theorem dX4_init_58 : decode cX4_init 58 = .ok (.iconst 2, 1) := by decide +kernel
theorem dX4_init_59 : decode cX4_init 59 = .ok (.invokevirtual 31, 3) := by decide +kernel
theorem dX4_init_62 : decode cX4_init 62 = .ok (.iinc 1 1, 3) := by decide +kernel
theorem dX4_init_65 : decode cX4_init 65 = .ok (.goto (-15), 3) := by decide +kernel
theorem dX4_init_68 : decode cX4_init 68 = .ok (.return_, 1) := by decide +kernel
theorem dX4_putClef_0 : decode cX4_putClef 0 = .ok (.aload_n 0, 1) := by decide +kernel
theorem dX4_putClef_1 : decode cX4_putClef 1 = .ok (.getfield 9, 3) := by decide +kernel
theorem dX4_putClef_4 : decode cX4_putClef 4 = .ok (.iload_n 1, 1) := by decide +kernel
theorem dX4_putClef_5 : decode cX4_putClef 5 = .ok (.getstatic 35, 3) := by decide +kernel
theorem dX4_putClef_8 : decode cX4_putClef 8 = .ok (.iload_n 2, 1) := by decide +kernel
theorem dX4_putClef_9 : decode cX4_putClef 9 = .ok (.iaload, 1) := by decide +kernel
theorem dX4_putClef_10 : decode cX4_putClef 10 = .ok (.iconst 2, 1) := by decide +kernel
theorem dX4_putClef_11 : decode cX4_putClef 11 = .ok (.iload_n 3, 1) := by decide +kernel
theorem dX4_putClef_12 : decode cX4_putClef 12 = .ok (.iconst 1, 1) := by decide +kernel
theorem dX4_putClef_13 : decode cX4_putClef 13 = .ok (.isub, 1) := by decide +kernel
theorem dX4_putClef_14 : decode cX4_putClef 14 = .ok (.imul, 1) := by decide +kernel
theorem dX4_putClef_15 : decode cX4_putClef 15 = .ok (.isub, 1) := by decide +kernel
theorem dX4_putClef_16 : decode cX4_putClef 16 = .ok (.iastore, 1) := by decide +kernel
theorem dX4_putClef_17 : decode cX4_putClef 17 = .ok (.return_, 1) := by decide +kernel
theorem dX4_addShift_0 : decode cX4_addShift 0 = .ok (.aload_n 0, 1) := by decide +kernel
theorem dX4_addShift_1 : decode cX4_addShift 1 = .ok (.getfield 15, 3) := by decide +kernel
theorem dX4_addShift_4 : decode cX4_addShift 4 = .ok (.aload_n 0, 1) := by decide +kernel
theorem dX4_addShift_5 : decode cX4_addShift 5 = .ok (.getfield 27, 3) := by decide +kernel
theorem dX4_addShift_8 : decode cX4_addShift 8 = .ok (.iload_n 1, 1) := by decide +kernel
theorem dX4_addShift_9 : decode cX4_addShift 9 = .ok (.iastore, 1) := by decide +kernel
theorem dX4_addShift_10 : decode cX4_addShift 10 = .ok (.aload_n 0, 1) := by decide +kernel
theorem dX4_addShift_11 : decode cX4_addShift 11 = .ok (.getfield 18, 3) := by decide +kernel
theorem dX4_addShift_14 : decode cX4_addShift 14 = .ok (.aload_n 0, 1) := by decide +kernel
theorem dX4_addShift_15 : decode cX4_addShift 15 = .ok (.getfield 27, 3) := by decide +kernel
theorem dX4_addShift_18 : decode cX4_addShift 18 = .ok (.iload_n 2, 1) := by decide +kernel
theorem dX4_addShift_19 : decode cX4_addShift 19 = .ok (.iastore, 1) := by decide +kernel
theorem dX4_addShift_20 : decode cX4_addShift 20 = .ok (.aload_n 0, 1) := by decide +kernel
theorem dX4_addShift_21 : decode cX4_addShift 21 = .ok (.getfield 21, 3) := by decide +kernel
theorem dX4_addShift_24 : decode cX4_addShift 24 = .ok (.aload_n 0, 1) := by decide +kernel
theorem dX4_addShift_25 : decode cX4_addShift 25 = .ok (.getfield 27, 3) := by decide +kernel
theorem dX4_addShift_28 : decode cX4_addShift 28 = .ok (.iload_n 3, 1) := by decide +kernel
theorem dX4_addShift_29 : decode cX4_addShift 29 = .ok (.iastore, 1) := by decide +kernel
theorem dX4_addShift_30 : decode cX4_addShift 30 = .ok (.aload_n 0, 1) := by decide +kernel
theorem dX4_addShift_31 : decode cX4_addShift 31 = .ok (.getfield 24, 3) := by decide +kernel
theorem dX4_addShift_34 : decode cX4_addShift 34 = .ok (.aload_n 0, 1) := by decide +kernel
theorem dX4_addShift_35 : decode cX4_addShift 35 = .ok (.getfield 27, 3) := by decide +kernel
theorem dX4_addShift_38 : decode cX4_addShift 38 = .ok (.iload 4, 2) := by decide +kernel
theorem dX4_addShift_40 : decode cX4_addShift 40 = .ok (.iastore, 1) := by decide +kernel
theorem dX4_addShift_41 : decode cX4_addShift 41 = .ok (.aload_n 0, 1) := by decide +kernel
theorem dX4_addShift_42 : decode cX4_addShift 42 = .ok (.dup, 1) := by decide +kernel
theorem dX4_addShift_43 : decode cX4_addShift 43 = .ok (.getfield 27, 3) := by decide +kernel
theorem dX4_addShift_46 : decode cX4_addShift 46 = .ok (.iconst 1, 1) := by decide +kernel
theorem dX4_addShift_47 : decode cX4_addShift 47 = .ok (.iadd, 1) := by decide +kernel
theorem dX4_addShift_48 : decode cX4_addShift 48 = .ok (.putfield 27, 3) := by decide +kernel
theorem dX4_addShift_51 : decode cX4_addShift 51 = .ok (.return_, 1) := by decide +kernel
set_option maxRecDepth 20000 in
theorem ggX4_stepOf_X5_within : GoodIn wsX4_stepOf wsX5_within := goodIn_r _ [9] rfl (by decide +kernel)
set_option maxRecDepth 20000 in
theorem gX4_stepOf_X5_within_n38 : GoodIn wsX4_stepOf (wsX5_within) := ggX4_stepOf_X5_within
theorem dX4_stepOf_0 : decode cX4_stepOf 0 = .ok (.iconst 0, 1) := by decide +kernel
theorem dX4_stepOf_1 : decode cX4_stepOf 1 = .ok (.istore 4, 2) := by decide +kernel
theorem dX4_stepOf_3 : decode cX4_stepOf 3 = .ok (.iconst 0, 1) := by decide +kernel
theorem dX4_stepOf_4 : decode cX4_stepOf 4 = .ok (.istore 5, 2) := by decide +kernel
theorem dX4_stepOf_6 : decode cX4_stepOf 6 = .ok (.iload 5, 2) := by decide +kernel
theorem dX4_stepOf_8 : decode cX4_stepOf 8 = .ok (.aload_n 0, 1) := by decide +kernel
theorem dX4_stepOf_9 : decode cX4_stepOf 9 = .ok (.getfield 27, 3) := by decide +kernel
theorem dX4_stepOf_12 : decode cX4_stepOf 12 = .ok (.if_icmp .ge 53, 3) := by decide +kernel
theorem dX4_stepOf_15 : decode cX4_stepOf 15 = .ok (.aload_n 0, 1) := by decide +kernel
theorem dX4_stepOf_16 : decode cX4_stepOf 16 = .ok (.getfield 15, 3) := by decide +kernel
theorem dX4_stepOf_19 : decode cX4_stepOf 19 = .ok (.iload 5, 2) := by decide +kernel
theorem dX4_stepOf_21 : decode cX4_stepOf 21 = .ok (.iaload, 1) := by decide +kernel
theorem dX4_stepOf_22 : decode cX4_stepOf 22 = .ok (.iload_n 1, 1) := by decide +kernel
theorem dX4_stepOf_23 : decode cX4_stepOf 23 = .ok (.if_icmp .ne 36, 3) := by decide +kernel
theorem dX4_stepOf_26 : decode cX4_stepOf 26 = .ok (.iload_n 2, 1) := by decide +kernel
theorem dX4_stepOf_27 : decode cX4_stepOf 27 = .ok (.aload_n 0, 1) := by decide +kernel
theorem dX4_stepOf_28 : decode cX4_stepOf 28 = .ok (.getfield 18, 3) := by decide +kernel
theorem dX4_stepOf_31 : decode cX4_stepOf 31 = .ok (.iload 5, 2) := by decide +kernel
theorem dX4_stepOf_33 : decode cX4_stepOf 33 = .ok (.iaload, 1) := by decide +kernel
theorem dX4_stepOf_34 : decode cX4_stepOf 34 = .ok (.aload_n 0, 1) := by decide +kernel
theorem dX4_stepOf_35 : decode cX4_stepOf 35 = .ok (.getfield 21, 3) := by decide +kernel
theorem dX4_stepOf_38 : decode cX4_stepOf 38 = .ok (.iload 5, 2) := by decide +kernel
theorem dX4_stepOf_40 : decode cX4_stepOf 40 = .ok (.iaload, 1) := by decide +kernel
theorem dX4_stepOf_41 : decode cX4_stepOf 41 = .ok (.invokestatic 38, 3) := by decide +kernel
theorem dX4_stepOf_44 : decode cX4_stepOf 44 = .ok (.ifCond .eq 15, 3) := by decide +kernel
theorem dX4_stepOf_47 : decode cX4_stepOf 47 = .ok (.iload 4, 2) := by decide +kernel
theorem dX4_stepOf_49 : decode cX4_stepOf 49 = .ok (.aload_n 0, 1) := by decide +kernel
theorem dX4_stepOf_50 : decode cX4_stepOf 50 = .ok (.getfield 24, 3) := by decide +kernel
theorem dX4_stepOf_53 : decode cX4_stepOf 53 = .ok (.iload 5, 2) := by decide +kernel
theorem dX4_stepOf_55 : decode cX4_stepOf 55 = .ok (.iaload, 1) := by decide +kernel
theorem dX4_stepOf_56 : decode cX4_stepOf 56 = .ok (.iadd, 1) := by decide +kernel
theorem dX4_stepOf_57 : decode cX4_stepOf 57 = .ok (.istore 4, 2) := by decide +kernel
theorem dX4_stepOf_59 : decode cX4_stepOf 59 = .ok (.iinc 5 1, 3) := by decide +kernel
theorem dX4_stepOf_62 : decode cX4_stepOf 62 = .ok (.goto (-56), 3) := by decide +kernel
theorem dX4_stepOf_65 : decode cX4_stepOf 65 = .ok (.iload_n 3, 1) := by decide +kernel
theorem dX4_stepOf_66 : decode cX4_stepOf 66 = .ok (.aload_n 0, 1) := by decide +kernel
theorem dX4_stepOf_67 : decode cX4_stepOf 67 = .ok (.getfield 9, 3) := by decide +kernel
theorem dX4_stepOf_70 : decode cX4_stepOf 70 = .ok (.iload_n 1, 1) := by decide +kernel
theorem dX4_stepOf_71 : decode cX4_stepOf 71 = .ok (.iaload, 1) := by decide +kernel
theorem dX4_stepOf_72 : decode cX4_stepOf 72 = .ok (.isub, 1) := by decide +kernel
theorem dX4_stepOf_73 : decode cX4_stepOf 73 = .ok (.bipush 7, 2) := by decide +kernel
theorem dX4_stepOf_75 : decode cX4_stepOf 75 = .ok (.iload 4, 2) := by decide +kernel
theorem dX4_stepOf_77 : decode cX4_stepOf 77 = .ok (.imul, 1) := by decide +kernel
theorem dX4_stepOf_78 : decode cX4_stepOf 78 = .ok (.isub, 1) := by decide +kernel
theorem dX4_stepOf_79 : decode cX4_stepOf 79 = .ok (.ireturn, 1) := by decide +kernel
set_option maxRecDepth 20000 in
theorem ggX5_init_X4_init : GoodIn wsX5_init wsX4_init := goodIn_r _ [23, 24, 2, 3, 25, 26, 27, 28, 29, 30, 31, 32, 33, 34, 6, 35, 83, 84, 85, 86, 87, 88] rfl (by decide +kernel)
set_option maxRecDepth 20000 in
theorem gX5_init_X4_init : GoodIn wsX5_init (wsX4_init) := ggX5_init_X4_init
set_option maxRecDepth 20000 in
theorem ggX5_init_X2_init : GoodIn wsX5_init wsX2_init := goodIn_r _ [37, 38, 2, 3, 25, 39, 40, 41, 42, 43, 44, 45, 96, 97, 98, 99, 100, 101, 102] rfl (by decide +kernel)
set_option maxRecDepth 20000 in
theorem gX5_init_X2_init_n18 : GoodIn wsX5_init (wsX2_init) := ggX5_init_X2_init
set_option maxRecDepth 20000 in
theorem ggX5_init_X1_init : GoodIn wsX5_init wsX1_init := goodIn_r _ [47, 48, 2, 3, 49, 25, 50, 51, 52, 53, 54, 55, 56, 57, 58, 59, 60, 61, 62, 63, 64, 65, 66, 67, 68, 69, 70, 71, 72, 73, 74, 75, 76, 77, 78, 103, 104, 105, 106, 107, 108, 109, 110, 111, 112, 113, 114, 115, 116, 117, 118, 119, 120, 121, 122, 123, 124, 125, 126, 127] rfl (by decide +kernel)
set_option maxRecDepth 20000 in
theorem gX5_init_X1_init_n25 : GoodIn wsX5_init (wsX1_init) := ggX5_init_X1_init
set_option maxRecDepth 20000 in
theorem ggX5_init_X5_within : GoodIn wsX5_init wsX5_within := goodIn_r _ [82] rfl (by decide +kernel)
set_option maxRecDepth 20000 in
theorem gX5_init_X5_within : GoodIn wsX5_init (va_wsS RX5 42 yX5_within wsX5_within) := goodIn_app (goodIn_r _ [79, 80, 81] rfl (by decide +kernel)) ggX5_init_X5_within
theorem dX5_init_0 : decode cX5_init 0 = .ok (.aload_n 0, 1) := by decide +kernel
theorem dX5_init_1 : decode cX5_init 1 = .ok (.invokespecial 1, 3) := by decide +kernel
theorem dX5_init_4 : decode cX5_init 4 = .ok (.aload_n 0, 1) := by decide +kernel
theorem dX5_init_5 : decode cX5_init 5 = .ok (.new 7, 3) := by decide +kernel
theorem dX5_init_8 : decode cX5_init 8 = .ok (.dup, 1) := by decide +kernel
theorem dX5_init_9 : decode cX5_init 9 = .ok (.invokespecial 9, 3) := by decide +kernel
theorem dX5_init_12 : decode cX5_init 12 = .ok (.putfield 10, 3) := by decide +kernel
theorem dX5_init_15 : decode cX5_init 15 = .ok (.aload_n 0, 1) := by decide +kernel
theorem dX5_init_16 : decode cX5_init 16 = .ok (.new 16, 3) := by decide +kernel
theorem dX5_init_19 : decode cX5_init 19 = .ok (.dup, 1) := by decide +kernel
theorem dX5_init_20 : decode cX5_init 20 = .ok (.invokespecial 18, 3) := by decide +kernel
theorem dX5_init_23 : decode cX5_init 23 = .ok (.putfield 19, 3) := by decide +kernel
theorem dX5_init_26 : decode cX5_init 26 = .ok (.aload_n 0, 1) := by decide +kernel
theorem dX5_init_27 : decode cX5_init 27 = .ok (.new 23, 3) := by decide +kernel
theorem dX5_init_30 : decode cX5_init 30 = .ok (.dup, 1) := by decide +kernel
theorem dX5_init_31 : decode cX5_init 31 = .ok (.invokespecial 25, 3) := by decide +kernel
theorem dX5_init_34 : decode cX5_init 34 = .ok (.putfield 26, 3) := by decide +kernel
theorem dX5_init_37 : decode cX5_init 37 = .ok (.aload_n 0, 1) := by decide +kernel
theorem dX5_init_38 : decode cX5_init 38 = .ok (.iconst 2, 1) := by decide +kernel
theorem dX5_init_39 : decode cX5_init 39 = .ok (.putfield 30, 3) := by decide +kernel
theorem dX5_init_42 : decode cX5_init 42 = .ok (.aload_n 0, 1) := by decide +kernel
theorem dX5_init_43 : decode cX5_init 43 = .ok (.bipush 6, 2) := by decide +kernel
theorem dX5_init_45 : decode cX5_init 45 = .ok (.putfield 34, 3) := by decide +kernel
theorem dX5_init_48 : decode cX5_init 48 = .ok (.aload_n 0, 1) := by decide +kernel
theorem dX5_init_49 : decode cX5_init 49 = .ok (.iconst 0, 1) := by decide +kernel
theorem dX5_init_50 : decode cX5_init 50 = .ok (.putfield 37, 3) := by decide +kernel
theorem dX5_init_53 : decode cX5_init 53 = .ok (.aload_n 0, 1) := by decide +kernel
theorem dX5_init_54 : decode cX5_init 54 = .ok (.iload_n 1, 1) := by decide +kernel
theorem dX5_init_55 : decode cX5_init 55 = .ok (.iconst 1, 1) := by decide +kernel
theorem dX5_init_56 : decode cX5_init 56 = .ok (.ldc 41, 2) := by decide +kernel
theorem dX5_init_58 : decode cX5_init 58 = .ok (.invokestatic 42, 3) := by decide +kernel
theorem dX5_init_61 : decode cX5_init 61 = .ok (.ifCond .eq 7, 3) := by decide +kernel
theorem dX5_init_64 : decode cX5_init 64 = .ok (.iload_n 1, 1) := by decide +kernel
theorem dX5_init_65 : decode cX5_init 65 = .ok (.goto 5, 3) := by decide +kernel
theorem dX5_init_68 : decode cX5_init 68 = .ok (.bipush 10, 2) := by decide +kernel
theorem dX5_init_70 : decode cX5_init 70 = .ok (.putfield 46, 3) := by decide +kernel
theorem dX5_init_73 : decode cX5_init 73 = .ok (.return_, 1) := by decide +kernel
set_option maxRecDepth 20000 in
theorem ggX5_clef_X5_isStaff : GoodIn wsX5_clef wsX5_isStaff := goodIn_r _ [8, 9, 10, 7, 11] rfl (by decide +kernel)
set_option maxRecDepth 20000 in
theorem gX5_clef_X5_isStaff : GoodIn wsX5_clef (va_wsS RX5 49 yX5_isStaff wsX5_isStaff) := goodIn_app (goodIn_r _ [5, 6, 7] rfl (by decide +kernel)) ggX5_clef_X5_isStaff
set_option maxRecDepth 20000 in
theorem ggX5_clef_X5_within : GoodIn wsX5_clef wsX5_within := goodIn_r _ [11] rfl (by decide +kernel)
set_option maxRecDepth 20000 in
theorem gX5_clef_X5_within : GoodIn wsX5_clef (va_wsS RX5 42 yX5_within wsX5_within) := goodIn_app (goodIn_r _ [9, 10, 7] rfl (by decide +kernel)) ggX5_clef_X5_within
set_option maxRecDepth 20000 in
theorem ggX5_clef_X4_putClef : GoodIn wsX5_clef wsX4_putClef := goodIn_r _ [16, 17, 40, 41, 42, 43, 44, 45] rfl (by decide +kernel)
set_option maxRecDepth 20000 in
theorem gX5_clef_X4_putClef : GoodIn wsX5_clef (wsV RX5 57 RX4 yX4_putClef wsX4_putClef) := goodIn_app (goodIn_r _ [12, 13, 14, 15] rfl (by decide +kernel)) ggX5_clef_X4_putClef
theorem dX5_clef_0 : decode cX5_clef 0 = .ok (.iload_n 1, 1) := by decide +kernel
theorem dX5_clef_1 : decode cX5_clef 1 = .ok (.invokestatic 49, 3) := by decide +kernel
theorem dX5_clef_4 : decode cX5_clef 4 = .ok (.ifCond .ne 7, 3) := by decide +kernel
theorem dX5_clef_7 : decode cX5_clef 7 = .ok (.sipush (-1001), 3) := by decide +kernel
theorem dX5_clef_10 : decode cX5_clef 10 = .ok (.ireturn, 1) := by decide +kernel
theorem dX5_clef_11 : decode cX5_clef 11 = .ok (.iload_n 2, 1) := by decide +kernel
theorem dX5_clef_12 : decode cX5_clef 12 = .ok (.iconst 0, 1) := by decide +kernel
theorem dX5_clef_13 : decode cX5_clef 13 = .ok (.getstatic 53, 3) := by decide +kernel
theorem dX5_clef_16 : decode cX5_clef 16 = .ok (.arraylength, 1) := by decide +kernel
theorem dX5_clef_17 : decode cX5_clef 17 = .ok (.iconst 1, 1) := by decide +kernel
theorem dX5_clef_18 : decode cX5_clef 18 = .ok (.isub, 1) := by decide +kernel
theorem dX5_clef_19 : decode cX5_clef 19 = .ok (.invokestatic 42, 3) := by decide +kernel
theorem dX5_clef_22 : decode cX5_clef 22 = .ok (.ifCond .eq 12, 3) := by decide +kernel
theorem dX5_clef_25 : decode cX5_clef 25 = .ok (.iload_n 3, 1) := by decide +kernel
theorem dX5_clef_26 : decode cX5_clef 26 = .ok (.iconst 1, 1) := by decide +kernel
theorem dX5_clef_27 : decode cX5_clef 27 = .ok (.iconst 5, 1) := by decide +kernel
theorem dX5_clef_28 : decode cX5_clef 28 = .ok (.invokestatic 42, 3) := by decide +kernel
theorem dX5_clef_31 : decode cX5_clef 31 = .ok (.ifCond .ne 7, 3) := by decide +kernel
theorem dX5_clef_34 : decode cX5_clef 34 = .ok (.sipush (-1002), 3) := by decide +kernel
theorem dX5_clef_37 : decode cX5_clef 37 = .ok (.ireturn, 1) := by decide +kernel
theorem dX5_clef_38 : decode cX5_clef 38 = .ok (.aload_n 0, 1) := by decide +kernel
theorem dX5_clef_39 : decode cX5_clef 39 = .ok (.getfield 10, 3) := by decide +kernel
theorem dX5_clef_42 : decode cX5_clef 42 = .ok (.iload_n 1, 1) := by decide +kernel
theorem dX5_clef_43 : decode cX5_clef 43 = .ok (.iload_n 2, 1) := by decide +kernel
theorem dX5_clef_44 : decode cX5_clef 44 = .ok (.iload_n 3, 1) := by decide +kernel
theorem dX5_clef_45 : decode cX5_clef 45 = .ok (.invokevirtual 57, 3) := by decide +kernel
theorem dX5_clef_48 : decode cX5_clef 48 = .ok (.aload_n 0, 1) := by decide +kernel
theorem dX5_clef_49 : decode cX5_clef 49 = .ok (.getfield 26, 3) := by decide +kernel
theorem dX5_clef_52 : decode cX5_clef 52 = .ok (.iconst 1, 1) := by decide +kernel
theorem dX5_clef_53 : decode cX5_clef 53 = .ok (.putfield 61, 3) := by decide +kernel
theorem dX5_clef_56 : decode cX5_clef 56 = .ok (.iconst 1, 1) := by decide +kernel
theorem dX5_clef_57 : decode cX5_clef 57 = .ok (.ireturn, 1) := by decide +kernel
set_option maxRecDepth 20000 in
theorem ggX5_shift_X5_isStaff : GoodIn wsX5_shift wsX5_isStaff := goodIn_r _ [8, 9, 10, 7, 11] rfl (by decide +kernel)
set_option maxRecDepth 20000 in
theorem gX5_shift_X5_isStaff : GoodIn wsX5_shift (va_wsS RX5 49 yX5_isStaff wsX5_isStaff) := goodIn_app (goodIn_r _ [5, 6, 7] rfl (by decide +kernel)) ggX5_shift_X5_isStaff
set_option maxRecDepth 20000 in
theorem ggX5_shift_X5_isTick : GoodIn wsX5_shift wsX5_isTick := goodIn_r _ [14, 9, 10, 7, 11] rfl (by decide +kernel)
set_option maxRecDepth 20000 in
theorem gX5_shift_X5_isTick : GoodIn wsX5_shift (va_wsS RX5 64 yX5_isTick wsX5_isTick) := goodIn_app (goodIn_r _ [12, 13, 7] rfl (by decide +kernel)) ggX5_shift_X5_isTick
set_option maxRecDepth 20000 in
theorem ggX5_shift_X5_within : GoodIn wsX5_shift wsX5_within := goodIn_r _ [11] rfl (by decide +kernel)
set_option maxRecDepth 20000 in
theorem gX5_shift_X5_within : GoodIn wsX5_shift (va_wsS RX5 42 yX5_within wsX5_within) := goodIn_app (goodIn_r _ [9, 10, 7] rfl (by decide +kernel)) ggX5_shift_X5_within
set_option maxRecDepth 20000 in
theorem ggX5_shift_X4_addShift : GoodIn wsX5_shift wsX4_addShift := goodIn_r _ [19, 20, 21, 22, 23, 24, 32, 33, 34, 35, 36, 37] rfl (by decide +kernel)
set_option maxRecDepth 20000 in
theorem gX5_shift_X4_addShift : GoodIn wsX5_shift (wsV RX5 70 RX4 yX4_addShift wsX4_addShift) := goodIn_app (goodIn_r _ [15, 16, 17, 18] rfl (by decide +kernel)) ggX5_shift_X4_addShift
theorem dX5_shift_0 : decode cX5_shift 0 = .ok (.iload_n 1, 1) := by decide +kernel
theorem dX5_shift_1 : decode cX5_shift 1 = .ok (.invokestatic 49, 3) := by decide +kernel
theorem dX5_shift_4 : decode cX5_shift 4 = .ok (.ifCond .ne 7, 3) := by decide +kernel
theorem dX5_shift_7 : decode cX5_shift 7 = .ok (.sipush (-1001), 3) := by decide +kernel
theorem dX5_shift_10 : decode cX5_shift 10 = .ok (.ireturn, 1) := by decide +kernel
theorem dX5_shift_11 : decode cX5_shift 11 = .ok (.iload_n 2, 1) := by decide +kernel
theorem dX5_shift_12 : decode cX5_shift 12 = .ok (.invokestatic 64, 3) := by decide +kernel
theorem dX5_shift_15 : decode cX5_shift 15 = .ok (.ifCond .eq 26, 3) := by decide +kernel
theorem dX5_shift_18 : decode cX5_shift 18 = .ok (.iload_n 3, 1) := by decide +kernel
theorem dX5_shift_19 : decode cX5_shift 19 = .ok (.invokestatic 64, 3) := by decide +kernel
theorem dX5_shift_22 : decode cX5_shift 22 = .ok (.ifCond .eq 19, 3) := by decide +kernel
theorem dX5_shift_25 : decode cX5_shift 25 = .ok (.iload_n 2, 1) := by decide +kernel
theorem dX5_shift_26 : decode cX5_shift 26 = .ok (.iload_n 3, 1) := by decide +kernel
theorem dX5_shift_27 : decode cX5_shift 27 = .ok (.if_icmp .gt 14, 3) := by decide +kernel
theorem dX5_shift_30 : decode cX5_shift 30 = .ok (.iload 4, 2) := by decide +kernel
theorem dX5_shift_32 : decode cX5_shift 32 = .ok (.bipush (-2), 2) := by decide +kernel
theorem dX5_shift_34 : decode cX5_shift 34 = .ok (.iconst 2, 1) := by decide +kernel
theorem dX5_shift_35 : decode cX5_shift 35 = .ok (.invokestatic 42, 3) := by decide +kernel
theorem dX5_shift_38 : decode cX5_shift 38 = .ok (.ifCond .ne 7, 3) := by decide +kernel
theorem dX5_shift_41 : decode cX5_shift 41 = .ok (.sipush (-1002), 3) := by decide +kernel
theorem dX5_shift_44 : decode cX5_shift 44 = .ok (.ireturn, 1) := by decide +kernel
theorem dX5_shift_45 : decode cX5_shift 45 = .ok (.aload_n 0, 1) := by decide +kernel
theorem dX5_shift_46 : decode cX5_shift 46 = .ok (.getfield 10, 3) := by decide +kernel
theorem dX5_shift_49 : decode cX5_shift 49 = .ok (.getfield 67, 3) := by decide +kernel
theorem dX5_shift_52 : decode cX5_shift 52 = .ok (.bipush 12, 2) := by decide +kernel
theorem dX5_shift_54 : decode cX5_shift 54 = .ok (.if_icmp .lt 7, 3) := by decide +kernel
theorem dX5_shift_57 : decode cX5_shift 57 = .ok (.sipush (-1003), 3) := by decide +kernel
theorem dX5_shift_60 : decode cX5_shift 60 = .ok (.ireturn, 1) := by decide +kernel
theorem dX5_shift_61 : decode cX5_shift 61 = .ok (.aload_n 0, 1) := by decide +kernel
theorem dX5_shift_62 : decode cX5_shift 62 = .ok (.getfield 10, 3) := by decide +kernel
theorem dX5_shift_65 : decode cX5_shift 65 = .ok (.iload_n 1, 1) := by decide +kernel
theorem dX5_shift_66 : decode cX5_shift 66 = .ok (.iload_n 2, 1) := by decide +kernel
theorem dX5_shift_67 : decode cX5_shift 67 = .ok (.iload_n 3, 1) := by decide +kernel
theorem dX5_shift_68 : decode cX5_shift 68 = .ok (.iload 4, 2) := by decide +kernel
theorem dX5_shift_70 : decode cX5_shift 70 = .ok (.invokevirtual 70, 3) := by decide +kernel
theorem dX5_shift_73 : decode cX5_shift 73 = .ok (.aload_n 0, 1) := by decide +kernel
theorem dX5_shift_74 : decode cX5_shift 74 = .ok (.getfield 26, 3) := by decide +kernel
theorem dX5_shift_77 : decode cX5_shift 77 = .ok (.iconst 1, 1) := by decide +kernel
theorem dX5_shift_78 : decode cX5_shift 78 = .ok (.putfield 61, 3) := by decide +kernel
theorem dX5_shift_81 : decode cX5_shift 81 = .ok (.aload_n 0, 1) := by decide +kernel
theorem dX5_shift_82 : decode cX5_shift 82 = .ok (.getfield 10, 3) := by decide +kernel
theorem dX5_shift_85 : decode cX5_shift 85 = .ok (.getfield 67, 3) := by decide +kernel
theorem dX5_shift_88 : decode cX5_shift 88 = .ok (.ireturn, 1) := by decide +kernel
theorem dX5_plain_0 : decode cX5_plain 0 = .ok (.aload_n 0, 1) := by decide +kernel
theorem dX5_plain_1 : decode cX5_plain 1 = .ok (.getfield 10, 3) := by decide +kernel
theorem dX5_plain_4 : decode cX5_plain 4 = .ok (.getfield 67, 3) := by decide +kernel
theorem dX5_plain_7 : decode cX5_plain 7 = .ok (.istore_n 1, 1) := by decide +kernel
theorem dX5_plain_8 : decode cX5_plain 8 = .ok (.aload_n 0, 1) := by decide +kernel
theorem dX5_plain_9 : decode cX5_plain 9 = .ok (.getfield 10, 3) := by decide +kernel
theorem dX5_plain_12 : decode cX5_plain 12 = .ok (.iconst 0, 1) := by decide +kernel
theorem dX5_plain_13 : decode cX5_plain 13 = .ok (.putfield 67, 3) := by decide +kernel
theorem dX5_plain_16 : decode cX5_plain 16 = .ok (.aload_n 0, 1) := by decide +kernel
theorem dX5_plain_17 : decode cX5_plain 17 = .ok (.getfield 26, 3) := by decide +kernel
theorem dX5_plain_20 : decode cX5_plain 20 = .ok (.iconst 1, 1) := by decide +kernel
theorem dX5_plain_21 : decode cX5_plain 21 = .ok (.putfield 61, 3) := by decide +kernel
theorem dX5_plain_24 : decode cX5_plain 24 = .ok (.iload_n 1, 1) := by decide +kernel
theorem dX5_plain_25 : decode cX5_plain 25 = .ok (.ireturn, 1) := by decide +kernel
set_option maxRecDepth 20000 in
theorem ggX5_note_X5_isStaff : GoodIn wsX5_note wsX5_isStaff := goodIn_r _ [8, 9, 10, 7, 11] rfl (by decide +kernel)
set_option maxRecDepth 20000 in
theorem gX5_note_X5_isStaff : GoodIn wsX5_note (va_wsS RX5 49 yX5_isStaff wsX5_isStaff) := goodIn_app (goodIn_r _ [5, 6, 7] rfl (by decide +kernel)) ggX5_note_X5_isStaff
set_option maxRecDepth 20000 in
theorem ggX5_note_X5_within : GoodIn wsX5_note wsX5_within := goodIn_r _ [11] rfl (by decide +kernel)
set_option maxRecDepth 20000 in
theorem gX5_note_X5_within : GoodIn wsX5_note (va_wsS RX5 42 yX5_within wsX5_within) := goodIn_app (goodIn_r _ [9, 10, 7] rfl (by decide +kernel)) ggX5_note_X5_within
set_option maxRecDepth 20000 in
theorem ggX5_note_X5_isTick : GoodIn wsX5_note wsX5_isTick := goodIn_r _ [14, 9, 10, 7, 11] rfl (by decide +kernel)
set_option maxRecDepth 20000 in
theorem gX5_note_X5_isTick : GoodIn wsX5_note (va_wsS RX5 64 yX5_isTick wsX5_isTick) := goodIn_app (goodIn_r _ [12, 13, 7] rfl (by decide +kernel)) ggX5_note_X5_isTick
set_option maxRecDepth 20000 in
theorem ggX5_note_X5_isPitch : GoodIn wsX5_note wsX5_isPitch := goodIn_r _ [17, 9, 10, 7, 11] rfl (by decide +kernel)
set_option maxRecDepth 20000 in
theorem gX5_note_X5_isPitch : GoodIn wsX5_note (va_wsS RX5 74 yX5_isPitch wsX5_isPitch) := goodIn_app (goodIn_r _ [15, 16, 7] rfl (by decide +kernel)) ggX5_note_X5_isPitch
set_option maxRecDepth 20000 in
theorem ggX5_note_X2_add : GoodIn wsX5_note wsX2_add := goodIn_r _ [22, 23, 24, 25, 26, 27, 28, 29, 37, 38, 39, 40, 41, 42, 43] rfl (by decide +kernel)
set_option maxRecDepth 20000 in
theorem gX5_note_X2_add : GoodIn wsX5_note (wsV RX5 81 RX2 yX2_add wsX2_add) := goodIn_app (goodIn_r _ [18, 19, 20, 21] rfl (by decide +kernel)) ggX5_note_X2_add
theorem dX5_note_0 : decode cX5_note 0 = .ok (.iload_n 1, 1) := by decide +kernel
theorem dX5_note_1 : decode cX5_note 1 = .ok (.invokestatic 49, 3) := by decide +kernel
theorem dX5_note_4 : decode cX5_note 4 = .ok (.ifCond .ne 7, 3) := by decide +kernel
theorem dX5_note_7 : decode cX5_note 7 = .ok (.sipush (-1001), 3) := by decide +kernel
theorem dX5_note_10 : decode cX5_note 10 = .ok (.ireturn, 1) := by decide +kernel
theorem dX5_note_11 : decode cX5_note 11 = .ok (.iload_n 2, 1) := by decide +kernel
theorem dX5_note_12 : decode cX5_note 12 = .ok (.iconst 0, 1) := by decide +kernel
theorem dX5_note_13 : decode cX5_note 13 = .ok (.iconst 2, 1) := by decide +kernel
theorem dX5_note_14 : decode cX5_note 14 = .ok (.invokestatic 42, 3) := by decide +kernel
theorem dX5_note_17 : decode cX5_note 17 = .ok (.ifCond .eq 41, 3) := by decide +kernel
theorem dX5_note_20 : decode cX5_note 20 = .ok (.iload_n 3, 1) := by decide +kernel
theorem dX5_note_21 : decode cX5_note 21 = .ok (.invokestatic 64, 3) := by decide +kernel
theorem dX5_note_24 : decode cX5_note 24 = .ok (.ifCond .eq 34, 3) := by decide +kernel
theorem dX5_note_27 : decode cX5_note 27 = .ok (.iload 4, 2) := by decide +kernel
theorem dX5_note_29 : decode cX5_note 29 = .ok (.iload 5, 2) := by decide +kernel
theorem dX5_note_31 : decode cX5_note 31 = .ok (.invokestatic 74, 3) := by decide +kernel
theorem dX5_note_34 : decode cX5_note 34 = .ok (.ifCond .eq 24, 3) := by decide +kernel
theorem dX5_note_37 : decode cX5_note 37 = .ok (.iload 6, 2) := by decide +kernel
theorem dX5_note_39 : decode cX5_note 39 = .ok (.bipush (-2), 2) := by decide +kernel
theorem dX5_note_41 : decode cX5_note 41 = .ok (.iconst 3, 1) := by decide +kernel
theorem dX5_note_42 : decode cX5_note 42 = .ok (.invokestatic 42, 3) := by decide +kernel
theorem dX5_note_45 : decode cX5_note 45 = .ok (.ifCond .eq 13, 3) := by decide +kernel
theorem dX5_note_48 : decode cX5_note 48 = .ok (.iload 7, 2) := by decide +kernel
theorem dX5_note_50 : decode cX5_note 50 = .ok (.iconst 0, 1) := by decide +kernel
theorem dX5_note_51 : decode cX5_note 51 = .ok (.iconst 2, 1) := by decide +kernel
theorem dX5_note_52 : decode cX5_note 52 = .ok (.invokestatic 42, 3) := by decide +kernel
theorem dX5_note_55 : decode cX5_note 55 = .ok (.ifCond .ne 7, 3) := by decide +kernel
theorem dX5_note_58 : decode cX5_note 58 = .ok (.sipush (-1002), 3) := by decide +kernel
theorem dX5_note_61 : decode cX5_note 61 = .ok (.ireturn, 1) := by decide +kernel
theorem dX5_note_62 : decode cX5_note 62 = .ok (.aload_n 0, 1) := by decide +kernel
theorem dX5_note_63 : decode cX5_note 63 = .ok (.getfield 19, 3) := by decide +kernel
theorem dX5_note_66 : decode cX5_note 66 = .ok (.getfield 78, 3) := by decide +kernel
theorem dX5_note_69 : decode cX5_note 69 = .ok (.bipush 60, 2) := by decide +kernel
theorem dX5_note_71 : decode cX5_note 71 = .ok (.if_icmp .lt 7, 3) := by decide +kernel
theorem dX5_note_74 : decode cX5_note 74 = .ok (.sipush (-1003), 3) := by decide +kernel
theorem dX5_note_77 : decode cX5_note 77 = .ok (.ireturn, 1) := by decide +kernel
theorem dX5_note_78 : decode cX5_note 78 = .ok (.aload_n 0, 1) := by decide +kernel
theorem dX5_note_79 : decode cX5_note 79 = .ok (.getfield 19, 3) := by decide +kernel
theorem dX5_note_82 : decode cX5_note 82 = .ok (.iload_n 1, 1) := by decide +kernel
theorem dX5_note_83 : decode cX5_note 83 = .ok (.iload_n 2, 1) := by decide +kernel
theorem dX5_note_84 : decode cX5_note 84 = .ok (.iload_n 3, 1) := by decide +kernel
theorem dX5_note_85 : decode cX5_note 85 = .ok (.bipush 7, 2) := by decide +kernel
theorem dX5_note_87 : decode cX5_note 87 = .ok (.iload 5, 2) := by decide +kernel
theorem dX5_note_89 : decode cX5_note 89 = .ok (.imul, 1) := by decide +kernel
theorem dX5_note_90 : decode cX5_note 90 = .ok (.iload 4, 2) := by decide +kernel
theorem dX5_note_92 : decode cX5_note 92 = .ok (.iadd, 1) := by decide +kernel
theorem dX5_note_93 : decode cX5_note 93 = .ok (.iload 6, 2) := by decide +kernel
theorem dX5_note_95 : decode cX5_note 95 = .ok (.iload 7, 2) := by decide +kernel
theorem dX5_note_97 : decode cX5_note 97 = .ok (.invokevirtual 81, 3) := by decide +kernel
theorem dX5_note_100 : decode cX5_note 100 = .ok (.aload_n 0, 1) := by decide +kernel
theorem dX5_note_101 : decode cX5_note 101 = .ok (.getfield 26, 3) := by decide +kernel
theorem dX5_note_104 : decode cX5_note 104 = .ok (.iconst 1, 1) := by decide +kernel
theorem dX5_note_105 : decode cX5_note 105 = .ok (.putfield 61, 3) := by decide +kernel
theorem dX5_note_108 : decode cX5_note 108 = .ok (.aload_n 0, 1) := by decide +kernel
theorem dX5_note_109 : decode cX5_note 109 = .ok (.getfield 19, 3) := by decide +kernel
theorem dX5_note_112 : decode cX5_note 112 = .ok (.getfield 78, 3) := by decide +kernel
theorem dX5_note_115 : decode cX5_note 115 = .ok (.iconst 1, 1) := by decide +kernel
theorem dX5_note_116 : decode cX5_note 116 = .ok (.isub, 1) := by decide +kernel
theorem dX5_note_117 : decode cX5_note 117 = .ok (.ireturn, 1) := by decide +kernel
set_option maxRecDepth 20000 in
theorem ggX5_drop_X2_has : GoodIn wsX5_drop wsX2_has := goodIn_r _ [9, 10, 11, 12, 13, 46, 47, 48, 49, 50, 51, 52] rfl (by decide +kernel)
set_option maxRecDepth 20000 in
theorem gX5_drop_X2_has : GoodIn wsX5_drop (wsV RX5 85 RX2 yX2_has wsX2_has) := goodIn_app (goodIn_r _ [5, 6, 7, 8] rfl (by decide +kernel)) ggX5_drop_X2_has
set_option maxRecDepth 20000 in
theorem ggX5_drop_X2_remove : GoodIn wsX5_drop wsX2_remove := goodIn_r _ [17, 10, 18, 19, 20, 21, 22, 23, 46, 47, 48, 49, 50, 51, 52] rfl (by decide +kernel)
set_option maxRecDepth 20000 in
theorem gX5_drop_X2_remove : GoodIn wsX5_drop (wsV RX5 88 RX2 yX2_remove wsX2_remove) := goodIn_app (goodIn_r _ [14, 15, 16, 8] rfl (by decide +kernel)) ggX5_drop_X2_remove
theorem dX5_drop_0 : decode cX5_drop 0 = .ok (.aload_n 0, 1) := by decide +kernel
theorem dX5_drop_1 : decode cX5_drop 1 = .ok (.getfield 19, 3) := by decide +kernel
theorem dX5_drop_4 : decode cX5_drop 4 = .ok (.iload_n 1, 1) := by decide +kernel
theorem dX5_drop_5 : decode cX5_drop 5 = .ok (.invokevirtual 85, 3) := by decide +kernel
theorem dX5_drop_8 : decode cX5_drop 8 = .ok (.ifCond .ne 7, 3) := by decide +kernel
theorem dX5_drop_11 : decode cX5_drop 11 = .ok (.sipush (-1001), 3) := by decide +kernel
theorem dX5_drop_14 : decode cX5_drop 14 = .ok (.ireturn, 1) := by decide +kernel
theorem dX5_drop_15 : decode cX5_drop 15 = .ok (.aload_n 0, 1) := by decide +kernel
theorem dX5_drop_16 : decode cX5_drop 16 = .ok (.getfield 19, 3) := by decide +kernel
theorem dX5_drop_19 : decode cX5_drop 19 = .ok (.iload_n 1, 1) := by decide +kernel
theorem dX5_drop_20 : decode cX5_drop 20 = .ok (.invokevirtual 88, 3) := by decide +kernel
theorem dX5_drop_23 : decode cX5_drop 23 = .ok (.aload_n 0, 1) := by decide +kernel
theorem dX5_drop_24 : decode cX5_drop 24 = .ok (.getfield 26, 3) := by decide +kernel
theorem dX5_drop_27 : decode cX5_drop 27 = .ok (.iconst 1, 1) := by decide +kernel
theorem dX5_drop_28 : decode cX5_drop 28 = .ok (.putfield 61, 3) := by decide +kernel
theorem dX5_drop_31 : decode cX5_drop 31 = .ok (.aload_n 0, 1) := by decide +kernel
theorem dX5_drop_32 : decode cX5_drop 32 = .ok (.getfield 19, 3) := by decide +kernel
theorem dX5_drop_35 : decode cX5_drop 35 = .ok (.getfield 78, 3) := by decide +kernel
theorem dX5_drop_38 : decode cX5_drop 38 = .ok (.ireturn, 1) := by decide +kernel
set_option maxRecDepth 20000 in
theorem ggX5_of_X2_has : GoodIn wsX5_of wsX2_has := goodIn_r _ [14, 15, 16, 17, 18, 211, 212, 213, 214, 215, 216, 217] rfl (by decide +kernel)
set_option maxRecDepth 20000 in
theorem gX5_of_X2_has : GoodIn wsX5_of (wsV RX5 85 RX2 yX2_has wsX2_has) := goodIn_app (goodIn_r _ [10, 11, 12, 13] rfl (by decide +kernel)) ggX5_of_X2_has
set_option maxRecDepth 20000 in
theorem ggX5_of_X1_refresh : GoodIn wsX5_of wsX1_refresh := goodIn_r _ [23, 24, 25, 26, 27, 28, 29, 30, 31, 32, 33, 22, 34, 35, 36, 37, 38, 39, 40, 41, 42, 43, 44, 45, 46, 47, 48, 49, 50, 51, 52, 53, 54, 55, 16, 17, 18, 56, 57, 58, 59, 60, 61, 62, 63, 64, 65, 66, 67, 68, 69, 70, 71, 72, 73, 74, 75, 76, 77, 78, 79, 80, 81, 82, 83, 84, 85, 86, 87, 88, 89, 13, 90, 91, 92, 93, 94, 95, 96, 97, 98, 99, 100, 101, 102, 103, 104, 105, 106, 107, 108, 109, 110, 111, 112, 113, 114, 115, 116, 117, 118, 119, 120, 121, 122, 123, 124, 125, 126, 127, 128, 129, 130, 131, 132, 133, 134, 135, 136, 137, 138, 139, 140, 141, 142, 143, 144, 145, 146, 147, 148, 149, 150, 151, 152, 153, 154, 155, 156, 157, 158, 159, 160, 161, 162, 163, 164, 165, 166, 167, 168, 169, 170, 171, 172, 173, 174, 175, 176, 177, 178, 179, 180, 181, 182, 183, 184, 185, 186, 187, 188, 196, 197, 198, 199, 200, 201, 202, 203, 204, 205, 206, 207, 208, 209, 210, 211, 212, 213, 214, 215, 216, 217, 218, 219, 220, 221, 222, 223, 224, 225, 226, 227, 228, 229, 230, 231, 232, 233] rfl (by decide +kernel)
set_option maxRecDepth 20000 in
theorem gX5_of_X1_refresh : GoodIn wsX5_of (wsV RX5 92 RX1 yX1_refresh wsX1_refresh) := goodIn_app (goodIn_r _ [19, 20, 21, 22] rfl (by decide +kernel)) ggX5_of_X1_refresh
theorem dX5_of_0 : decode cX5_of 0 = .ok (.aload_n 0, 1) := by decide +kernel
theorem dX5_of_1 : decode cX5_of 1 = .ok (.getfield 19, 3) := by decide +kernel
theorem dX5_of_4 : decode cX5_of 4 = .ok (.iload_n 1, 1) := by decide +kernel
theorem dX5_of_5 : decode cX5_of 5 = .ok (.invokevirtual 85, 3) := by decide +kernel
theorem dX5_of_8 : decode cX5_of 8 = .ok (.ifCond .ne 7, 3) := by decide +kernel
theorem dX5_of_11 : decode cX5_of 11 = .ok (.sipush (-1001), 3) := by decide +kernel
theorem dX5_of_14 : decode cX5_of 14 = .ok (.ireturn, 1) := by decide +kernel
theorem dX5_of_15 : decode cX5_of 15 = .ok (.aload_n 0, 1) := by decide +kernel
theorem dX5_of_16 : decode cX5_of 16 = .ok (.getfield 26, 3) := by decide +kernel
theorem dX5_of_19 : decode cX5_of 19 = .ok (.aload_n 0, 1) := by decide +kernel
theorem dX5_of_20 : decode cX5_of 20 = .ok (.getfield 19, 3) := by decide +kernel
theorem dX5_of_23 : decode cX5_of 23 = .ok (.aload_n 0, 1) := by decide +kernel
theorem dX5_of_24 : decode cX5_of 24 = .ok (.getfield 10, 3) := by decide +kernel
theorem dX5_of_27 : decode cX5_of 27 = .ok (.invokevirtual 92, 3) := by decide +kernel
theorem dX5_of_30 : decode cX5_of 30 = .ok (.aload_n 0, 1) := by decide +kernel
theorem dX5_of_31 : decode cX5_of 31 = .ok (.getfield 26, 3) := by decide +kernel
theorem dX5_of_34 : decode cX5_of 34 = .ok (.getfield 96, 3) := by decide +kernel
theorem dX5_of_37 : decode cX5_of 37 = .ok (.iload_n 1, 1) := by decide +kernel
theorem dX5_of_38 : decode cX5_of 38 = .ok (.iaload, 1) := by decide +kernel
theorem dX5_of_39 : decode cX5_of 39 = .ok (.istore_n 3, 1) := by decide +kernel
theorem dX5_of_40 : decode cX5_of 40 = .ok (.iload_n 2, 1) := by decide +kernel
theorem dX5_of_41 : decode cX5_of 41 = .ok (.tableswitch 153 0 8 #[51, 53, 66, 83, 93, 103, 123, 133, 143], 51) := by decide +kernel
theorem dX5_of_92 : decode cX5_of 92 = .ok (.iload_n 3, 1) := by decide +kernel
theorem dX5_of_93 : decode cX5_of 93 = .ok (.ireturn, 1) := by decide +kernel
theorem dX5_of_94 : decode cX5_of 94 = .ok (.iload_n 3, 1) := by decide +kernel
theorem dX5_of_95 : decode cX5_of 95 = .ok (.ifCond .ge 10, 3) := by decide +kernel
theorem dX5_of_98 : decode cX5_of 98 = .ok (.iload_n 3, 1) := by decide +kernel
theorem dX5_of_99 : decode cX5_of 99 = .ok (.ineg, 1) := by decide +kernel
theorem dX5_of_100 : decode cX5_of 100 = .ok (.iconst 2, 1) := by decide +kernel
theorem dX5_of_101 : decode cX5_of 101 = .ok (.idiv, 1) := by decide +kernel
theorem dX5_of_102 : decode cX5_of 102 = .ok (.goto 4, 3) := by decide +kernel
theorem dX5_of_105 : decode cX5_of 105 = .ok (.iconst 0, 1) := by decide +kernel
theorem dX5_of_106 : decode cX5_of 106 = .ok (.ireturn, 1) := by decide +kernel
theorem dX5_of_107 : decode cX5_of 107 = .ok (.iload_n 3, 1) := by decide +kernel
theorem dX5_of_108 : decode cX5_of 108 = .ok (.bipush 8, 2) := by decide +kernel
theorem dX5_of_110 : decode cX5_of 110 = .ok (.if_icmp .le 12, 3) := by decide +kernel
theorem dX5_of_113 : decode cX5_of 113 = .ok (.iload_n 3, 1) := by decide +kernel
theorem dX5_of_114 : decode cX5_of 114 = .ok (.bipush 8, 2) := by decide +kernel
theorem dX5_of_116 : decode cX5_of 116 = .ok (.isub, 1) := by decide +kernel
theorem dX5_of_117 : decode cX5_of 117 = .ok (.iconst 2, 1) := by decide +kernel
theorem dX5_of_118 : decode cX5_of 118 = .ok (.idiv, 1) := by decide +kernel
theorem dX5_of_119 : decode cX5_of 119 = .ok (.goto 4, 3) := by decide +kernel
theorem dX5_of_122 : decode cX5_of 122 = .ok (.iconst 0, 1) := by decide +kernel
theorem dX5_of_123 : decode cX5_of 123 = .ok (.ireturn, 1) := by decide +kernel
theorem dX5_of_124 : decode cX5_of 124 = .ok (.aload_n 0, 1) := by decide +kernel
theorem dX5_of_125 : decode cX5_of 125 = .ok (.getfield 26, 3) := by decide +kernel
theorem dX5_of_128 : decode cX5_of 128 = .ok (.getfield 99, 3) := by decide +kernel
theorem dX5_of_131 : decode cX5_of 131 = .ok (.iload_n 1, 1) := by decide +kernel
theorem dX5_of_132 : decode cX5_of 132 = .ok (.iaload, 1) := by decide +kernel
theorem dX5_of_133 : decode cX5_of 133 = .ok (.ireturn, 1) := by decide +kernel
theorem dX5_of_134 : decode cX5_of 134 = .ok (.aload_n 0, 1) := by decide +kernel
theorem dX5_of_135 : decode cX5_of 135 = .ok (.getfield 26, 3) := by decide +kernel
theorem dX5_of_138 : decode cX5_of 138 = .ok (.getfield 102, 3) := by decide +kernel
theorem dX5_of_141 : decode cX5_of 141 = .ok (.iload_n 1, 1) := by decide +kernel
theorem dX5_of_142 : decode cX5_of 142 = .ok (.iaload, 1) := by decide +kernel
theorem dX5_of_143 : decode cX5_of 143 = .ok (.ireturn, 1) := by decide +kernel
theorem dX5_of_144 : decode cX5_of 144 = .ok (.aload_n 0, 1) := by decide +kernel
theorem dX5_of_145 : decode cX5_of 145 = .ok (.getfield 26, 3) := by decide +kernel
theorem dX5_of_148 : decode cX5_of 148 = .ok (.getfield 105, 3) := by decide +kernel
theorem dX5_of_151 : decode cX5_of 151 = .ok (.iload_n 1, 1) := by decide +kernel
theorem dX5_of_152 : decode cX5_of 152 = .ok (.iaload, 1) := by decide +kernel
theorem dX5_of_153 : decode cX5_of 153 = .ok (.aload_n 0, 1) := by decide +kernel
theorem dX5_of_154 : decode cX5_of 154 = .ok (.getfield 26, 3) := by decide +kernel
theorem dX5_of_157 : decode cX5_of 157 = .ok (.getfield 102, 3) := by decide +kernel
theorem dX5_of_160 : decode cX5_of 160 = .ok (.iload_n 1, 1) := by decide +kernel
theorem dX5_of_161 : decode cX5_of 161 = .ok (.iaload, 1) := by decide +kernel
theorem dX5_of_162 : decode cX5_of 162 = .ok (.iadd, 1) := by decide +kernel
theorem dX5_of_163 : decode cX5_of 163 = .ok (.ireturn, 1) := by decide +kernel
theorem dX5_of_164 : decode cX5_of 164 = .ok (.aload_n 0, 1) := by decide +kernel
theorem dX5_of_165 : decode cX5_of 165 = .ok (.getfield 26, 3) := by decide +kernel
theorem dX5_of_168 : decode cX5_of 168 = .ok (.getfield 108, 3) := by decide +kernel
theorem dX5_of_171 : decode cX5_of 171 = .ok (.iload_n 1, 1) := by decide +kernel
theorem dX5_of_172 : decode cX5_of 172 = .ok (.iaload, 1) := by decide +kernel
theorem dX5_of_173 : decode cX5_of 173 = .ok (.ireturn, 1) := by decide +kernel
theorem dX5_of_174 : decode cX5_of 174 = .ok (.aload_n 0, 1) := by decide +kernel
theorem dX5_of_175 : decode cX5_of 175 = .ok (.getfield 26, 3) := by decide +kernel
theorem dX5_of_178 : decode cX5_of 178 = .ok (.getfield 105, 3) := by decide +kernel
theorem dX5_of_181 : decode cX5_of 181 = .ok (.iload_n 1, 1) := by decide +kernel
theorem dX5_of_182 : decode cX5_of 182 = .ok (.iaload, 1) := by decide +kernel
theorem dX5_of_183 : decode cX5_of 183 = .ok (.ireturn, 1) := by decide +kernel
theorem dX5_of_184 : decode cX5_of 184 = .ok (.aload_n 0, 1) := by decide +kernel
theorem dX5_of_185 : decode cX5_of 185 = .ok (.getfield 26, 3) := by decide +kernel
theorem dX5_of_188 : decode cX5_of 188 = .ok (.getfield 111, 3) := by decide +kernel
theorem dX5_of_191 : decode cX5_of 191 = .ok (.iload_n 1, 1) := by decide +kernel
theorem dX5_of_192 : decode cX5_of 192 = .ok (.iaload, 1) := by decide +kernel
theorem dX5_of_193 : decode cX5_of 193 = .ok (.ireturn, 1) := by decide +kernel
theorem dX5_of_194 : decode cX5_of 194 = .ok (.sipush (-1002), 3) := by decide +kernel
theorem dX5_of_197 : decode cX5_of 197 = .ok (.ireturn, 1) := by decide +kernel
set_option maxRecDepth 20000 in
theorem ggX5_height_X2_has : GoodIn wsX5_height wsX2_has := goodIn_r _ [12, 13, 14, 15, 16, 236, 237, 238, 239, 240, 241, 242] rfl (by decide +kernel)
set_option maxRecDepth 20000 in
theorem gX5_height_X2_has : GoodIn wsX5_height (wsV RX5 85 RX2 yX2_has wsX2_has) := goodIn_app (goodIn_r _ [8, 9, 10, 11] rfl (by decide +kernel)) ggX5_height_X2_has
set_option maxRecDepth 20000 in
theorem ggX5_height_X1_refresh : GoodIn wsX5_height wsX1_refresh := goodIn_r _ [21, 22, 23, 24, 25, 26, 27, 28, 29, 30, 31, 20, 32, 33, 34, 35, 36, 37, 38, 39, 40, 41, 42, 43, 44, 45, 46, 47, 48, 49, 50, 51, 52, 53, 14, 15, 16, 54, 55, 56, 57, 58, 59, 60, 61, 62, 63, 64, 65, 66, 67, 68, 69, 70, 71, 72, 73, 74, 75, 76, 77, 78, 79, 80, 81, 82, 83, 84, 85, 86, 87, 11, 88, 89, 90, 91, 92, 93, 94, 95, 96, 97, 98, 99, 100, 101, 102, 103, 104, 105, 106, 107, 108, 109, 110, 111, 112, 113, 114, 115, 116, 117, 118, 119, 120, 121, 122, 123, 124, 125, 126, 127, 128, 129, 130, 131, 132, 133, 134, 135, 136, 137, 138, 139, 140, 141, 142, 143, 144, 145, 146, 147, 148, 149, 150, 151, 152, 153, 154, 155, 156, 157, 158, 159, 160, 161, 162, 163, 164, 165, 166, 167, 168, 169, 170, 171, 172, 173, 174, 175, 176, 177, 178, 179, 180, 181, 182, 183, 184, 185, 186, 221, 222, 223, 224, 225, 226, 227, 228, 229, 230, 231, 232, 233, 234, 235, 236, 237, 238, 239, 240, 241, 242, 243, 244, 245, 246, 247, 248, 249, 250, 251, 252, 253, 254, 255, 256, 257, 258] rfl (by decide +kernel)
set_option maxRecDepth 20000 in
theorem gX5_height_X1_refresh : GoodIn wsX5_height (wsV RX5 92 RX1 yX1_refresh wsX1_refresh) := goodIn_app (goodIn_r _ [17, 18, 19, 20] rfl (by decide +kernel)) ggX5_height_X1_refresh
set_option maxRecDepth 20000 in
theorem ggX5_height_X5_stepsDownTo : GoodIn wsX5_height wsX5_stepsDownTo := goodIn_r _ [190, 191, 192, 193, 15, 194, 195, 1, 196, 197, 198, 11, 199, 13, 89, 200, 201, 202, 203, 204, 205, 206, 207, 208, 3, 209, 210, 211, 212, 102, 98, 103, 213, 54, 55, 214, 215, 216, 217, 218, 219, 220, 236, 237, 238, 239, 240, 241, 242, 221, 222, 223, 224, 225, 226, 227, 228, 229, 230, 231, 232, 233, 234, 235] rfl (by decide +kernel)
set_option maxRecDepth 20000 in
theorem gX5_height_X5_stepsDownTo : GoodIn wsX5_height (wsV RX5 119 RX5 yX5_stepsDownTo wsX5_stepsDownTo) := goodIn_app (goodIn_r _ [187, 188, 189, 15] rfl (by decide +kernel)) ggX5_height_X5_stepsDownTo
theorem dX5_height_0 : decode cX5_height 0 = .ok (.aload_n 0, 1) := by decide +kernel
theorem dX5_height_1 : decode cX5_height 1 = .ok (.getfield 19, 3) := by decide +kernel
theorem dX5_height_4 : decode cX5_height 4 = .ok (.iload_n 1, 1) := by decide +kernel
theorem dX5_height_5 : decode cX5_height 5 = .ok (.invokevirtual 85, 3) := by decide +kernel
theorem dX5_height_8 : decode cX5_height 8 = .ok (.ifCond .ne 7, 3) := by decide +kernel
theorem dX5_height_11 : decode cX5_height 11 = .ok (.ldc2_w 114, 3) := by decide +kernel
theorem dX5_height_14 : decode cX5_height 14 = .ok (.lreturn, 1) := by decide +kernel
theorem dX5_height_15 : decode cX5_height 15 = .ok (.aload_n 0, 1) := by decide +kernel
theorem dX5_height_16 : decode cX5_height 16 = .ok (.getfield 26, 3) := by decide +kernel
theorem dX5_height_19 : decode cX5_height 19 = .ok (.aload_n 0, 1) := by decide +kernel
theorem dX5_height_20 : decode cX5_height 20 = .ok (.getfield 19, 3) := by decide +kernel
theorem dX5_height_23 : decode cX5_height 23 = .ok (.aload_n 0, 1) := by decide +kernel
theorem dX5_height_24 : decode cX5_height 24 = .ok (.getfield 10, 3) := by decide +kernel
theorem dX5_height_27 : decode cX5_height 27 = .ok (.invokevirtual 92, 3) := by decide +kernel
theorem dX5_height_30 : decode cX5_height 30 = .ok (.aload_n 0, 1) := by decide +kernel
theorem dX5_height_31 : decode cX5_height 31 = .ok (.getfield 46, 3) := by decide +kernel
theorem dX5_height_34 : decode cX5_height 34 = .ok (.i2l, 1) := by decide +kernel
theorem dX5_height_35 : decode cX5_height 35 = .ok (.aload_n 0, 1) := by decide +kernel
theorem dX5_height_36 : decode cX5_height 36 = .ok (.getfield 26, 3) := by decide +kernel
theorem dX5_height_39 : decode cX5_height 39 = .ok (.getfield 96, 3) := by decide +kernel
theorem dX5_height_42 : decode cX5_height 42 = .ok (.iload_n 1, 1) := by decide +kernel
theorem dX5_height_43 : decode cX5_height 43 = .ok (.iaload, 1) := by decide +kernel
theorem dX5_height_44 : decode cX5_height 44 = .ok (.aload_n 0, 1) := by decide +kernel
theorem dX5_height_45 : decode cX5_height 45 = .ok (.aload_n 0, 1) := by decide +kernel
theorem dX5_height_46 : decode cX5_height 46 = .ok (.getfield 19, 3) := by decide +kernel
theorem dX5_height_49 : decode cX5_height 49 = .ok (.getfield 116, 3) := by decide +kernel
theorem dX5_height_52 : decode cX5_height 52 = .ok (.iload_n 1, 1) := by decide +kernel
theorem dX5_height_53 : decode cX5_height 53 = .ok (.iaload, 1) := by decide +kernel
theorem dX5_height_54 : decode cX5_height 54 = .ok (.invokevirtual 119, 3) := by decide +kernel
theorem dX5_height_57 : decode cX5_height 57 = .ok (.isub, 1) := by decide +kernel
theorem dX5_height_58 : decode cX5_height 58 = .ok (.i2l, 1) := by decide +kernel
theorem dX5_height_59 : decode cX5_height 59 = .ok (.lmul, 1) := by decide +kernel
theorem dX5_height_60 : decode cX5_height 60 = .ok (.lreturn, 1) := by decide +kernel
set_option maxRecDepth 20000 in
theorem ggX5_at_X5_isStaff : GoodIn wsX5_at wsX5_isStaff := goodIn_r _ [12, 13, 14, 11, 15] rfl (by decide +kernel)
set_option maxRecDepth 20000 in
theorem gX5_at_X5_isStaff : GoodIn wsX5_at (va_wsS RX5 49 yX5_isStaff wsX5_isStaff) := goodIn_app (goodIn_r _ [9, 10, 11] rfl (by decide +kernel)) ggX5_at_X5_isStaff
set_option maxRecDepth 20000 in
theorem ggX5_at_X5_isTick : GoodIn wsX5_at wsX5_isTick := goodIn_r _ [18, 13, 14, 11, 15] rfl (by decide +kernel)
set_option maxRecDepth 20000 in
theorem gX5_at_X5_isTick : GoodIn wsX5_at (va_wsS RX5 64 yX5_isTick wsX5_isTick) := goodIn_app (goodIn_r _ [16, 17, 11] rfl (by decide +kernel)) ggX5_at_X5_isTick
set_option maxRecDepth 20000 in
theorem ggX5_at_X1_refresh : GoodIn wsX5_at wsX1_refresh := goodIn_r _ [23, 24, 25, 26, 27, 28, 29, 30, 31, 32, 33, 22, 34, 35, 36, 37, 38, 39, 40, 41, 42, 43, 44, 45, 46, 47, 48, 49, 50, 51, 52, 53, 54, 55, 14, 11, 15, 56, 57, 58, 59, 60, 61, 62, 63, 64, 65, 66, 67, 68, 69, 70, 71, 72, 73, 74, 75, 76, 77, 78, 79, 80, 81, 82, 83, 84, 85, 86, 87, 88, 89, 90, 91, 92, 93, 94, 95, 96, 97, 98, 99, 100, 101, 102, 103, 104, 105, 106, 107, 108, 109, 110, 111, 112, 113, 114, 115, 116, 117, 118, 119, 120, 121, 122, 123, 124, 125, 126, 127, 128, 129, 130, 131, 132, 133, 134, 135, 136, 137, 138, 139, 140, 141, 142, 143, 144, 145, 146, 147, 148, 149, 150, 151, 152, 153, 154, 155, 156, 157, 158, 159, 160, 161, 162, 163, 164, 165, 166, 167, 168, 169, 170, 171, 172, 173, 174, 175, 176, 177, 178, 179, 180, 181, 182, 183, 184, 185, 186, 187, 188, 189, 198, 199, 200, 201, 202, 203, 204, 205, 206, 207, 208, 209, 210, 211, 212, 213, 214, 215, 216, 217, 218, 219, 220, 221, 222, 223, 224, 225, 226, 227, 228, 229, 230, 231, 232, 233, 234, 235] rfl (by decide +kernel)
set_option maxRecDepth 20000 in
theorem gX5_at_X1_refresh : GoodIn wsX5_at (wsV RX5 92 RX1 yX1_refresh wsX1_refresh) := goodIn_app (goodIn_r _ [19, 20, 21, 22] rfl (by decide +kernel)) ggX5_at_X1_refresh
set_option maxRecDepth 20000 in
theorem ggX5_at_X5_cellOf : GoodIn wsX5_at wsX5_cellOf := goodIn_r _ [57] rfl (by decide +kernel)
set_option maxRecDepth 20000 in
theorem gX5_at_X5_cellOf : GoodIn wsX5_at (va_wsS RX5 123 yX5_cellOf wsX5_cellOf) := goodIn_app (goodIn_r _ [190, 56, 11] rfl (by decide +kernel)) ggX5_at_X5_cellOf
theorem dX5_at_0 : decode cX5_at 0 = .ok (.iload_n 1, 1) := by decide +kernel
theorem dX5_at_1 : decode cX5_at 1 = .ok (.invokestatic 49, 3) := by decide +kernel
theorem dX5_at_4 : decode cX5_at 4 = .ok (.ifCond .ne 7, 3) := by decide +kernel
theorem dX5_at_7 : decode cX5_at 7 = .ok (.sipush (-1001), 3) := by decide +kernel
theorem dX5_at_10 : decode cX5_at 10 = .ok (.ireturn, 1) := by decide +kernel
theorem dX5_at_11 : decode cX5_at 11 = .ok (.iload_n 2, 1) := by decide +kernel
theorem dX5_at_12 : decode cX5_at 12 = .ok (.invokestatic 64, 3) := by decide +kernel
theorem dX5_at_15 : decode cX5_at 15 = .ok (.ifCond .ne 7, 3) := by decide +kernel
theorem dX5_at_18 : decode cX5_at 18 = .ok (.sipush (-1002), 3) := by decide +kernel
theorem dX5_at_21 : decode cX5_at 21 = .ok (.ireturn, 1) := by decide +kernel
theorem dX5_at_22 : decode cX5_at 22 = .ok (.aload_n 0, 1) := by decide +kernel
theorem dX5_at_23 : decode cX5_at 23 = .ok (.getfield 26, 3) := by decide +kernel
theorem dX5_at_26 : decode cX5_at 26 = .ok (.aload_n 0, 1) := by decide +kernel
theorem dX5_at_27 : decode cX5_at 27 = .ok (.getfield 19, 3) := by decide +kernel
theorem dX5_at_30 : decode cX5_at 30 = .ok (.aload_n 0, 1) := by decide +kernel
theorem dX5_at_31 : decode cX5_at 31 = .ok (.getfield 10, 3) := by decide +kernel
theorem dX5_at_34 : decode cX5_at 34 = .ok (.invokevirtual 92, 3) := by decide +kernel
theorem dX5_at_37 : decode cX5_at 37 = .ok (.iload_n 1, 1) := by decide +kernel
theorem dX5_at_38 : decode cX5_at 38 = .ok (.iload_n 2, 1) := by decide +kernel
theorem dX5_at_39 : decode cX5_at 39 = .ok (.invokestatic 123, 3) := by decide +kernel
theorem dX5_at_42 : decode cX5_at 42 = .ok (.istore 4, 2) := by decide +kernel
theorem dX5_at_44 : decode cX5_at 44 = .ok (.iload_n 3, 1) := by decide +kernel
theorem dX5_at_45 : decode cX5_at 45 = .ok (.tableswitch 90 0 4 #[35, 46, 57, 68, 79], 35) := by decide +kernel
theorem dX5_at_80 : decode cX5_at 80 = .ok (.aload_n 0, 1) := by decide +kernel
theorem dX5_at_81 : decode cX5_at 81 = .ok (.getfield 26, 3) := by decide +kernel
theorem dX5_at_84 : decode cX5_at 84 = .ok (.getfield 127, 3) := by decide +kernel
theorem dX5_at_87 : decode cX5_at 87 = .ok (.iload 4, 2) := by decide +kernel
theorem dX5_at_89 : decode cX5_at 89 = .ok (.iaload, 1) := by decide +kernel
theorem dX5_at_90 : decode cX5_at 90 = .ok (.ireturn, 1) := by decide +kernel
theorem dX5_at_91 : decode cX5_at 91 = .ok (.aload_n 0, 1) := by decide +kernel
theorem dX5_at_92 : decode cX5_at 92 = .ok (.getfield 26, 3) := by decide +kernel
theorem dX5_at_95 : decode cX5_at 95 = .ok (.getfield 130, 3) := by decide +kernel
theorem dX5_at_98 : decode cX5_at 98 = .ok (.iload 4, 2) := by decide +kernel
theorem dX5_at_100 : decode cX5_at 100 = .ok (.iaload, 1) := by decide +kernel
theorem dX5_at_101 : decode cX5_at 101 = .ok (.ireturn, 1) := by decide +kernel
theorem dX5_at_102 : decode cX5_at 102 = .ok (.aload_n 0, 1) := by decide +kernel
theorem dX5_at_103 : decode cX5_at 103 = .ok (.getfield 26, 3) := by decide +kernel
theorem dX5_at_106 : decode cX5_at 106 = .ok (.getfield 133, 3) := by decide +kernel
theorem dX5_at_109 : decode cX5_at 109 = .ok (.iload 4, 2) := by decide +kernel
theorem dX5_at_111 : decode cX5_at 111 = .ok (.iaload, 1) := by decide +kernel
theorem dX5_at_112 : decode cX5_at 112 = .ok (.ireturn, 1) := by decide +kernel
theorem dX5_at_113 : decode cX5_at 113 = .ok (.aload_n 0, 1) := by decide +kernel
theorem dX5_at_114 : decode cX5_at 114 = .ok (.getfield 26, 3) := by decide +kernel
theorem dX5_at_117 : decode cX5_at 117 = .ok (.getfield 136, 3) := by decide +kernel
theorem dX5_at_120 : decode cX5_at 120 = .ok (.iload 4, 2) := by decide +kernel
theorem dX5_at_122 : decode cX5_at 122 = .ok (.iaload, 1) := by decide +kernel
theorem dX5_at_123 : decode cX5_at 123 = .ok (.ireturn, 1) := by decide +kernel
theorem dX5_at_124 : decode cX5_at 124 = .ok (.aload_n 0, 1) := by decide +kernel
theorem dX5_at_125 : decode cX5_at 125 = .ok (.getfield 26, 3) := by decide +kernel
theorem dX5_at_128 : decode cX5_at 128 = .ok (.getfield 139, 3) := by decide +kernel
theorem dX5_at_131 : decode cX5_at 131 = .ok (.iload 4, 2) := by decide +kernel
theorem dX5_at_133 : decode cX5_at 133 = .ok (.iaload, 1) := by decide +kernel
theorem dX5_at_134 : decode cX5_at 134 = .ok (.ireturn, 1) := by decide +kernel
theorem dX5_at_135 : decode cX5_at 135 = .ok (.sipush (-1002), 3) := by decide +kernel
theorem dX5_at_138 : decode cX5_at 138 = .ok (.ireturn, 1) := by decide +kernel
set_option maxRecDepth 20000 in
theorem ggX5_shared_X2_has : GoodIn wsX5_shared wsX2_has := goodIn_r _ [8, 9, 10, 11, 12, 192, 193, 194, 195, 196, 197, 198] rfl (by decide +kernel)
set_option maxRecDepth 20000 in
theorem gX5_shared_X2_has : GoodIn wsX5_shared (wsV RX5 85 RX2 yX2_has wsX2_has) := goodIn_app (goodIn_r _ [4, 5, 6, 7] rfl (by decide +kernel)) ggX5_shared_X2_has
set_option maxRecDepth 20000 in
theorem ggX5_shared_X1_refresh : GoodIn wsX5_shared wsX1_refresh := goodIn_r _ [17, 18, 19, 20, 21, 22, 23, 24, 25, 26, 27, 16, 28, 29, 30, 31, 32, 33, 34, 35, 36, 37, 38, 39, 40, 41, 42, 43, 44, 45, 46, 47, 48, 49, 10, 11, 12, 50, 51, 52, 53, 54, 55, 56, 57, 58, 59, 60, 61, 62, 63, 64, 65, 66, 67, 68, 69, 70, 71, 72, 73, 74, 75, 76, 77, 78, 79, 80, 81, 82, 83, 7, 84, 85, 86, 87, 88, 89, 90, 91, 92, 93, 94, 95, 96, 97, 98, 99, 100, 101, 102, 103, 104, 105, 106, 107, 108, 109, 110, 111, 112, 113, 114, 115, 116, 117, 118, 119, 120, 121, 122, 123, 124, 125, 126, 127, 128, 129, 130, 131, 132, 133, 134, 135, 136, 137, 138, 139, 140, 141, 142, 143, 144, 145, 146, 147, 148, 149, 150, 151, 152, 153, 154, 155, 156, 157, 158, 159, 160, 161, 162, 163, 164, 165, 166, 167, 168, 169, 170, 171, 172, 173, 174, 175, 176, 177, 178, 179, 180, 181, 182, 199, 200, 201, 202, 203, 204, 205, 206, 207, 208, 209, 210, 211, 212, 213, 192, 193, 194, 195, 196, 197, 198, 214, 215, 216, 217, 218, 219, 220, 221, 222, 223, 224, 225, 226, 227, 228, 229] rfl (by decide +kernel)
set_option maxRecDepth 20000 in
theorem gX5_shared_X1_refresh : GoodIn wsX5_shared (wsV RX5 92 RX1 yX1_refresh wsX1_refresh) := goodIn_app (goodIn_r _ [13, 14, 15, 16] rfl (by decide +kernel)) ggX5_shared_X1_refresh
set_option maxRecDepth 20000 in
theorem ggX5_shared_X2_together : GoodIn wsX5_shared wsX2_together := goodIn_r _ [84, 85, 86, 192, 193, 194, 195, 196, 197, 198] rfl (by decide +kernel)
set_option maxRecDepth 20000 in
theorem gX5_shared_X2_together : GoodIn wsX5_shared (wsV RX5 142 RX2 yX2_together wsX2_together) := goodIn_app (goodIn_r _ [183, 82, 83, 7] rfl (by decide +kernel)) ggX5_shared_X2_together
set_option maxRecDepth 20000 in
theorem ggX5_shared_X1_areShared : GoodIn wsX5_shared wsX1_areShared := goodIn_r _ [150, 20, 66, 60, 111, 199, 200, 201, 202, 203, 204, 205, 206, 207, 208, 209, 210, 211, 212, 213, 192, 193, 194, 195, 196, 197, 198] rfl (by decide +kernel)
set_option maxRecDepth 20000 in
theorem gX5_shared_X1_areShared : GoodIn wsX5_shared (wsV RX5 145 RX1 yX1_areShared wsX1_areShared) := goodIn_app (goodIn_r _ [184, 148, 149, 16] rfl (by decide +kernel)) ggX5_shared_X1_areShared
theorem dX5_shared_0 : decode cX5_shared 0 = .ok (.aload_n 0, 1) := by decide +kernel
theorem dX5_shared_1 : decode cX5_shared 1 = .ok (.getfield 19, 3) := by decide +kernel
theorem dX5_shared_4 : decode cX5_shared 4 = .ok (.iload_n 1, 1) := by decide +kernel
theorem dX5_shared_5 : decode cX5_shared 5 = .ok (.invokevirtual 85, 3) := by decide +kernel
theorem dX5_shared_8 : decode cX5_shared 8 = .ok (.ifCond .eq 14, 3) := by decide +kernel
theorem dX5_shared_11 : decode cX5_shared 11 = .ok (.aload_n 0, 1) := by decide +kernel
theorem dX5_shared_12 : decode cX5_shared 12 = .ok (.getfield 19, 3) := by decide +kernel
theorem dX5_shared_15 : decode cX5_shared 15 = .ok (.iload_n 2, 1) := by decide +kernel
theorem dX5_shared_16 : decode cX5_shared 16 = .ok (.invokevirtual 85, 3) := by decide +kernel
theorem dX5_shared_19 : decode cX5_shared 19 = .ok (.ifCond .ne 7, 3) := by decide +kernel
theorem dX5_shared_22 : decode cX5_shared 22 = .ok (.sipush (-1001), 3) := by decide +kernel
theorem dX5_shared_25 : decode cX5_shared 25 = .ok (.ireturn, 1) := by decide +kernel
theorem dX5_shared_26 : decode cX5_shared 26 = .ok (.aload_n 0, 1) := by decide +kernel
theorem dX5_shared_27 : decode cX5_shared 27 = .ok (.getfield 26, 3) := by decide +kernel
theorem dX5_shared_30 : decode cX5_shared 30 = .ok (.aload_n 0, 1) := by decide +kernel
theorem dX5_shared_31 : decode cX5_shared 31 = .ok (.getfield 19, 3) := by decide +kernel
theorem dX5_shared_34 : decode cX5_shared 34 = .ok (.aload_n 0, 1) := by decide +kernel
theorem dX5_shared_35 : decode cX5_shared 35 = .ok (.getfield 10, 3) := by decide +kernel
theorem dX5_shared_38 : decode cX5_shared 38 = .ok (.invokevirtual 92, 3) := by decide +kernel
theorem dX5_shared_41 : decode cX5_shared 41 = .ok (.aload_n 0, 1) := by decide +kernel
theorem dX5_shared_42 : decode cX5_shared 42 = .ok (.getfield 19, 3) := by decide +kernel
theorem dX5_shared_45 : decode cX5_shared 45 = .ok (.iload_n 1, 1) := by decide +kernel
theorem dX5_shared_46 : decode cX5_shared 46 = .ok (.iload_n 2, 1) := by decide +kernel
theorem dX5_shared_47 : decode cX5_shared 47 = .ok (.invokevirtual 142, 3) := by decide +kernel
theorem dX5_shared_50 : decode cX5_shared 50 = .ok (.ifCond .eq 23, 3) := by decide +kernel
theorem dX5_shared_53 : decode cX5_shared 53 = .ok (.aload_n 0, 1) := by decide +kernel
theorem dX5_shared_54 : decode cX5_shared 54 = .ok (.getfield 26, 3) := by decide +kernel
theorem dX5_shared_57 : decode cX5_shared 57 = .ok (.aload_n 0, 1) := by decide +kernel
theorem dX5_shared_58 : decode cX5_shared 58 = .ok (.getfield 19, 3) := by decide +kernel
theorem dX5_shared_61 : decode cX5_shared 61 = .ok (.iload_n 1, 1) := by decide +kernel
theorem dX5_shared_62 : decode cX5_shared 62 = .ok (.iload_n 2, 1) := by decide +kernel
theorem dX5_shared_63 : decode cX5_shared 63 = .ok (.invokevirtual 145, 3) := by decide +kernel
theorem dX5_shared_66 : decode cX5_shared 66 = .ok (.ifCond .eq 7, 3) := by decide +kernel
theorem dX5_shared_69 : decode cX5_shared 69 = .ok (.iconst 1, 1) := by decide +kernel
theorem dX5_shared_70 : decode cX5_shared 70 = .ok (.goto 4, 3) := by decide +kernel
theorem dX5_shared_73 : decode cX5_shared 73 = .ok (.iconst 0, 1) := by decide +kernel
theorem dX5_shared_74 : decode cX5_shared 74 = .ok (.ireturn, 1) := by decide +kernel
set_option maxRecDepth 20000 in
theorem ggX5_setting_X5_within : GoodIn wsX5_setting wsX5_within := goodIn_r _ [6] rfl (by decide +kernel)
set_option maxRecDepth 20000 in
theorem gX5_setting_X5_within : GoodIn wsX5_setting (va_wsS RX5 42 yX5_within wsX5_within) := goodIn_app (goodIn_r _ [3, 4, 5] rfl (by decide +kernel)) ggX5_setting_X5_within
theorem dX5_setting_0 : decode cX5_setting 0 = .ok (.iload_n 1, 1) := by decide +kernel
theorem dX5_setting_1 : decode cX5_setting 1 = .ok (.iconst 0, 1) := by decide +kernel
theorem dX5_setting_2 : decode cX5_setting 2 = .ok (.iconst 1, 1) := by decide +kernel
theorem dX5_setting_3 : decode cX5_setting 3 = .ok (.invokestatic 42, 3) := by decide +kernel
theorem dX5_setting_6 : decode cX5_setting 6 = .ok (.ifCond .eq 13, 3) := by decide +kernel
theorem dX5_setting_9 : decode cX5_setting 9 = .ok (.iload_n 2, 1) := by decide +kernel
theorem dX5_setting_10 : decode cX5_setting 10 = .ok (.iconst 0, 1) := by decide +kernel
theorem dX5_setting_11 : decode cX5_setting 11 = .ok (.bipush 100, 2) := by decide +kernel
theorem dX5_setting_13 : decode cX5_setting 13 = .ok (.invokestatic 42, 3) := by decide +kernel
theorem dX5_setting_16 : decode cX5_setting 16 = .ok (.ifCond .ne 7, 3) := by decide +kernel
theorem dX5_setting_19 : decode cX5_setting 19 = .ok (.sipush (-1002), 3) := by decide +kernel
theorem dX5_setting_22 : decode cX5_setting 22 = .ok (.ireturn, 1) := by decide +kernel
theorem dX5_setting_23 : decode cX5_setting 23 = .ok (.iload_n 1, 1) := by decide +kernel
theorem dX5_setting_24 : decode cX5_setting 24 = .ok (.ifCond .ne 10, 3) := by decide +kernel
theorem dX5_setting_27 : decode cX5_setting 27 = .ok (.aload_n 0, 1) := by decide +kernel
theorem dX5_setting_28 : decode cX5_setting 28 = .ok (.getfield 30, 3) := by decide +kernel
theorem dX5_setting_31 : decode cX5_setting 31 = .ok (.goto 7, 3) := by decide +kernel
theorem dX5_setting_34 : decode cX5_setting 34 = .ok (.aload_n 0, 1) := by decide +kernel
theorem dX5_setting_35 : decode cX5_setting 35 = .ok (.getfield 34, 3) := by decide +kernel
theorem dX5_setting_38 : decode cX5_setting 38 = .ok (.istore_n 3, 1) := by decide +kernel
theorem dX5_setting_39 : decode cX5_setting 39 = .ok (.iload_n 1, 1) := by decide +kernel
theorem dX5_setting_40 : decode cX5_setting 40 = .ok (.ifCond .ne 11, 3) := by decide +kernel
theorem dX5_setting_43 : decode cX5_setting 43 = .ok (.aload_n 0, 1) := by decide +kernel
theorem dX5_setting_44 : decode cX5_setting 44 = .ok (.iload_n 2, 1) := by decide +kernel
theorem dX5_setting_45 : decode cX5_setting 45 = .ok (.putfield 30, 3) := by decide +kernel
theorem dX5_setting_48 : decode cX5_setting 48 = .ok (.goto 8, 3) := by decide +kernel
theorem dX5_setting_51 : decode cX5_setting 51 = .ok (.aload_n 0, 1) := by decide +kernel
theorem dX5_setting_52 : decode cX5_setting 52 = .ok (.iload_n 2, 1) := by decide +kernel
theorem dX5_setting_53 : decode cX5_setting 53 = .ok (.putfield 34, 3) := by decide +kernel
theorem dX5_setting_56 : decode cX5_setting 56 = .ok (.iload_n 3, 1) := by decide +kernel
theorem dX5_setting_57 : decode cX5_setting 57 = .ok (.ireturn, 1) := by decide +kernel
theorem dX5_hides_0 : decode cX5_hides 0 = .ok (.aload_n 0, 1) := by decide +kernel
theorem dX5_hides_1 : decode cX5_hides 1 = .ok (.getfield 37, 3) := by decide +kernel
theorem dX5_hides_4 : decode cX5_hides 4 = .ok (.ifCond .eq 7, 3) := by decide +kernel
theorem dX5_hides_7 : decode cX5_hides 7 = .ok (.iconst 1, 1) := by decide +kernel
theorem dX5_hides_8 : decode cX5_hides 8 = .ok (.goto 4, 3) := by decide +kernel
theorem dX5_hides_11 : decode cX5_hides 11 = .ok (.iconst 0, 1) := by decide +kernel
theorem dX5_hides_12 : decode cX5_hides 12 = .ok (.istore_n 2, 1) := by decide +kernel
theorem dX5_hides_13 : decode cX5_hides 13 = .ok (.aload_n 0, 1) := by decide +kernel
theorem dX5_hides_14 : decode cX5_hides 14 = .ok (.iload_n 1, 1) := by decide +kernel
theorem dX5_hides_15 : decode cX5_hides 15 = .ok (.putfield 37, 3) := by decide +kernel
theorem dX5_hides_18 : decode cX5_hides 18 = .ok (.iload_n 2, 1) := by decide +kernel
theorem dX5_hides_19 : decode cX5_hides 19 = .ok (.ireturn, 1) := by decide +kernel
set_option maxRecDepth 20000 in
theorem ggX5_gap_X5_isStaff : GoodIn wsX5_gap wsX5_isStaff := goodIn_r _ [7, 8, 9, 6, 10] rfl (by decide +kernel)
set_option maxRecDepth 20000 in
theorem gX5_gap_X5_isStaff : GoodIn wsX5_gap (va_wsS RX5 49 yX5_isStaff wsX5_isStaff) := goodIn_app (goodIn_r _ [4, 5, 6] rfl (by decide +kernel)) ggX5_gap_X5_isStaff
set_option maxRecDepth 20000 in
theorem ggX5_gap_X5_isHidden : GoodIn wsX5_gap wsX5_isHidden := goodIn_r _ [14, 15, 2, 16, 17, 18, 19, 20, 21, 22, 206, 207, 208, 209, 210, 211, 212, 213, 214, 215, 216, 217, 218, 219] rfl (by decide +kernel)
set_option maxRecDepth 20000 in
theorem gX5_gap_X5_isHidden : GoodIn wsX5_gap (wsV RX5 149 RX5 yX5_isHidden wsX5_isHidden) := goodIn_app (goodIn_r _ [11, 12, 13, 6] rfl (by decide +kernel)) ggX5_gap_X5_isHidden
set_option maxRecDepth 20000 in
theorem ggX5_gap_X1_refresh : GoodIn wsX5_gap wsX1_refresh := goodIn_r _ [27, 28, 29, 30, 31, 32, 33, 34, 35, 36, 37, 26, 38, 39, 40, 41, 42, 43, 44, 45, 46, 47, 48, 49, 50, 51, 52, 53, 54, 55, 56, 57, 58, 59, 9, 6, 10, 60, 61, 62, 63, 64, 65, 66, 67, 68, 69, 70, 71, 72, 73, 74, 75, 76, 77, 78, 79, 80, 81, 82, 83, 84, 85, 86, 87, 88, 89, 90, 91, 92, 93, 19, 94, 22, 95, 96, 97, 98, 99, 100, 101, 102, 103, 104, 105, 106, 107, 108, 109, 110, 111, 112, 113, 114, 115, 116, 117, 118, 119, 120, 121, 122, 123, 124, 125, 126, 127, 128, 129, 130, 131, 132, 133, 134, 135, 136, 137, 138, 139, 140, 141, 142, 143, 144, 145, 146, 147, 148, 149, 150, 151, 152, 153, 154, 155, 156, 157, 158, 159, 160, 161, 162, 163, 164, 165, 166, 167, 168, 169, 170, 171, 172, 173, 174, 175, 176, 177, 178, 179, 180, 181, 182, 183, 184, 185, 186, 187, 188, 189, 190, 191, 220, 221, 222, 223, 224, 225, 226, 227, 228, 229, 230, 231, 232, 233, 234, 213, 214, 215, 216, 217, 218, 219, 235, 236, 237, 238, 239, 240, 241, 242, 243, 244, 245, 246, 247, 248, 249, 250] rfl (by decide +kernel)
set_option maxRecDepth 20000 in
theorem gX5_gap_X1_refresh : GoodIn wsX5_gap (wsV RX5 92 RX1 yX1_refresh wsX1_refresh) := goodIn_app (goodIn_r _ [23, 24, 25, 26] rfl (by decide +kernel)) ggX5_gap_X1_refresh
set_option maxRecDepth 20000 in
theorem ggX5_gap_X5_shownAbove : GoodIn wsX5_gap wsX5_shownAbove := goodIn_r _ [195, 11, 12, 13, 6, 14, 15, 2, 16, 17, 18, 19, 20, 21, 22, 206, 207, 208, 209, 210, 211, 212, 213, 214, 215, 216, 217, 218, 219] rfl (by decide +kernel)
set_option maxRecDepth 20000 in
theorem gX5_gap_X5_shownAbove : GoodIn wsX5_gap (wsV RX5 152 RX5 yX5_shownAbove wsX5_shownAbove) := goodIn_app (goodIn_r _ [192, 193, 194, 6] rfl (by decide +kernel)) ggX5_gap_X5_shownAbove
set_option maxRecDepth 20000 in
theorem ggX5_gap_X5_gapBetween : GoodIn wsX5_gap wsX5_gapBetween := goodIn_r _ [199, 200, 1, 201, 202, 203, 204, 107, 103, 108, 205, 60, 6, 61, 206, 207, 208, 209, 210, 211, 212, 220, 221, 222, 223, 224, 225, 226, 227, 228, 229, 230, 231, 232, 233, 234] rfl (by decide +kernel)
set_option maxRecDepth 20000 in
theorem gX5_gap_X5_gapBetween : GoodIn wsX5_gap (wsV RX5 155 RX5 yX5_gapBetween wsX5_gapBetween) := goodIn_app (goodIn_r _ [196, 197, 198, 6] rfl (by decide +kernel)) ggX5_gap_X5_gapBetween
theorem dX5_gap_0 : decode cX5_gap 0 = .ok (.iload_n 1, 1) := by decide +kernel
theorem dX5_gap_1 : decode cX5_gap 1 = .ok (.invokestatic 49, 3) := by decide +kernel
theorem dX5_gap_4 : decode cX5_gap 4 = .ok (.ifCond .ne 7, 3) := by decide +kernel
theorem dX5_gap_7 : decode cX5_gap 7 = .ok (.sipush (-1001), 3) := by decide +kernel
theorem dX5_gap_10 : decode cX5_gap 10 = .ok (.ireturn, 1) := by decide +kernel
theorem dX5_gap_11 : decode cX5_gap 11 = .ok (.iload_n 1, 1) := by decide +kernel
theorem dX5_gap_12 : decode cX5_gap 12 = .ok (.ifCond .eq 11, 3) := by decide +kernel
theorem dX5_gap_15 : decode cX5_gap 15 = .ok (.aload_n 0, 1) := by decide +kernel
theorem dX5_gap_16 : decode cX5_gap 16 = .ok (.iload_n 1, 1) := by decide +kernel
theorem dX5_gap_17 : decode cX5_gap 17 = .ok (.invokevirtual 149, 3) := by decide +kernel
theorem dX5_gap_20 : decode cX5_gap 20 = .ok (.ifCond .eq 7, 3) := by decide +kernel
theorem dX5_gap_23 : decode cX5_gap 23 = .ok (.sipush (-1000), 3) := by decide +kernel
theorem dX5_gap_26 : decode cX5_gap 26 = .ok (.ireturn, 1) := by decide +kernel
theorem dX5_gap_27 : decode cX5_gap 27 = .ok (.aload_n 0, 1) := by decide +kernel
theorem dX5_gap_28 : decode cX5_gap 28 = .ok (.getfield 26, 3) := by decide +kernel
theorem dX5_gap_31 : decode cX5_gap 31 = .ok (.aload_n 0, 1) := by decide +kernel
theorem dX5_gap_32 : decode cX5_gap 32 = .ok (.getfield 19, 3) := by decide +kernel
theorem dX5_gap_35 : decode cX5_gap 35 = .ok (.aload_n 0, 1) := by decide +kernel
theorem dX5_gap_36 : decode cX5_gap 36 = .ok (.getfield 10, 3) := by decide +kernel
theorem dX5_gap_39 : decode cX5_gap 39 = .ok (.invokevirtual 92, 3) := by decide +kernel
theorem dX5_gap_42 : decode cX5_gap 42 = .ok (.aload_n 0, 1) := by decide +kernel
theorem dX5_gap_43 : decode cX5_gap 43 = .ok (.aload_n 0, 1) := by decide +kernel
theorem dX5_gap_44 : decode cX5_gap 44 = .ok (.iload_n 1, 1) := by decide +kernel
theorem dX5_gap_45 : decode cX5_gap 45 = .ok (.invokevirtual 152, 3) := by decide +kernel
theorem dX5_gap_48 : decode cX5_gap 48 = .ok (.iload_n 1, 1) := by decide +kernel
theorem dX5_gap_49 : decode cX5_gap 49 = .ok (.invokevirtual 155, 3) := by decide +kernel
theorem dX5_gap_52 : decode cX5_gap 52 = .ok (.ireturn, 1) := by decide +kernel
set_option maxRecDepth 20000 in
theorem ggX5_place_X5_isStaff : GoodIn wsX5_place wsX5_isStaff := goodIn_r _ [10, 11, 12, 9, 13] rfl (by decide +kernel)
set_option maxRecDepth 20000 in
theorem gX5_place_X5_isStaff : GoodIn wsX5_place (va_wsS RX5 49 yX5_isStaff wsX5_isStaff) := goodIn_app (goodIn_r _ [7, 8, 9] rfl (by decide +kernel)) ggX5_place_X5_isStaff
set_option maxRecDepth 20000 in
theorem ggX5_place_X5_isHidden : GoodIn wsX5_place wsX5_isHidden := goodIn_r _ [17, 18, 4, 19, 20, 21, 22, 23, 24, 25, 213, 214, 215, 216, 217, 218, 219, 220, 221, 222, 223, 224, 225, 226] rfl (by decide +kernel)
set_option maxRecDepth 20000 in
theorem gX5_place_X5_isHidden : GoodIn wsX5_place (wsV RX5 149 RX5 yX5_isHidden wsX5_isHidden) := goodIn_app (goodIn_r _ [14, 15, 16, 9] rfl (by decide +kernel)) ggX5_place_X5_isHidden
set_option maxRecDepth 20000 in
theorem ggX5_place_X1_refresh : GoodIn wsX5_place wsX1_refresh := goodIn_r _ [30, 31, 32, 33, 34, 35, 36, 37, 38, 39, 40, 29, 41, 42, 43, 44, 45, 46, 47, 48, 49, 50, 51, 52, 53, 54, 55, 56, 57, 58, 59, 60, 61, 62, 12, 9, 13, 63, 64, 65, 66, 67, 68, 69, 70, 71, 72, 73, 74, 75, 76, 77, 78, 79, 80, 81, 82, 83, 84, 85, 86, 87, 88, 89, 90, 91, 92, 93, 94, 95, 96, 22, 97, 25, 98, 99, 100, 101, 102, 103, 104, 105, 106, 107, 108, 109, 110, 111, 112, 113, 114, 115, 116, 117, 118, 119, 120, 121, 122, 123, 124, 125, 126, 127, 128, 129, 130, 131, 132, 133, 134, 135, 136, 137, 138, 139, 140, 141, 142, 143, 144, 145, 146, 147, 148, 149, 150, 151, 152, 153, 154, 155, 156, 157, 158, 159, 160, 161, 162, 163, 164, 165, 166, 167, 168, 169, 170, 171, 172, 173, 174, 175, 176, 177, 178, 179, 180, 181, 182, 183, 184, 185, 186, 187, 188, 189, 190, 191, 192, 193, 194, 227, 228, 229, 230, 231, 232, 233, 234, 235, 236, 237, 238, 239, 240, 241, 220, 221, 222, 223, 224, 225, 226, 242, 243, 244, 245, 246, 247, 248, 249, 250, 251, 252, 253, 254, 255, 256, 257] rfl (by decide +kernel)
set_option maxRecDepth 20000 in
theorem gX5_place_X1_refresh : GoodIn wsX5_place (wsV RX5 92 RX1 yX1_refresh wsX1_refresh) := goodIn_app (goodIn_r _ [26, 27, 28, 29] rfl (by decide +kernel)) ggX5_place_X1_refresh
set_option maxRecDepth 20000 in
theorem ggX5_place_X5_stepsDownTo : GoodIn wsX5_place wsX5_stepsDownTo := goodIn_r _ [198, 14, 15, 16, 9, 17, 18, 4, 19, 20, 21, 22, 23, 24, 25, 199, 200, 201, 202, 203, 204, 205, 206, 207, 3, 208, 209, 210, 211, 110, 106, 111, 212, 63, 64, 213, 214, 215, 216, 217, 218, 219, 220, 221, 222, 223, 224, 225, 226, 227, 228, 229, 230, 231, 232, 233, 234, 235, 236, 237, 238, 239, 240, 241] rfl (by decide +kernel)
set_option maxRecDepth 20000 in
theorem gX5_place_X5_stepsDownTo : GoodIn wsX5_place (wsV RX5 119 RX5 yX5_stepsDownTo wsX5_stepsDownTo) := goodIn_app (goodIn_r _ [195, 196, 197, 9] rfl (by decide +kernel)) ggX5_place_X5_stepsDownTo
theorem dX5_place_0 : decode cX5_place 0 = .ok (.iload_n 1, 1) := by decide +kernel
theorem dX5_place_1 : decode cX5_place 1 = .ok (.invokestatic 49, 3) := by decide +kernel
theorem dX5_place_4 : decode cX5_place 4 = .ok (.ifCond .ne 7, 3) := by decide +kernel
theorem dX5_place_7 : decode cX5_place 7 = .ok (.ldc2_w 114, 3) := by decide +kernel
theorem dX5_place_10 : decode cX5_place 10 = .ok (.lreturn, 1) := by decide +kernel
theorem dX5_place_11 : decode cX5_place 11 = .ok (.aload_n 0, 1) := by decide +kernel
theorem dX5_place_12 : decode cX5_place 12 = .ok (.iload_n 1, 1) := by decide +kernel
theorem dX5_place_13 : decode cX5_place 13 = .ok (.invokevirtual 149, 3) := by decide +kernel
theorem dX5_place_16 : decode cX5_place 16 = .ok (.ifCond .eq 7, 3) := by decide +kernel
theorem dX5_place_19 : decode cX5_place 19 = .ok (.ldc2_w 158, 3) := by decide +kernel
theorem dX5_place_22 : decode cX5_place 22 = .ok (.lreturn, 1) := by decide +kernel
theorem dX5_place_23 : decode cX5_place 23 = .ok (.aload_n 0, 1) := by decide +kernel
theorem dX5_place_24 : decode cX5_place 24 = .ok (.getfield 26, 3) := by decide +kernel
theorem dX5_place_27 : decode cX5_place 27 = .ok (.aload_n 0, 1) := by decide +kernel
theorem dX5_place_28 : decode cX5_place 28 = .ok (.getfield 19, 3) := by decide +kernel
theorem dX5_place_31 : decode cX5_place 31 = .ok (.aload_n 0, 1) := by decide +kernel
theorem dX5_place_32 : decode cX5_place 32 = .ok (.getfield 10, 3) := by decide +kernel
theorem dX5_place_35 : decode cX5_place 35 = .ok (.invokevirtual 92, 3) := by decide +kernel
theorem dX5_place_38 : decode cX5_place 38 = .ok (.aload_n 0, 1) := by decide +kernel
theorem dX5_place_39 : decode cX5_place 39 = .ok (.getfield 46, 3) := by decide +kernel
theorem dX5_place_42 : decode cX5_place 42 = .ok (.i2l, 1) := by decide +kernel
theorem dX5_place_43 : decode cX5_place 43 = .ok (.aload_n 0, 1) := by decide +kernel
theorem dX5_place_44 : decode cX5_place 44 = .ok (.iload_n 1, 1) := by decide +kernel
theorem dX5_place_45 : decode cX5_place 45 = .ok (.invokevirtual 119, 3) := by decide +kernel
theorem dX5_place_48 : decode cX5_place 48 = .ok (.i2l, 1) := by decide +kernel
theorem dX5_place_49 : decode cX5_place 49 = .ok (.lmul, 1) := by decide +kernel
theorem dX5_place_50 : decode cX5_place 50 = .ok (.lreturn, 1) := by decide +kernel
set_option maxRecDepth 20000 in
theorem ggX5_crowded_X5_isStaff : GoodIn wsX5_crowded wsX5_isStaff := goodIn_r _ [11, 12, 13, 10, 14] rfl (by decide +kernel)
set_option maxRecDepth 20000 in
theorem gX5_crowded_X5_isStaff : GoodIn wsX5_crowded (va_wsS RX5 49 yX5_isStaff wsX5_isStaff) := goodIn_app (goodIn_r _ [8, 9, 10] rfl (by decide +kernel)) ggX5_crowded_X5_isStaff
set_option maxRecDepth 20000 in
theorem ggX5_crowded_X1_refresh : GoodIn wsX5_crowded wsX1_refresh := goodIn_r _ [19, 20, 21, 22, 23, 24, 25, 26, 27, 28, 29, 18, 30, 31, 32, 33, 34, 35, 36, 37, 38, 39, 40, 41, 42, 43, 44, 45, 46, 47, 48, 49, 50, 51, 13, 10, 14, 52, 53, 54, 55, 56, 57, 58, 59, 60, 61, 62, 63, 64, 65, 66, 67, 68, 69, 70, 71, 72, 73, 74, 75, 76, 77, 78, 79, 80, 81, 82, 83, 84, 85, 86, 87, 88, 89, 90, 91, 92, 93, 94, 95, 96, 97, 98, 99, 100, 101, 102, 103, 104, 105, 106, 107, 108, 109, 110, 111, 112, 113, 114, 115, 116, 117, 118, 119, 120, 121, 122, 123, 124, 125, 126, 127, 128, 129, 130, 131, 132, 133, 134, 135, 136, 137, 138, 139, 140, 141, 142, 143, 144, 145, 146, 147, 148, 149, 150, 151, 152, 153, 154, 155, 156, 157, 158, 159, 160, 161, 162, 163, 164, 165, 166, 167, 168, 169, 170, 171, 172, 173, 174, 175, 176, 177, 178, 179, 180, 181, 182, 183, 184, 185, 194, 195, 196, 197, 198, 199, 200, 201, 202, 203, 204, 205, 206, 207, 208, 209, 210, 211, 212, 213, 214, 215, 216, 217, 218, 219, 220, 221, 222, 223, 224, 225, 226, 227, 228, 229, 230, 231] rfl (by decide +kernel)
set_option maxRecDepth 20000 in
theorem gX5_crowded_X1_refresh : GoodIn wsX5_crowded (wsV RX5 92 RX1 yX1_refresh wsX1_refresh) := goodIn_app (goodIn_r _ [15, 16, 17, 18] rfl (by decide +kernel)) ggX5_crowded_X1_refresh
set_option maxRecDepth 20000 in
theorem ggX5_crowded_X5_cellOf : GoodIn wsX5_crowded wsX5_cellOf := goodIn_r _ [53] rfl (by decide +kernel)
set_option maxRecDepth 20000 in
theorem gX5_crowded_X5_cellOf : GoodIn wsX5_crowded (va_wsS RX5 123 yX5_cellOf wsX5_cellOf) := goodIn_app (goodIn_r _ [186, 52, 10] rfl (by decide +kernel)) ggX5_crowded_X5_cellOf
theorem dX5_crowded_0 : decode cX5_crowded 0 = .ok (.iload_n 1, 1) := by decide +kernel
theorem dX5_crowded_1 : decode cX5_crowded 1 = .ok (.invokestatic 49, 3) := by decide +kernel
theorem dX5_crowded_4 : decode cX5_crowded 4 = .ok (.ifCond .ne 7, 3) := by decide +kernel
theorem dX5_crowded_7 : decode cX5_crowded 7 = .ok (.sipush (-1001), 3) := by decide +kernel
theorem dX5_crowded_10 : decode cX5_crowded 10 = .ok (.ireturn, 1) := by decide +kernel
theorem dX5_crowded_11 : decode cX5_crowded 11 = .ok (.aload_n 0, 1) := by decide +kernel
theorem dX5_crowded_12 : decode cX5_crowded 12 = .ok (.getfield 26, 3) := by decide +kernel
theorem dX5_crowded_15 : decode cX5_crowded 15 = .ok (.aload_n 0, 1) := by decide +kernel
theorem dX5_crowded_16 : decode cX5_crowded 16 = .ok (.getfield 19, 3) := by decide +kernel
theorem dX5_crowded_19 : decode cX5_crowded 19 = .ok (.aload_n 0, 1) := by decide +kernel
theorem dX5_crowded_20 : decode cX5_crowded 20 = .ok (.getfield 10, 3) := by decide +kernel
theorem dX5_crowded_23 : decode cX5_crowded 23 = .ok (.invokevirtual 92, 3) := by decide +kernel
theorem dX5_crowded_26 : decode cX5_crowded 26 = .ok (.iconst 0, 1) := by decide +kernel
theorem dX5_crowded_27 : decode cX5_crowded 27 = .ok (.istore_n 2, 1) := by decide +kernel
theorem dX5_crowded_28 : decode cX5_crowded 28 = .ok (.iconst 0, 1) := by decide +kernel
theorem dX5_crowded_29 : decode cX5_crowded 29 = .ok (.istore_n 3, 1) := by decide +kernel
theorem dX5_crowded_30 : decode cX5_crowded 30 = .ok (.iconst 0, 1) := by decide +kernel
theorem dX5_crowded_31 : decode cX5_crowded 31 = .ok (.istore 4, 2) := by decide +kernel
theorem dX5_crowded_33 : decode cX5_crowded 33 = .ok (.iload 4, 2) := by decide +kernel
theorem dX5_crowded_35 : decode cX5_crowded 35 = .ok (.bipush 100, 2) := by decide +kernel
theorem dX5_crowded_37 : decode cX5_crowded 37 = .ok (.if_icmp .ge 59, 3) := by decide +kernel
theorem dX5_crowded_40 : decode cX5_crowded 40 = .ok (.iload_n 1, 1) := by decide +kernel
theorem dX5_crowded_41 : decode cX5_crowded 41 = .ok (.iload 4, 2) := by decide +kernel
theorem dX5_crowded_43 : decode cX5_crowded 43 = .ok (.invokestatic 123, 3) := by decide +kernel
theorem dX5_crowded_46 : decode cX5_crowded 46 = .ok (.istore 5, 2) := by decide +kernel
theorem dX5_crowded_48 : decode cX5_crowded 48 = .ok (.iload_n 2, 1) := by decide +kernel
theorem dX5_crowded_49 : decode cX5_crowded 49 = .ok (.aload_n 0, 1) := by decide +kernel
theorem dX5_crowded_50 : decode cX5_crowded 50 = .ok (.getfield 26, 3) := by decide +kernel
theorem dX5_crowded_53 : decode cX5_crowded 53 = .ok (.getfield 133, 3) := by decide +kernel
theorem dX5_crowded_56 : decode cX5_crowded 56 = .ok (.iload 5, 2) := by decide +kernel
theorem dX5_crowded_58 : decode cX5_crowded 58 = .ok (.iaload, 1) := by decide +kernel
theorem dX5_crowded_59 : decode cX5_crowded 59 = .ok (.ifCond .le 7, 3) := by decide +kernel
theorem dX5_crowded_62 : decode cX5_crowded 62 = .ok (.iconst 1, 1) := by decide +kernel
theorem dX5_crowded_63 : decode cX5_crowded 63 = .ok (.goto 4, 3) := by decide +kernel
theorem dX5_crowded_66 : decode cX5_crowded 66 = .ok (.iconst 0, 1) := by decide +kernel
theorem dX5_crowded_67 : decode cX5_crowded 67 = .ok (.iadd, 1) := by decide +kernel
theorem dX5_crowded_68 : decode cX5_crowded 68 = .ok (.istore_n 2, 1) := by decide +kernel
theorem dX5_crowded_69 : decode cX5_crowded 69 = .ok (.iload_n 3, 1) := by decide +kernel
theorem dX5_crowded_70 : decode cX5_crowded 70 = .ok (.aload_n 0, 1) := by decide +kernel
theorem dX5_crowded_71 : decode cX5_crowded 71 = .ok (.getfield 26, 3) := by decide +kernel
theorem dX5_crowded_74 : decode cX5_crowded 74 = .ok (.getfield 160, 3) := by decide +kernel
theorem dX5_crowded_77 : decode cX5_crowded 77 = .ok (.iload 5, 2) := by decide +kernel
theorem dX5_crowded_79 : decode cX5_crowded 79 = .ok (.iaload, 1) := by decide +kernel
theorem dX5_crowded_80 : decode cX5_crowded 80 = .ok (.ifCond .le 7, 3) := by decide +kernel
theorem dX5_crowded_83 : decode cX5_crowded 83 = .ok (.iconst 1, 1) := by decide +kernel
theorem dX5_crowded_84 : decode cX5_crowded 84 = .ok (.goto 4, 3) := by decide +kernel
theorem dX5_crowded_87 : decode cX5_crowded 87 = .ok (.iconst 0, 1) := by decide +kernel
theorem dX5_crowded_88 : decode cX5_crowded 88 = .ok (.iadd, 1) := by decide +kernel
theorem dX5_crowded_89 : decode cX5_crowded 89 = .ok (.istore_n 3, 1) := by decide +kernel
theorem dX5_crowded_90 : decode cX5_crowded 90 = .ok (.iinc 4 1, 3) := by decide +kernel
theorem dX5_crowded_93 : decode cX5_crowded 93 = .ok (.goto (-60), 3) := by decide +kernel
theorem dX5_crowded_96 : decode cX5_crowded 96 = .ok (.iload_n 2, 1) := by decide +kernel
theorem dX5_crowded_97 : decode cX5_crowded 97 = .ok (.ifCond .ne 13, 3) := by decide +kernel
theorem dX5_crowded_100 : decode cX5_crowded 100 = .ok (.new 163, 3) := by decide +kernel
theorem dX5_crowded_103 : decode cX5_crowded 103 = .ok (.dup, 1) := by decide +kernel
theorem dX5_crowded_104 : decode cX5_crowded 104 = .ok (.ldc 165, 2) := by decide +kernel
theorem dX5_crowded_106 : decode cX5_crowded 106 = .ok (.invokespecial 167, 3) := by decide +kernel
theorem dX5_crowded_109 : decode cX5_crowded 109 = .ok (.athrow, 1) := by decide +kernel
theorem dX5_crowded_110 : decode cX5_crowded 110 = .ok (.sipush 1000, 3) := by decide +kernel
theorem dX5_crowded_113 : decode cX5_crowded 113 = .ok (.iload_n 3, 1) := by decide +kernel
theorem dX5_crowded_114 : decode cX5_crowded 114 = .ok (.imul, 1) := by decide +kernel
theorem dX5_crowded_115 : decode cX5_crowded 115 = .ok (.iload_n 2, 1) := by decide +kernel
theorem dX5_crowded_116 : decode cX5_crowded 116 = .ok (.idiv, 1) := by decide +kernel
theorem dX5_crowded_117 : decode cX5_crowded 117 = .ok (.ireturn, 1) := by decide +kernel
set_option maxRecDepth 20000 in
theorem ggX5_about_X5_shownStaves : GoodIn wsX5_about wsX5_shownStaves := goodIn_r _ [9, 10, 11, 12, 8, 13, 14, 1, 15, 16, 17, 18, 19, 20, 21, 22, 23, 24, 25, 26, 27, 28, 29, 30, 31, 32, 33, 34, 35] rfl (by decide +kernel)
set_option maxRecDepth 20000 in
theorem gX5_about_X5_shownStaves : GoodIn wsX5_about (wsV RX5 170 RX5 yX5_shownStaves wsX5_shownStaves) := goodIn_app (goodIn_r _ [5, 6, 7, 8] rfl (by decide +kernel)) ggX5_about_X5_shownStaves
theorem dX5_about_0 : decode cX5_about 0 = .ok (.iload_n 1, 1) := by decide +kernel
theorem dX5_about_1 : decode cX5_about 1 = .ok (.tableswitch 48 0 2 #[27, 35, 43], 27) := by decide +kernel
theorem dX5_about_28 : decode cX5_about 28 = .ok (.aload_n 0, 1) := by decide +kernel
theorem dX5_about_29 : decode cX5_about 29 = .ok (.getfield 19, 3) := by decide +kernel
theorem dX5_about_32 : decode cX5_about 32 = .ok (.getfield 78, 3) := by decide +kernel
theorem dX5_about_35 : decode cX5_about 35 = .ok (.ireturn, 1) := by decide +kernel
theorem dX5_about_36 : decode cX5_about 36 = .ok (.aload_n 0, 1) := by decide +kernel
theorem dX5_about_37 : decode cX5_about 37 = .ok (.getfield 10, 3) := by decide +kernel
theorem dX5_about_40 : decode cX5_about 40 = .ok (.getfield 67, 3) := by decide +kernel
theorem dX5_about_43 : decode cX5_about 43 = .ok (.ireturn, 1) := by decide +kernel
theorem dX5_about_44 : decode cX5_about 44 = .ok (.aload_n 0, 1) := by decide +kernel
theorem dX5_about_45 : decode cX5_about 45 = .ok (.invokevirtual 170, 3) := by decide +kernel
theorem dX5_about_48 : decode cX5_about 48 = .ok (.ireturn, 1) := by decide +kernel
theorem dX5_about_49 : decode cX5_about 49 = .ok (.sipush (-1002), 3) := by decide +kernel
theorem dX5_about_52 : decode cX5_about 52 = .ok (.ireturn, 1) := by decide +kernel
theorem dX5_within_0 : decode cX5_within 0 = .ok (.iload_n 0, 1) := by decide +kernel
theorem dX5_within_1 : decode cX5_within 1 = .ok (.iload_n 1, 1) := by decide +kernel
theorem dX5_within_2 : decode cX5_within 2 = .ok (.if_icmp .lt 12, 3) := by decide +kernel
theorem dX5_within_5 : decode cX5_within 5 = .ok (.iload_n 0, 1) := by decide +kernel
theorem dX5_within_6 : decode cX5_within 6 = .ok (.iload_n 2, 1) := by decide +kernel
theorem dX5_within_7 : decode cX5_within 7 = .ok (.if_icmp .gt 7, 3) := by decide +kernel
theorem dX5_within_10 : decode cX5_within 10 = .ok (.iconst 1, 1) := by decide +kernel
theorem dX5_within_11 : decode cX5_within 11 = .ok (.goto 4, 3) := by decide +kernel
theorem dX5_within_14 : decode cX5_within 14 = .ok (.iconst 0, 1) := by decide +kernel
theorem dX5_within_15 : decode cX5_within 15 = .ok (.ireturn, 1) := by decide +kernel
set_option maxRecDepth 20000 in
theorem ggX5_isStaff_X5_within : GoodIn wsX5_isStaff wsX5_within := goodIn_r _ [4] rfl (by decide +kernel)
set_option maxRecDepth 20000 in
theorem gX5_isStaff_X5_within : GoodIn wsX5_isStaff (va_wsS RX5 42 yX5_within wsX5_within) := goodIn_app (goodIn_r _ [1, 2, 3] rfl (by decide +kernel)) ggX5_isStaff_X5_within
theorem dX5_isStaff_0 : decode cX5_isStaff 0 = .ok (.iload_n 0, 1) := by decide +kernel
theorem dX5_isStaff_1 : decode cX5_isStaff 1 = .ok (.iconst 0, 1) := by decide +kernel
theorem dX5_isStaff_2 : decode cX5_isStaff 2 = .ok (.iconst 3, 1) := by decide +kernel
theorem dX5_isStaff_3 : decode cX5_isStaff 3 = .ok (.invokestatic 42, 3) := by decide +kernel
theorem dX5_isStaff_6 : decode cX5_isStaff 6 = .ok (.ireturn, 1) := by decide +kernel
set_option maxRecDepth 20000 in
theorem ggX5_isTick_X5_within : GoodIn wsX5_isTick wsX5_within := goodIn_r _ [4] rfl (by decide +kernel)
set_option maxRecDepth 20000 in
theorem gX5_isTick_X5_within : GoodIn wsX5_isTick (va_wsS RX5 42 yX5_within wsX5_within) := goodIn_app (goodIn_r _ [1, 2, 3] rfl (by decide +kernel)) ggX5_isTick_X5_within
theorem dX5_isTick_0 : decode cX5_isTick 0 = .ok (.iload_n 0, 1) := by decide +kernel
theorem dX5_isTick_1 : decode cX5_isTick 1 = .ok (.iconst 0, 1) := by decide +kernel
theorem dX5_isTick_2 : decode cX5_isTick 2 = .ok (.bipush 99, 2) := by decide +kernel
theorem dX5_isTick_4 : decode cX5_isTick 4 = .ok (.invokestatic 42, 3) := by decide +kernel
theorem dX5_isTick_7 : decode cX5_isTick 7 = .ok (.ireturn, 1) := by decide +kernel
set_option maxRecDepth 20000 in
theorem ggX5_isPitch_X5_within : GoodIn wsX5_isPitch wsX5_within := goodIn_r _ [4] rfl (by decide +kernel)
set_option maxRecDepth 20000 in
theorem gX5_isPitch_X5_within : GoodIn wsX5_isPitch (va_wsS RX5 42 yX5_within wsX5_within) := goodIn_app (goodIn_r _ [1, 2, 3] rfl (by decide +kernel)) ggX5_isPitch_X5_within
theorem dX5_isPitch_0 : decode cX5_isPitch 0 = .ok (.iload_n 0, 1) := by decide +kernel
theorem dX5_isPitch_1 : decode cX5_isPitch 1 = .ok (.iconst 0, 1) := by decide +kernel
theorem dX5_isPitch_2 : decode cX5_isPitch 2 = .ok (.bipush 6, 2) := by decide +kernel
theorem dX5_isPitch_4 : decode cX5_isPitch 4 = .ok (.invokestatic 42, 3) := by decide +kernel
theorem dX5_isPitch_7 : decode cX5_isPitch 7 = .ok (.ifCond .eq 17, 3) := by decide +kernel
theorem dX5_isPitch_10 : decode cX5_isPitch 10 = .ok (.iload_n 1, 1) := by decide +kernel
theorem dX5_isPitch_11 : decode cX5_isPitch 11 = .ok (.iconst 0, 1) := by decide +kernel
theorem dX5_isPitch_12 : decode cX5_isPitch 12 = .ok (.bipush 9, 2) := by decide +kernel
theorem dX5_isPitch_14 : decode cX5_isPitch 14 = .ok (.invokestatic 42, 3) := by decide +kernel
theorem dX5_isPitch_17 : decode cX5_isPitch 17 = .ok (.ifCond .eq 7, 3) := by decide +kernel
theorem dX5_isPitch_20 : decode cX5_isPitch 20 = .ok (.iconst 1, 1) := by decide +kernel
theorem dX5_isPitch_21 : decode cX5_isPitch 21 = .ok (.goto 4, 3) := by decide +kernel
theorem dX5_isPitch_24 : decode cX5_isPitch 24 = .ok (.iconst 0, 1) := by decide +kernel
theorem dX5_isPitch_25 : decode cX5_isPitch 25 = .ok (.ireturn, 1) := by decide +kernel
theorem dX5_cellOf_0 : decode cX5_cellOf 0 = .ok (.iload_n 0, 1) := by decide +kernel
theorem dX5_cellOf_1 : decode cX5_cellOf 1 = .ok (.bipush 100, 2) := by decide +kernel
theorem dX5_cellOf_3 : decode cX5_cellOf 3 = .ok (.imul, 1) := by decide +kernel
theorem dX5_cellOf_4 : decode cX5_cellOf 4 = .ok (.iload_n 1, 1) := by decide +kernel
theorem dX5_cellOf_5 : decode cX5_cellOf 5 = .ok (.iadd, 1) := by decide +kernel
theorem dX5_cellOf_6 : decode cX5_cellOf 6 = .ok (.ireturn, 1) := by decide +kernel
set_option maxRecDepth 20000 in
theorem ggX5_isHidden_X2_anyOn : GoodIn wsX5_isHidden wsX2_anyOn := goodIn_r _ [7, 8, 9, 17, 18, 19, 20, 21, 22, 23] rfl (by decide +kernel)
set_option maxRecDepth 20000 in
theorem gX5_isHidden_X2_anyOn : GoodIn wsX5_isHidden (wsV RX5 174 RX2 yX2_anyOn wsX2_anyOn) := goodIn_app (goodIn_r _ [3, 4, 5, 6] rfl (by decide +kernel)) ggX5_isHidden_X2_anyOn
theorem dX5_isHidden_0 : decode cX5_isHidden 0 = .ok (.aload_n 0, 1) := by decide +kernel
theorem dX5_isHidden_1 : decode cX5_isHidden 1 = .ok (.getfield 37, 3) := by decide +kernel
theorem dX5_isHidden_4 : decode cX5_isHidden 4 = .ok (.ifCond .eq 22, 3) := by decide +kernel
theorem dX5_isHidden_7 : decode cX5_isHidden 7 = .ok (.iload_n 1, 1) := by decide +kernel
theorem dX5_isHidden_8 : decode cX5_isHidden 8 = .ok (.ifCond .eq 18, 3) := by decide +kernel
theorem dX5_isHidden_11 : decode cX5_isHidden 11 = .ok (.aload_n 0, 1) := by decide +kernel
theorem dX5_isHidden_12 : decode cX5_isHidden 12 = .ok (.getfield 19, 3) := by decide +kernel
theorem dX5_isHidden_15 : decode cX5_isHidden 15 = .ok (.iload_n 1, 1) := by decide +kernel
theorem dX5_isHidden_16 : decode cX5_isHidden 16 = .ok (.invokevirtual 174, 3) := by decide +kernel
theorem dX5_isHidden_19 : decode cX5_isHidden 19 = .ok (.ifCond .ne 7, 3) := by decide +kernel
theorem dX5_isHidden_22 : decode cX5_isHidden 22 = .ok (.iconst 1, 1) := by decide +kernel
theorem dX5_isHidden_23 : decode cX5_isHidden 23 = .ok (.goto 4, 3) := by decide +kernel
theorem dX5_isHidden_26 : decode cX5_isHidden 26 = .ok (.iconst 0, 1) := by decide +kernel
theorem dX5_isHidden_27 : decode cX5_isHidden 27 = .ok (.ireturn, 1) := by decide +kernel
set_option maxRecDepth 20000 in
theorem ggX5_shownStaves_X5_isHidden : GoodIn wsX5_shownStaves wsX5_isHidden := goodIn_r _ [5, 6, 7, 8, 9, 10, 11, 12, 13, 14, 15, 16, 17, 18, 19, 20, 21, 22, 23, 24, 25, 26, 27, 28] rfl (by decide +kernel)
set_option maxRecDepth 20000 in
theorem gX5_shownStaves_X5_isHidden : GoodIn wsX5_shownStaves (wsV RX5 149 RX5 yX5_isHidden wsX5_isHidden) := goodIn_app (goodIn_r _ [1, 2, 3, 4] rfl (by decide +kernel)) ggX5_shownStaves_X5_isHidden
theorem dX5_shownStaves_0 : decode cX5_shownStaves 0 = .ok (.iconst 0, 1) := by decide +kernel
theorem dX5_shownStaves_1 : decode cX5_shownStaves 1 = .ok (.istore_n 1, 1) := by decide +kernel
theorem dX5_shownStaves_2 : decode cX5_shownStaves 2 = .ok (.iconst 0, 1) := by decide +kernel
theorem dX5_shownStaves_3 : decode cX5_shownStaves 3 = .ok (.istore_n 2, 1) := by decide +kernel
theorem dX5_shownStaves_4 : decode cX5_shownStaves 4 = .ok (.iload_n 2, 1) := by decide +kernel
theorem dX5_shownStaves_5 : decode cX5_shownStaves 5 = .ok (.iconst 4, 1) := by decide +kernel
theorem dX5_shownStaves_6 : decode cX5_shownStaves 6 = .ok (.if_icmp .ge 25, 3) := by decide +kernel
theorem dX5_shownStaves_9 : decode cX5_shownStaves 9 = .ok (.iload_n 1, 1) := by decide +kernel
theorem dX5_shownStaves_10 : decode cX5_shownStaves 10 = .ok (.aload_n 0, 1) := by decide +kernel
theorem dX5_shownStaves_11 : decode cX5_shownStaves 11 = .ok (.iload_n 2, 1) := by decide +kernel
theorem dX5_shownStaves_12 : decode cX5_shownStaves 12 = .ok (.invokevirtual 149, 3) := by decide +kernel
theorem dX5_shownStaves_15 : decode cX5_shownStaves 15 = .ok (.ifCond .eq 7, 3) := by decide +kernel
theorem dX5_shownStaves_18 : decode cX5_shownStaves 18 = .ok (.iconst 0, 1) := by decide +kernel
theorem dX5_shownStaves_19 : decode cX5_shownStaves 19 = .ok (.goto 4, 3) := by decide +kernel
theorem dX5_shownStaves_22 : decode cX5_shownStaves 22 = .ok (.iconst 1, 1) := by decide +kernel
theorem dX5_shownStaves_23 : decode cX5_shownStaves 23 = .ok (.iadd, 1) := by decide +kernel
theorem dX5_shownStaves_24 : decode cX5_shownStaves 24 = .ok (.istore_n 1, 1) := by decide +kernel
theorem dX5_shownStaves_25 : decode cX5_shownStaves 25 = .ok (.iinc 2 1, 3) := by decide +kernel
theorem dX5_shownStaves_28 : decode cX5_shownStaves 28 = .ok (.goto (-24), 3) := by decide +kernel
theorem dX5_shownStaves_31 : decode cX5_shownStaves 31 = .ok (.iload_n 1, 1) := by decide +kernel
theorem dX5_shownStaves_32 : decode cX5_shownStaves 32 = .ok (.ireturn, 1) := by decide +kernel
set_option maxRecDepth 20000 in
theorem ggX5_shownAbove_X5_isHidden : GoodIn wsX5_shownAbove wsX5_isHidden := goodIn_r _ [5, 6, 7, 8, 9, 10, 11, 12, 13, 14, 15, 16, 17, 18, 19, 20, 21, 22, 23, 24, 25, 26, 27, 28] rfl (by decide +kernel)
set_option maxRecDepth 20000 in
theorem gX5_shownAbove_X5_isHidden : GoodIn wsX5_shownAbove (wsV RX5 149 RX5 yX5_isHidden wsX5_isHidden) := goodIn_app (goodIn_r _ [1, 2, 3, 4] rfl (by decide +kernel)) ggX5_shownAbove_X5_isHidden
theorem dX5_shownAbove_0 : decode cX5_shownAbove 0 = .ok (.iload_n 1, 1) := by decide +kernel
theorem dX5_shownAbove_1 : decode cX5_shownAbove 1 = .ok (.iconst 1, 1) := by decide +kernel
theorem dX5_shownAbove_2 : decode cX5_shownAbove 2 = .ok (.isub, 1) := by decide +kernel
theorem dX5_shownAbove_3 : decode cX5_shownAbove 3 = .ok (.istore_n 2, 1) := by decide +kernel
theorem dX5_shownAbove_4 : decode cX5_shownAbove 4 = .ok (.iload_n 2, 1) := by decide +kernel
theorem dX5_shownAbove_5 : decode cX5_shownAbove 5 = .ok (.ifCond .le 17, 3) := by decide +kernel
theorem dX5_shownAbove_8 : decode cX5_shownAbove 8 = .ok (.aload_n 0, 1) := by decide +kernel
theorem dX5_shownAbove_9 : decode cX5_shownAbove 9 = .ok (.iload_n 2, 1) := by decide +kernel
theorem dX5_shownAbove_10 : decode cX5_shownAbove 10 = .ok (.invokevirtual 149, 3) := by decide +kernel
theorem dX5_shownAbove_13 : decode cX5_shownAbove 13 = .ok (.ifCond .eq 9, 3) := by decide +kernel
theorem dX5_shownAbove_16 : decode cX5_shownAbove 16 = .ok (.iinc 2 (-1), 3) := by decide +kernel
theorem dX5_shownAbove_19 : decode cX5_shownAbove 19 = .ok (.goto (-15), 3) := by decide +kernel
theorem dX5_shownAbove_22 : decode cX5_shownAbove 22 = .ok (.iload_n 2, 1) := by decide +kernel
theorem dX5_shownAbove_23 : decode cX5_shownAbove 23 = .ok (.ireturn, 1) := by decide +kernel
set_option maxRecDepth 20000 in
theorem ggX5_gapBetween_X5_cellOf : GoodIn wsX5_gapBetween wsX5_cellOf := goodIn_r _ [13] rfl (by decide +kernel)
set_option maxRecDepth 20000 in
theorem gX5_gapBetween_X5_cellOf : GoodIn wsX5_gapBetween (va_wsS RX5 123 yX5_cellOf wsX5_cellOf) := goodIn_app (goodIn_r _ [10, 11, 12] rfl (by decide +kernel)) ggX5_gapBetween_X5_cellOf
theorem dX5_gapBetween_0 : decode cX5_gapBetween 0 = .ok (.aload_n 0, 1) := by decide +kernel
theorem dX5_gapBetween_1 : decode cX5_gapBetween 1 = .ok (.getfield 34, 3) := by decide +kernel
theorem dX5_gapBetween_4 : decode cX5_gapBetween 4 = .ok (.istore_n 3, 1) := by decide +kernel
theorem dX5_gapBetween_5 : decode cX5_gapBetween 5 = .ok (.iconst 0, 1) := by decide +kernel
theorem dX5_gapBetween_6 : decode cX5_gapBetween 6 = .ok (.istore 4, 2) := by decide +kernel
theorem dX5_gapBetween_8 : decode cX5_gapBetween 8 = .ok (.iload 4, 2) := by decide +kernel
theorem dX5_gapBetween_10 : decode cX5_gapBetween 10 = .ok (.bipush 100, 2) := by decide +kernel
theorem dX5_gapBetween_12 : decode cX5_gapBetween 12 = .ok (.if_icmp .ge 60, 3) := by decide +kernel
theorem dX5_gapBetween_15 : decode cX5_gapBetween 15 = .ok (.aload_n 0, 1) := by decide +kernel
theorem dX5_gapBetween_16 : decode cX5_gapBetween 16 = .ok (.getfield 26, 3) := by decide +kernel
theorem dX5_gapBetween_19 : decode cX5_gapBetween 19 = .ok (.getfield 130, 3) := by decide +kernel
theorem dX5_gapBetween_22 : decode cX5_gapBetween 22 = .ok (.iload_n 1, 1) := by decide +kernel
theorem dX5_gapBetween_23 : decode cX5_gapBetween 23 = .ok (.iload 4, 2) := by decide +kernel
theorem dX5_gapBetween_25 : decode cX5_gapBetween 25 = .ok (.invokestatic 123, 3) := by decide +kernel
theorem dX5_gapBetween_28 : decode cX5_gapBetween 28 = .ok (.iaload, 1) := by decide +kernel
theorem dX5_gapBetween_29 : decode cX5_gapBetween 29 = .ok (.ineg, 1) := by decide +kernel
theorem dX5_gapBetween_30 : decode cX5_gapBetween 30 = .ok (.istore 5, 2) := by decide +kernel
theorem dX5_gapBetween_32 : decode cX5_gapBetween 32 = .ok (.aload_n 0, 1) := by decide +kernel
theorem dX5_gapBetween_33 : decode cX5_gapBetween 33 = .ok (.getfield 26, 3) := by decide +kernel
theorem dX5_gapBetween_36 : decode cX5_gapBetween 36 = .ok (.getfield 127, 3) := by decide +kernel
theorem dX5_gapBetween_39 : decode cX5_gapBetween 39 = .ok (.iload_n 2, 1) := by decide +kernel
theorem dX5_gapBetween_40 : decode cX5_gapBetween 40 = .ok (.iload 4, 2) := by decide +kernel
theorem dX5_gapBetween_42 : decode cX5_gapBetween 42 = .ok (.invokestatic 123, 3) := by decide +kernel
theorem dX5_gapBetween_45 : decode cX5_gapBetween 45 = .ok (.iaload, 1) := by decide +kernel
theorem dX5_gapBetween_46 : decode cX5_gapBetween 46 = .ok (.bipush 8, 2) := by decide +kernel
theorem dX5_gapBetween_48 : decode cX5_gapBetween 48 = .ok (.isub, 1) := by decide +kernel
theorem dX5_gapBetween_49 : decode cX5_gapBetween 49 = .ok (.istore 6, 2) := by decide +kernel
theorem dX5_gapBetween_51 : decode cX5_gapBetween 51 = .ok (.iload_n 3, 1) := by decide +kernel
theorem dX5_gapBetween_52 : decode cX5_gapBetween 52 = .ok (.iload 5, 2) := by decide +kernel
theorem dX5_gapBetween_54 : decode cX5_gapBetween 54 = .ok (.iload 6, 2) := by decide +kernel
theorem dX5_gapBetween_56 : decode cX5_gapBetween 56 = .ok (.iadd, 1) := by decide +kernel
theorem dX5_gapBetween_57 : decode cX5_gapBetween 57 = .ok (.aload_n 0, 1) := by decide +kernel
theorem dX5_gapBetween_58 : decode cX5_gapBetween 58 = .ok (.getfield 30, 3) := by decide +kernel
theorem dX5_gapBetween_61 : decode cX5_gapBetween 61 = .ok (.iadd, 1) := by decide +kernel
theorem dX5_gapBetween_62 : decode cX5_gapBetween 62 = .ok (.invokestatic 177, 3) := by decide +kernel
theorem dX5_gapBetween_65 : decode cX5_gapBetween 65 = .ok (.istore_n 3, 1) := by decide +kernel
theorem dX5_gapBetween_66 : decode cX5_gapBetween 66 = .ok (.iinc 4 1, 3) := by decide +kernel
theorem dX5_gapBetween_69 : decode cX5_gapBetween 69 = .ok (.goto (-61), 3) := by decide +kernel
theorem dX5_gapBetween_72 : decode cX5_gapBetween 72 = .ok (.iload_n 3, 1) := by decide +kernel
theorem dX5_gapBetween_73 : decode cX5_gapBetween 73 = .ok (.ireturn, 1) := by decide +kernel
set_option maxRecDepth 20000 in
theorem ggX5_stepsDownTo_X5_isHidden : GoodIn wsX5_stepsDownTo wsX5_isHidden := goodIn_r _ [5, 6, 7, 8, 9, 10, 11, 12, 13, 14, 35, 36, 37, 38, 39, 40, 41, 42, 43, 44, 45, 46, 47, 48] rfl (by decide +kernel)
set_option maxRecDepth 20000 in
theorem gX5_stepsDownTo_X5_isHidden : GoodIn wsX5_stepsDownTo (wsV RX5 149 RX5 yX5_isHidden wsX5_isHidden) := goodIn_app (goodIn_r _ [1, 2, 3, 4] rfl (by decide +kernel)) ggX5_stepsDownTo_X5_isHidden
set_option maxRecDepth 20000 in
theorem ggX5_stepsDownTo_X5_shownAbove : GoodIn wsX5_stepsDownTo wsX5_shownAbove := goodIn_r _ [18, 1, 2, 3, 4, 5, 6, 7, 8, 9, 10, 11, 12, 13, 14, 35, 36, 37, 38, 39, 40, 41, 42, 43, 44, 45, 46, 47, 48] rfl (by decide +kernel)
set_option maxRecDepth 20000 in
theorem gX5_stepsDownTo_X5_shownAbove : GoodIn wsX5_stepsDownTo (wsV RX5 152 RX5 yX5_shownAbove wsX5_shownAbove) := goodIn_app (goodIn_r _ [15, 16, 17, 4] rfl (by decide +kernel)) ggX5_stepsDownTo_X5_shownAbove
set_option maxRecDepth 20000 in
theorem ggX5_stepsDownTo_X5_gapBetween : GoodIn wsX5_stepsDownTo wsX5_gapBetween := goodIn_r _ [22, 23, 24, 25, 26, 27, 28, 29, 30, 31, 32, 33, 4, 34, 35, 36, 37, 38, 39, 40, 41, 49, 50, 51, 52, 53, 54, 55, 56, 57, 58, 59, 60, 61, 62, 63] rfl (by decide +kernel)
set_option maxRecDepth 20000 in
theorem gX5_stepsDownTo_X5_gapBetween : GoodIn wsX5_stepsDownTo (wsV RX5 155 RX5 yX5_gapBetween wsX5_gapBetween) := goodIn_app (goodIn_r _ [19, 20, 21, 4] rfl (by decide +kernel)) ggX5_stepsDownTo_X5_gapBetween
theorem dX5_stepsDownTo_0 : decode cX5_stepsDownTo 0 = .ok (.iconst 0, 1) := by decide +kernel
theorem dX5_stepsDownTo_1 : decode cX5_stepsDownTo 1 = .ok (.istore_n 2, 1) := by decide +kernel
theorem dX5_stepsDownTo_2 : decode cX5_stepsDownTo 2 = .ok (.iconst 1, 1) := by decide +kernel
theorem dX5_stepsDownTo_3 : decode cX5_stepsDownTo 3 = .ok (.istore_n 3, 1) := by decide +kernel
theorem dX5_stepsDownTo_4 : decode cX5_stepsDownTo 4 = .ok (.iload_n 3, 1) := by decide +kernel
theorem dX5_stepsDownTo_5 : decode cX5_stepsDownTo 5 = .ok (.iload_n 1, 1) := by decide +kernel
theorem dX5_stepsDownTo_6 : decode cX5_stepsDownTo 6 = .ok (.if_icmp .gt 33, 3) := by decide +kernel
theorem dX5_stepsDownTo_9 : decode cX5_stepsDownTo 9 = .ok (.aload_n 0, 1) := by decide +kernel
theorem dX5_stepsDownTo_10 : decode cX5_stepsDownTo 10 = .ok (.iload_n 3, 1) := by decide +kernel
theorem dX5_stepsDownTo_11 : decode cX5_stepsDownTo 11 = .ok (.invokevirtual 149, 3) := by decide +kernel
theorem dX5_stepsDownTo_14 : decode cX5_stepsDownTo 14 = .ok (.ifCond .ne 19, 3) := by decide +kernel
theorem dX5_stepsDownTo_17 : decode cX5_stepsDownTo 17 = .ok (.iload_n 2, 1) := by decide +kernel
theorem dX5_stepsDownTo_18 : decode cX5_stepsDownTo 18 = .ok (.aload_n 0, 1) := by decide +kernel
theorem dX5_stepsDownTo_19 : decode cX5_stepsDownTo 19 = .ok (.aload_n 0, 1) := by decide +kernel
theorem dX5_stepsDownTo_20 : decode cX5_stepsDownTo 20 = .ok (.iload_n 3, 1) := by decide +kernel
theorem dX5_stepsDownTo_21 : decode cX5_stepsDownTo 21 = .ok (.invokevirtual 152, 3) := by decide +kernel
theorem dX5_stepsDownTo_24 : decode cX5_stepsDownTo 24 = .ok (.iload_n 3, 1) := by decide +kernel
theorem dX5_stepsDownTo_25 : decode cX5_stepsDownTo 25 = .ok (.invokevirtual 155, 3) := by decide +kernel
theorem dX5_stepsDownTo_28 : decode cX5_stepsDownTo 28 = .ok (.bipush 8, 2) := by decide +kernel
theorem dX5_stepsDownTo_30 : decode cX5_stepsDownTo 30 = .ok (.iadd, 1) := by decide +kernel
theorem dX5_stepsDownTo_31 : decode cX5_stepsDownTo 31 = .ok (.iadd, 1) := by decide +kernel
theorem dX5_stepsDownTo_32 : decode cX5_stepsDownTo 32 = .ok (.istore_n 2, 1) := by decide +kernel
theorem dX5_stepsDownTo_33 : decode cX5_stepsDownTo 33 = .ok (.iinc 3 1, 3) := by decide +kernel
theorem dX5_stepsDownTo_36 : decode cX5_stepsDownTo 36 = .ok (.goto (-32), 3) := by decide +kernel
theorem dX5_stepsDownTo_39 : decode cX5_stepsDownTo 39 = .ok (.iload_n 2, 1) := by decide +kernel
theorem dX5_stepsDownTo_40 : decode cX5_stepsDownTo 40 = .ok (.ireturn, 1) := by decide +kernel
theorem dX6_init_0 : decode cX6_init 0 = .ok (.aload_n 0, 1) := by decide +kernel
theorem dX6_init_1 : decode cX6_init 1 = .ok (.invokespecial 1, 3) := by decide +kernel
theorem dX6_init_4 : decode cX6_init 4 = .ok (.aload_n 0, 1) := by decide +kernel
theorem dX6_init_5 : decode cX6_init 5 = .ok (.iconst 4, 1) := by decide +kernel
theorem dX6_init_6 : decode cX6_init 6 = .ok (.newarray .int, 2) := by decide +kernel
theorem dX6_init_8 : decode cX6_init 8 = .ok (.putfield 7, 3) := by decide +kernel
theorem dX6_init_11 : decode cX6_init 11 = .ok (.aload_n 0, 1) := by decide +kernel
theorem dX6_init_12 : decode cX6_init 12 = .ok (.iconst 4, 1) := by decide +kernel
theorem dX6_init_13 : decode cX6_init 13 = .ok (.newarray .int, 2) := by decide +kernel
theorem dX6_init_15 : decode cX6_init 15 = .ok (.putfield 13, 3) := by decide +kernel
theorem dX6_init_18 : decode cX6_init 18 = .ok (.aload_n 0, 1) := by decide +kernel
theorem dX6_init_19 : decode cX6_init 19 = .ok (.bipush 12, 2) := by decide +kernel
theorem dX6_init_21 : decode cX6_init 21 = .ok (.newarray .int, 2) := by decide +kernel
theorem dX6_init_23 : decode cX6_init 23 = .ok (.putfield 16, 3) := by decide +kernel
theorem dX6_init_26 : decode cX6_init 26 = .ok (.aload_n 0, 1) := by decide +kernel
theorem dX6_init_27 : decode cX6_init 27 = .ok (.bipush 12, 2) := by decide +kernel
theorem dX6_init_29 : decode cX6_init 29 = .ok (.newarray .int, 2) := by decide +kernel
theorem dX6_init_31 : decode cX6_init 31 = .ok (.putfield 19, 3) := by decide +kernel
theorem dX6_init_34 : decode cX6_init 34 = .ok (.aload_n 0, 1) := by decide +kernel
theorem dX6_init_35 : decode cX6_init 35 = .ok (.bipush 12, 2) := by decide +kernel
theorem dX6_init_37 : decode cX6_init 37 = .ok (.newarray .int, 2) := by decide +kernel
theorem dX6_init_39 : decode cX6_init 39 = .ok (.putfield 22, 3) := by decide +kernel
theorem dX6_init_42 : decode cX6_init 42 = .ok (.aload_n 0, 1) := by decide +kernel
theorem dX6_init_43 : decode cX6_init 43 = .ok (.bipush 12, 2) := by decide +kernel
theorem dX6_init_45 : decode cX6_init 45 = .ok (.newarray .int, 2) := by decide +kernel
