theorem dX0_init_0 : decode cX0_init 0 = .ok (.aload_n 0, 1) := by decide +kernel
theorem dX0_init_1 : decode cX0_init 1 = .ok (.invokespecial 3, 3) := by decide +kernel
theorem dX0_init_4 : decode cX0_init 4 = .ok (.aload_n 0, 1) := by decide +kernel
theorem dX0_init_5 : decode cX0_init 5 = .ok (.new 9, 3) := by decide +kernel
theorem dX0_init_8 : decode cX0_init 8 = .ok (.dup, 1) := by decide +kernel
theorem dX0_init_9 : decode cX0_init 9 = .ok (.invokespecial 11, 3) := by decide +kernel
theorem dX0_init_12 : decode cX0_init 12 = .ok (.putfield 12, 3) := by decide +kernel
theorem dX0_init_15 : decode cX0_init 15 = .ok (.aload_n 0, 1) := by decide +kernel
theorem dX0_init_16 : decode cX0_init 16 = .ok (.new 18, 3) := by decide +kernel
theorem dX0_init_19 : decode cX0_init 19 = .ok (.dup, 1) := by decide +kernel
theorem dX0_init_20 : decode cX0_init 20 = .ok (.invokespecial 20, 3) := by decide +kernel
theorem dX0_init_23 : decode cX0_init 23 = .ok (.putfield 21, 3) := by decide +kernel
theorem dX0_init_26 : decode cX0_init 26 = .ok (.return_, 1) := by decide +kernel
theorem dX0_costOf_0 : decode cX0_costOf 0 = .ok (.aload_n 0, 1) := by decide +kernel
theorem dX0_costOf_1 : decode cX0_costOf 1 = .ok (.getfield 21, 3) := by decide +kernel
theorem dX0_costOf_4 : decode cX0_costOf 4 = .ok (.aload_n 1, 1) := by decide +kernel
theorem dX0_costOf_5 : decode cX0_costOf 5 = .ok (.iconst 0, 1) := by decide +kernel
theorem dX0_costOf_6 : decode cX0_costOf 6 = .ok (.invokevirtual 25, 3) := by decide +kernel
theorem dX0_costOf_9 : decode cX0_costOf 9 = .ok (.aload_n 0, 1) := by decide +kernel
theorem dX0_costOf_10 : decode cX0_costOf 10 = .ok (.getfield 21, 3) := by decide +kernel
theorem dX0_costOf_13 : decode cX0_costOf 13 = .ok (.aload_n 1, 1) := by decide +kernel
theorem dX0_costOf_14 : decode cX0_costOf 14 = .ok (.invokevirtual 29, 3) := by decide +kernel
theorem dX0_costOf_17 : decode cX0_costOf 17 = .ok (.ireturn, 1) := by decide +kernel
theorem dX0_cheapestBoard_0 : decode cX0_cheapestBoard 0 = .ok (.iconst 0, 1) := by decide +kernel
theorem dX0_cheapestBoard_1 : decode cX0_cheapestBoard 1 = .ok (.istore_n 2, 1) := by decide +kernel
theorem dX0_cheapestBoard_2 : decode cX0_cheapestBoard 2 = .ok (.iconst 0, 1) := by decide +kernel
theorem dX0_cheapestBoard_3 : decode cX0_cheapestBoard 3 = .ok (.istore_n 3, 1) := by decide +kernel
theorem dX0_cheapestBoard_4 : decode cX0_cheapestBoard 4 = .ok (.aload_n 0, 1) := by decide +kernel
theorem dX0_cheapestBoard_5 : decode cX0_cheapestBoard 5 = .ok (.getfield 12, 3) := by decide +kernel
theorem dX0_cheapestBoard_8 : decode cX0_cheapestBoard 8 = .ok (.aload_n 1, 1) := by decide +kernel
theorem dX0_cheapestBoard_9 : decode cX0_cheapestBoard 9 = .ok (.invokevirtual 33, 3) := by decide +kernel
theorem dX0_cheapestBoard_12 : decode cX0_cheapestBoard 12 = .ok (.iconst 0, 1) := by decide +kernel
theorem dX0_cheapestBoard_13 : decode cX0_cheapestBoard 13 = .ok (.istore 4, 2) := by decide +kernel
theorem dX0_cheapestBoard_15 : decode cX0_cheapestBoard 15 = .ok (.iload 4, 2) := by decide +kernel
theorem dX0_cheapestBoard_17 : decode cX0_cheapestBoard 17 = .ok (.iconst 2, 1) := by decide +kernel
theorem dX0_cheapestBoard_18 : decode cX0_cheapestBoard 18 = .ok (.if_icmp .gt 45, 3) := by decide +kernel
theorem dX0_cheapestBoard_21 : decode cX0_cheapestBoard 21 = .ok (.aload_n 0, 1) := by decide +kernel
theorem dX0_cheapestBoard_22 : decode cX0_cheapestBoard 22 = .ok (.getfield 12, 3) := by decide +kernel
theorem dX0_cheapestBoard_25 : decode cX0_cheapestBoard 25 = .ok (.iload 4, 2) := by decide +kernel
theorem dX0_cheapestBoard_27 : decode cX0_cheapestBoard 27 = .ok (.putfield 37, 3) := by decide +kernel
theorem dX0_cheapestBoard_30 : decode cX0_cheapestBoard 30 = .ok (.aload_n 0, 1) := by decide +kernel
theorem dX0_cheapestBoard_31 : decode cX0_cheapestBoard 31 = .ok (.aload_n 0, 1) := by decide +kernel
theorem dX0_cheapestBoard_32 : decode cX0_cheapestBoard 32 = .ok (.getfield 12, 3) := by decide +kernel
theorem dX0_cheapestBoard_35 : decode cX0_cheapestBoard 35 = .ok (.invokevirtual 41, 3) := by decide +kernel
theorem dX0_cheapestBoard_38 : decode cX0_cheapestBoard 38 = .ok (.istore 5, 2) := by decide +kernel
theorem dX0_cheapestBoard_40 : decode cX0_cheapestBoard 40 = .ok (.iload 4, 2) := by decide +kernel
theorem dX0_cheapestBoard_42 : decode cX0_cheapestBoard 42 = .ok (.ifCond .eq 9, 3) := by decide +kernel
theorem dX0_cheapestBoard_45 : decode cX0_cheapestBoard 45 = .ok (.iload 5, 2) := by decide +kernel
theorem dX0_cheapestBoard_47 : decode cX0_cheapestBoard 47 = .ok (.iload_n 3, 1) := by decide +kernel
theorem dX0_cheapestBoard_48 : decode cX0_cheapestBoard 48 = .ok (.if_icmp .ge 9, 3) := by decide +kernel
theorem dX0_cheapestBoard_51 : decode cX0_cheapestBoard 51 = .ok (.iload 4, 2) := by decide +kernel
theorem dX0_cheapestBoard_53 : decode cX0_cheapestBoard 53 = .ok (.istore_n 2, 1) := by decide +kernel
theorem dX0_cheapestBoard_54 : decode cX0_cheapestBoard 54 = .ok (.iload 5, 2) := by decide +kernel
theorem dX0_cheapestBoard_56 : decode cX0_cheapestBoard 56 = .ok (.istore_n 3, 1) := by decide +kernel
theorem dX0_cheapestBoard_57 : decode cX0_cheapestBoard 57 = .ok (.iinc 4 1, 3) := by decide +kernel
theorem dX0_cheapestBoard_60 : decode cX0_cheapestBoard 60 = .ok (.goto (-45), 3) := by decide +kernel
theorem dX0_cheapestBoard_63 : decode cX0_cheapestBoard 63 = .ok (.iload_n 2, 1) := by decide +kernel
theorem dX0_cheapestBoard_64 : decode cX0_cheapestBoard 64 = .ok (.ireturn, 1) := by decide +kernel
theorem dX0_cheapestMove_0 : decode cX0_cheapestMove 0 = .ok (.bipush (-9), 2) := by decide +kernel
theorem dX0_cheapestMove_2 : decode cX0_cheapestMove 2 = .ok (.istore 4, 2) := by decide +kernel
theorem dX0_cheapestMove_4 : decode cX0_cheapestMove 4 = .ok (.aload_n 0, 1) := by decide +kernel
theorem dX0_cheapestMove_5 : decode cX0_cheapestMove 5 = .ok (.aload_n 1, 1) := by decide +kernel
theorem dX0_cheapestMove_6 : decode cX0_cheapestMove 6 = .ok (.invokevirtual 41, 3) := by decide +kernel
theorem dX0_cheapestMove_9 : decode cX0_cheapestMove 9 = .ok (.istore 5, 2) := by decide +kernel
theorem dX0_cheapestMove_11 : decode cX0_cheapestMove 11 = .ok (.iconst 0, 1) := by decide +kernel
theorem dX0_cheapestMove_12 : decode cX0_cheapestMove 12 = .ok (.istore 6, 2) := by decide +kernel
theorem dX0_cheapestMove_14 : decode cX0_cheapestMove 14 = .ok (.iload 6, 2) := by decide +kernel
theorem dX0_cheapestMove_16 : decode cX0_cheapestMove 16 = .ok (.aload_n 1, 1) := by decide +kernel
theorem dX0_cheapestMove_17 : decode cX0_cheapestMove 17 = .ok (.getfield 44, 3) := by decide +kernel
theorem dX0_cheapestMove_20 : decode cX0_cheapestMove 20 = .ok (.if_icmp .ge 69, 3) := by decide +kernel
theorem dX0_cheapestMove_23 : decode cX0_cheapestMove 23 = .ok (.aload_n 0, 1) := by decide +kernel
theorem dX0_cheapestMove_24 : decode cX0_cheapestMove 24 = .ok (.getfield 12, 3) := by decide +kernel
theorem dX0_cheapestMove_27 : decode cX0_cheapestMove 27 = .ok (.aload_n 1, 1) := by decide +kernel
theorem dX0_cheapestMove_28 : decode cX0_cheapestMove 28 = .ok (.invokevirtual 33, 3) := by decide +kernel
theorem dX0_cheapestMove_31 : decode cX0_cheapestMove 31 = .ok (.iload_n 2, 1) := by decide +kernel
theorem dX0_cheapestMove_32 : decode cX0_cheapestMove 32 = .ok (.ifCond .eq 16, 3) := by decide +kernel
theorem dX0_cheapestMove_35 : decode cX0_cheapestMove 35 = .ok (.aload_n 0, 1) := by decide +kernel
theorem dX0_cheapestMove_36 : decode cX0_cheapestMove 36 = .ok (.getfield 12, 3) := by decide +kernel
theorem dX0_cheapestMove_39 : decode cX0_cheapestMove 39 = .ok (.iload 6, 2) := by decide +kernel
theorem dX0_cheapestMove_41 : decode cX0_cheapestMove 41 = .ok (.invokevirtual 47, 3) := by decide +kernel
theorem dX0_cheapestMove_44 : decode cX0_cheapestMove 44 = .ok (.pop, 1) := by decide +kernel
theorem dX0_cheapestMove_45 : decode cX0_cheapestMove 45 = .ok (.goto 13, 3) := by decide +kernel
theorem dX0_cheapestMove_48 : decode cX0_cheapestMove 48 = .ok (.aload_n 0, 1) := by decide +kernel
theorem dX0_cheapestMove_49 : decode cX0_cheapestMove 49 = .ok (.getfield 12, 3) := by decide +kernel
theorem dX0_cheapestMove_52 : decode cX0_cheapestMove 52 = .ok (.iload 6, 2) := by decide +kernel
theorem dX0_cheapestMove_54 : decode cX0_cheapestMove 54 = .ok (.invokevirtual 51, 3) := by decide +kernel
theorem dX0_cheapestMove_57 : decode cX0_cheapestMove 57 = .ok (.pop, 1) := by decide +kernel
theorem dX0_cheapestMove_58 : decode cX0_cheapestMove 58 = .ok (.aload_n 0, 1) := by decide +kernel
theorem dX0_cheapestMove_59 : decode cX0_cheapestMove 59 = .ok (.aload_n 0, 1) := by decide +kernel
theorem dX0_cheapestMove_60 : decode cX0_cheapestMove 60 = .ok (.getfield 12, 3) := by decide +kernel
theorem dX0_cheapestMove_63 : decode cX0_cheapestMove 63 = .ok (.invokevirtual 41, 3) := by decide +kernel
theorem dX0_cheapestMove_66 : decode cX0_cheapestMove 66 = .ok (.istore 7, 2) := by decide +kernel
theorem dX0_cheapestMove_68 : decode cX0_cheapestMove 68 = .ok (.iload 7, 2) := by decide +kernel
theorem dX0_cheapestMove_70 : decode cX0_cheapestMove 70 = .ok (.iload 5, 2) := by decide +kernel
theorem dX0_cheapestMove_72 : decode cX0_cheapestMove 72 = .ok (.if_icmp .ge 11, 3) := by decide +kernel
theorem dX0_cheapestMove_75 : decode cX0_cheapestMove 75 = .ok (.iload 6, 2) := by decide +kernel
theorem dX0_cheapestMove_77 : decode cX0_cheapestMove 77 = .ok (.istore 4, 2) := by decide +kernel
theorem dX0_cheapestMove_79 : decode cX0_cheapestMove 79 = .ok (.iload 7, 2) := by decide +kernel
theorem dX0_cheapestMove_81 : decode cX0_cheapestMove 81 = .ok (.istore 5, 2) := by decide +kernel
theorem dX0_cheapestMove_83 : decode cX0_cheapestMove 83 = .ok (.iinc 6 1, 3) := by decide +kernel
theorem dX0_cheapestMove_86 : decode cX0_cheapestMove 86 = .ok (.goto (-72), 3) := by decide +kernel
theorem dX0_cheapestMove_89 : decode cX0_cheapestMove 89 = .ok (.iload 4, 2) := by decide +kernel
theorem dX0_cheapestMove_91 : decode cX0_cheapestMove 91 = .ok (.bipush (-9), 2) := by decide +kernel
theorem dX0_cheapestMove_93 : decode cX0_cheapestMove 93 = .ok (.if_icmp .eq 12, 3) := by decide +kernel
theorem dX0_cheapestMove_96 : decode cX0_cheapestMove 96 = .ok (.iload_n 3, 1) := by decide +kernel
theorem dX0_cheapestMove_97 : decode cX0_cheapestMove 97 = .ok (.ifCond .eq 8, 3) := by decide +kernel
theorem dX0_cheapestMove_100 : decode cX0_cheapestMove 100 = .ok (.iload 5, 2) := by decide +kernel
theorem dX0_cheapestMove_102 : decode cX0_cheapestMove 102 = .ok (.goto 5, 3) := by decide +kernel
theorem dX0_cheapestMove_105 : decode cX0_cheapestMove 105 = .ok (.iload 4, 2) := by decide +kernel
theorem dX0_cheapestMove_107 : decode cX0_cheapestMove 107 = .ok (.ireturn, 1) := by decide +kernel
theorem dX0_cheapestKindOne_0 : decode cX0_cheapestKindOne 0 = .ok (.bipush (-9), 2) := by decide +kernel
theorem dX0_cheapestKindOne_2 : decode cX0_cheapestKindOne 2 = .ok (.istore_n 2, 1) := by decide +kernel
theorem dX0_cheapestKindOne_3 : decode cX0_cheapestKindOne 3 = .ok (.aload_n 0, 1) := by decide +kernel
theorem dX0_cheapestKindOne_4 : decode cX0_cheapestKindOne 4 = .ok (.aload_n 1, 1) := by decide +kernel
theorem dX0_cheapestKindOne_5 : decode cX0_cheapestKindOne 5 = .ok (.invokevirtual 41, 3) := by decide +kernel
theorem dX0_cheapestKindOne_8 : decode cX0_cheapestKindOne 8 = .ok (.istore_n 3, 1) := by decide +kernel
theorem dX0_cheapestKindOne_9 : decode cX0_cheapestKindOne 9 = .ok (.iconst 0, 1) := by decide +kernel
theorem dX0_cheapestKindOne_10 : decode cX0_cheapestKindOne 10 = .ok (.istore 4, 2) := by decide +kernel
theorem dX0_cheapestKindOne_12 : decode cX0_cheapestKindOne 12 = .ok (.iload 4, 2) := by decide +kernel
theorem dX0_cheapestKindOne_14 : decode cX0_cheapestKindOne 14 = .ok (.aload_n 1, 1) := by decide +kernel
theorem dX0_cheapestKindOne_15 : decode cX0_cheapestKindOne 15 = .ok (.getfield 44, 3) := by decide +kernel
theorem dX0_cheapestKindOne_18 : decode cX0_cheapestKindOne 18 = .ok (.if_icmp .ge 84, 3) := by decide +kernel
theorem dX0_cheapestKindOne_21 : decode cX0_cheapestKindOne 21 = .ok (.aload_n 0, 1) := by decide +kernel
theorem dX0_cheapestKindOne_22 : decode cX0_cheapestKindOne 22 = .ok (.getfield 12, 3) := by decide +kernel
theorem dX0_cheapestKindOne_25 : decode cX0_cheapestKindOne 25 = .ok (.aload_n 1, 1) := by decide +kernel
theorem dX0_cheapestKindOne_26 : decode cX0_cheapestKindOne 26 = .ok (.invokevirtual 33, 3) := by decide +kernel
theorem dX0_cheapestKindOne_29 : decode cX0_cheapestKindOne 29 = .ok (.aload_n 0, 1) := by decide +kernel
theorem dX0_cheapestKindOne_30 : decode cX0_cheapestKindOne 30 = .ok (.getfield 12, 3) := by decide +kernel
theorem dX0_cheapestKindOne_33 : decode cX0_cheapestKindOne 33 = .ok (.getfield 54, 3) := by decide +kernel
theorem dX0_cheapestKindOne_36 : decode cX0_cheapestKindOne 36 = .ok (.iload 4, 2) := by decide +kernel
theorem dX0_cheapestKindOne_38 : decode cX0_cheapestKindOne 38 = .ok (.iconst 1, 1) := by decide +kernel
theorem dX0_cheapestKindOne_39 : decode cX0_cheapestKindOne 39 = .ok (.iastore, 1) := by decide +kernel
theorem dX0_cheapestKindOne_40 : decode cX0_cheapestKindOne 40 = .ok (.iconst 0, 1) := by decide +kernel
theorem dX0_cheapestKindOne_41 : decode cX0_cheapestKindOne 41 = .ok (.istore 5, 2) := by decide +kernel
theorem dX0_cheapestKindOne_43 : decode cX0_cheapestKindOne 43 = .ok (.iload 5, 2) := by decide +kernel
theorem dX0_cheapestKindOne_45 : decode cX0_cheapestKindOne 45 = .ok (.bipush 9, 2) := by decide +kernel
theorem dX0_cheapestKindOne_47 : decode cX0_cheapestKindOne 47 = .ok (.if_icmp .gt 49, 3) := by decide +kernel
theorem dX0_cheapestKindOne_50 : decode cX0_cheapestKindOne 50 = .ok (.aload_n 0, 1) := by decide +kernel
theorem dX0_cheapestKindOne_51 : decode cX0_cheapestKindOne 51 = .ok (.getfield 12, 3) := by decide +kernel
theorem dX0_cheapestKindOne_54 : decode cX0_cheapestKindOne 54 = .ok (.getfield 60, 3) := by decide +kernel
theorem dX0_cheapestKindOne_57 : decode cX0_cheapestKindOne 57 = .ok (.iload 4, 2) := by decide +kernel
theorem dX0_cheapestKindOne_59 : decode cX0_cheapestKindOne 59 = .ok (.iload 5, 2) := by decide +kernel
theorem dX0_cheapestKindOne_61 : decode cX0_cheapestKindOne 61 = .ok (.iastore, 1) := by decide +kernel
theorem dX0_cheapestKindOne_62 : decode cX0_cheapestKindOne 62 = .ok (.aload_n 0, 1) := by decide +kernel
theorem dX0_cheapestKindOne_63 : decode cX0_cheapestKindOne 63 = .ok (.aload_n 0, 1) := by decide +kernel
theorem dX0_cheapestKindOne_64 : decode cX0_cheapestKindOne 64 = .ok (.getfield 12, 3) := by decide +kernel
theorem dX0_cheapestKindOne_67 : decode cX0_cheapestKindOne 67 = .ok (.invokevirtual 41, 3) := by decide +kernel
theorem dX0_cheapestKindOne_70 : decode cX0_cheapestKindOne 70 = .ok (.istore 6, 2) := by decide +kernel
theorem dX0_cheapestKindOne_72 : decode cX0_cheapestKindOne 72 = .ok (.iload 6, 2) := by decide +kernel
theorem dX0_cheapestKindOne_74 : decode cX0_cheapestKindOne 74 = .ok (.iload_n 3, 1) := by decide +kernel
theorem dX0_cheapestKindOne_75 : decode cX0_cheapestKindOne 75 = .ok (.if_icmp .ge 15, 3) := by decide +kernel
theorem dX0_cheapestKindOne_78 : decode cX0_cheapestKindOne 78 = .ok (.bipush 10, 2) := by decide +kernel
theorem dX0_cheapestKindOne_80 : decode cX0_cheapestKindOne 80 = .ok (.iload 4, 2) := by decide +kernel
theorem dX0_cheapestKindOne_82 : decode cX0_cheapestKindOne 82 = .ok (.imul, 1) := by decide +kernel
theorem dX0_cheapestKindOne_83 : decode cX0_cheapestKindOne 83 = .ok (.iload 5, 2) := by decide +kernel
theorem dX0_cheapestKindOne_85 : decode cX0_cheapestKindOne 85 = .ok (.iadd, 1) := by decide +kernel
theorem dX0_cheapestKindOne_86 : decode cX0_cheapestKindOne 86 = .ok (.istore_n 2, 1) := by decide +kernel
theorem dX0_cheapestKindOne_87 : decode cX0_cheapestKindOne 87 = .ok (.iload 6, 2) := by decide +kernel
theorem dX0_cheapestKindOne_89 : decode cX0_cheapestKindOne 89 = .ok (.istore_n 3, 1) := by decide +kernel
theorem dX0_cheapestKindOne_90 : decode cX0_cheapestKindOne 90 = .ok (.iinc 5 1, 3) := by decide +kernel
theorem dX0_cheapestKindOne_93 : decode cX0_cheapestKindOne 93 = .ok (.goto (-50), 3) := by decide +kernel
theorem dX0_cheapestKindOne_96 : decode cX0_cheapestKindOne 96 = .ok (.iinc 4 1, 3) := by decide +kernel
theorem dX0_cheapestKindOne_99 : decode cX0_cheapestKindOne 99 = .ok (.goto (-87), 3) := by decide +kernel
theorem dX0_cheapestKindOne_102 : decode cX0_cheapestKindOne 102 = .ok (.iload_n 2, 1) := by decide +kernel
theorem dX0_cheapestKindOne_103 : decode cX0_cheapestKindOne 103 = .ok (.ireturn, 1) := by decide +kernel
theorem dX0_cheapestWithout_0 : decode cX0_cheapestWithout 0 = .ok (.bipush (-9), 2) := by decide +kernel
theorem dX0_cheapestWithout_2 : decode cX0_cheapestWithout 2 = .ok (.istore_n 2, 1) := by decide +kernel
theorem dX0_cheapestWithout_3 : decode cX0_cheapestWithout 3 = .ok (.iconst 0, 1) := by decide +kernel
theorem dX0_cheapestWithout_4 : decode cX0_cheapestWithout 4 = .ok (.istore_n 3, 1) := by decide +kernel
theorem dX0_cheapestWithout_5 : decode cX0_cheapestWithout 5 = .ok (.iconst 0, 1) := by decide +kernel
theorem dX0_cheapestWithout_6 : decode cX0_cheapestWithout 6 = .ok (.istore 4, 2) := by decide +kernel
theorem dX0_cheapestWithout_8 : decode cX0_cheapestWithout 8 = .ok (.iload 4, 2) := by decide +kernel
theorem dX0_cheapestWithout_10 : decode cX0_cheapestWithout 10 = .ok (.aload_n 1, 1) := by decide +kernel
theorem dX0_cheapestWithout_11 : decode cX0_cheapestWithout 11 = .ok (.getfield 44, 3) := by decide +kernel
theorem dX0_cheapestWithout_14 : decode cX0_cheapestWithout 14 = .ok (.if_icmp .ge 49, 3) := by decide +kernel
theorem dX0_cheapestWithout_17 : decode cX0_cheapestWithout 17 = .ok (.aload_n 0, 1) := by decide +kernel
theorem dX0_cheapestWithout_18 : decode cX0_cheapestWithout 18 = .ok (.getfield 21, 3) := by decide +kernel
theorem dX0_cheapestWithout_21 : decode cX0_cheapestWithout 21 = .ok (.aload_n 1, 1) := by decide +kernel
theorem dX0_cheapestWithout_22 : decode cX0_cheapestWithout 22 = .ok (.iconst 1, 1) := by decide +kernel
theorem dX0_cheapestWithout_23 : decode cX0_cheapestWithout 23 = .ok (.iload 4, 2) := by decide +kernel
theorem dX0_cheapestWithout_25 : decode cX0_cheapestWithout 25 = .ok (.ishl, 1) := by decide +kernel
theorem dX0_cheapestWithout_26 : decode cX0_cheapestWithout 26 = .ok (.invokevirtual 25, 3) := by decide +kernel
theorem dX0_cheapestWithout_29 : decode cX0_cheapestWithout 29 = .ok (.aload_n 0, 1) := by decide +kernel
theorem dX0_cheapestWithout_30 : decode cX0_cheapestWithout 30 = .ok (.getfield 21, 3) := by decide +kernel
theorem dX0_cheapestWithout_33 : decode cX0_cheapestWithout 33 = .ok (.aload_n 1, 1) := by decide +kernel
theorem dX0_cheapestWithout_34 : decode cX0_cheapestWithout 34 = .ok (.invokevirtual 29, 3) := by decide +kernel
theorem dX0_cheapestWithout_37 : decode cX0_cheapestWithout 37 = .ok (.istore 5, 2) := by decide +kernel
theorem dX0_cheapestWithout_39 : decode cX0_cheapestWithout 39 = .ok (.iload_n 2, 1) := by decide +kernel
theorem dX0_cheapestWithout_40 : decode cX0_cheapestWithout 40 = .ok (.bipush (-9), 2) := by decide +kernel
theorem dX0_cheapestWithout_42 : decode cX0_cheapestWithout 42 = .ok (.if_icmp .eq 9, 3) := by decide +kernel
theorem dX0_cheapestWithout_45 : decode cX0_cheapestWithout 45 = .ok (.iload 5, 2) := by decide +kernel
theorem dX0_cheapestWithout_47 : decode cX0_cheapestWithout 47 = .ok (.iload_n 3, 1) := by decide +kernel
theorem dX0_cheapestWithout_48 : decode cX0_cheapestWithout 48 = .ok (.if_icmp .ge 9, 3) := by decide +kernel
theorem dX0_cheapestWithout_51 : decode cX0_cheapestWithout 51 = .ok (.iload 4, 2) := by decide +kernel
theorem dX0_cheapestWithout_53 : decode cX0_cheapestWithout 53 = .ok (.istore_n 2, 1) := by decide +kernel
theorem dX0_cheapestWithout_54 : decode cX0_cheapestWithout 54 = .ok (.iload 5, 2) := by decide +kernel
theorem dX0_cheapestWithout_56 : decode cX0_cheapestWithout 56 = .ok (.istore_n 3, 1) := by decide +kernel
theorem dX0_cheapestWithout_57 : decode cX0_cheapestWithout 57 = .ok (.iinc 4 1, 3) := by decide +kernel
theorem dX0_cheapestWithout_60 : decode cX0_cheapestWithout 60 = .ok (.goto (-52), 3) := by decide +kernel
theorem dX0_cheapestWithout_63 : decode cX0_cheapestWithout 63 = .ok (.iload_n 2, 1) := by decide +kernel
theorem dX0_cheapestWithout_64 : decode cX0_cheapestWithout 64 = .ok (.ireturn, 1) := by decide +kernel
theorem dX0_leastWave_0 : decode cX0_leastWave 0 = .ok (.aload_n 0, 1) := by decide +kernel
theorem dX0_leastWave_1 : decode cX0_leastWave 1 = .ok (.getfield 12, 3) := by decide +kernel
theorem dX0_leastWave_4 : decode cX0_leastWave 4 = .ok (.aload_n 1, 1) := by decide +kernel
theorem dX0_leastWave_5 : decode cX0_leastWave 5 = .ok (.invokevirtual 33, 3) := by decide +kernel
theorem dX0_leastWave_8 : decode cX0_leastWave 8 = .ok (.iconst 0, 1) := by decide +kernel
theorem dX0_leastWave_9 : decode cX0_leastWave 9 = .ok (.istore_n 3, 1) := by decide +kernel
theorem dX0_leastWave_10 : decode cX0_leastWave 10 = .ok (.iload_n 3, 1) := by decide +kernel
theorem dX0_leastWave_11 : decode cX0_leastWave 11 = .ok (.bipush 9, 2) := by decide +kernel
theorem dX0_leastWave_13 : decode cX0_leastWave 13 = .ok (.if_icmp .gt 42, 3) := by decide +kernel
theorem dX0_leastWave_16 : decode cX0_leastWave 16 = .ok (.aload_n 0, 1) := by decide +kernel
theorem dX0_leastWave_17 : decode cX0_leastWave 17 = .ok (.getfield 12, 3) := by decide +kernel
theorem dX0_leastWave_20 : decode cX0_leastWave 20 = .ok (.iload_n 3, 1) := by decide +kernel
theorem dX0_leastWave_21 : decode cX0_leastWave 21 = .ok (.putfield 63, 3) := by decide +kernel
theorem dX0_leastWave_24 : decode cX0_leastWave 24 = .ok (.aload_n 0, 1) := by decide +kernel
theorem dX0_leastWave_25 : decode cX0_leastWave 25 = .ok (.getfield 21, 3) := by decide +kernel
theorem dX0_leastWave_28 : decode cX0_leastWave 28 = .ok (.aload_n 0, 1) := by decide +kernel
theorem dX0_leastWave_29 : decode cX0_leastWave 29 = .ok (.getfield 12, 3) := by decide +kernel
theorem dX0_leastWave_32 : decode cX0_leastWave 32 = .ok (.iconst 0, 1) := by decide +kernel
theorem dX0_leastWave_33 : decode cX0_leastWave 33 = .ok (.invokevirtual 25, 3) := by decide +kernel
theorem dX0_leastWave_36 : decode cX0_leastWave 36 = .ok (.aload_n 0, 1) := by decide +kernel
theorem dX0_leastWave_37 : decode cX0_leastWave 37 = .ok (.getfield 21, 3) := by decide +kernel
theorem dX0_leastWave_40 : decode cX0_leastWave 40 = .ok (.getfield 66, 3) := by decide +kernel
theorem dX0_leastWave_43 : decode cX0_leastWave 43 = .ok (.iload_n 2, 1) := by decide +kernel
theorem dX0_leastWave_44 : decode cX0_leastWave 44 = .ok (.if_icmp .lt 5, 3) := by decide +kernel
theorem dX0_leastWave_47 : decode cX0_leastWave 47 = .ok (.iload_n 3, 1) := by decide +kernel
theorem dX0_leastWave_48 : decode cX0_leastWave 48 = .ok (.ireturn, 1) := by decide +kernel
theorem dX0_leastWave_49 : decode cX0_leastWave 49 = .ok (.iinc 3 1, 3) := by decide +kernel
theorem dX0_leastWave_52 : decode cX0_leastWave 52 = .ok (.goto (-42), 3) := by decide +kernel
theorem dX0_leastWave_55 : decode cX0_leastWave 55 = .ok (.bipush (-9), 2) := by decide +kernel
theorem dX0_leastWave_57 : decode cX0_leastWave 57 = .ok (.ireturn, 1) := by decide +kernel
theorem dX0_fewestTurned_0 : decode cX0_fewestTurned 0 = .ok (.aload_n 0, 1) := by decide +kernel
theorem dX0_fewestTurned_1 : decode cX0_fewestTurned 1 = .ok (.aload_n 1, 1) := by decide +kernel
theorem dX0_fewestTurned_2 : decode cX0_fewestTurned 2 = .ok (.iload_n 2, 1) := by decide +kernel
theorem dX0_fewestTurned_3 : decode cX0_fewestTurned 3 = .ok (.invokevirtual 69, 3) := by decide +kernel
theorem dX0_fewestTurned_6 : decode cX0_fewestTurned 6 = .ok (.istore_n 3, 1) := by decide +kernel
theorem dX0_fewestTurned_7 : decode cX0_fewestTurned 7 = .ok (.iconst 1, 1) := by decide +kernel
theorem dX0_fewestTurned_8 : decode cX0_fewestTurned 8 = .ok (.aload_n 1, 1) := by decide +kernel
theorem dX0_fewestTurned_9 : decode cX0_fewestTurned 9 = .ok (.getfield 44, 3) := by decide +kernel
theorem dX0_fewestTurned_12 : decode cX0_fewestTurned 12 = .ok (.ishl, 1) := by decide +kernel
theorem dX0_fewestTurned_13 : decode cX0_fewestTurned 13 = .ok (.istore 4, 2) := by decide +kernel
theorem dX0_fewestTurned_15 : decode cX0_fewestTurned 15 = .ok (.iconst 1, 1) := by decide +kernel
theorem dX0_fewestTurned_16 : decode cX0_fewestTurned 16 = .ok (.istore 5, 2) := by decide +kernel
theorem dX0_fewestTurned_18 : decode cX0_fewestTurned 18 = .ok (.iload 5, 2) := by decide +kernel
theorem dX0_fewestTurned_20 : decode cX0_fewestTurned 20 = .ok (.aload_n 1, 1) := by decide +kernel
theorem dX0_fewestTurned_21 : decode cX0_fewestTurned 21 = .ok (.getfield 44, 3) := by decide +kernel
theorem dX0_fewestTurned_24 : decode cX0_fewestTurned 24 = .ok (.if_icmp .gt 50, 3) := by decide +kernel
theorem dX0_fewestTurned_27 : decode cX0_fewestTurned 27 = .ok (.iconst 1, 1) := by decide +kernel
theorem dX0_fewestTurned_28 : decode cX0_fewestTurned 28 = .ok (.istore 6, 2) := by decide +kernel
theorem dX0_fewestTurned_30 : decode cX0_fewestTurned 30 = .ok (.iload 6, 2) := by decide +kernel
theorem dX0_fewestTurned_32 : decode cX0_fewestTurned 32 = .ok (.iload 4, 2) := by decide +kernel
theorem dX0_fewestTurned_34 : decode cX0_fewestTurned 34 = .ok (.if_icmp .ge 34, 3) := by decide +kernel
theorem dX0_fewestTurned_37 : decode cX0_fewestTurned 37 = .ok (.iload 6, 2) := by decide +kernel
theorem dX0_fewestTurned_39 : decode cX0_fewestTurned 39 = .ok (.invokestatic 73, 3) := by decide +kernel
theorem dX0_fewestTurned_42 : decode cX0_fewestTurned 42 = .ok (.iload 5, 2) := by decide +kernel
theorem dX0_fewestTurned_44 : decode cX0_fewestTurned 44 = .ok (.if_icmp .ne 18, 3) := by decide +kernel
theorem dX0_fewestTurned_47 : decode cX0_fewestTurned 47 = .ok (.aload_n 0, 1) := by decide +kernel
theorem dX0_fewestTurned_48 : decode cX0_fewestTurned 48 = .ok (.aload_n 1, 1) := by decide +kernel
theorem dX0_fewestTurned_49 : decode cX0_fewestTurned 49 = .ok (.iload 6, 2) := by decide +kernel
theorem dX0_fewestTurned_51 : decode cX0_fewestTurned 51 = .ok (.iload_n 2, 1) := by decide +kernel
theorem dX0_fewestTurned_52 : decode cX0_fewestTurned 52 = .ok (.iload_n 3, 1) := by decide +kernel
theorem dX0_fewestTurned_53 : decode cX0_fewestTurned 53 = .ok (.invokevirtual 79, 3) := by decide +kernel
theorem dX0_fewestTurned_56 : decode cX0_fewestTurned 56 = .ok (.ifCond .eq 6, 3) := by decide +kernel
theorem dX0_fewestTurned_59 : decode cX0_fewestTurned 59 = .ok (.iload 6, 2) := by decide +kernel
theorem dX0_fewestTurned_61 : decode cX0_fewestTurned 61 = .ok (.ireturn, 1) := by decide +kernel
theorem dX0_fewestTurned_62 : decode cX0_fewestTurned 62 = .ok (.iinc 6 1, 3) := by decide +kernel
theorem dX0_fewestTurned_65 : decode cX0_fewestTurned 65 = .ok (.goto (-35), 3) := by decide +kernel
theorem dX0_fewestTurned_68 : decode cX0_fewestTurned 68 = .ok (.iinc 5 1, 3) := by decide +kernel
theorem dX0_fewestTurned_71 : decode cX0_fewestTurned 71 = .ok (.goto (-53), 3) := by decide +kernel
theorem dX0_fewestTurned_74 : decode cX0_fewestTurned 74 = .ok (.bipush (-9), 2) := by decide +kernel
theorem dX0_fewestTurned_76 : decode cX0_fewestTurned 76 = .ok (.ireturn, 1) := by decide +kernel
theorem dX0_measured_0 : decode cX0_measured 0 = .ok (.aload_n 0, 1) := by decide +kernel
theorem dX0_measured_1 : decode cX0_measured 1 = .ok (.getfield 21, 3) := by decide +kernel
theorem dX0_measured_4 : decode cX0_measured 4 = .ok (.aload_n 1, 1) := by decide +kernel
theorem dX0_measured_5 : decode cX0_measured 5 = .ok (.iconst 0, 1) := by decide +kernel
theorem dX0_measured_6 : decode cX0_measured 6 = .ok (.invokevirtual 25, 3) := by decide +kernel
theorem dX0_measured_9 : decode cX0_measured 9 = .ok (.iload_n 2, 1) := by decide +kernel
theorem dX0_measured_10 : decode cX0_measured 10 = .ok (.ifCond .eq 14, 3) := by decide +kernel
theorem dX0_measured_13 : decode cX0_measured 13 = .ok (.aload_n 0, 1) := by decide +kernel
theorem dX0_measured_14 : decode cX0_measured 14 = .ok (.getfield 21, 3) := by decide +kernel
theorem dX0_measured_17 : decode cX0_measured 17 = .ok (.aload_n 1, 1) := by decide +kernel
theorem dX0_measured_18 : decode cX0_measured 18 = .ok (.invokevirtual 29, 3) := by decide +kernel
theorem dX0_measured_21 : decode cX0_measured 21 = .ok (.goto 10, 3) := by decide +kernel
theorem dX0_measured_24 : decode cX0_measured 24 = .ok (.aload_n 0, 1) := by decide +kernel
theorem dX0_measured_25 : decode cX0_measured 25 = .ok (.getfield 21, 3) := by decide +kernel
theorem dX0_measured_28 : decode cX0_measured 28 = .ok (.getfield 66, 3) := by decide +kernel
theorem dX0_measured_31 : decode cX0_measured 31 = .ok (.ireturn, 1) := by decide +kernel
theorem dX0_isReached_0 : decode cX0_isReached 0 = .ok (.iload_n 3, 1) := by decide +kernel
theorem dX0_isReached_1 : decode cX0_isReached 1 = .ok (.ifCond .eq 7, 3) := by decide +kernel
theorem dX0_isReached_4 : decode cX0_isReached 4 = .ok (.iconst 5, 1) := by decide +kernel
theorem dX0_isReached_5 : decode cX0_isReached 5 = .ok (.goto 4, 3) := by decide +kernel
theorem dX0_isReached_8 : decode cX0_isReached 8 = .ok (.iconst 2, 1) := by decide +kernel
theorem dX0_isReached_9 : decode cX0_isReached 9 = .ok (.istore 5, 2) := by decide +kernel
theorem dX0_isReached_11 : decode cX0_isReached 11 = .ok (.aload_n 0, 1) := by decide +kernel
theorem dX0_isReached_12 : decode cX0_isReached 12 = .ok (.getfield 12, 3) := by decide +kernel
theorem dX0_isReached_15 : decode cX0_isReached 15 = .ok (.aload_n 1, 1) := by decide +kernel
theorem dX0_isReached_16 : decode cX0_isReached 16 = .ok (.invokevirtual 33, 3) := by decide +kernel
theorem dX0_isReached_19 : decode cX0_isReached 19 = .ok (.iconst 0, 1) := by decide +kernel
theorem dX0_isReached_20 : decode cX0_isReached 20 = .ok (.istore 6, 2) := by decide +kernel
theorem dX0_isReached_22 : decode cX0_isReached 22 = .ok (.iload 6, 2) := by decide +kernel
theorem dX0_isReached_24 : decode cX0_isReached 24 = .ok (.aload_n 0, 1) := by decide +kernel
theorem dX0_isReached_25 : decode cX0_isReached 25 = .ok (.getfield 12, 3) := by decide +kernel
theorem dX0_isReached_28 : decode cX0_isReached 28 = .ok (.getfield 44, 3) := by decide +kernel
theorem dX0_isReached_31 : decode cX0_isReached 31 = .ok (.if_icmp .ge 30, 3) := by decide +kernel
theorem dX0_isReached_34 : decode cX0_isReached 34 = .ok (.iload_n 2, 1) := by decide +kernel
theorem dX0_isReached_35 : decode cX0_isReached 35 = .ok (.iload 6, 2) := by decide +kernel
theorem dX0_isReached_37 : decode cX0_isReached 37 = .ok (.ishr, 1) := by decide +kernel
theorem dX0_isReached_38 : decode cX0_isReached 38 = .ok (.iconst 1, 1) := by decide +kernel
theorem dX0_isReached_39 : decode cX0_isReached 39 = .ok (.iand, 1) := by decide +kernel
theorem dX0_isReached_40 : decode cX0_isReached 40 = .ok (.ifCond .eq 15, 3) := by decide +kernel
theorem dX0_isReached_43 : decode cX0_isReached 43 = .ok (.aload_n 0, 1) := by decide +kernel
theorem dX0_isReached_44 : decode cX0_isReached 44 = .ok (.getfield 12, 3) := by decide +kernel
theorem dX0_isReached_47 : decode cX0_isReached 47 = .ok (.getfield 54, 3) := by decide +kernel
theorem dX0_isReached_50 : decode cX0_isReached 50 = .ok (.iload 6, 2) := by decide +kernel
theorem dX0_isReached_52 : decode cX0_isReached 52 = .ok (.iload 5, 2) := by decide +kernel
theorem dX0_isReached_54 : decode cX0_isReached 54 = .ok (.iastore, 1) := by decide +kernel
theorem dX0_isReached_55 : decode cX0_isReached 55 = .ok (.iinc 6 1, 3) := by decide +kernel
theorem dX0_isReached_58 : decode cX0_isReached 58 = .ok (.goto (-36), 3) := by decide +kernel
theorem dX0_isReached_61 : decode cX0_isReached 61 = .ok (.aload_n 0, 1) := by decide +kernel
theorem dX0_isReached_62 : decode cX0_isReached 62 = .ok (.aload_n 0, 1) := by decide +kernel
theorem dX0_isReached_63 : decode cX0_isReached 63 = .ok (.getfield 12, 3) := by decide +kernel
theorem dX0_isReached_66 : decode cX0_isReached 66 = .ok (.iload_n 3, 1) := by decide +kernel
theorem dX0_isReached_67 : decode cX0_isReached 67 = .ok (.invokevirtual 69, 3) := by decide +kernel
theorem dX0_isReached_70 : decode cX0_isReached 70 = .ok (.istore 6, 2) := by decide +kernel
theorem dX0_isReached_72 : decode cX0_isReached 72 = .ok (.iload_n 3, 1) := by decide +kernel
theorem dX0_isReached_73 : decode cX0_isReached 73 = .ok (.ifCond .eq 18, 3) := by decide +kernel
theorem dX0_isReached_76 : decode cX0_isReached 76 = .ok (.iload 6, 2) := by decide +kernel
theorem dX0_isReached_78 : decode cX0_isReached 78 = .ok (.iload 4, 2) := by decide +kernel
theorem dX0_isReached_80 : decode cX0_isReached 80 = .ok (.if_icmp .ge 7, 3) := by decide +kernel
theorem dX0_isReached_83 : decode cX0_isReached 83 = .ok (.iconst 1, 1) := by decide +kernel
theorem dX0_isReached_84 : decode cX0_isReached 84 = .ok (.goto 19, 3) := by decide +kernel
theorem dX0_isReached_87 : decode cX0_isReached 87 = .ok (.iconst 0, 1) := by decide +kernel
theorem dX0_isReached_88 : decode cX0_isReached 88 = .ok (.goto 15, 3) := by decide +kernel
theorem dX0_isReached_91 : decode cX0_isReached 91 = .ok (.iload 6, 2) := by decide +kernel
theorem dX0_isReached_93 : decode cX0_isReached 93 = .ok (.iload 4, 2) := by decide +kernel
theorem dX0_isReached_95 : decode cX0_isReached 95 = .ok (.if_icmp .le 7, 3) := by decide +kernel
theorem dX0_isReached_98 : decode cX0_isReached 98 = .ok (.iconst 1, 1) := by decide +kernel
theorem dX0_isReached_99 : decode cX0_isReached 99 = .ok (.goto 4, 3) := by decide +kernel
theorem dX0_isReached_102 : decode cX0_isReached 102 = .ok (.iconst 0, 1) := by decide +kernel
theorem dX0_isReached_103 : decode cX0_isReached 103 = .ok (.ireturn, 1) := by decide +kernel
theorem dX0_fewestGone_0 : decode cX0_fewestGone 0 = .ok (.iconst 1, 1) := by decide +kernel
theorem dX0_fewestGone_1 : decode cX0_fewestGone 1 = .ok (.aload_n 1, 1) := by decide +kernel
theorem dX0_fewestGone_2 : decode cX0_fewestGone 2 = .ok (.getfield 44, 3) := by decide +kernel
theorem dX0_fewestGone_5 : decode cX0_fewestGone 5 = .ok (.ishl, 1) := by decide +kernel
theorem dX0_fewestGone_6 : decode cX0_fewestGone 6 = .ok (.istore_n 3, 1) := by decide +kernel
theorem dX0_fewestGone_7 : decode cX0_fewestGone 7 = .ok (.iconst 0, 1) := by decide +kernel
theorem dX0_fewestGone_8 : decode cX0_fewestGone 8 = .ok (.istore 4, 2) := by decide +kernel
theorem dX0_fewestGone_10 : decode cX0_fewestGone 10 = .ok (.iload 4, 2) := by decide +kernel
theorem dX0_fewestGone_12 : decode cX0_fewestGone 12 = .ok (.aload_n 1, 1) := by decide +kernel
theorem dX0_fewestGone_13 : decode cX0_fewestGone 13 = .ok (.getfield 44, 3) := by decide +kernel
theorem dX0_fewestGone_16 : decode cX0_fewestGone 16 = .ok (.if_icmp .gt 48, 3) := by decide +kernel
theorem dX0_fewestGone_19 : decode cX0_fewestGone 19 = .ok (.iconst 0, 1) := by decide +kernel
theorem dX0_fewestGone_20 : decode cX0_fewestGone 20 = .ok (.istore 5, 2) := by decide +kernel
theorem dX0_fewestGone_22 : decode cX0_fewestGone 22 = .ok (.iload 5, 2) := by decide +kernel
theorem dX0_fewestGone_24 : decode cX0_fewestGone 24 = .ok (.iload_n 3, 1) := by decide +kernel
theorem dX0_fewestGone_25 : decode cX0_fewestGone 25 = .ok (.if_icmp .ge 33, 3) := by decide +kernel
theorem dX0_fewestGone_28 : decode cX0_fewestGone 28 = .ok (.iload 5, 2) := by decide +kernel
theorem dX0_fewestGone_30 : decode cX0_fewestGone 30 = .ok (.invokestatic 73, 3) := by decide +kernel
theorem dX0_fewestGone_33 : decode cX0_fewestGone 33 = .ok (.iload 4, 2) := by decide +kernel
theorem dX0_fewestGone_35 : decode cX0_fewestGone 35 = .ok (.if_icmp .ne 17, 3) := by decide +kernel
theorem dX0_fewestGone_38 : decode cX0_fewestGone 38 = .ok (.aload_n 0, 1) := by decide +kernel
theorem dX0_fewestGone_39 : decode cX0_fewestGone 39 = .ok (.aload_n 1, 1) := by decide +kernel
theorem dX0_fewestGone_40 : decode cX0_fewestGone 40 = .ok (.iload 5, 2) := by decide +kernel
theorem dX0_fewestGone_42 : decode cX0_fewestGone 42 = .ok (.iload_n 2, 1) := by decide +kernel
theorem dX0_fewestGone_43 : decode cX0_fewestGone 43 = .ok (.invokevirtual 83, 3) := by decide +kernel
theorem dX0_fewestGone_46 : decode cX0_fewestGone 46 = .ok (.ifCond .eq 6, 3) := by decide +kernel
theorem dX0_fewestGone_49 : decode cX0_fewestGone 49 = .ok (.iload 5, 2) := by decide +kernel
theorem dX0_fewestGone_51 : decode cX0_fewestGone 51 = .ok (.ireturn, 1) := by decide +kernel
theorem dX0_fewestGone_52 : decode cX0_fewestGone 52 = .ok (.iinc 5 1, 3) := by decide +kernel
theorem dX0_fewestGone_55 : decode cX0_fewestGone 55 = .ok (.goto (-33), 3) := by decide +kernel
theorem dX0_fewestGone_58 : decode cX0_fewestGone 58 = .ok (.iinc 4 1, 3) := by decide +kernel
theorem dX0_fewestGone_61 : decode cX0_fewestGone 61 = .ok (.goto (-51), 3) := by decide +kernel
theorem dX0_fewestGone_64 : decode cX0_fewestGone 64 = .ok (.iload_n 3, 1) := by decide +kernel
theorem dX0_fewestGone_65 : decode cX0_fewestGone 65 = .ok (.iconst 1, 1) := by decide +kernel
theorem dX0_fewestGone_66 : decode cX0_fewestGone 66 = .ok (.isub, 1) := by decide +kernel
theorem dX0_fewestGone_67 : decode cX0_fewestGone 67 = .ok (.ireturn, 1) := by decide +kernel
theorem dX0_isWithin_0 : decode cX0_isWithin 0 = .ok (.aload_n 0, 1) := by decide +kernel
theorem dX0_isWithin_1 : decode cX0_isWithin 1 = .ok (.getfield 21, 3) := by decide +kernel
theorem dX0_isWithin_4 : decode cX0_isWithin 4 = .ok (.aload_n 1, 1) := by decide +kernel
theorem dX0_isWithin_5 : decode cX0_isWithin 5 = .ok (.iload_n 2, 1) := by decide +kernel
theorem dX0_isWithin_6 : decode cX0_isWithin 6 = .ok (.invokevirtual 25, 3) := by decide +kernel
theorem dX0_isWithin_9 : decode cX0_isWithin 9 = .ok (.aload_n 0, 1) := by decide +kernel
theorem dX0_isWithin_10 : decode cX0_isWithin 10 = .ok (.getfield 21, 3) := by decide +kernel
theorem dX0_isWithin_13 : decode cX0_isWithin 13 = .ok (.getfield 66, 3) := by decide +kernel
theorem dX0_isWithin_16 : decode cX0_isWithin 16 = .ok (.iload_n 3, 1) := by decide +kernel
theorem dX0_isWithin_17 : decode cX0_isWithin 17 = .ok (.if_icmp .gt 7, 3) := by decide +kernel
theorem dX0_isWithin_20 : decode cX0_isWithin 20 = .ok (.iconst 1, 1) := by decide +kernel
theorem dX0_isWithin_21 : decode cX0_isWithin 21 = .ok (.goto 4, 3) := by decide +kernel
theorem dX0_isWithin_24 : decode cX0_isWithin 24 = .ok (.iconst 0, 1) := by decide +kernel
theorem dX0_isWithin_25 : decode cX0_isWithin 25 = .ok (.ireturn, 1) := by decide +kernel
theorem dX1_init_0 : decode cX1_init 0 = .ok (.aload_n 0, 1) := by decide +kernel
theorem dX1_init_1 : decode cX1_init 1 = .ok (.invokespecial 3, 3) := by decide +kernel
theorem dX1_init_4 : decode cX1_init 4 = .ok (.aload_n 0, 1) := by decide +kernel
theorem dX1_init_5 : decode cX1_init 5 = .ok (.new 9, 3) := by decide +kernel
theorem dX1_init_8 : decode cX1_init 8 = .ok (.dup, 1) := by decide +kernel
theorem dX1_init_9 : decode cX1_init 9 = .ok (.invokespecial 11, 3) := by decide +kernel
theorem dX1_init_12 : decode cX1_init 12 = .ok (.putfield 12, 3) := by decide +kernel
theorem dX1_init_15 : decode cX1_init 15 = .ok (.aload_n 0, 1) := by decide +kernel
theorem dX1_init_16 : decode cX1_init 16 = .ok (.new 18, 3) := by decide +kernel
theorem dX1_init_19 : decode cX1_init 19 = .ok (.dup, 1) := by decide +kernel
theorem dX1_init_20 : decode cX1_init 20 = .ok (.invokespecial 20, 3) := by decide +kernel
theorem dX1_init_23 : decode cX1_init 23 = .ok (.putfield 21, 3) := by decide +kernel
theorem dX1_init_26 : decode cX1_init 26 = .ok (.aload_n 0, 1) := by decide +kernel
theorem dX1_init_27 : decode cX1_init 27 = .ok (.iconst 4, 1) := by decide +kernel
theorem dX1_init_28 : decode cX1_init 28 = .ok (.newarray .int, 2) := by decide +kernel
theorem dX1_init_30 : decode cX1_init 30 = .ok (.putfield 25, 3) := by decide +kernel
theorem dX1_init_33 : decode cX1_init 33 = .ok (.aload_n 0, 1) := by decide +kernel
theorem dX1_init_34 : decode cX1_init 34 = .ok (.iconst 4, 1) := by decide +kernel
theorem dX1_init_35 : decode cX1_init 35 = .ok (.newarray .int, 2) := by decide +kernel
theorem dX1_init_37 : decode cX1_init 37 = .ok (.putfield 29, 3) := by decide +kernel
theorem dX1_init_40 : decode cX1_init 40 = .ok (.aload_n 0, 1) := by decide +kernel
theorem dX1_init_41 : decode cX1_init 41 = .ok (.iconst 0, 1) := by decide +kernel
theorem dX1_init_42 : decode cX1_init 42 = .ok (.putfield 32, 3) := by decide +kernel
theorem dX1_init_45 : decode cX1_init 45 = .ok (.return_, 1) := by decide +kernel
theorem dX1_loss_0 : decode cX1_loss 0 = .ok (.aload_n 0, 1) := by decide +kernel
theorem dX1_loss_1 : decode cX1_loss 1 = .ok (.getfield 21, 3) := by decide +kernel
theorem dX1_loss_4 : decode cX1_loss 4 = .ok (.aload_n 1, 1) := by decide +kernel
theorem dX1_loss_5 : decode cX1_loss 5 = .ok (.iconst 0, 1) := by decide +kernel
theorem dX1_loss_6 : decode cX1_loss 6 = .ok (.invokevirtual 36, 3) := by decide +kernel
theorem dX1_loss_9 : decode cX1_loss 9 = .ok (.aload_n 0, 1) := by decide +kernel
theorem dX1_loss_10 : decode cX1_loss 10 = .ok (.getfield 21, 3) := by decide +kernel
theorem dX1_loss_13 : decode cX1_loss 13 = .ok (.getfield 40, 3) := by decide +kernel
theorem dX1_loss_16 : decode cX1_loss 16 = .ok (.iload_n 2, 1) := by decide +kernel
theorem dX1_loss_17 : decode cX1_loss 17 = .ok (.iaload, 1) := by decide +kernel
theorem dX1_loss_18 : decode cX1_loss 18 = .ok (.istore 4, 2) := by decide +kernel
theorem dX1_loss_20 : decode cX1_loss 20 = .ok (.aload_n 0, 1) := by decide +kernel
theorem dX1_loss_21 : decode cX1_loss 21 = .ok (.getfield 21, 3) := by decide +kernel
theorem dX1_loss_24 : decode cX1_loss 24 = .ok (.aload_n 1, 1) := by decide +kernel
theorem dX1_loss_25 : decode cX1_loss 25 = .ok (.iconst 1, 1) := by decide +kernel
theorem dX1_loss_26 : decode cX1_loss 26 = .ok (.iload_n 3, 1) := by decide +kernel
theorem dX1_loss_27 : decode cX1_loss 27 = .ok (.ishl, 1) := by decide +kernel
theorem dX1_loss_28 : decode cX1_loss 28 = .ok (.invokevirtual 36, 3) := by decide +kernel
theorem dX1_loss_31 : decode cX1_loss 31 = .ok (.iload 4, 2) := by decide +kernel
theorem dX1_loss_33 : decode cX1_loss 33 = .ok (.aload_n 0, 1) := by decide +kernel
theorem dX1_loss_34 : decode cX1_loss 34 = .ok (.getfield 21, 3) := by decide +kernel
theorem dX1_loss_37 : decode cX1_loss 37 = .ok (.getfield 40, 3) := by decide +kernel
theorem dX1_loss_40 : decode cX1_loss 40 = .ok (.iload_n 2, 1) := by decide +kernel
theorem dX1_loss_41 : decode cX1_loss 41 = .ok (.iaload, 1) := by decide +kernel
theorem dX1_loss_42 : decode cX1_loss 42 = .ok (.isub, 1) := by decide +kernel
theorem dX1_loss_43 : decode cX1_loss 43 = .ok (.ireturn, 1) := by decide +kernel
theorem dX1_greatestLossBy_0 : decode cX1_greatestLossBy 0 = .ok (.bipush (-9), 2) := by decide +kernel
theorem dX1_greatestLossBy_2 : decode cX1_greatestLossBy 2 = .ok (.istore_n 3, 1) := by decide +kernel
theorem dX1_greatestLossBy_3 : decode cX1_greatestLossBy 3 = .ok (.iconst 0, 1) := by decide +kernel
theorem dX1_greatestLossBy_4 : decode cX1_greatestLossBy 4 = .ok (.istore 4, 2) := by decide +kernel
theorem dX1_greatestLossBy_6 : decode cX1_greatestLossBy 6 = .ok (.iconst 0, 1) := by decide +kernel
theorem dX1_greatestLossBy_7 : decode cX1_greatestLossBy 7 = .ok (.istore 5, 2) := by decide +kernel
theorem dX1_greatestLossBy_9 : decode cX1_greatestLossBy 9 = .ok (.iload 5, 2) := by decide +kernel
theorem dX1_greatestLossBy_11 : decode cX1_greatestLossBy 11 = .ok (.aload_n 1, 1) := by decide +kernel
theorem dX1_greatestLossBy_12 : decode cX1_greatestLossBy 12 = .ok (.getfield 43, 3) := by decide +kernel
theorem dX1_greatestLossBy_15 : decode cX1_greatestLossBy 15 = .ok (.if_icmp .ge 48, 3) := by decide +kernel
theorem dX1_greatestLossBy_18 : decode cX1_greatestLossBy 18 = .ok (.iload 5, 2) := by decide +kernel
theorem dX1_greatestLossBy_20 : decode cX1_greatestLossBy 20 = .ok (.iload_n 2, 1) := by decide +kernel
theorem dX1_greatestLossBy_21 : decode cX1_greatestLossBy 21 = .ok (.if_icmp .ne 6, 3) := by decide +kernel
theorem dX1_greatestLossBy_24 : decode cX1_greatestLossBy 24 = .ok (.goto 33, 3) := by decide +kernel
theorem dX1_greatestLossBy_27 : decode cX1_greatestLossBy 27 = .ok (.aload_n 0, 1) := by decide +kernel
theorem dX1_greatestLossBy_28 : decode cX1_greatestLossBy 28 = .ok (.aload_n 1, 1) := by decide +kernel
theorem dX1_greatestLossBy_29 : decode cX1_greatestLossBy 29 = .ok (.iload_n 2, 1) := by decide +kernel
theorem dX1_greatestLossBy_30 : decode cX1_greatestLossBy 30 = .ok (.iload 5, 2) := by decide +kernel
theorem dX1_greatestLossBy_32 : decode cX1_greatestLossBy 32 = .ok (.invokevirtual 46, 3) := by decide +kernel
theorem dX1_greatestLossBy_35 : decode cX1_greatestLossBy 35 = .ok (.istore 6, 2) := by decide +kernel
theorem dX1_greatestLossBy_37 : decode cX1_greatestLossBy 37 = .ok (.iload_n 3, 1) := by decide +kernel
theorem dX1_greatestLossBy_38 : decode cX1_greatestLossBy 38 = .ok (.bipush (-9), 2) := by decide +kernel
theorem dX1_greatestLossBy_40 : decode cX1_greatestLossBy 40 = .ok (.if_icmp .eq 10, 3) := by decide +kernel
theorem dX1_greatestLossBy_43 : decode cX1_greatestLossBy 43 = .ok (.iload 6, 2) := by decide +kernel
theorem dX1_greatestLossBy_45 : decode cX1_greatestLossBy 45 = .ok (.iload 4, 2) := by decide +kernel
theorem dX1_greatestLossBy_47 : decode cX1_greatestLossBy 47 = .ok (.if_icmp .le 10, 3) := by decide +kernel
theorem dX1_greatestLossBy_50 : decode cX1_greatestLossBy 50 = .ok (.iload 5, 2) := by decide +kernel
theorem dX1_greatestLossBy_52 : decode cX1_greatestLossBy 52 = .ok (.istore_n 3, 1) := by decide +kernel
theorem dX1_greatestLossBy_53 : decode cX1_greatestLossBy 53 = .ok (.iload 6, 2) := by decide +kernel
theorem dX1_greatestLossBy_55 : decode cX1_greatestLossBy 55 = .ok (.istore 4, 2) := by decide +kernel
theorem dX1_greatestLossBy_57 : decode cX1_greatestLossBy 57 = .ok (.iinc 5 1, 3) := by decide +kernel
theorem dX1_greatestLossBy_60 : decode cX1_greatestLossBy 60 = .ok (.goto (-51), 3) := by decide +kernel
theorem dX1_greatestLossBy_63 : decode cX1_greatestLossBy 63 = .ok (.iload_n 3, 1) := by decide +kernel
theorem dX1_greatestLossBy_64 : decode cX1_greatestLossBy 64 = .ok (.ireturn, 1) := by decide +kernel
theorem dX1_steadyPair_0 : decode cX1_steadyPair 0 = .ok (.iconst 0, 1) := by decide +kernel
theorem dX1_steadyPair_1 : decode cX1_steadyPair 1 = .ok (.istore 4, 2) := by decide +kernel
theorem dX1_steadyPair_3 : decode cX1_steadyPair 3 = .ok (.iload 4, 2) := by decide +kernel
theorem dX1_steadyPair_5 : decode cX1_steadyPair 5 = .ok (.iconst 4, 1) := by decide +kernel
theorem dX1_steadyPair_6 : decode cX1_steadyPair 6 = .ok (.if_icmp .ge 87, 3) := by decide +kernel
theorem dX1_steadyPair_9 : decode cX1_steadyPair 9 = .ok (.aload_n 0, 1) := by decide +kernel
theorem dX1_steadyPair_10 : decode cX1_steadyPair 10 = .ok (.getfield 12, 3) := by decide +kernel
theorem dX1_steadyPair_13 : decode cX1_steadyPair 13 = .ok (.aload_n 1, 1) := by decide +kernel
theorem dX1_steadyPair_14 : decode cX1_steadyPair 14 = .ok (.invokevirtual 50, 3) := by decide +kernel
theorem dX1_steadyPair_17 : decode cX1_steadyPair 17 = .ok (.aload_n 0, 1) := by decide +kernel
theorem dX1_steadyPair_18 : decode cX1_steadyPair 18 = .ok (.getfield 12, 3) := by decide +kernel
theorem dX1_steadyPair_21 : decode cX1_steadyPair 21 = .ok (.iload 4, 2) := by decide +kernel
theorem dX1_steadyPair_23 : decode cX1_steadyPair 23 = .ok (.iconst 1, 1) := by decide +kernel
theorem dX1_steadyPair_24 : decode cX1_steadyPair 24 = .ok (.ishr, 1) := by decide +kernel
theorem dX1_steadyPair_25 : decode cX1_steadyPair 25 = .ok (.iload_n 2, 1) := by decide +kernel
theorem dX1_steadyPair_26 : decode cX1_steadyPair 26 = .ok (.invokevirtual 54, 3) := by decide +kernel
theorem dX1_steadyPair_29 : decode cX1_steadyPair 29 = .ok (.pop, 1) := by decide +kernel
theorem dX1_steadyPair_30 : decode cX1_steadyPair 30 = .ok (.aload_n 0, 1) := by decide +kernel
theorem dX1_steadyPair_31 : decode cX1_steadyPair 31 = .ok (.getfield 12, 3) := by decide +kernel
theorem dX1_steadyPair_34 : decode cX1_steadyPair 34 = .ok (.iload 4, 2) := by decide +kernel
theorem dX1_steadyPair_36 : decode cX1_steadyPair 36 = .ok (.iconst 1, 1) := by decide +kernel
theorem dX1_steadyPair_37 : decode cX1_steadyPair 37 = .ok (.iand, 1) := by decide +kernel
theorem dX1_steadyPair_38 : decode cX1_steadyPair 38 = .ok (.iload_n 3, 1) := by decide +kernel
theorem dX1_steadyPair_39 : decode cX1_steadyPair 39 = .ok (.invokevirtual 54, 3) := by decide +kernel
theorem dX1_steadyPair_42 : decode cX1_steadyPair 42 = .ok (.pop, 1) := by decide +kernel
theorem dX1_steadyPair_43 : decode cX1_steadyPair 43 = .ok (.aload_n 0, 1) := by decide +kernel
theorem dX1_steadyPair_44 : decode cX1_steadyPair 44 = .ok (.getfield 21, 3) := by decide +kernel
theorem dX1_steadyPair_47 : decode cX1_steadyPair 47 = .ok (.aload_n 0, 1) := by decide +kernel
theorem dX1_steadyPair_48 : decode cX1_steadyPair 48 = .ok (.getfield 12, 3) := by decide +kernel
theorem dX1_steadyPair_51 : decode cX1_steadyPair 51 = .ok (.iconst 0, 1) := by decide +kernel
theorem dX1_steadyPair_52 : decode cX1_steadyPair 52 = .ok (.invokevirtual 36, 3) := by decide +kernel
theorem dX1_steadyPair_55 : decode cX1_steadyPair 55 = .ok (.aload_n 0, 1) := by decide +kernel
theorem dX1_steadyPair_56 : decode cX1_steadyPair 56 = .ok (.getfield 25, 3) := by decide +kernel
theorem dX1_steadyPair_59 : decode cX1_steadyPair 59 = .ok (.iload 4, 2) := by decide +kernel
theorem dX1_steadyPair_61 : decode cX1_steadyPair 61 = .ok (.aload_n 0, 1) := by decide +kernel
theorem dX1_steadyPair_62 : decode cX1_steadyPair 62 = .ok (.getfield 21, 3) := by decide +kernel
theorem dX1_steadyPair_65 : decode cX1_steadyPair 65 = .ok (.getfield 40, 3) := by decide +kernel
theorem dX1_steadyPair_68 : decode cX1_steadyPair 68 = .ok (.iload_n 2, 1) := by decide +kernel
theorem dX1_steadyPair_69 : decode cX1_steadyPair 69 = .ok (.iaload, 1) := by decide +kernel
theorem dX1_steadyPair_70 : decode cX1_steadyPair 70 = .ok (.iastore, 1) := by decide +kernel
theorem dX1_steadyPair_71 : decode cX1_steadyPair 71 = .ok (.aload_n 0, 1) := by decide +kernel
theorem dX1_steadyPair_72 : decode cX1_steadyPair 72 = .ok (.getfield 29, 3) := by decide +kernel
theorem dX1_steadyPair_75 : decode cX1_steadyPair 75 = .ok (.iload 4, 2) := by decide +kernel
theorem dX1_steadyPair_77 : decode cX1_steadyPair 77 = .ok (.aload_n 0, 1) := by decide +kernel
theorem dX1_steadyPair_78 : decode cX1_steadyPair 78 = .ok (.getfield 21, 3) := by decide +kernel
theorem dX1_steadyPair_81 : decode cX1_steadyPair 81 = .ok (.getfield 40, 3) := by decide +kernel
theorem dX1_steadyPair_84 : decode cX1_steadyPair 84 = .ok (.iload_n 3, 1) := by decide +kernel
theorem dX1_steadyPair_85 : decode cX1_steadyPair 85 = .ok (.iaload, 1) := by decide +kernel
theorem dX1_steadyPair_86 : decode cX1_steadyPair 86 = .ok (.iastore, 1) := by decide +kernel
theorem dX1_steadyPair_87 : decode cX1_steadyPair 87 = .ok (.iinc 4 1, 3) := by decide +kernel
theorem dX1_steadyPair_90 : decode cX1_steadyPair 90 = .ok (.goto (-87), 3) := by decide +kernel
theorem dX1_steadyPair_93 : decode cX1_steadyPair 93 = .ok (.iconst 0, 1) := by decide +kernel
theorem dX1_steadyPair_94 : decode cX1_steadyPair 94 = .ok (.istore 4, 2) := by decide +kernel
theorem dX1_steadyPair_96 : decode cX1_steadyPair 96 = .ok (.iload 4, 2) := by decide +kernel
theorem dX1_steadyPair_98 : decode cX1_steadyPair 98 = .ok (.iconst 4, 1) := by decide +kernel
theorem dX1_steadyPair_99 : decode cX1_steadyPair 99 = .ok (.if_icmp .ge 84, 3) := by decide +kernel
theorem dX1_steadyPair_102 : decode cX1_steadyPair 102 = .ok (.aload_n 0, 1) := by decide +kernel
theorem dX1_steadyPair_103 : decode cX1_steadyPair 103 = .ok (.getfield 25, 3) := by decide +kernel
theorem dX1_steadyPair_106 : decode cX1_steadyPair 106 = .ok (.iload 4, 2) := by decide +kernel
theorem dX1_steadyPair_108 : decode cX1_steadyPair 108 = .ok (.iaload, 1) := by decide +kernel
theorem dX1_steadyPair_109 : decode cX1_steadyPair 109 = .ok (.aload_n 0, 1) := by decide +kernel
theorem dX1_steadyPair_110 : decode cX1_steadyPair 110 = .ok (.getfield 25, 3) := by decide +kernel
theorem dX1_steadyPair_113 : decode cX1_steadyPair 113 = .ok (.iload 4, 2) := by decide +kernel
theorem dX1_steadyPair_115 : decode cX1_steadyPair 115 = .ok (.iconst 2, 1) := by decide +kernel
theorem dX1_steadyPair_116 : decode cX1_steadyPair 116 = .ok (.ixor, 1) := by decide +kernel
theorem dX1_steadyPair_117 : decode cX1_steadyPair 117 = .ok (.iaload, 1) := by decide +kernel
theorem dX1_steadyPair_118 : decode cX1_steadyPair 118 = .ok (.if_icmp .gt 7, 3) := by decide +kernel
theorem dX1_steadyPair_121 : decode cX1_steadyPair 121 = .ok (.iconst 1, 1) := by decide +kernel
theorem dX1_steadyPair_122 : decode cX1_steadyPair 122 = .ok (.goto 4, 3) := by decide +kernel
theorem dX1_steadyPair_125 : decode cX1_steadyPair 125 = .ok (.iconst 0, 1) := by decide +kernel
theorem dX1_steadyPair_126 : decode cX1_steadyPair 126 = .ok (.istore 5, 2) := by decide +kernel
theorem dX1_steadyPair_128 : decode cX1_steadyPair 128 = .ok (.aload_n 0, 1) := by decide +kernel
theorem dX1_steadyPair_129 : decode cX1_steadyPair 129 = .ok (.getfield 29, 3) := by decide +kernel
theorem dX1_steadyPair_132 : decode cX1_steadyPair 132 = .ok (.iload 4, 2) := by decide +kernel
theorem dX1_steadyPair_134 : decode cX1_steadyPair 134 = .ok (.iaload, 1) := by decide +kernel
theorem dX1_steadyPair_135 : decode cX1_steadyPair 135 = .ok (.aload_n 0, 1) := by decide +kernel
theorem dX1_steadyPair_136 : decode cX1_steadyPair 136 = .ok (.getfield 29, 3) := by decide +kernel
theorem dX1_steadyPair_139 : decode cX1_steadyPair 139 = .ok (.iload 4, 2) := by decide +kernel
theorem dX1_steadyPair_141 : decode cX1_steadyPair 141 = .ok (.iconst 1, 1) := by decide +kernel
theorem dX1_steadyPair_142 : decode cX1_steadyPair 142 = .ok (.ixor, 1) := by decide +kernel
theorem dX1_steadyPair_143 : decode cX1_steadyPair 143 = .ok (.iaload, 1) := by decide +kernel
theorem dX1_steadyPair_144 : decode cX1_steadyPair 144 = .ok (.if_icmp .gt 7, 3) := by decide +kernel
theorem dX1_steadyPair_147 : decode cX1_steadyPair 147 = .ok (.iconst 1, 1) := by decide +kernel
theorem dX1_steadyPair_148 : decode cX1_steadyPair 148 = .ok (.goto 4, 3) := by decide +kernel
theorem dX1_steadyPair_151 : decode cX1_steadyPair 151 = .ok (.iconst 0, 1) := by decide +kernel
theorem dX1_steadyPair_152 : decode cX1_steadyPair 152 = .ok (.istore 6, 2) := by decide +kernel
theorem dX1_steadyPair_154 : decode cX1_steadyPair 154 = .ok (.iload 5, 2) := by decide +kernel
theorem dX1_steadyPair_156 : decode cX1_steadyPair 156 = .ok (.ifCond .eq 21, 3) := by decide +kernel
theorem dX1_steadyPair_159 : decode cX1_steadyPair 159 = .ok (.iload 6, 2) := by decide +kernel
theorem dX1_steadyPair_161 : decode cX1_steadyPair 161 = .ok (.ifCond .eq 16, 3) := by decide +kernel
theorem dX1_steadyPair_164 : decode cX1_steadyPair 164 = .ok (.bipush 10, 2) := by decide +kernel
theorem dX1_steadyPair_166 : decode cX1_steadyPair 166 = .ok (.iload 4, 2) := by decide +kernel
theorem dX1_steadyPair_168 : decode cX1_steadyPair 168 = .ok (.iconst 1, 1) := by decide +kernel
theorem dX1_steadyPair_169 : decode cX1_steadyPair 169 = .ok (.ishr, 1) := by decide +kernel
theorem dX1_steadyPair_170 : decode cX1_steadyPair 170 = .ok (.imul, 1) := by decide +kernel
theorem dX1_steadyPair_171 : decode cX1_steadyPair 171 = .ok (.iload 4, 2) := by decide +kernel
theorem dX1_steadyPair_173 : decode cX1_steadyPair 173 = .ok (.iconst 1, 1) := by decide +kernel
theorem dX1_steadyPair_174 : decode cX1_steadyPair 174 = .ok (.iand, 1) := by decide +kernel
theorem dX1_steadyPair_175 : decode cX1_steadyPair 175 = .ok (.iadd, 1) := by decide +kernel
theorem dX1_steadyPair_176 : decode cX1_steadyPair 176 = .ok (.ireturn, 1) := by decide +kernel
theorem dX1_steadyPair_177 : decode cX1_steadyPair 177 = .ok (.iinc 4 1, 3) := by decide +kernel
theorem dX1_steadyPair_180 : decode cX1_steadyPair 180 = .ok (.goto (-84), 3) := by decide +kernel
theorem dX1_steadyPair_183 : decode cX1_steadyPair 183 = .ok (.bipush (-9), 2) := by decide +kernel
theorem dX1_steadyPair_185 : decode cX1_steadyPair 185 = .ok (.ireturn, 1) := by decide +kernel
theorem dX1_byLot_0 : decode cX1_byLot 0 = .ok (.aload_n 0, 1) := by decide +kernel
theorem dX1_byLot_1 : decode cX1_byLot 1 = .ok (.iload_n 3, 1) := by decide +kernel
theorem dX1_byLot_2 : decode cX1_byLot 2 = .ok (.putfield 32, 3) := by decide +kernel
theorem dX1_byLot_5 : decode cX1_byLot 5 = .ok (.iconst 0, 1) := by decide +kernel
theorem dX1_byLot_6 : decode cX1_byLot 6 = .ok (.istore 5, 2) := by decide +kernel
theorem dX1_byLot_8 : decode cX1_byLot 8 = .ok (.aload_n 0, 1) := by decide +kernel
theorem dX1_byLot_9 : decode cX1_byLot 9 = .ok (.getfield 12, 3) := by decide +kernel
theorem dX1_byLot_12 : decode cX1_byLot 12 = .ok (.aload_n 1, 1) := by decide +kernel
theorem dX1_byLot_13 : decode cX1_byLot 13 = .ok (.invokevirtual 50, 3) := by decide +kernel
theorem dX1_byLot_16 : decode cX1_byLot 16 = .ok (.iconst 0, 1) := by decide +kernel
theorem dX1_byLot_17 : decode cX1_byLot 17 = .ok (.istore 6, 2) := by decide +kernel
theorem dX1_byLot_19 : decode cX1_byLot 19 = .ok (.iload 6, 2) := by decide +kernel
theorem dX1_byLot_21 : decode cX1_byLot 21 = .ok (.iload_n 2, 1) := by decide +kernel
theorem dX1_byLot_22 : decode cX1_byLot 22 = .ok (.if_icmp .ge 87, 3) := by decide +kernel
theorem dX1_byLot_25 : decode cX1_byLot 25 = .ok (.iconst 0, 1) := by decide +kernel
theorem dX1_byLot_26 : decode cX1_byLot 26 = .ok (.istore 7, 2) := by decide +kernel
theorem dX1_byLot_28 : decode cX1_byLot 28 = .ok (.iload 7, 2) := by decide +kernel
theorem dX1_byLot_30 : decode cX1_byLot 30 = .ok (.aload_n 0, 1) := by decide +kernel
theorem dX1_byLot_31 : decode cX1_byLot 31 = .ok (.getfield 12, 3) := by decide +kernel
theorem dX1_byLot_34 : decode cX1_byLot 34 = .ok (.getfield 43, 3) := by decide +kernel
theorem dX1_byLot_37 : decode cX1_byLot 37 = .ok (.if_icmp .ge 23, 3) := by decide +kernel
theorem dX1_byLot_40 : decode cX1_byLot 40 = .ok (.aload_n 0, 1) := by decide +kernel
theorem dX1_byLot_41 : decode cX1_byLot 41 = .ok (.getfield 12, 3) := by decide +kernel
theorem dX1_byLot_44 : decode cX1_byLot 44 = .ok (.aload_n 0, 1) := by decide +kernel
theorem dX1_byLot_45 : decode cX1_byLot 45 = .ok (.invokevirtual 58, 3) := by decide +kernel
theorem dX1_byLot_48 : decode cX1_byLot 48 = .ok (.iload 7, 2) := by decide +kernel
theorem dX1_byLot_50 : decode cX1_byLot 50 = .ok (.invokevirtual 54, 3) := by decide +kernel
theorem dX1_byLot_53 : decode cX1_byLot 53 = .ok (.pop, 1) := by decide +kernel
theorem dX1_byLot_54 : decode cX1_byLot 54 = .ok (.iinc 7 1, 3) := by decide +kernel
theorem dX1_byLot_57 : decode cX1_byLot 57 = .ok (.goto (-29), 3) := by decide +kernel
theorem dX1_byLot_60 : decode cX1_byLot 60 = .ok (.aload_n 0, 1) := by decide +kernel
theorem dX1_byLot_61 : decode cX1_byLot 61 = .ok (.getfield 21, 3) := by decide +kernel
theorem dX1_byLot_64 : decode cX1_byLot 64 = .ok (.aload_n 0, 1) := by decide +kernel
theorem dX1_byLot_65 : decode cX1_byLot 65 = .ok (.getfield 12, 3) := by decide +kernel
theorem dX1_byLot_68 : decode cX1_byLot 68 = .ok (.iconst 0, 1) := by decide +kernel
theorem dX1_byLot_69 : decode cX1_byLot 69 = .ok (.invokevirtual 36, 3) := by decide +kernel
theorem dX1_byLot_72 : decode cX1_byLot 72 = .ok (.iload 5, 2) := by decide +kernel
theorem dX1_byLot_74 : decode cX1_byLot 74 = .ok (.iload 4, 2) := by decide +kernel
theorem dX1_byLot_76 : decode cX1_byLot 76 = .ok (.ifCond .eq 17, 3) := by decide +kernel
theorem dX1_byLot_79 : decode cX1_byLot 79 = .ok (.aload_n 0, 1) := by decide +kernel
theorem dX1_byLot_80 : decode cX1_byLot 80 = .ok (.getfield 21, 3) := by decide +kernel
theorem dX1_byLot_83 : decode cX1_byLot 83 = .ok (.aload_n 0, 1) := by decide +kernel
theorem dX1_byLot_84 : decode cX1_byLot 84 = .ok (.getfield 12, 3) := by decide +kernel
theorem dX1_byLot_87 : decode cX1_byLot 87 = .ok (.invokevirtual 62, 3) := by decide +kernel
theorem dX1_byLot_90 : decode cX1_byLot 90 = .ok (.goto 10, 3) := by decide +kernel
theorem dX1_byLot_93 : decode cX1_byLot 93 = .ok (.aload_n 0, 1) := by decide +kernel
theorem dX1_byLot_94 : decode cX1_byLot 94 = .ok (.getfield 21, 3) := by decide +kernel
theorem dX1_byLot_97 : decode cX1_byLot 97 = .ok (.getfield 66, 3) := by decide +kernel
theorem dX1_byLot_100 : decode cX1_byLot 100 = .ok (.iadd, 1) := by decide +kernel
theorem dX1_byLot_101 : decode cX1_byLot 101 = .ok (.istore 5, 2) := by decide +kernel
theorem dX1_byLot_103 : decode cX1_byLot 103 = .ok (.iinc 6 1, 3) := by decide +kernel
theorem dX1_byLot_106 : decode cX1_byLot 106 = .ok (.goto (-87), 3) := by decide +kernel
theorem dX1_byLot_109 : decode cX1_byLot 109 = .ok (.iload 5, 2) := by decide +kernel
theorem dX1_byLot_111 : decode cX1_byLot 111 = .ok (.ireturn, 1) := by decide +kernel
theorem dX1_drawLane_0 : decode cX1_drawLane 0 = .ok (.aload_n 0, 1) := by decide +kernel
theorem dX1_drawLane_1 : decode cX1_drawLane 1 = .ok (.aload_n 0, 1) := by decide +kernel
theorem dX1_drawLane_2 : decode cX1_drawLane 2 = .ok (.getfield 32, 3) := by decide +kernel
theorem dX1_drawLane_5 : decode cX1_drawLane 5 = .ok (.ldc 69, 2) := by decide +kernel
theorem dX1_drawLane_7 : decode cX1_drawLane 7 = .ok (.imul, 1) := by decide +kernel
theorem dX1_drawLane_8 : decode cX1_drawLane 8 = .ok (.ldc 70, 2) := by decide +kernel
theorem dX1_drawLane_10 : decode cX1_drawLane 10 = .ok (.iadd, 1) := by decide +kernel
theorem dX1_drawLane_11 : decode cX1_drawLane 11 = .ok (.putfield 32, 3) := by decide +kernel
theorem dX1_drawLane_14 : decode cX1_drawLane 14 = .ok (.aload_n 0, 1) := by decide +kernel
theorem dX1_drawLane_15 : decode cX1_drawLane 15 = .ok (.getfield 32, 3) := by decide +kernel
theorem dX1_drawLane_18 : decode cX1_drawLane 18 = .ok (.ldc 71, 2) := by decide +kernel
theorem dX1_drawLane_20 : decode cX1_drawLane 20 = .ok (.iand, 1) := by decide +kernel
theorem dX1_drawLane_21 : decode cX1_drawLane 21 = .ok (.sipush 256, 3) := by decide +kernel
theorem dX1_drawLane_24 : decode cX1_drawLane 24 = .ok (.idiv, 1) := by decide +kernel
theorem dX1_drawLane_25 : decode cX1_drawLane 25 = .ok (.iconst 2, 1) := by decide +kernel
theorem dX1_drawLane_26 : decode cX1_drawLane 26 = .ok (.irem, 1) := by decide +kernel
theorem dX1_drawLane_27 : decode cX1_drawLane 27 = .ok (.ireturn, 1) := by decide +kernel
theorem dX2_lettingIn_0 : decode cX2_lettingIn 0 = .ok (.iload_n 0, 1) := by decide +kernel
theorem dX2_lettingIn_1 : decode cX2_lettingIn 1 = .ok (.tableswitch 53 1 5 #[35, 37, 49, 53, 51], 35) := by decide +kernel
theorem dX2_lettingIn_36 : decode cX2_lettingIn 36 = .ok (.iload_n 1, 1) := by decide +kernel
theorem dX2_lettingIn_37 : decode cX2_lettingIn 37 = .ok (.ireturn, 1) := by decide +kernel
theorem dX2_lettingIn_38 : decode cX2_lettingIn 38 = .ok (.iload_n 2, 1) := by decide +kernel
theorem dX2_lettingIn_39 : decode cX2_lettingIn 39 = .ok (.ifCond .le 9, 3) := by decide +kernel
theorem dX2_lettingIn_42 : decode cX2_lettingIn 42 = .ok (.iload_n 2, 1) := by decide +kernel
theorem dX2_lettingIn_43 : decode cX2_lettingIn 43 = .ok (.iconst 1, 1) := by decide +kernel
theorem dX2_lettingIn_44 : decode cX2_lettingIn 44 = .ok (.isub, 1) := by decide +kernel
theorem dX2_lettingIn_45 : decode cX2_lettingIn 45 = .ok (.goto 4, 3) := by decide +kernel
theorem dX2_lettingIn_48 : decode cX2_lettingIn 48 = .ok (.iconst 0, 1) := by decide +kernel
theorem dX2_lettingIn_49 : decode cX2_lettingIn 49 = .ok (.ireturn, 1) := by decide +kernel
theorem dX2_lettingIn_50 : decode cX2_lettingIn 50 = .ok (.iconst 0, 1) := by decide +kernel
theorem dX2_lettingIn_51 : decode cX2_lettingIn 51 = .ok (.ireturn, 1) := by decide +kernel
theorem dX2_lettingIn_52 : decode cX2_lettingIn 52 = .ok (.iconst 1, 1) := by decide +kernel
theorem dX2_lettingIn_53 : decode cX2_lettingIn 53 = .ok (.ireturn, 1) := by decide +kernel
theorem dX2_lettingIn_54 : decode cX2_lettingIn 54 = .ok (.iload_n 2, 1) := by decide +kernel
theorem dX2_lettingIn_55 : decode cX2_lettingIn 55 = .ok (.ireturn, 1) := by decide +kernel
theorem dX2_secondsOf_0 : decode cX2_secondsOf 0 = .ok (.iload_n 0, 1) := by decide +kernel
theorem dX2_secondsOf_1 : decode cX2_secondsOf 1 = .ok (.tableswitch 33 2 4 #[27, 29, 31], 27) := by decide +kernel
theorem dX2_secondsOf_28 : decode cX2_secondsOf 28 = .ok (.iconst 1, 1) := by decide +kernel
theorem dX2_secondsOf_29 : decode cX2_secondsOf 29 = .ok (.ireturn, 1) := by decide +kernel
theorem dX2_secondsOf_30 : decode cX2_secondsOf 30 = .ok (.iconst 3, 1) := by decide +kernel
theorem dX2_secondsOf_31 : decode cX2_secondsOf 31 = .ok (.ireturn, 1) := by decide +kernel
theorem dX2_secondsOf_32 : decode cX2_secondsOf 32 = .ok (.iconst 4, 1) := by decide +kernel
theorem dX2_secondsOf_33 : decode cX2_secondsOf 33 = .ok (.ireturn, 1) := by decide +kernel
theorem dX2_secondsOf_34 : decode cX2_secondsOf 34 = .ok (.iconst 2, 1) := by decide +kernel
theorem dX2_secondsOf_35 : decode cX2_secondsOf 35 = .ok (.ireturn, 1) := by decide +kernel
theorem dX2_isPushing_0 : decode cX2_isPushing 0 = .ok (.iload_n 0, 1) := by decide +kernel
theorem dX2_isPushing_1 : decode cX2_isPushing 1 = .ok (.iconst 2, 1) := by decide +kernel
theorem dX2_isPushing_2 : decode cX2_isPushing 2 = .ok (.if_icmp .ne 7, 3) := by decide +kernel
theorem dX2_isPushing_5 : decode cX2_isPushing 5 = .ok (.iconst 1, 1) := by decide +kernel
theorem dX2_isPushing_6 : decode cX2_isPushing 6 = .ok (.goto 4, 3) := by decide +kernel
theorem dX2_isPushing_9 : decode cX2_isPushing 9 = .ok (.iconst 0, 1) := by decide +kernel
theorem dX2_isPushing_10 : decode cX2_isPushing 10 = .ok (.ireturn, 1) := by decide +kernel
theorem dX3_init_0 : decode cX3_init 0 = .ok (.aload_n 0, 1) := by decide +kernel
theorem dX3_init_1 : decode cX3_init 1 = .ok (.invokespecial 3, 3) := by decide +kernel
theorem dX3_init_4 : decode cX3_init 4 = .ok (.aload_n 0, 1) := by decide +kernel
theorem dX3_init_5 : decode cX3_init 5 = .ok (.bipush 9, 2) := by decide +kernel
theorem dX3_init_7 : decode cX3_init 7 = .ok (.newarray .int, 2) := by decide +kernel
theorem dX3_init_9 : decode cX3_init 9 = .ok (.putfield 9, 3) := by decide +kernel
theorem dX3_init_12 : decode cX3_init 12 = .ok (.aload_n 0, 1) := by decide +kernel
theorem dX3_init_13 : decode cX3_init 13 = .ok (.bipush 9, 2) := by decide +kernel
theorem dX3_init_15 : decode cX3_init 15 = .ok (.newarray .int, 2) := by decide +kernel
theorem dX3_init_17 : decode cX3_init 17 = .ok (.putfield 15, 3) := by decide +kernel
theorem dX3_init_20 : decode cX3_init 20 = .ok (.aload_n 0, 1) := by decide +kernel
theorem dX3_init_21 : decode cX3_init 21 = .ok (.bipush 9, 2) := by decide +kernel
theorem dX3_init_23 : decode cX3_init 23 = .ok (.newarray .int, 2) := by decide +kernel
theorem dX3_init_25 : decode cX3_init 25 = .ok (.putfield 18, 3) := by decide +kernel
theorem dX3_init_28 : decode cX3_init 28 = .ok (.aload_n 0, 1) := by decide +kernel
theorem dX3_init_29 : decode cX3_init 29 = .ok (.iconst 0, 1) := by decide +kernel
theorem dX3_init_30 : decode cX3_init 30 = .ok (.putfield 21, 3) := by decide +kernel
theorem dX3_init_33 : decode cX3_init 33 = .ok (.aload_n 0, 1) := by decide +kernel
theorem dX3_init_34 : decode cX3_init 34 = .ok (.iconst 0, 1) := by decide +kernel
theorem dX3_init_35 : decode cX3_init 35 = .ok (.putfield 25, 3) := by decide +kernel
theorem dX3_init_38 : decode cX3_init 38 = .ok (.aload_n 0, 1) := by decide +kernel
theorem dX3_init_39 : decode cX3_init 39 = .ok (.bipush 9, 2) := by decide +kernel
theorem dX3_init_41 : decode cX3_init 41 = .ok (.newarray .int, 2) := by decide +kernel
theorem dX3_init_43 : decode cX3_init 43 = .ok (.putfield 28, 3) := by decide +kernel
theorem dX3_init_46 : decode cX3_init 46 = .ok (.aload_n 0, 1) := by decide +kernel
theorem dX3_init_47 : decode cX3_init 47 = .ok (.bipush 9, 2) := by decide +kernel
theorem dX3_init_49 : decode cX3_init 49 = .ok (.newarray .int, 2) := by decide +kernel
theorem dX3_init_51 : decode cX3_init 51 = .ok (.putfield 31, 3) := by decide +kernel
theorem dX3_init_54 : decode cX3_init 54 = .ok (.aload_n 0, 1) := by decide +kernel
theorem dX3_init_55 : decode cX3_init 55 = .ok (.iconst 0, 1) := by decide +kernel
theorem dX3_init_56 : decode cX3_init 56 = .ok (.putfield 34, 3) := by decide +kernel
theorem dX3_init_59 : decode cX3_init 59 = .ok (.aload_n 0, 1) := by decide +kernel
theorem dX3_init_60 : decode cX3_init 60 = .ok (.iconst 0, 1) := by decide +kernel
theorem dX3_init_61 : decode cX3_init 61 = .ok (.putfield 37, 3) := by decide +kernel
theorem dX3_init_64 : decode cX3_init 64 = .ok (.aload_n 0, 1) := by decide +kernel
theorem dX3_init_65 : decode cX3_init 65 = .ok (.iconst 0, 1) := by decide +kernel
theorem dX3_init_66 : decode cX3_init 66 = .ok (.putfield 40, 3) := by decide +kernel
theorem dX3_init_69 : decode cX3_init 69 = .ok (.aload_n 0, 1) := by decide +kernel
theorem dX3_init_70 : decode cX3_init 70 = .ok (.iconst 0, 1) := by decide +kernel
theorem dX3_init_71 : decode cX3_init 71 = .ok (.putfield 43, 3) := by decide +kernel
theorem dX3_init_74 : decode cX3_init 74 = .ok (.aload_n 0, 1) := by decide +kernel
theorem dX3_init_75 : decode cX3_init 75 = .ok (.iconst 0, 1) := by decide +kernel
theorem dX3_init_76 : decode cX3_init 76 = .ok (.putfield 46, 3) := by decide +kernel
theorem dX3_init_79 : decode cX3_init 79 = .ok (.aload_n 0, 1) := by decide +kernel
theorem dX3_init_80 : decode cX3_init 80 = .ok (.iconst (-1), 1) := by decide +kernel
theorem dX3_init_81 : decode cX3_init 81 = .ok (.putfield 49, 3) := by decide +kernel
theorem dX3_init_84 : decode cX3_init 84 = .ok (.aload_n 0, 1) := by decide +kernel
theorem dX3_init_85 : decode cX3_init 85 = .ok (.iconst 0, 1) := by decide +kernel
theorem dX3_init_86 : decode cX3_init 86 = .ok (.putfield 52, 3) := by decide +kernel
theorem dX3_init_89 : decode cX3_init 89 = .ok (.return_, 1) := by decide +kernel
theorem dX3_drive_0 : decode cX3_drive 0 = .ok (.aload_n 0, 1) := by decide +kernel
theorem dX3_drive_1 : decode cX3_drive 1 = .ok (.aload_n 1, 1) := by decide +kernel
theorem dX3_drive_2 : decode cX3_drive 2 = .ok (.iload_n 2, 1) := by decide +kernel
theorem dX3_drive_3 : decode cX3_drive 3 = .ok (.invokevirtual 56, 3) := by decide +kernel
theorem dX3_drive_6 : decode cX3_drive 6 = .ok (.aload_n 0, 1) := by decide +kernel
theorem dX3_drive_7 : decode cX3_drive 7 = .ok (.getfield 34, 3) := by decide +kernel
theorem dX3_drive_10 : decode cX3_drive 10 = .ok (.aload_n 0, 1) := by decide +kernel
theorem dX3_drive_11 : decode cX3_drive 11 = .ok (.getfield 37, 3) := by decide +kernel
theorem dX3_drive_14 : decode cX3_drive 14 = .ok (.iadd, 1) := by decide +kernel
theorem dX3_drive_15 : decode cX3_drive 15 = .ok (.istore_n 3, 1) := by decide +kernel
theorem dX3_drive_16 : decode cX3_drive 16 = .ok (.iconst 0, 1) := by decide +kernel
theorem dX3_drive_17 : decode cX3_drive 17 = .ok (.istore 4, 2) := by decide +kernel
theorem dX3_drive_19 : decode cX3_drive 19 = .ok (.iload 4, 2) := by decide +kernel
theorem dX3_drive_21 : decode cX3_drive 21 = .ok (.iload_n 3, 1) := by decide +kernel
theorem dX3_drive_22 : decode cX3_drive 22 = .ok (.if_icmp .ge 84, 3) := by decide +kernel
theorem dX3_drive_25 : decode cX3_drive 25 = .ok (.aload_n 0, 1) := by decide +kernel
theorem dX3_drive_26 : decode cX3_drive 26 = .ok (.aload_n 1, 1) := by decide +kernel
theorem dX3_drive_27 : decode cX3_drive 27 = .ok (.invokevirtual 60, 3) := by decide +kernel
theorem dX3_drive_30 : decode cX3_drive 30 = .ok (.istore 5, 2) := by decide +kernel
theorem dX3_drive_32 : decode cX3_drive 32 = .ok (.iload 5, 2) := by decide +kernel
theorem dX3_drive_34 : decode cX3_drive 34 = .ok (.ifCond .eq 15, 3) := by decide +kernel
theorem dX3_drive_37 : decode cX3_drive 37 = .ok (.aload_n 0, 1) := by decide +kernel
theorem dX3_drive_38 : decode cX3_drive 38 = .ok (.getfield 31, 3) := by decide +kernel
theorem dX3_drive_41 : decode cX3_drive 41 = .ok (.aload_n 0, 1) := by decide +kernel
theorem dX3_drive_42 : decode cX3_drive 42 = .ok (.getfield 43, 3) := by decide +kernel
theorem dX3_drive_45 : decode cX3_drive 45 = .ok (.iaload, 1) := by decide +kernel
theorem dX3_drive_46 : decode cX3_drive 46 = .ok (.goto 12, 3) := by decide +kernel
theorem dX3_drive_49 : decode cX3_drive 49 = .ok (.aload_n 0, 1) := by decide +kernel
theorem dX3_drive_50 : decode cX3_drive 50 = .ok (.getfield 28, 3) := by decide +kernel
theorem dX3_drive_53 : decode cX3_drive 53 = .ok (.aload_n 0, 1) := by decide +kernel
theorem dX3_drive_54 : decode cX3_drive 54 = .ok (.getfield 40, 3) := by decide +kernel
theorem dX3_drive_57 : decode cX3_drive 57 = .ok (.iaload, 1) := by decide +kernel
theorem dX3_drive_58 : decode cX3_drive 58 = .ok (.istore 6, 2) := by decide +kernel
theorem dX3_drive_60 : decode cX3_drive 60 = .ok (.iload 5, 2) := by decide +kernel
theorem dX3_drive_62 : decode cX3_drive 62 = .ok (.ifCond .eq 16, 3) := by decide +kernel
theorem dX3_drive_65 : decode cX3_drive 65 = .ok (.aload_n 0, 1) := by decide +kernel
theorem dX3_drive_66 : decode cX3_drive 66 = .ok (.dup, 1) := by decide +kernel
theorem dX3_drive_67 : decode cX3_drive 67 = .ok (.getfield 43, 3) := by decide +kernel
theorem dX3_drive_70 : decode cX3_drive 70 = .ok (.iconst 1, 1) := by decide +kernel
theorem dX3_drive_71 : decode cX3_drive 71 = .ok (.iadd, 1) := by decide +kernel
theorem dX3_drive_72 : decode cX3_drive 72 = .ok (.putfield 43, 3) := by decide +kernel
theorem dX3_drive_75 : decode cX3_drive 75 = .ok (.goto 18, 3) := by decide +kernel
theorem dX3_drive_78 : decode cX3_drive 78 = .ok (.aload_n 0, 1) := by decide +kernel
theorem dX3_drive_79 : decode cX3_drive 79 = .ok (.dup, 1) := by decide +kernel
theorem dX3_drive_80 : decode cX3_drive 80 = .ok (.getfield 40, 3) := by decide +kernel
theorem dX3_drive_83 : decode cX3_drive 83 = .ok (.iconst 1, 1) := by decide +kernel
theorem dX3_drive_84 : decode cX3_drive 84 = .ok (.iadd, 1) := by decide +kernel
theorem dX3_drive_85 : decode cX3_drive 85 = .ok (.putfield 40, 3) := by decide +kernel
theorem dX3_drive_88 : decode cX3_drive 88 = .ok (.aload_n 0, 1) := by decide +kernel
theorem dX3_drive_89 : decode cX3_drive 89 = .ok (.iconst 0, 1) := by decide +kernel
theorem dX3_drive_90 : decode cX3_drive 90 = .ok (.putfield 46, 3) := by decide +kernel
theorem dX3_drive_93 : decode cX3_drive 93 = .ok (.aload_n 0, 1) := by decide +kernel
theorem dX3_drive_94 : decode cX3_drive 94 = .ok (.aload_n 1, 1) := by decide +kernel
theorem dX3_drive_95 : decode cX3_drive 95 = .ok (.iload 6, 2) := by decide +kernel
theorem dX3_drive_97 : decode cX3_drive 97 = .ok (.invokevirtual 64, 3) := by decide +kernel
theorem dX3_drive_100 : decode cX3_drive 100 = .ok (.iinc 4 1, 3) := by decide +kernel
theorem dX3_drive_103 : decode cX3_drive 103 = .ok (.goto (-84), 3) := by decide +kernel
theorem dX3_drive_106 : decode cX3_drive 106 = .ok (.return_, 1) := by decide +kernel
theorem dX3_lineUp_0 : decode cX3_lineUp 0 = .ok (.aload_n 0, 1) := by decide +kernel
theorem dX3_lineUp_1 : decode cX3_lineUp 1 = .ok (.iconst 0, 1) := by decide +kernel
theorem dX3_lineUp_2 : decode cX3_lineUp 2 = .ok (.putfield 21, 3) := by decide +kernel
theorem dX3_lineUp_5 : decode cX3_lineUp 5 = .ok (.aload_n 0, 1) := by decide +kernel
theorem dX3_lineUp_6 : decode cX3_lineUp 6 = .ok (.iconst 0, 1) := by decide +kernel
theorem dX3_lineUp_7 : decode cX3_lineUp 7 = .ok (.putfield 25, 3) := by decide +kernel
theorem dX3_lineUp_10 : decode cX3_lineUp 10 = .ok (.aload_n 0, 1) := by decide +kernel
theorem dX3_lineUp_11 : decode cX3_lineUp 11 = .ok (.iconst 0, 1) := by decide +kernel
theorem dX3_lineUp_12 : decode cX3_lineUp 12 = .ok (.putfield 34, 3) := by decide +kernel
theorem dX3_lineUp_15 : decode cX3_lineUp 15 = .ok (.aload_n 0, 1) := by decide +kernel
theorem dX3_lineUp_16 : decode cX3_lineUp 16 = .ok (.iconst 0, 1) := by decide +kernel
theorem dX3_lineUp_17 : decode cX3_lineUp 17 = .ok (.putfield 37, 3) := by decide +kernel
theorem dX3_lineUp_20 : decode cX3_lineUp 20 = .ok (.aload_n 0, 1) := by decide +kernel
theorem dX3_lineUp_21 : decode cX3_lineUp 21 = .ok (.iconst 0, 1) := by decide +kernel
theorem dX3_lineUp_22 : decode cX3_lineUp 22 = .ok (.putfield 40, 3) := by decide +kernel
theorem dX3_lineUp_25 : decode cX3_lineUp 25 = .ok (.aload_n 0, 1) := by decide +kernel
theorem dX3_lineUp_26 : decode cX3_lineUp 26 = .ok (.iconst 0, 1) := by decide +kernel
theorem dX3_lineUp_27 : decode cX3_lineUp 27 = .ok (.putfield 43, 3) := by decide +kernel
theorem dX3_lineUp_30 : decode cX3_lineUp 30 = .ok (.aload_n 0, 1) := by decide +kernel
theorem dX3_lineUp_31 : decode cX3_lineUp 31 = .ok (.iconst 0, 1) := by decide +kernel
theorem dX3_lineUp_32 : decode cX3_lineUp 32 = .ok (.putfield 46, 3) := by decide +kernel
theorem dX3_lineUp_35 : decode cX3_lineUp 35 = .ok (.aload_n 0, 1) := by decide +kernel
theorem dX3_lineUp_36 : decode cX3_lineUp 36 = .ok (.iconst (-1), 1) := by decide +kernel
theorem dX3_lineUp_37 : decode cX3_lineUp 37 = .ok (.putfield 49, 3) := by decide +kernel
theorem dX3_lineUp_40 : decode cX3_lineUp 40 = .ok (.aload_n 0, 1) := by decide +kernel
theorem dX3_lineUp_41 : decode cX3_lineUp 41 = .ok (.iconst 0, 1) := by decide +kernel
theorem dX3_lineUp_42 : decode cX3_lineUp 42 = .ok (.putfield 52, 3) := by decide +kernel
theorem dX3_lineUp_45 : decode cX3_lineUp 45 = .ok (.iconst 0, 1) := by decide +kernel
theorem dX3_lineUp_46 : decode cX3_lineUp 46 = .ok (.istore_n 3, 1) := by decide +kernel
theorem dX3_lineUp_47 : decode cX3_lineUp 47 = .ok (.iload_n 3, 1) := by decide +kernel
theorem dX3_lineUp_48 : decode cX3_lineUp 48 = .ok (.aload_n 1, 1) := by decide +kernel
theorem dX3_lineUp_49 : decode cX3_lineUp 49 = .ok (.getfield 67, 3) := by decide +kernel
theorem dX3_lineUp_52 : decode cX3_lineUp 52 = .ok (.if_icmp .ge 84, 3) := by decide +kernel
theorem dX3_lineUp_55 : decode cX3_lineUp 55 = .ok (.aload_n 1, 1) := by decide +kernel
theorem dX3_lineUp_56 : decode cX3_lineUp 56 = .ok (.getfield 72, 3) := by decide +kernel
theorem dX3_lineUp_59 : decode cX3_lineUp 59 = .ok (.iload_n 3, 1) := by decide +kernel
theorem dX3_lineUp_60 : decode cX3_lineUp 60 = .ok (.iaload, 1) := by decide +kernel
theorem dX3_lineUp_61 : decode cX3_lineUp 61 = .ok (.istore 4, 2) := by decide +kernel
theorem dX3_lineUp_63 : decode cX3_lineUp 63 = .ok (.iload_n 2, 1) := by decide +kernel
theorem dX3_lineUp_64 : decode cX3_lineUp 64 = .ok (.iload 4, 2) := by decide +kernel
theorem dX3_lineUp_66 : decode cX3_lineUp 66 = .ok (.ishr, 1) := by decide +kernel
theorem dX3_lineUp_67 : decode cX3_lineUp 67 = .ok (.iconst 1, 1) := by decide +kernel
theorem dX3_lineUp_68 : decode cX3_lineUp 68 = .ok (.iand, 1) := by decide +kernel
theorem dX3_lineUp_69 : decode cX3_lineUp 69 = .ok (.ifCond .eq 6, 3) := by decide +kernel
theorem dX3_lineUp_72 : decode cX3_lineUp 72 = .ok (.goto 58, 3) := by decide +kernel
theorem dX3_lineUp_75 : decode cX3_lineUp 75 = .ok (.aload_n 1, 1) := by decide +kernel
theorem dX3_lineUp_76 : decode cX3_lineUp 76 = .ok (.getfield 75, 3) := by decide +kernel
theorem dX3_lineUp_79 : decode cX3_lineUp 79 = .ok (.iload 4, 2) := by decide +kernel
theorem dX3_lineUp_81 : decode cX3_lineUp 81 = .ok (.iaload, 1) := by decide +kernel
theorem dX3_lineUp_82 : decode cX3_lineUp 82 = .ok (.ifCond .ne 27, 3) := by decide +kernel
theorem dX3_lineUp_85 : decode cX3_lineUp 85 = .ok (.aload_n 0, 1) := by decide +kernel
theorem dX3_lineUp_86 : decode cX3_lineUp 86 = .ok (.getfield 28, 3) := by decide +kernel
theorem dX3_lineUp_89 : decode cX3_lineUp 89 = .ok (.aload_n 0, 1) := by decide +kernel
theorem dX3_lineUp_90 : decode cX3_lineUp 90 = .ok (.getfield 34, 3) := by decide +kernel
theorem dX3_lineUp_93 : decode cX3_lineUp 93 = .ok (.iload 4, 2) := by decide +kernel
theorem dX3_lineUp_95 : decode cX3_lineUp 95 = .ok (.iastore, 1) := by decide +kernel
theorem dX3_lineUp_96 : decode cX3_lineUp 96 = .ok (.aload_n 0, 1) := by decide +kernel
theorem dX3_lineUp_97 : decode cX3_lineUp 97 = .ok (.dup, 1) := by decide +kernel
theorem dX3_lineUp_98 : decode cX3_lineUp 98 = .ok (.getfield 34, 3) := by decide +kernel
theorem dX3_lineUp_101 : decode cX3_lineUp 101 = .ok (.iconst 1, 1) := by decide +kernel
theorem dX3_lineUp_102 : decode cX3_lineUp 102 = .ok (.iadd, 1) := by decide +kernel
theorem dX3_lineUp_103 : decode cX3_lineUp 103 = .ok (.putfield 34, 3) := by decide +kernel
theorem dX3_lineUp_106 : decode cX3_lineUp 106 = .ok (.goto 24, 3) := by decide +kernel
theorem dX3_lineUp_109 : decode cX3_lineUp 109 = .ok (.aload_n 0, 1) := by decide +kernel
theorem dX3_lineUp_110 : decode cX3_lineUp 110 = .ok (.getfield 31, 3) := by decide +kernel
theorem dX3_lineUp_113 : decode cX3_lineUp 113 = .ok (.aload_n 0, 1) := by decide +kernel
theorem dX3_lineUp_114 : decode cX3_lineUp 114 = .ok (.getfield 37, 3) := by decide +kernel
theorem dX3_lineUp_117 : decode cX3_lineUp 117 = .ok (.iload 4, 2) := by decide +kernel
theorem dX3_lineUp_119 : decode cX3_lineUp 119 = .ok (.iastore, 1) := by decide +kernel
theorem dX3_lineUp_120 : decode cX3_lineUp 120 = .ok (.aload_n 0, 1) := by decide +kernel
theorem dX3_lineUp_121 : decode cX3_lineUp 121 = .ok (.dup, 1) := by decide +kernel
theorem dX3_lineUp_122 : decode cX3_lineUp 122 = .ok (.getfield 37, 3) := by decide +kernel
theorem dX3_lineUp_125 : decode cX3_lineUp 125 = .ok (.iconst 1, 1) := by decide +kernel
theorem dX3_lineUp_126 : decode cX3_lineUp 126 = .ok (.iadd, 1) := by decide +kernel
theorem dX3_lineUp_127 : decode cX3_lineUp 127 = .ok (.putfield 37, 3) := by decide +kernel
theorem dX3_lineUp_130 : decode cX3_lineUp 130 = .ok (.iinc 3 1, 3) := by decide +kernel
theorem dX3_lineUp_133 : decode cX3_lineUp 133 = .ok (.goto (-86), 3) := by decide +kernel
theorem dX3_lineUp_136 : decode cX3_lineUp 136 = .ok (.return_, 1) := by decide +kernel
theorem dX3_isLeftNext_0 : decode cX3_isLeftNext 0 = .ok (.aload_n 0, 1) := by decide +kernel
theorem dX3_isLeftNext_1 : decode cX3_isLeftNext 1 = .ok (.getfield 52, 3) := by decide +kernel
theorem dX3_isLeftNext_4 : decode cX3_isLeftNext 4 = .ok (.istore_n 2, 1) := by decide +kernel
theorem dX3_isLeftNext_5 : decode cX3_isLeftNext 5 = .ok (.aload_n 0, 1) := by decide +kernel
theorem dX3_isLeftNext_6 : decode cX3_isLeftNext 6 = .ok (.iconst 0, 1) := by decide +kernel
theorem dX3_isLeftNext_7 : decode cX3_isLeftNext 7 = .ok (.putfield 52, 3) := by decide +kernel
theorem dX3_isLeftNext_10 : decode cX3_isLeftNext 10 = .ok (.aload_n 0, 1) := by decide +kernel
theorem dX3_isLeftNext_11 : decode cX3_isLeftNext 11 = .ok (.getfield 43, 3) := by decide +kernel
theorem dX3_isLeftNext_14 : decode cX3_isLeftNext 14 = .ok (.aload_n 0, 1) := by decide +kernel
theorem dX3_isLeftNext_15 : decode cX3_isLeftNext 15 = .ok (.getfield 37, 3) := by decide +kernel
theorem dX3_isLeftNext_18 : decode cX3_isLeftNext 18 = .ok (.if_icmp .lt 5, 3) := by decide +kernel
theorem dX3_isLeftNext_21 : decode cX3_isLeftNext 21 = .ok (.iconst 0, 1) := by decide +kernel
theorem dX3_isLeftNext_22 : decode cX3_isLeftNext 22 = .ok (.ireturn, 1) := by decide +kernel
theorem dX3_isLeftNext_23 : decode cX3_isLeftNext 23 = .ok (.aload_n 0, 1) := by decide +kernel
theorem dX3_isLeftNext_24 : decode cX3_isLeftNext 24 = .ok (.getfield 40, 3) := by decide +kernel
theorem dX3_isLeftNext_27 : decode cX3_isLeftNext 27 = .ok (.aload_n 0, 1) := by decide +kernel
theorem dX3_isLeftNext_28 : decode cX3_isLeftNext 28 = .ok (.getfield 34, 3) := by decide +kernel
theorem dX3_isLeftNext_31 : decode cX3_isLeftNext 31 = .ok (.if_icmp .lt 5, 3) := by decide +kernel
theorem dX3_isLeftNext_34 : decode cX3_isLeftNext 34 = .ok (.iconst 1, 1) := by decide +kernel
theorem dX3_isLeftNext_35 : decode cX3_isLeftNext 35 = .ok (.ireturn, 1) := by decide +kernel
theorem dX3_isLeftNext_36 : decode cX3_isLeftNext 36 = .ok (.aload_n 0, 1) := by decide +kernel
theorem dX3_isLeftNext_37 : decode cX3_isLeftNext 37 = .ok (.getfield 46, 3) := by decide +kernel
theorem dX3_isLeftNext_40 : decode cX3_isLeftNext 40 = .ok (.aload_n 1, 1) := by decide +kernel
theorem dX3_isLeftNext_41 : decode cX3_isLeftNext 41 = .ok (.aload_n 0, 1) := by decide +kernel
theorem dX3_isLeftNext_42 : decode cX3_isLeftNext 42 = .ok (.getfield 28, 3) := by decide +kernel
theorem dX3_isLeftNext_45 : decode cX3_isLeftNext 45 = .ok (.aload_n 0, 1) := by decide +kernel
theorem dX3_isLeftNext_46 : decode cX3_isLeftNext 46 = .ok (.getfield 40, 3) := by decide +kernel
theorem dX3_isLeftNext_49 : decode cX3_isLeftNext 49 = .ok (.iaload, 1) := by decide +kernel
theorem dX3_isLeftNext_50 : decode cX3_isLeftNext 50 = .ok (.invokevirtual 78, 3) := by decide +kernel
theorem dX3_isLeftNext_53 : decode cX3_isLeftNext 53 = .ok (.if_icmp .ge 15, 3) := by decide +kernel
theorem dX3_isLeftNext_56 : decode cX3_isLeftNext 56 = .ok (.aload_n 0, 1) := by decide +kernel
theorem dX3_isLeftNext_57 : decode cX3_isLeftNext 57 = .ok (.dup, 1) := by decide +kernel
theorem dX3_isLeftNext_58 : decode cX3_isLeftNext 58 = .ok (.getfield 46, 3) := by decide +kernel
theorem dX3_isLeftNext_61 : decode cX3_isLeftNext 61 = .ok (.iconst 1, 1) := by decide +kernel
theorem dX3_isLeftNext_62 : decode cX3_isLeftNext 62 = .ok (.iadd, 1) := by decide +kernel
theorem dX3_isLeftNext_63 : decode cX3_isLeftNext 63 = .ok (.putfield 46, 3) := by decide +kernel
theorem dX3_isLeftNext_66 : decode cX3_isLeftNext 66 = .ok (.iconst 1, 1) := by decide +kernel
theorem dX3_isLeftNext_67 : decode cX3_isLeftNext 67 = .ok (.ireturn, 1) := by decide +kernel
theorem dX3_isLeftNext_68 : decode cX3_isLeftNext 68 = .ok (.aload_n 0, 1) := by decide +kernel
theorem dX3_isLeftNext_69 : decode cX3_isLeftNext 69 = .ok (.aload_n 0, 1) := by decide +kernel
theorem dX3_isLeftNext_70 : decode cX3_isLeftNext 70 = .ok (.getfield 49, 3) := by decide +kernel
theorem dX3_isLeftNext_73 : decode cX3_isLeftNext 73 = .ok (.iconst 1, 1) := by decide +kernel
theorem dX3_isLeftNext_74 : decode cX3_isLeftNext 74 = .ok (.if_icmp .ne 31, 3) := by decide +kernel
theorem dX3_isLeftNext_77 : decode cX3_isLeftNext 77 = .ok (.iload_n 2, 1) := by decide +kernel
theorem dX3_isLeftNext_78 : decode cX3_isLeftNext 78 = .ok (.ifCond .ne 27, 3) := by decide +kernel
theorem dX3_isLeftNext_81 : decode cX3_isLeftNext 81 = .ok (.aload_n 1, 1) := by decide +kernel
theorem dX3_isLeftNext_82 : decode cX3_isLeftNext 82 = .ok (.getfield 82, 3) := by decide +kernel
theorem dX3_isLeftNext_85 : decode cX3_isLeftNext 85 = .ok (.aload_n 0, 1) := by decide +kernel
theorem dX3_isLeftNext_86 : decode cX3_isLeftNext 86 = .ok (.getfield 31, 3) := by decide +kernel
theorem dX3_isLeftNext_89 : decode cX3_isLeftNext 89 = .ok (.aload_n 0, 1) := by decide +kernel
theorem dX3_isLeftNext_90 : decode cX3_isLeftNext 90 = .ok (.getfield 43, 3) := by decide +kernel
theorem dX3_isLeftNext_93 : decode cX3_isLeftNext 93 = .ok (.iaload, 1) := by decide +kernel
theorem dX3_isLeftNext_94 : decode cX3_isLeftNext 94 = .ok (.iaload, 1) := by decide +kernel
theorem dX3_isLeftNext_95 : decode cX3_isLeftNext 95 = .ok (.invokestatic 85, 3) := by decide +kernel
theorem dX3_isLeftNext_98 : decode cX3_isLeftNext 98 = .ok (.ifCond .eq 7, 3) := by decide +kernel
theorem dX3_isLeftNext_101 : decode cX3_isLeftNext 101 = .ok (.iconst 1, 1) := by decide +kernel
theorem dX3_isLeftNext_102 : decode cX3_isLeftNext 102 = .ok (.goto 4, 3) := by decide +kernel
theorem dX3_isLeftNext_105 : decode cX3_isLeftNext 105 = .ok (.iconst 0, 1) := by decide +kernel
theorem dX3_isLeftNext_106 : decode cX3_isLeftNext 106 = .ok (.putfield 52, 3) := by decide +kernel
theorem dX3_isLeftNext_109 : decode cX3_isLeftNext 109 = .ok (.aload_n 0, 1) := by decide +kernel
theorem dX3_isLeftNext_110 : decode cX3_isLeftNext 110 = .ok (.getfield 52, 3) := by decide +kernel
theorem dX3_isLeftNext_113 : decode cX3_isLeftNext 113 = .ok (.ireturn, 1) := by decide +kernel
theorem dX3_goThrough_0 : decode cX3_goThrough 0 = .ok (.aload_n 1, 1) := by decide +kernel
theorem dX3_goThrough_1 : decode cX3_goThrough 1 = .ok (.getfield 75, 3) := by decide +kernel
theorem dX3_goThrough_4 : decode cX3_goThrough 4 = .ok (.iload_n 2, 1) := by decide +kernel
theorem dX3_goThrough_5 : decode cX3_goThrough 5 = .ok (.iaload, 1) := by decide +kernel
theorem dX3_goThrough_6 : decode cX3_goThrough 6 = .ok (.istore_n 3, 1) := by decide +kernel
theorem dX3_goThrough_7 : decode cX3_goThrough 7 = .ok (.aload_n 0, 1) := by decide +kernel
theorem dX3_goThrough_8 : decode cX3_goThrough 8 = .ok (.dup, 1) := by decide +kernel
theorem dX3_goThrough_9 : decode cX3_goThrough 9 = .ok (.getfield 25, 3) := by decide +kernel
theorem dX3_goThrough_12 : decode cX3_goThrough 12 = .ok (.aload_n 1, 1) := by decide +kernel
theorem dX3_goThrough_13 : decode cX3_goThrough 13 = .ok (.getfield 82, 3) := by decide +kernel
theorem dX3_goThrough_16 : decode cX3_goThrough 16 = .ok (.iload_n 2, 1) := by decide +kernel
theorem dX3_goThrough_17 : decode cX3_goThrough 17 = .ok (.iaload, 1) := by decide +kernel
theorem dX3_goThrough_18 : decode cX3_goThrough 18 = .ok (.invokestatic 91, 3) := by decide +kernel
theorem dX3_goThrough_21 : decode cX3_goThrough 21 = .ok (.iadd, 1) := by decide +kernel
theorem dX3_goThrough_22 : decode cX3_goThrough 22 = .ok (.putfield 25, 3) := by decide +kernel
theorem dX3_goThrough_25 : decode cX3_goThrough 25 = .ok (.aload_n 0, 1) := by decide +kernel
theorem dX3_goThrough_26 : decode cX3_goThrough 26 = .ok (.getfield 21, 3) := by decide +kernel
theorem dX3_goThrough_29 : decode cX3_goThrough 29 = .ok (.ifCond .le 24, 3) := by decide +kernel
theorem dX3_goThrough_32 : decode cX3_goThrough 32 = .ok (.iload_n 3, 1) := by decide +kernel
theorem dX3_goThrough_33 : decode cX3_goThrough 33 = .ok (.aload_n 0, 1) := by decide +kernel
theorem dX3_goThrough_34 : decode cX3_goThrough 34 = .ok (.getfield 49, 3) := by decide +kernel
theorem dX3_goThrough_37 : decode cX3_goThrough 37 = .ok (.if_icmp .eq 16, 3) := by decide +kernel
theorem dX3_goThrough_40 : decode cX3_goThrough 40 = .ok (.aload_n 0, 1) := by decide +kernel
theorem dX3_goThrough_41 : decode cX3_goThrough 41 = .ok (.dup, 1) := by decide +kernel
theorem dX3_goThrough_42 : decode cX3_goThrough 42 = .ok (.getfield 25, 3) := by decide +kernel
theorem dX3_goThrough_45 : decode cX3_goThrough 45 = .ok (.aload_n 1, 1) := by decide +kernel
theorem dX3_goThrough_46 : decode cX3_goThrough 46 = .ok (.getfield 94, 3) := by decide +kernel
theorem dX3_goThrough_49 : decode cX3_goThrough 49 = .ok (.iadd, 1) := by decide +kernel
theorem dX3_goThrough_50 : decode cX3_goThrough 50 = .ok (.putfield 25, 3) := by decide +kernel
theorem dX3_goThrough_53 : decode cX3_goThrough 53 = .ok (.aload_n 0, 1) := by decide +kernel
theorem dX3_goThrough_54 : decode cX3_goThrough 54 = .ok (.iload_n 3, 1) := by decide +kernel
theorem dX3_goThrough_55 : decode cX3_goThrough 55 = .ok (.putfield 49, 3) := by decide +kernel
theorem dX3_goThrough_58 : decode cX3_goThrough 58 = .ok (.aload_n 0, 1) := by decide +kernel
theorem dX3_goThrough_59 : decode cX3_goThrough 59 = .ok (.getfield 15, 3) := by decide +kernel
theorem dX3_goThrough_62 : decode cX3_goThrough 62 = .ok (.iload_n 2, 1) := by decide +kernel
theorem dX3_goThrough_63 : decode cX3_goThrough 63 = .ok (.aload_n 0, 1) := by decide +kernel
theorem dX3_goThrough_64 : decode cX3_goThrough 64 = .ok (.getfield 25, 3) := by decide +kernel
theorem dX3_goThrough_67 : decode cX3_goThrough 67 = .ok (.iastore, 1) := by decide +kernel
theorem dX3_goThrough_68 : decode cX3_goThrough 68 = .ok (.aload_n 0, 1) := by decide +kernel
theorem dX3_goThrough_69 : decode cX3_goThrough 69 = .ok (.getfield 18, 3) := by decide +kernel
theorem dX3_goThrough_72 : decode cX3_goThrough 72 = .ok (.iload_n 2, 1) := by decide +kernel
theorem dX3_goThrough_73 : decode cX3_goThrough 73 = .ok (.aload_n 0, 1) := by decide +kernel
theorem dX3_goThrough_74 : decode cX3_goThrough 74 = .ok (.getfield 21, 3) := by decide +kernel
theorem dX3_goThrough_77 : decode cX3_goThrough 77 = .ok (.iastore, 1) := by decide +kernel
theorem dX3_goThrough_78 : decode cX3_goThrough 78 = .ok (.aload_n 0, 1) := by decide +kernel
theorem dX3_goThrough_79 : decode cX3_goThrough 79 = .ok (.getfield 9, 3) := by decide +kernel
theorem dX3_goThrough_82 : decode cX3_goThrough 82 = .ok (.aload_n 0, 1) := by decide +kernel
theorem dX3_goThrough_83 : decode cX3_goThrough 83 = .ok (.getfield 21, 3) := by decide +kernel
theorem dX3_goThrough_86 : decode cX3_goThrough 86 = .ok (.iload_n 2, 1) := by decide +kernel
theorem dX3_goThrough_87 : decode cX3_goThrough 87 = .ok (.iastore, 1) := by decide +kernel
theorem dX3_goThrough_88 : decode cX3_goThrough 88 = .ok (.aload_n 0, 1) := by decide +kernel
theorem dX3_goThrough_89 : decode cX3_goThrough 89 = .ok (.dup, 1) := by decide +kernel
theorem dX3_goThrough_90 : decode cX3_goThrough 90 = .ok (.getfield 21, 3) := by decide +kernel
theorem dX3_goThrough_93 : decode cX3_goThrough 93 = .ok (.iconst 1, 1) := by decide +kernel
theorem dX3_goThrough_94 : decode cX3_goThrough 94 = .ok (.iadd, 1) := by decide +kernel
theorem dX3_goThrough_95 : decode cX3_goThrough 95 = .ok (.putfield 21, 3) := by decide +kernel
theorem dX3_goThrough_98 : decode cX3_goThrough 98 = .ok (.return_, 1) := by decide +kernel
theorem dX3_waitInTurn_0 : decode cX3_waitInTurn 0 = .ok (.aload_n 0, 1) := by decide +kernel
theorem dX3_waitInTurn_1 : decode cX3_waitInTurn 1 = .ok (.getfield 15, 3) := by decide +kernel
theorem dX3_waitInTurn_4 : decode cX3_waitInTurn 4 = .ok (.aload_n 0, 1) := by decide +kernel
theorem dX3_waitInTurn_5 : decode cX3_waitInTurn 5 = .ok (.getfield 9, 3) := by decide +kernel
theorem dX3_waitInTurn_8 : decode cX3_waitInTurn 8 = .ok (.iload_n 1, 1) := by decide +kernel
theorem dX3_waitInTurn_9 : decode cX3_waitInTurn 9 = .ok (.iaload, 1) := by decide +kernel
theorem dX3_waitInTurn_10 : decode cX3_waitInTurn 10 = .ok (.iaload, 1) := by decide +kernel
theorem dX3_waitInTurn_11 : decode cX3_waitInTurn 11 = .ok (.ireturn, 1) := by decide +kernel
theorem dX3_allWaits_0 : decode cX3_allWaits 0 = .ok (.iconst 0, 1) := by decide +kernel
theorem dX3_allWaits_1 : decode cX3_allWaits 1 = .ok (.istore_n 1, 1) := by decide +kernel
theorem dX3_allWaits_2 : decode cX3_allWaits 2 = .ok (.iconst 0, 1) := by decide +kernel
theorem dX3_allWaits_3 : decode cX3_allWaits 3 = .ok (.istore_n 2, 1) := by decide +kernel
theorem dX3_allWaits_4 : decode cX3_allWaits 4 = .ok (.iload_n 2, 1) := by decide +kernel
theorem dX3_allWaits_5 : decode cX3_allWaits 5 = .ok (.aload_n 0, 1) := by decide +kernel
theorem dX3_allWaits_6 : decode cX3_allWaits 6 = .ok (.getfield 21, 3) := by decide +kernel
theorem dX3_allWaits_9 : decode cX3_allWaits 9 = .ok (.if_icmp .ge 17, 3) := by decide +kernel
theorem dX3_allWaits_12 : decode cX3_allWaits 12 = .ok (.iload_n 1, 1) := by decide +kernel
theorem dX3_allWaits_13 : decode cX3_allWaits 13 = .ok (.aload_n 0, 1) := by decide +kernel
theorem dX3_allWaits_14 : decode cX3_allWaits 14 = .ok (.iload_n 2, 1) := by decide +kernel
theorem dX3_allWaits_15 : decode cX3_allWaits 15 = .ok (.invokevirtual 97, 3) := by decide +kernel
theorem dX3_allWaits_18 : decode cX3_allWaits 18 = .ok (.iadd, 1) := by decide +kernel
theorem dX3_allWaits_19 : decode cX3_allWaits 19 = .ok (.istore_n 1, 1) := by decide +kernel
theorem dX3_allWaits_20 : decode cX3_allWaits 20 = .ok (.iinc 2 1, 3) := by decide +kernel
theorem dX3_allWaits_23 : decode cX3_allWaits 23 = .ok (.goto (-19), 3) := by decide +kernel
theorem dX3_allWaits_26 : decode cX3_allWaits 26 = .ok (.iload_n 1, 1) := by decide +kernel
theorem dX3_allWaits_27 : decode cX3_allWaits 27 = .ok (.ireturn, 1) := by decide +kernel
theorem dX3_cost_0 : decode cX3_cost 0 = .ok (.iconst 0, 1) := by decide +kernel
theorem dX3_cost_1 : decode cX3_cost 1 = .ok (.istore_n 2, 1) := by decide +kernel
theorem dX3_cost_2 : decode cX3_cost 2 = .ok (.iconst 0, 1) := by decide +kernel
theorem dX3_cost_3 : decode cX3_cost 3 = .ok (.istore_n 3, 1) := by decide +kernel
theorem dX3_cost_4 : decode cX3_cost 4 = .ok (.iload_n 3, 1) := by decide +kernel
theorem dX3_cost_5 : decode cX3_cost 5 = .ok (.aload_n 0, 1) := by decide +kernel
theorem dX3_cost_6 : decode cX3_cost 6 = .ok (.getfield 21, 3) := by decide +kernel
theorem dX3_cost_9 : decode cX3_cost 9 = .ok (.if_icmp .ge 29, 3) := by decide +kernel
theorem dX3_cost_12 : decode cX3_cost 12 = .ok (.iload_n 2, 1) := by decide +kernel
theorem dX3_cost_13 : decode cX3_cost 13 = .ok (.aload_n 0, 1) := by decide +kernel
theorem dX3_cost_14 : decode cX3_cost 14 = .ok (.iload_n 3, 1) := by decide +kernel
theorem dX3_cost_15 : decode cX3_cost 15 = .ok (.invokevirtual 97, 3) := by decide +kernel
theorem dX3_cost_18 : decode cX3_cost 18 = .ok (.aload_n 1, 1) := by decide +kernel
theorem dX3_cost_19 : decode cX3_cost 19 = .ok (.getfield 100, 3) := by decide +kernel
theorem dX3_cost_22 : decode cX3_cost 22 = .ok (.aload_n 0, 1) := by decide +kernel
theorem dX3_cost_23 : decode cX3_cost 23 = .ok (.getfield 9, 3) := by decide +kernel
theorem dX3_cost_26 : decode cX3_cost 26 = .ok (.iload_n 3, 1) := by decide +kernel
theorem dX3_cost_27 : decode cX3_cost 27 = .ok (.iaload, 1) := by decide +kernel
theorem dX3_cost_28 : decode cX3_cost 28 = .ok (.iaload, 1) := by decide +kernel
theorem dX3_cost_29 : decode cX3_cost 29 = .ok (.imul, 1) := by decide +kernel
theorem dX3_cost_30 : decode cX3_cost 30 = .ok (.iadd, 1) := by decide +kernel
theorem dX3_cost_31 : decode cX3_cost 31 = .ok (.istore_n 2, 1) := by decide +kernel
theorem dX3_cost_32 : decode cX3_cost 32 = .ok (.iinc 3 1, 3) := by decide +kernel
theorem dX3_cost_35 : decode cX3_cost 35 = .ok (.goto (-31), 3) := by decide +kernel
theorem dX3_cost_38 : decode cX3_cost 38 = .ok (.iload_n 2, 1) := by decide +kernel
theorem dX3_cost_39 : decode cX3_cost 39 = .ok (.ireturn, 1) := by decide +kernel
theorem dX3_laneChanges_0 : decode cX3_laneChanges 0 = .ok (.iconst 0, 1) := by decide +kernel
theorem dX3_laneChanges_1 : decode cX3_laneChanges 1 = .ok (.istore_n 2, 1) := by decide +kernel
theorem dX3_laneChanges_2 : decode cX3_laneChanges 2 = .ok (.iconst 1, 1) := by decide +kernel
theorem dX3_laneChanges_3 : decode cX3_laneChanges 3 = .ok (.istore_n 3, 1) := by decide +kernel
theorem dX3_laneChanges_4 : decode cX3_laneChanges 4 = .ok (.iload_n 3, 1) := by decide +kernel
theorem dX3_laneChanges_5 : decode cX3_laneChanges 5 = .ok (.aload_n 0, 1) := by decide +kernel
theorem dX3_laneChanges_6 : decode cX3_laneChanges 6 = .ok (.getfield 21, 3) := by decide +kernel
theorem dX3_laneChanges_9 : decode cX3_laneChanges 9 = .ok (.if_icmp .ge 39, 3) := by decide +kernel
theorem dX3_laneChanges_12 : decode cX3_laneChanges 12 = .ok (.aload_n 1, 1) := by decide +kernel
theorem dX3_laneChanges_13 : decode cX3_laneChanges 13 = .ok (.getfield 75, 3) := by decide +kernel
theorem dX3_laneChanges_16 : decode cX3_laneChanges 16 = .ok (.aload_n 0, 1) := by decide +kernel
theorem dX3_laneChanges_17 : decode cX3_laneChanges 17 = .ok (.getfield 9, 3) := by decide +kernel
theorem dX3_laneChanges_20 : decode cX3_laneChanges 20 = .ok (.iload_n 3, 1) := by decide +kernel
theorem dX3_laneChanges_21 : decode cX3_laneChanges 21 = .ok (.iaload, 1) := by decide +kernel
theorem dX3_laneChanges_22 : decode cX3_laneChanges 22 = .ok (.iaload, 1) := by decide +kernel
theorem dX3_laneChanges_23 : decode cX3_laneChanges 23 = .ok (.aload_n 1, 1) := by decide +kernel
theorem dX3_laneChanges_24 : decode cX3_laneChanges 24 = .ok (.getfield 75, 3) := by decide +kernel
theorem dX3_laneChanges_27 : decode cX3_laneChanges 27 = .ok (.aload_n 0, 1) := by decide +kernel
theorem dX3_laneChanges_28 : decode cX3_laneChanges 28 = .ok (.getfield 9, 3) := by decide +kernel
theorem dX3_laneChanges_31 : decode cX3_laneChanges 31 = .ok (.iload_n 3, 1) := by decide +kernel
theorem dX3_laneChanges_32 : decode cX3_laneChanges 32 = .ok (.iconst 1, 1) := by decide +kernel
theorem dX3_laneChanges_33 : decode cX3_laneChanges 33 = .ok (.isub, 1) := by decide +kernel
theorem dX3_laneChanges_34 : decode cX3_laneChanges 34 = .ok (.iaload, 1) := by decide +kernel
theorem dX3_laneChanges_35 : decode cX3_laneChanges 35 = .ok (.iaload, 1) := by decide +kernel
theorem dX3_laneChanges_36 : decode cX3_laneChanges 36 = .ok (.if_icmp .eq 6, 3) := by decide +kernel
theorem dX3_laneChanges_39 : decode cX3_laneChanges 39 = .ok (.iinc 2 1, 3) := by decide +kernel
theorem dX3_laneChanges_42 : decode cX3_laneChanges 42 = .ok (.iinc 3 1, 3) := by decide +kernel
theorem dX3_laneChanges_45 : decode cX3_laneChanges 45 = .ok (.goto (-41), 3) := by decide +kernel
theorem dX3_laneChanges_48 : decode cX3_laneChanges 48 = .ok (.iload_n 2, 1) := by decide +kernel
theorem dX3_laneChanges_49 : decode cX3_laneChanges 49 = .ok (.ireturn, 1) := by decide +kernel
theorem dX3_longestRun_0 : decode cX3_longestRun 0 = .ok (.iconst 0, 1) := by decide +kernel
theorem dX3_longestRun_1 : decode cX3_longestRun 1 = .ok (.istore_n 2, 1) := by decide +kernel
theorem dX3_longestRun_2 : decode cX3_longestRun 2 = .ok (.iconst 0, 1) := by decide +kernel
theorem dX3_longestRun_3 : decode cX3_longestRun 3 = .ok (.istore_n 3, 1) := by decide +kernel
theorem dX3_longestRun_4 : decode cX3_longestRun 4 = .ok (.iconst 0, 1) := by decide +kernel
theorem dX3_longestRun_5 : decode cX3_longestRun 5 = .ok (.istore 4, 2) := by decide +kernel
theorem dX3_longestRun_7 : decode cX3_longestRun 7 = .ok (.iload 4, 2) := by decide +kernel
theorem dX3_longestRun_9 : decode cX3_longestRun 9 = .ok (.aload_n 0, 1) := by decide +kernel
theorem dX3_longestRun_10 : decode cX3_longestRun 10 = .ok (.getfield 21, 3) := by decide +kernel
theorem dX3_longestRun_13 : decode cX3_longestRun 13 = .ok (.if_icmp .ge 69, 3) := by decide +kernel
theorem dX3_longestRun_16 : decode cX3_longestRun 16 = .ok (.iload 4, 2) := by decide +kernel
theorem dX3_longestRun_18 : decode cX3_longestRun 18 = .ok (.ifCond .le 36, 3) := by decide +kernel
theorem dX3_longestRun_21 : decode cX3_longestRun 21 = .ok (.aload_n 1, 1) := by decide +kernel
theorem dX3_longestRun_22 : decode cX3_longestRun 22 = .ok (.getfield 75, 3) := by decide +kernel
theorem dX3_longestRun_25 : decode cX3_longestRun 25 = .ok (.aload_n 0, 1) := by decide +kernel
theorem dX3_longestRun_26 : decode cX3_longestRun 26 = .ok (.getfield 9, 3) := by decide +kernel
theorem dX3_longestRun_29 : decode cX3_longestRun 29 = .ok (.iload 4, 2) := by decide +kernel
theorem dX3_longestRun_31 : decode cX3_longestRun 31 = .ok (.iaload, 1) := by decide +kernel
theorem dX3_longestRun_32 : decode cX3_longestRun 32 = .ok (.iaload, 1) := by decide +kernel
theorem dX3_longestRun_33 : decode cX3_longestRun 33 = .ok (.aload_n 1, 1) := by decide +kernel
theorem dX3_longestRun_34 : decode cX3_longestRun 34 = .ok (.getfield 75, 3) := by decide +kernel
theorem dX3_longestRun_37 : decode cX3_longestRun 37 = .ok (.aload_n 0, 1) := by decide +kernel
theorem dX3_longestRun_38 : decode cX3_longestRun 38 = .ok (.getfield 9, 3) := by decide +kernel
theorem dX3_longestRun_41 : decode cX3_longestRun 41 = .ok (.iload 4, 2) := by decide +kernel
theorem dX3_longestRun_43 : decode cX3_longestRun 43 = .ok (.iconst 1, 1) := by decide +kernel
theorem dX3_longestRun_44 : decode cX3_longestRun 44 = .ok (.isub, 1) := by decide +kernel
theorem dX3_longestRun_45 : decode cX3_longestRun 45 = .ok (.iaload, 1) := by decide +kernel
theorem dX3_longestRun_46 : decode cX3_longestRun 46 = .ok (.iaload, 1) := by decide +kernel
theorem dX3_longestRun_47 : decode cX3_longestRun 47 = .ok (.if_icmp .ne 7, 3) := by decide +kernel
theorem dX3_longestRun_50 : decode cX3_longestRun 50 = .ok (.iconst 1, 1) := by decide +kernel
theorem dX3_longestRun_51 : decode cX3_longestRun 51 = .ok (.goto 4, 3) := by decide +kernel
theorem dX3_longestRun_54 : decode cX3_longestRun 54 = .ok (.iconst 0, 1) := by decide +kernel
theorem dX3_longestRun_55 : decode cX3_longestRun 55 = .ok (.istore 5, 2) := by decide +kernel
theorem dX3_longestRun_57 : decode cX3_longestRun 57 = .ok (.iload 5, 2) := by decide +kernel
theorem dX3_longestRun_59 : decode cX3_longestRun 59 = .ok (.ifCond .eq 9, 3) := by decide +kernel
theorem dX3_longestRun_62 : decode cX3_longestRun 62 = .ok (.iload_n 3, 1) := by decide +kernel
theorem dX3_longestRun_63 : decode cX3_longestRun 63 = .ok (.iconst 1, 1) := by decide +kernel
theorem dX3_longestRun_64 : decode cX3_longestRun 64 = .ok (.iadd, 1) := by decide +kernel
theorem dX3_longestRun_65 : decode cX3_longestRun 65 = .ok (.goto 4, 3) := by decide +kernel
theorem dX3_longestRun_68 : decode cX3_longestRun 68 = .ok (.iconst 1, 1) := by decide +kernel
theorem dX3_longestRun_69 : decode cX3_longestRun 69 = .ok (.istore_n 3, 1) := by decide +kernel
theorem dX3_longestRun_70 : decode cX3_longestRun 70 = .ok (.iload_n 2, 1) := by decide +kernel
theorem dX3_longestRun_71 : decode cX3_longestRun 71 = .ok (.iload_n 3, 1) := by decide +kernel
theorem dX3_longestRun_72 : decode cX3_longestRun 72 = .ok (.invokestatic 103, 3) := by decide +kernel
theorem dX3_longestRun_75 : decode cX3_longestRun 75 = .ok (.istore_n 2, 1) := by decide +kernel
theorem dX3_longestRun_76 : decode cX3_longestRun 76 = .ok (.iinc 4 1, 3) := by decide +kernel
theorem dX3_longestRun_79 : decode cX3_longestRun 79 = .ok (.goto (-72), 3) := by decide +kernel
theorem dX3_longestRun_82 : decode cX3_longestRun 82 = .ok (.iload_n 2, 1) := by decide +kernel
theorem dX3_longestRun_83 : decode cX3_longestRun 83 = .ok (.ireturn, 1) := by decide +kernel
theorem dX3_goneOf_0 : decode cX3_goneOf 0 = .ok (.iconst 0, 1) := by decide +kernel
theorem dX3_goneOf_1 : decode cX3_goneOf 1 = .ok (.istore 4, 2) := by decide +kernel
theorem dX3_goneOf_3 : decode cX3_goneOf 3 = .ok (.iconst 0, 1) := by decide +kernel
theorem dX3_goneOf_4 : decode cX3_goneOf 4 = .ok (.istore 5, 2) := by decide +kernel
theorem dX3_goneOf_6 : decode cX3_goneOf 6 = .ok (.iload 5, 2) := by decide +kernel
theorem dX3_goneOf_8 : decode cX3_goneOf 8 = .ok (.iload_n 3, 1) := by decide +kernel
theorem dX3_goneOf_9 : decode cX3_goneOf 9 = .ok (.if_icmp .ge 37, 3) := by decide +kernel
theorem dX3_goneOf_12 : decode cX3_goneOf 12 = .ok (.iload 5, 2) := by decide +kernel
theorem dX3_goneOf_14 : decode cX3_goneOf 14 = .ok (.aload_n 0, 1) := by decide +kernel
theorem dX3_goneOf_15 : decode cX3_goneOf 15 = .ok (.getfield 21, 3) := by decide +kernel
theorem dX3_goneOf_18 : decode cX3_goneOf 18 = .ok (.if_icmp .ge 28, 3) := by decide +kernel
theorem dX3_goneOf_21 : decode cX3_goneOf 21 = .ok (.aload_n 1, 1) := by decide +kernel
theorem dX3_goneOf_22 : decode cX3_goneOf 22 = .ok (.getfield 75, 3) := by decide +kernel
theorem dX3_goneOf_25 : decode cX3_goneOf 25 = .ok (.aload_n 0, 1) := by decide +kernel
theorem dX3_goneOf_26 : decode cX3_goneOf 26 = .ok (.getfield 9, 3) := by decide +kernel
theorem dX3_goneOf_29 : decode cX3_goneOf 29 = .ok (.iload 5, 2) := by decide +kernel
theorem dX3_goneOf_31 : decode cX3_goneOf 31 = .ok (.iaload, 1) := by decide +kernel
theorem dX3_goneOf_32 : decode cX3_goneOf 32 = .ok (.iaload, 1) := by decide +kernel
theorem dX3_goneOf_33 : decode cX3_goneOf 33 = .ok (.iload_n 2, 1) := by decide +kernel
theorem dX3_goneOf_34 : decode cX3_goneOf 34 = .ok (.if_icmp .ne 6, 3) := by decide +kernel
theorem dX3_goneOf_37 : decode cX3_goneOf 37 = .ok (.iinc 4 1, 3) := by decide +kernel
theorem dX3_goneOf_40 : decode cX3_goneOf 40 = .ok (.iinc 5 1, 3) := by decide +kernel
theorem dX3_goneOf_43 : decode cX3_goneOf 43 = .ok (.goto (-37), 3) := by decide +kernel
theorem dX3_goneOf_46 : decode cX3_goneOf 46 = .ok (.iload 4, 2) := by decide +kernel
theorem dX3_goneOf_48 : decode cX3_goneOf 48 = .ok (.ireturn, 1) := by decide +kernel
theorem dX3_overtaken_0 : decode cX3_overtaken 0 = .ok (.iconst 0, 1) := by decide +kernel
theorem dX3_overtaken_1 : decode cX3_overtaken 1 = .ok (.istore_n 2, 1) := by decide +kernel
theorem dX3_overtaken_2 : decode cX3_overtaken 2 = .ok (.iconst 0, 1) := by decide +kernel
theorem dX3_overtaken_3 : decode cX3_overtaken 3 = .ok (.istore_n 3, 1) := by decide +kernel
theorem dX3_overtaken_4 : decode cX3_overtaken 4 = .ok (.iload_n 3, 1) := by decide +kernel
theorem dX3_overtaken_5 : decode cX3_overtaken 5 = .ok (.iload_n 1, 1) := by decide +kernel
theorem dX3_overtaken_6 : decode cX3_overtaken 6 = .ok (.if_icmp .ge 27, 3) := by decide +kernel
theorem dX3_overtaken_9 : decode cX3_overtaken 9 = .ok (.aload_n 0, 1) := by decide +kernel
theorem dX3_overtaken_10 : decode cX3_overtaken 10 = .ok (.getfield 18, 3) := by decide +kernel
theorem dX3_overtaken_13 : decode cX3_overtaken 13 = .ok (.iload_n 3, 1) := by decide +kernel
theorem dX3_overtaken_14 : decode cX3_overtaken 14 = .ok (.iaload, 1) := by decide +kernel
theorem dX3_overtaken_15 : decode cX3_overtaken 15 = .ok (.aload_n 0, 1) := by decide +kernel
theorem dX3_overtaken_16 : decode cX3_overtaken 16 = .ok (.getfield 18, 3) := by decide +kernel
theorem dX3_overtaken_19 : decode cX3_overtaken 19 = .ok (.iload_n 1, 1) := by decide +kernel
theorem dX3_overtaken_20 : decode cX3_overtaken 20 = .ok (.iaload, 1) := by decide +kernel
theorem dX3_overtaken_21 : decode cX3_overtaken 21 = .ok (.if_icmp .le 6, 3) := by decide +kernel
theorem dX3_overtaken_24 : decode cX3_overtaken 24 = .ok (.iinc 2 1, 3) := by decide +kernel
theorem dX3_overtaken_27 : decode cX3_overtaken 27 = .ok (.iinc 3 1, 3) := by decide +kernel
theorem dX3_overtaken_30 : decode cX3_overtaken 30 = .ok (.goto (-26), 3) := by decide +kernel
theorem dX3_overtaken_33 : decode cX3_overtaken 33 = .ok (.iload_n 2, 1) := by decide +kernel
theorem dX3_overtaken_34 : decode cX3_overtaken 34 = .ok (.ireturn, 1) := by decide +kernel
theorem dX4_init_0 : decode cX4_init 0 = .ok (.aload_n 0, 1) := by decide +kernel
theorem dX4_init_1 : decode cX4_init 1 = .ok (.invokespecial 3, 3) := by decide +kernel
theorem dX4_init_4 : decode cX4_init 4 = .ok (.aload_n 0, 1) := by decide +kernel
theorem dX4_init_5 : decode cX4_init 5 = .ok (.iconst 0, 1) := by decide +kernel
theorem dX4_init_6 : decode cX4_init 6 = .ok (.putfield 9, 3) := by decide +kernel
theorem dX4_init_9 : decode cX4_init 9 = .ok (.aload_n 0, 1) := by decide +kernel
theorem dX4_init_10 : decode cX4_init 10 = .ok (.iconst 0, 1) := by decide +kernel
theorem dX4_init_11 : decode cX4_init 11 = .ok (.putfield 15, 3) := by decide +kernel
theorem dX4_init_14 : decode cX4_init 14 = .ok (.aload_n 0, 1) := by decide +kernel
theorem dX4_init_15 : decode cX4_init 15 = .ok (.iconst 1, 1) := by decide +kernel
theorem dX4_init_16 : decode cX4_init 16 = .ok (.putfield 18, 3) := by decide +kernel
theorem dX4_init_19 : decode cX4_init 19 = .ok (.aload_n 0, 1) := by decide +kernel
theorem dX4_init_20 : decode cX4_init 20 = .ok (.bipush 9, 2) := by decide +kernel
theorem dX4_init_22 : decode cX4_init 22 = .ok (.newarray .int, 2) := by decide +kernel
theorem dX4_init_24 : decode cX4_init 24 = .ok (.putfield 21, 3) := by decide +kernel
theorem dX4_init_27 : decode cX4_init 27 = .ok (.aload_n 0, 1) := by decide +kernel
theorem dX4_init_28 : decode cX4_init 28 = .ok (.bipush 9, 2) := by decide +kernel
theorem dX4_init_30 : decode cX4_init 30 = .ok (.newarray .int, 2) := by decide +kernel
theorem dX4_init_32 : decode cX4_init 32 = .ok (.putfield 25, 3) := by decide +kernel
theorem dX4_init_35 : decode cX4_init 35 = .ok (.aload_n 0, 1) := by decide +kernel
theorem dX4_init_36 : decode cX4_init 36 = .ok (.bipush 9, 2) := by decide +kernel
theorem dX4_init_38 : decode cX4_init 38 = .ok (.newarray .int, 2) := by decide +kernel
theorem dX4_init_40 : decode cX4_init 40 = .ok (.putfield 28, 3) := by decide +kernel
theorem dX4_init_43 : decode cX4_init 43 = .ok (.aload_n 0, 1) := by decide +kernel
theorem dX4_init_44 : decode cX4_init 44 = .ok (.bipush 9, 2) := by decide +kernel
theorem dX4_init_46 : decode cX4_init 46 = .ok (.newarray .int, 2) := by decide +kernel
theorem dX4_init_48 : decode cX4_init 48 = .ok (.putfield 31, 3) := by decide +kernel
theorem dX4_init_51 : decode cX4_init 51 = .ok (.aload_n 0, 1) := by decide +kernel
theorem dX4_init_52 : decode cX4_init 52 = .ok (.bipush 9, 2) := by decide +kernel
theorem dX4_init_54 : decode cX4_init 54 = .ok (.newarray .int, 2) := by decide +kernel
theorem dX4_init_56 : decode cX4_init 56 = .ok (.putfield 34, 3) := by decide +kernel
theorem dX4_init_59 : decode cX4_init 59 = .ok (.return_, 1) := by decide +kernel
theorem dX4_has_0 : decode cX4_has 0 = .ok (.iload_n 1, 1) := by decide +kernel
theorem dX4_has_1 : decode cX4_has 1 = .ok (.ifCond .lt 15, 3) := by decide +kernel
theorem dX4_has_4 : decode cX4_has 4 = .ok (.iload_n 1, 1) := by decide +kernel
theorem dX4_has_5 : decode cX4_has 5 = .ok (.aload_n 0, 1) := by decide +kernel
theorem dX4_has_6 : decode cX4_has 6 = .ok (.getfield 9, 3) := by decide +kernel
theorem dX4_has_9 : decode cX4_has 9 = .ok (.if_icmp .ge 7, 3) := by decide +kernel
theorem dX4_has_12 : decode cX4_has 12 = .ok (.iconst 1, 1) := by decide +kernel
theorem dX4_has_13 : decode cX4_has 13 = .ok (.goto 4, 3) := by decide +kernel
theorem dX4_has_16 : decode cX4_has 16 = .ok (.iconst 0, 1) := by decide +kernel
theorem dX4_has_17 : decode cX4_has 17 = .ok (.ireturn, 1) := by decide +kernel
theorem dX4_areTwo_0 : decode cX4_areTwo 0 = .ok (.aload_n 0, 1) := by decide +kernel
theorem dX4_areTwo_1 : decode cX4_areTwo 1 = .ok (.iload_n 1, 1) := by decide +kernel
theorem dX4_areTwo_2 : decode cX4_areTwo 2 = .ok (.invokevirtual 37, 3) := by decide +kernel
theorem dX4_areTwo_5 : decode cX4_areTwo 5 = .ok (.ifCond .eq 20, 3) := by decide +kernel
theorem dX4_areTwo_8 : decode cX4_areTwo 8 = .ok (.aload_n 0, 1) := by decide +kernel
theorem dX4_areTwo_9 : decode cX4_areTwo 9 = .ok (.iload_n 2, 1) := by decide +kernel
theorem dX4_areTwo_10 : decode cX4_areTwo 10 = .ok (.invokevirtual 37, 3) := by decide +kernel
theorem dX4_areTwo_13 : decode cX4_areTwo 13 = .ok (.ifCond .eq 12, 3) := by decide +kernel
theorem dX4_areTwo_16 : decode cX4_areTwo 16 = .ok (.iload_n 1, 1) := by decide +kernel
theorem dX4_areTwo_17 : decode cX4_areTwo 17 = .ok (.iload_n 2, 1) := by decide +kernel
theorem dX4_areTwo_18 : decode cX4_areTwo 18 = .ok (.if_icmp .eq 7, 3) := by decide +kernel
theorem dX4_areTwo_21 : decode cX4_areTwo 21 = .ok (.iconst 1, 1) := by decide +kernel
theorem dX4_areTwo_22 : decode cX4_areTwo 22 = .ok (.goto 4, 3) := by decide +kernel
theorem dX4_areTwo_25 : decode cX4_areTwo 25 = .ok (.iconst 0, 1) := by decide +kernel
theorem dX4_areTwo_26 : decode cX4_areTwo 26 = .ok (.ireturn, 1) := by decide +kernel
theorem dX4_copyFrom_0 : decode cX4_copyFrom 0 = .ok (.aload_n 0, 1) := by decide +kernel
theorem dX4_copyFrom_1 : decode cX4_copyFrom 1 = .ok (.aload_n 1, 1) := by decide +kernel
theorem dX4_copyFrom_2 : decode cX4_copyFrom 2 = .ok (.getfield 9, 3) := by decide +kernel
theorem dX4_copyFrom_5 : decode cX4_copyFrom 5 = .ok (.putfield 9, 3) := by decide +kernel
theorem dX4_copyFrom_8 : decode cX4_copyFrom 8 = .ok (.aload_n 0, 1) := by decide +kernel
theorem dX4_copyFrom_9 : decode cX4_copyFrom 9 = .ok (.aload_n 1, 1) := by decide +kernel
theorem dX4_copyFrom_10 : decode cX4_copyFrom 10 = .ok (.getfield 15, 3) := by decide +kernel
theorem dX4_copyFrom_13 : decode cX4_copyFrom 13 = .ok (.putfield 15, 3) := by decide +kernel
theorem dX4_copyFrom_16 : decode cX4_copyFrom 16 = .ok (.aload_n 0, 1) := by decide +kernel
theorem dX4_copyFrom_17 : decode cX4_copyFrom 17 = .ok (.aload_n 1, 1) := by decide +kernel
theorem dX4_copyFrom_18 : decode cX4_copyFrom 18 = .ok (.getfield 18, 3) := by decide +kernel
theorem dX4_copyFrom_21 : decode cX4_copyFrom 21 = .ok (.putfield 18, 3) := by decide +kernel
theorem dX4_copyFrom_24 : decode cX4_copyFrom 24 = .ok (.iconst 0, 1) := by decide +kernel
theorem dX4_copyFrom_25 : decode cX4_copyFrom 25 = .ok (.istore_n 2, 1) := by decide +kernel
theorem dX4_copyFrom_26 : decode cX4_copyFrom 26 = .ok (.iload_n 2, 1) := by decide +kernel
theorem dX4_copyFrom_27 : decode cX4_copyFrom 27 = .ok (.aload_n 0, 1) := by decide +kernel
theorem dX4_copyFrom_28 : decode cX4_copyFrom 28 = .ok (.getfield 9, 3) := by decide +kernel
theorem dX4_copyFrom_31 : decode cX4_copyFrom 31 = .ok (.if_icmp .ge 69, 3) := by decide +kernel
theorem dX4_copyFrom_34 : decode cX4_copyFrom 34 = .ok (.aload_n 0, 1) := by decide +kernel
theorem dX4_copyFrom_35 : decode cX4_copyFrom 35 = .ok (.getfield 21, 3) := by decide +kernel
theorem dX4_copyFrom_38 : decode cX4_copyFrom 38 = .ok (.iload_n 2, 1) := by decide +kernel
theorem dX4_copyFrom_39 : decode cX4_copyFrom 39 = .ok (.aload_n 1, 1) := by decide +kernel
theorem dX4_copyFrom_40 : decode cX4_copyFrom 40 = .ok (.getfield 21, 3) := by decide +kernel
theorem dX4_copyFrom_43 : decode cX4_copyFrom 43 = .ok (.iload_n 2, 1) := by decide +kernel
theorem dX4_copyFrom_44 : decode cX4_copyFrom 44 = .ok (.iaload, 1) := by decide +kernel
theorem dX4_copyFrom_45 : decode cX4_copyFrom 45 = .ok (.iastore, 1) := by decide +kernel
theorem dX4_copyFrom_46 : decode cX4_copyFrom 46 = .ok (.aload_n 0, 1) := by decide +kernel
theorem dX4_copyFrom_47 : decode cX4_copyFrom 47 = .ok (.getfield 25, 3) := by decide +kernel
theorem dX4_copyFrom_50 : decode cX4_copyFrom 50 = .ok (.iload_n 2, 1) := by decide +kernel
theorem dX4_copyFrom_51 : decode cX4_copyFrom 51 = .ok (.aload_n 1, 1) := by decide +kernel
theorem dX4_copyFrom_52 : decode cX4_copyFrom 52 = .ok (.getfield 25, 3) := by decide +kernel
theorem dX4_copyFrom_55 : decode cX4_copyFrom 55 = .ok (.iload_n 2, 1) := by decide +kernel
theorem dX4_copyFrom_56 : decode cX4_copyFrom 56 = .ok (.iaload, 1) := by decide +kernel
theorem dX4_copyFrom_57 : decode cX4_copyFrom 57 = .ok (.iastore, 1) := by decide +kernel
theorem dX4_copyFrom_58 : decode cX4_copyFrom 58 = .ok (.aload_n 0, 1) := by decide +kernel
theorem dX4_copyFrom_59 : decode cX4_copyFrom 59 = .ok (.getfield 28, 3) := by decide +kernel
theorem dX4_copyFrom_62 : decode cX4_copyFrom 62 = .ok (.iload_n 2, 1) := by decide +kernel
theorem dX4_copyFrom_63 : decode cX4_copyFrom 63 = .ok (.aload_n 1, 1) := by decide +kernel
theorem dX4_copyFrom_64 : decode cX4_copyFrom 64 = .ok (.getfield 28, 3) := by decide +kernel
theorem dX4_copyFrom_67 : decode cX4_copyFrom 67 = .ok (.iload_n 2, 1) := by decide +kernel
theorem dX4_copyFrom_68 : decode cX4_copyFrom 68 = .ok (.iaload, 1) := by decide +kernel
theorem dX4_copyFrom_69 : decode cX4_copyFrom 69 = .ok (.iastore, 1) := by decide +kernel
theorem dX4_copyFrom_70 : decode cX4_copyFrom 70 = .ok (.aload_n 0, 1) := by decide +kernel
theorem dX4_copyFrom_71 : decode cX4_copyFrom 71 = .ok (.getfield 31, 3) := by decide +kernel
theorem dX4_copyFrom_74 : decode cX4_copyFrom 74 = .ok (.iload_n 2, 1) := by decide +kernel
theorem dX4_copyFrom_75 : decode cX4_copyFrom 75 = .ok (.aload_n 1, 1) := by decide +kernel
theorem dX4_copyFrom_76 : decode cX4_copyFrom 76 = .ok (.getfield 31, 3) := by decide +kernel
theorem dX4_copyFrom_79 : decode cX4_copyFrom 79 = .ok (.iload_n 2, 1) := by decide +kernel
theorem dX4_copyFrom_80 : decode cX4_copyFrom 80 = .ok (.iaload, 1) := by decide +kernel
theorem dX4_copyFrom_81 : decode cX4_copyFrom 81 = .ok (.iastore, 1) := by decide +kernel
theorem dX4_copyFrom_82 : decode cX4_copyFrom 82 = .ok (.aload_n 0, 1) := by decide +kernel
theorem dX4_copyFrom_83 : decode cX4_copyFrom 83 = .ok (.getfield 34, 3) := by decide +kernel
theorem dX4_copyFrom_86 : decode cX4_copyFrom 86 = .ok (.iload_n 2, 1) := by decide +kernel
theorem dX4_copyFrom_87 : decode cX4_copyFrom 87 = .ok (.aload_n 1, 1) := by decide +kernel
theorem dX4_copyFrom_88 : decode cX4_copyFrom 88 = .ok (.getfield 34, 3) := by decide +kernel
theorem dX4_copyFrom_91 : decode cX4_copyFrom 91 = .ok (.iload_n 2, 1) := by decide +kernel
theorem dX4_copyFrom_92 : decode cX4_copyFrom 92 = .ok (.iaload, 1) := by decide +kernel
theorem dX4_copyFrom_93 : decode cX4_copyFrom 93 = .ok (.iastore, 1) := by decide +kernel
theorem dX4_copyFrom_94 : decode cX4_copyFrom 94 = .ok (.iinc 2 1, 3) := by decide +kernel
theorem dX4_copyFrom_97 : decode cX4_copyFrom 97 = .ok (.goto (-71), 3) := by decide +kernel
theorem dX4_copyFrom_100 : decode cX4_copyFrom 100 = .ok (.return_, 1) := by decide +kernel
theorem dX4_add_0 : decode cX4_add 0 = .ok (.aload_n 0, 1) := by decide +kernel
theorem dX4_add_1 : decode cX4_add 1 = .ok (.getfield 9, 3) := by decide +kernel
theorem dX4_add_4 : decode cX4_add 4 = .ok (.bipush 9, 2) := by decide +kernel
theorem dX4_add_6 : decode cX4_add 6 = .ok (.if_icmp .ge 24, 3) := by decide +kernel
theorem dX4_add_9 : decode cX4_add 9 = .ok (.iload_n 3, 1) := by decide +kernel
theorem dX4_add_10 : decode cX4_add 10 = .ok (.ifCond .lt 20, 3) := by decide +kernel
theorem dX4_add_13 : decode cX4_add 13 = .ok (.iload_n 3, 1) := by decide +kernel
theorem dX4_add_14 : decode cX4_add 14 = .ok (.iconst 2, 1) := by decide +kernel
theorem dX4_add_15 : decode cX4_add 15 = .ok (.if_icmp .ge 15, 3) := by decide +kernel
theorem dX4_add_18 : decode cX4_add 18 = .ok (.iload 4, 2) := by decide +kernel
theorem dX4_add_20 : decode cX4_add 20 = .ok (.ifCond .lt 10, 3) := by decide +kernel
theorem dX4_add_23 : decode cX4_add 23 = .ok (.iload 4, 2) := by decide +kernel
theorem dX4_add_25 : decode cX4_add 25 = .ok (.bipush 20, 2) := by decide +kernel
theorem dX4_add_27 : decode cX4_add 27 = .ok (.if_icmp .le 5, 3) := by decide +kernel
theorem dX4_add_30 : decode cX4_add 30 = .ok (.iconst 0, 1) := by decide +kernel
theorem dX4_add_31 : decode cX4_add 31 = .ok (.ireturn, 1) := by decide +kernel
theorem dX4_add_32 : decode cX4_add 32 = .ok (.aload_n 0, 1) := by decide +kernel
theorem dX4_add_33 : decode cX4_add 33 = .ok (.getfield 21, 3) := by decide +kernel
theorem dX4_add_36 : decode cX4_add 36 = .ok (.aload_n 0, 1) := by decide +kernel
theorem dX4_add_37 : decode cX4_add 37 = .ok (.getfield 9, 3) := by decide +kernel
theorem dX4_add_40 : decode cX4_add 40 = .ok (.iload_n 1, 1) := by decide +kernel
theorem dX4_add_41 : decode cX4_add 41 = .ok (.iastore, 1) := by decide +kernel
theorem dX4_add_42 : decode cX4_add 42 = .ok (.aload_n 0, 1) := by decide +kernel
theorem dX4_add_43 : decode cX4_add 43 = .ok (.getfield 25, 3) := by decide +kernel
theorem dX4_add_46 : decode cX4_add 46 = .ok (.aload_n 0, 1) := by decide +kernel
theorem dX4_add_47 : decode cX4_add 47 = .ok (.getfield 9, 3) := by decide +kernel
theorem dX4_add_50 : decode cX4_add 50 = .ok (.iload_n 2, 1) := by decide +kernel
theorem dX4_add_51 : decode cX4_add 51 = .ok (.iastore, 1) := by decide +kernel
theorem dX4_add_52 : decode cX4_add 52 = .ok (.aload_n 0, 1) := by decide +kernel
theorem dX4_add_53 : decode cX4_add 53 = .ok (.getfield 28, 3) := by decide +kernel
theorem dX4_add_56 : decode cX4_add 56 = .ok (.aload_n 0, 1) := by decide +kernel
theorem dX4_add_57 : decode cX4_add 57 = .ok (.getfield 9, 3) := by decide +kernel
theorem dX4_add_60 : decode cX4_add 60 = .ok (.iload_n 3, 1) := by decide +kernel
theorem dX4_add_61 : decode cX4_add 61 = .ok (.iastore, 1) := by decide +kernel
theorem dX4_add_62 : decode cX4_add 62 = .ok (.aload_n 0, 1) := by decide +kernel
theorem dX4_add_63 : decode cX4_add 63 = .ok (.getfield 31, 3) := by decide +kernel
theorem dX4_add_66 : decode cX4_add 66 = .ok (.aload_n 0, 1) := by decide +kernel
theorem dX4_add_67 : decode cX4_add 67 = .ok (.getfield 9, 3) := by decide +kernel
theorem dX4_add_70 : decode cX4_add 70 = .ok (.iload 4, 2) := by decide +kernel
theorem dX4_add_72 : decode cX4_add 72 = .ok (.iastore, 1) := by decide +kernel
theorem dX4_add_73 : decode cX4_add 73 = .ok (.aload_n 0, 1) := by decide +kernel
theorem dX4_add_74 : decode cX4_add 74 = .ok (.getfield 34, 3) := by decide +kernel
theorem dX4_add_77 : decode cX4_add 77 = .ok (.aload_n 0, 1) := by decide +kernel
theorem dX4_add_78 : decode cX4_add 78 = .ok (.getfield 9, 3) := by decide +kernel
theorem dX4_add_81 : decode cX4_add 81 = .ok (.aload_n 0, 1) := by decide +kernel
theorem dX4_add_82 : decode cX4_add 82 = .ok (.getfield 9, 3) := by decide +kernel
theorem dX4_add_85 : decode cX4_add 85 = .ok (.iastore, 1) := by decide +kernel
theorem dX4_add_86 : decode cX4_add 86 = .ok (.aload_n 0, 1) := by decide +kernel
theorem dX4_add_87 : decode cX4_add 87 = .ok (.dup, 1) := by decide +kernel
theorem dX4_add_88 : decode cX4_add 88 = .ok (.getfield 9, 3) := by decide +kernel
theorem dX4_add_91 : decode cX4_add 91 = .ok (.iconst 1, 1) := by decide +kernel
theorem dX4_add_92 : decode cX4_add 92 = .ok (.iadd, 1) := by decide +kernel
theorem dX4_add_93 : decode cX4_add 93 = .ok (.putfield 9, 3) := by decide +kernel
theorem dX4_add_96 : decode cX4_add 96 = .ok (.iconst 1, 1) := by decide +kernel
theorem dX4_add_97 : decode cX4_add 97 = .ok (.ireturn, 1) := by decide +kernel
theorem dX4_putBoard_0 : decode cX4_putBoard 0 = .ok (.iload_n 1, 1) := by decide +kernel
theorem dX4_putBoard_1 : decode cX4_putBoard 1 = .ok (.ifCond .lt 8, 3) := by decide +kernel
theorem dX4_putBoard_4 : decode cX4_putBoard 4 = .ok (.iload_n 1, 1) := by decide +kernel
theorem dX4_putBoard_5 : decode cX4_putBoard 5 = .ok (.iconst 2, 1) := by decide +kernel
theorem dX4_putBoard_6 : decode cX4_putBoard 6 = .ok (.if_icmp .le 5, 3) := by decide +kernel
theorem dX4_putBoard_9 : decode cX4_putBoard 9 = .ok (.iconst 0, 1) := by decide +kernel
theorem dX4_putBoard_10 : decode cX4_putBoard 10 = .ok (.ireturn, 1) := by decide +kernel
theorem dX4_putBoard_11 : decode cX4_putBoard 11 = .ok (.aload_n 0, 1) := by decide +kernel
theorem dX4_putBoard_12 : decode cX4_putBoard 12 = .ok (.iload_n 1, 1) := by decide +kernel
theorem dX4_putBoard_13 : decode cX4_putBoard 13 = .ok (.putfield 15, 3) := by decide +kernel
theorem dX4_putBoard_16 : decode cX4_putBoard 16 = .ok (.iconst 1, 1) := by decide +kernel
theorem dX4_putBoard_17 : decode cX4_putBoard 17 = .ok (.ireturn, 1) := by decide +kernel
theorem dX4_putWave_0 : decode cX4_putWave 0 = .ok (.iload_n 1, 1) := by decide +kernel
theorem dX4_putWave_1 : decode cX4_putWave 1 = .ok (.ifCond .lt 9, 3) := by decide +kernel
theorem dX4_putWave_4 : decode cX4_putWave 4 = .ok (.iload_n 1, 1) := by decide +kernel
theorem dX4_putWave_5 : decode cX4_putWave 5 = .ok (.bipush 9, 2) := by decide +kernel
theorem dX4_putWave_7 : decode cX4_putWave 7 = .ok (.if_icmp .le 5, 3) := by decide +kernel
theorem dX4_putWave_10 : decode cX4_putWave 10 = .ok (.iconst 0, 1) := by decide +kernel
theorem dX4_putWave_11 : decode cX4_putWave 11 = .ok (.ireturn, 1) := by decide +kernel
theorem dX4_putWave_12 : decode cX4_putWave 12 = .ok (.aload_n 0, 1) := by decide +kernel
theorem dX4_putWave_13 : decode cX4_putWave 13 = .ok (.iload_n 1, 1) := by decide +kernel
theorem dX4_putWave_14 : decode cX4_putWave 14 = .ok (.putfield 18, 3) := by decide +kernel
theorem dX4_putWave_17 : decode cX4_putWave 17 = .ok (.iconst 1, 1) := by decide +kernel
theorem dX4_putWave_18 : decode cX4_putWave 18 = .ok (.ireturn, 1) := by decide +kernel
theorem dX4_crossOver_0 : decode cX4_crossOver 0 = .ok (.aload_n 0, 1) := by decide +kernel
theorem dX4_crossOver_1 : decode cX4_crossOver 1 = .ok (.iload_n 1, 1) := by decide +kernel
theorem dX4_crossOver_2 : decode cX4_crossOver 2 = .ok (.invokevirtual 37, 3) := by decide +kernel
theorem dX4_crossOver_5 : decode cX4_crossOver 5 = .ok (.ifCond .eq 23, 3) := by decide +kernel
theorem dX4_crossOver_8 : decode cX4_crossOver 8 = .ok (.aload_n 0, 1) := by decide +kernel
theorem dX4_crossOver_9 : decode cX4_crossOver 9 = .ok (.iconst 1, 1) := by decide +kernel
theorem dX4_crossOver_10 : decode cX4_crossOver 10 = .ok (.aload_n 0, 1) := by decide +kernel
theorem dX4_crossOver_11 : decode cX4_crossOver 11 = .ok (.getfield 28, 3) := by decide +kernel
theorem dX4_crossOver_14 : decode cX4_crossOver 14 = .ok (.iload_n 1, 1) := by decide +kernel
theorem dX4_crossOver_15 : decode cX4_crossOver 15 = .ok (.iaload, 1) := by decide +kernel
theorem dX4_crossOver_16 : decode cX4_crossOver 16 = .ok (.isub, 1) := by decide +kernel
theorem dX4_crossOver_17 : decode cX4_crossOver 17 = .ok (.iload_n 1, 1) := by decide +kernel
theorem dX4_crossOver_18 : decode cX4_crossOver 18 = .ok (.invokevirtual 41, 3) := by decide +kernel
theorem dX4_crossOver_21 : decode cX4_crossOver 21 = .ok (.ifCond .eq 7, 3) := by decide +kernel
theorem dX4_crossOver_24 : decode cX4_crossOver 24 = .ok (.iconst 1, 1) := by decide +kernel
theorem dX4_crossOver_25 : decode cX4_crossOver 25 = .ok (.goto 4, 3) := by decide +kernel
theorem dX4_crossOver_28 : decode cX4_crossOver 28 = .ok (.iconst 0, 1) := by decide +kernel
theorem dX4_crossOver_29 : decode cX4_crossOver 29 = .ok (.ireturn, 1) := by decide +kernel
theorem dX4_moveToEndOf_0 : decode cX4_moveToEndOf 0 = .ok (.aload_n 0, 1) := by decide +kernel
theorem dX4_moveToEndOf_1 : decode cX4_moveToEndOf 1 = .ok (.iload_n 2, 1) := by decide +kernel
theorem dX4_moveToEndOf_2 : decode cX4_moveToEndOf 2 = .ok (.invokevirtual 37, 3) := by decide +kernel
theorem dX4_moveToEndOf_5 : decode cX4_moveToEndOf 5 = .ok (.ifCond .ne 5, 3) := by decide +kernel
theorem dX4_moveToEndOf_8 : decode cX4_moveToEndOf 8 = .ok (.iconst 0, 1) := by decide +kernel
theorem dX4_moveToEndOf_9 : decode cX4_moveToEndOf 9 = .ok (.ireturn, 1) := by decide +kernel
theorem dX4_moveToEndOf_10 : decode cX4_moveToEndOf 10 = .ok (.aload_n 0, 1) := by decide +kernel
theorem dX4_moveToEndOf_11 : decode cX4_moveToEndOf 11 = .ok (.iload_n 2, 1) := by decide +kernel
theorem dX4_moveToEndOf_12 : decode cX4_moveToEndOf 12 = .ok (.invokevirtual 45, 3) := by decide +kernel
theorem dX4_moveToEndOf_15 : decode cX4_moveToEndOf 15 = .ok (.istore_n 3, 1) := by decide +kernel
theorem dX4_moveToEndOf_16 : decode cX4_moveToEndOf 16 = .ok (.iload_n 3, 1) := by decide +kernel
theorem dX4_moveToEndOf_17 : decode cX4_moveToEndOf 17 = .ok (.iconst 1, 1) := by decide +kernel
theorem dX4_moveToEndOf_18 : decode cX4_moveToEndOf 18 = .ok (.iadd, 1) := by decide +kernel
theorem dX4_moveToEndOf_19 : decode cX4_moveToEndOf 19 = .ok (.aload_n 0, 1) := by decide +kernel
theorem dX4_moveToEndOf_20 : decode cX4_moveToEndOf 20 = .ok (.getfield 9, 3) := by decide +kernel
theorem dX4_moveToEndOf_23 : decode cX4_moveToEndOf 23 = .ok (.if_icmp .ge 23, 3) := by decide +kernel
theorem dX4_moveToEndOf_26 : decode cX4_moveToEndOf 26 = .ok (.aload_n 0, 1) := by decide +kernel
theorem dX4_moveToEndOf_27 : decode cX4_moveToEndOf 27 = .ok (.getfield 34, 3) := by decide +kernel
theorem dX4_moveToEndOf_30 : decode cX4_moveToEndOf 30 = .ok (.iload_n 3, 1) := by decide +kernel
theorem dX4_moveToEndOf_31 : decode cX4_moveToEndOf 31 = .ok (.aload_n 0, 1) := by decide +kernel
theorem dX4_moveToEndOf_32 : decode cX4_moveToEndOf 32 = .ok (.getfield 34, 3) := by decide +kernel
theorem dX4_moveToEndOf_35 : decode cX4_moveToEndOf 35 = .ok (.iload_n 3, 1) := by decide +kernel
theorem dX4_moveToEndOf_36 : decode cX4_moveToEndOf 36 = .ok (.iconst 1, 1) := by decide +kernel
theorem dX4_moveToEndOf_37 : decode cX4_moveToEndOf 37 = .ok (.iadd, 1) := by decide +kernel
theorem dX4_moveToEndOf_38 : decode cX4_moveToEndOf 38 = .ok (.iaload, 1) := by decide +kernel
theorem dX4_moveToEndOf_39 : decode cX4_moveToEndOf 39 = .ok (.iastore, 1) := by decide +kernel
theorem dX4_moveToEndOf_40 : decode cX4_moveToEndOf 40 = .ok (.iinc 3 1, 3) := by decide +kernel
theorem dX4_moveToEndOf_43 : decode cX4_moveToEndOf 43 = .ok (.goto (-27), 3) := by decide +kernel
theorem dX4_moveToEndOf_46 : decode cX4_moveToEndOf 46 = .ok (.aload_n 0, 1) := by decide +kernel
theorem dX4_moveToEndOf_47 : decode cX4_moveToEndOf 47 = .ok (.getfield 34, 3) := by decide +kernel
theorem dX4_moveToEndOf_50 : decode cX4_moveToEndOf 50 = .ok (.aload_n 0, 1) := by decide +kernel
theorem dX4_moveToEndOf_51 : decode cX4_moveToEndOf 51 = .ok (.getfield 9, 3) := by decide +kernel
theorem dX4_moveToEndOf_54 : decode cX4_moveToEndOf 54 = .ok (.iconst 1, 1) := by decide +kernel
theorem dX4_moveToEndOf_55 : decode cX4_moveToEndOf 55 = .ok (.isub, 1) := by decide +kernel
theorem dX4_moveToEndOf_56 : decode cX4_moveToEndOf 56 = .ok (.iload_n 2, 1) := by decide +kernel
theorem dX4_moveToEndOf_57 : decode cX4_moveToEndOf 57 = .ok (.iastore, 1) := by decide +kernel
theorem dX4_moveToEndOf_58 : decode cX4_moveToEndOf 58 = .ok (.aload_n 0, 1) := by decide +kernel
theorem dX4_moveToEndOf_59 : decode cX4_moveToEndOf 59 = .ok (.getfield 28, 3) := by decide +kernel
theorem dX4_moveToEndOf_62 : decode cX4_moveToEndOf 62 = .ok (.iload_n 2, 1) := by decide +kernel
theorem dX4_moveToEndOf_63 : decode cX4_moveToEndOf 63 = .ok (.iload_n 1, 1) := by decide +kernel
theorem dX4_moveToEndOf_64 : decode cX4_moveToEndOf 64 = .ok (.iastore, 1) := by decide +kernel
theorem dX4_moveToEndOf_65 : decode cX4_moveToEndOf 65 = .ok (.iconst 1, 1) := by decide +kernel
theorem dX4_moveToEndOf_66 : decode cX4_moveToEndOf 66 = .ok (.ireturn, 1) := by decide +kernel
theorem dX4_moveToFront_0 : decode cX4_moveToFront 0 = .ok (.aload_n 0, 1) := by decide +kernel
theorem dX4_moveToFront_1 : decode cX4_moveToFront 1 = .ok (.iload_n 1, 1) := by decide +kernel
theorem dX4_moveToFront_2 : decode cX4_moveToFront 2 = .ok (.invokevirtual 37, 3) := by decide +kernel
theorem dX4_moveToFront_5 : decode cX4_moveToFront 5 = .ok (.ifCond .ne 5, 3) := by decide +kernel
theorem dX4_moveToFront_8 : decode cX4_moveToFront 8 = .ok (.iconst 0, 1) := by decide +kernel
theorem dX4_moveToFront_9 : decode cX4_moveToFront 9 = .ok (.ireturn, 1) := by decide +kernel
theorem dX4_moveToFront_10 : decode cX4_moveToFront 10 = .ok (.aload_n 0, 1) := by decide +kernel
theorem dX4_moveToFront_11 : decode cX4_moveToFront 11 = .ok (.iload_n 1, 1) := by decide +kernel
theorem dX4_moveToFront_12 : decode cX4_moveToFront 12 = .ok (.invokevirtual 45, 3) := by decide +kernel
theorem dX4_moveToFront_15 : decode cX4_moveToFront 15 = .ok (.istore_n 2, 1) := by decide +kernel
theorem dX4_moveToFront_16 : decode cX4_moveToFront 16 = .ok (.iload_n 2, 1) := by decide +kernel
theorem dX4_moveToFront_17 : decode cX4_moveToFront 17 = .ok (.ifCond .le 23, 3) := by decide +kernel
theorem dX4_moveToFront_20 : decode cX4_moveToFront 20 = .ok (.aload_n 0, 1) := by decide +kernel
theorem dX4_moveToFront_21 : decode cX4_moveToFront 21 = .ok (.getfield 34, 3) := by decide +kernel
theorem dX4_moveToFront_24 : decode cX4_moveToFront 24 = .ok (.iload_n 2, 1) := by decide +kernel
theorem dX4_moveToFront_25 : decode cX4_moveToFront 25 = .ok (.aload_n 0, 1) := by decide +kernel
theorem dX4_moveToFront_26 : decode cX4_moveToFront 26 = .ok (.getfield 34, 3) := by decide +kernel
theorem dX4_moveToFront_29 : decode cX4_moveToFront 29 = .ok (.iload_n 2, 1) := by decide +kernel
theorem dX4_moveToFront_30 : decode cX4_moveToFront 30 = .ok (.iconst 1, 1) := by decide +kernel
theorem dX4_moveToFront_31 : decode cX4_moveToFront 31 = .ok (.isub, 1) := by decide +kernel
theorem dX4_moveToFront_32 : decode cX4_moveToFront 32 = .ok (.iaload, 1) := by decide +kernel
theorem dX4_moveToFront_33 : decode cX4_moveToFront 33 = .ok (.iastore, 1) := by decide +kernel
theorem dX4_moveToFront_34 : decode cX4_moveToFront 34 = .ok (.iinc 2 (-1), 3) := by decide +kernel
theorem dX4_moveToFront_37 : decode cX4_moveToFront 37 = .ok (.goto (-21), 3) := by decide +kernel
theorem dX4_moveToFront_40 : decode cX4_moveToFront 40 = .ok (.aload_n 0, 1) := by decide +kernel
theorem dX4_moveToFront_41 : decode cX4_moveToFront 41 = .ok (.getfield 34, 3) := by decide +kernel
theorem dX4_moveToFront_44 : decode cX4_moveToFront 44 = .ok (.iconst 0, 1) := by decide +kernel
theorem dX4_moveToFront_45 : decode cX4_moveToFront 45 = .ok (.iload_n 1, 1) := by decide +kernel
theorem dX4_moveToFront_46 : decode cX4_moveToFront 46 = .ok (.iastore, 1) := by decide +kernel
theorem dX4_moveToFront_47 : decode cX4_moveToFront 47 = .ok (.iconst 1, 1) := by decide +kernel
theorem dX4_moveToFront_48 : decode cX4_moveToFront 48 = .ok (.ireturn, 1) := by decide +kernel
theorem dX4_exchangeKinds_0 : decode cX4_exchangeKinds 0 = .ok (.aload_n 0, 1) := by decide +kernel
theorem dX4_exchangeKinds_1 : decode cX4_exchangeKinds 1 = .ok (.iload_n 1, 1) := by decide +kernel
theorem dX4_exchangeKinds_2 : decode cX4_exchangeKinds 2 = .ok (.iload_n 2, 1) := by decide +kernel
theorem dX4_exchangeKinds_3 : decode cX4_exchangeKinds 3 = .ok (.invokevirtual 49, 3) := by decide +kernel
theorem dX4_exchangeKinds_6 : decode cX4_exchangeKinds 6 = .ok (.ifCond .ne 5, 3) := by decide +kernel
theorem dX4_exchangeKinds_9 : decode cX4_exchangeKinds 9 = .ok (.iconst 0, 1) := by decide +kernel
theorem dX4_exchangeKinds_10 : decode cX4_exchangeKinds 10 = .ok (.ireturn, 1) := by decide +kernel
theorem dX4_exchangeKinds_11 : decode cX4_exchangeKinds 11 = .ok (.aload_n 0, 1) := by decide +kernel
theorem dX4_exchangeKinds_12 : decode cX4_exchangeKinds 12 = .ok (.getfield 21, 3) := by decide +kernel
theorem dX4_exchangeKinds_15 : decode cX4_exchangeKinds 15 = .ok (.iload_n 1, 1) := by decide +kernel
theorem dX4_exchangeKinds_16 : decode cX4_exchangeKinds 16 = .ok (.iaload, 1) := by decide +kernel
theorem dX4_exchangeKinds_17 : decode cX4_exchangeKinds 17 = .ok (.istore_n 3, 1) := by decide +kernel
theorem dX4_exchangeKinds_18 : decode cX4_exchangeKinds 18 = .ok (.aload_n 0, 1) := by decide +kernel
theorem dX4_exchangeKinds_19 : decode cX4_exchangeKinds 19 = .ok (.getfield 25, 3) := by decide +kernel
theorem dX4_exchangeKinds_22 : decode cX4_exchangeKinds 22 = .ok (.iload_n 1, 1) := by decide +kernel
theorem dX4_exchangeKinds_23 : decode cX4_exchangeKinds 23 = .ok (.iaload, 1) := by decide +kernel
theorem dX4_exchangeKinds_24 : decode cX4_exchangeKinds 24 = .ok (.istore 4, 2) := by decide +kernel
theorem dX4_exchangeKinds_26 : decode cX4_exchangeKinds 26 = .ok (.aload_n 0, 1) := by decide +kernel
theorem dX4_exchangeKinds_27 : decode cX4_exchangeKinds 27 = .ok (.getfield 21, 3) := by decide +kernel
theorem dX4_exchangeKinds_30 : decode cX4_exchangeKinds 30 = .ok (.iload_n 1, 1) := by decide +kernel
theorem dX4_exchangeKinds_31 : decode cX4_exchangeKinds 31 = .ok (.aload_n 0, 1) := by decide +kernel
theorem dX4_exchangeKinds_32 : decode cX4_exchangeKinds 32 = .ok (.getfield 21, 3) := by decide +kernel
theorem dX4_exchangeKinds_35 : decode cX4_exchangeKinds 35 = .ok (.iload_n 2, 1) := by decide +kernel
theorem dX4_exchangeKinds_36 : decode cX4_exchangeKinds 36 = .ok (.iaload, 1) := by decide +kernel
theorem dX4_exchangeKinds_37 : decode cX4_exchangeKinds 37 = .ok (.iastore, 1) := by decide +kernel
theorem dX4_exchangeKinds_38 : decode cX4_exchangeKinds 38 = .ok (.aload_n 0, 1) := by decide +kernel
theorem dX4_exchangeKinds_39 : decode cX4_exchangeKinds 39 = .ok (.getfield 25, 3) := by decide +kernel
theorem dX4_exchangeKinds_42 : decode cX4_exchangeKinds 42 = .ok (.iload_n 1, 1) := by decide +kernel
theorem dX4_exchangeKinds_43 : decode cX4_exchangeKinds 43 = .ok (.aload_n 0, 1) := by decide +kernel
theorem dX4_exchangeKinds_44 : decode cX4_exchangeKinds 44 = .ok (.getfield 25, 3) := by decide +kernel
theorem dX4_exchangeKinds_47 : decode cX4_exchangeKinds 47 = .ok (.iload_n 2, 1) := by decide +kernel
theorem dX4_exchangeKinds_48 : decode cX4_exchangeKinds 48 = .ok (.iaload, 1) := by decide +kernel
theorem dX4_exchangeKinds_49 : decode cX4_exchangeKinds 49 = .ok (.iastore, 1) := by decide +kernel
theorem dX4_exchangeKinds_50 : decode cX4_exchangeKinds 50 = .ok (.aload_n 0, 1) := by decide +kernel
theorem dX4_exchangeKinds_51 : decode cX4_exchangeKinds 51 = .ok (.getfield 21, 3) := by decide +kernel
theorem dX4_exchangeKinds_54 : decode cX4_exchangeKinds 54 = .ok (.iload_n 2, 1) := by decide +kernel
theorem dX4_exchangeKinds_55 : decode cX4_exchangeKinds 55 = .ok (.iload_n 3, 1) := by decide +kernel
theorem dX4_exchangeKinds_56 : decode cX4_exchangeKinds 56 = .ok (.iastore, 1) := by decide +kernel
theorem dX4_exchangeKinds_57 : decode cX4_exchangeKinds 57 = .ok (.aload_n 0, 1) := by decide +kernel
theorem dX4_exchangeKinds_58 : decode cX4_exchangeKinds 58 = .ok (.getfield 25, 3) := by decide +kernel
theorem dX4_exchangeKinds_61 : decode cX4_exchangeKinds 61 = .ok (.iload_n 2, 1) := by decide +kernel
theorem dX4_exchangeKinds_62 : decode cX4_exchangeKinds 62 = .ok (.iload 4, 2) := by decide +kernel
theorem dX4_exchangeKinds_64 : decode cX4_exchangeKinds 64 = .ok (.iastore, 1) := by decide +kernel
theorem dX4_exchangeKinds_65 : decode cX4_exchangeKinds 65 = .ok (.iconst 1, 1) := by decide +kernel
theorem dX4_exchangeKinds_66 : decode cX4_exchangeKinds 66 = .ok (.ireturn, 1) := by decide +kernel
theorem dX4_lineIndex_0 : decode cX4_lineIndex 0 = .ok (.iconst 0, 1) := by decide +kernel
theorem dX4_lineIndex_1 : decode cX4_lineIndex 1 = .ok (.istore_n 2, 1) := by decide +kernel
theorem dX4_lineIndex_2 : decode cX4_lineIndex 2 = .ok (.iload_n 2, 1) := by decide +kernel
theorem dX4_lineIndex_3 : decode cX4_lineIndex 3 = .ok (.iconst 1, 1) := by decide +kernel
theorem dX4_lineIndex_4 : decode cX4_lineIndex 4 = .ok (.iadd, 1) := by decide +kernel
theorem dX4_lineIndex_5 : decode cX4_lineIndex 5 = .ok (.aload_n 0, 1) := by decide +kernel
theorem dX4_lineIndex_6 : decode cX4_lineIndex 6 = .ok (.getfield 9, 3) := by decide +kernel
theorem dX4_lineIndex_9 : decode cX4_lineIndex 9 = .ok (.if_icmp .ge 19, 3) := by decide +kernel
theorem dX4_lineIndex_12 : decode cX4_lineIndex 12 = .ok (.aload_n 0, 1) := by decide +kernel
theorem dX4_lineIndex_13 : decode cX4_lineIndex 13 = .ok (.getfield 34, 3) := by decide +kernel
theorem dX4_lineIndex_16 : decode cX4_lineIndex 16 = .ok (.iload_n 2, 1) := by decide +kernel
theorem dX4_lineIndex_17 : decode cX4_lineIndex 17 = .ok (.iaload, 1) := by decide +kernel
theorem dX4_lineIndex_18 : decode cX4_lineIndex 18 = .ok (.iload_n 1, 1) := by decide +kernel
theorem dX4_lineIndex_19 : decode cX4_lineIndex 19 = .ok (.if_icmp .eq 9, 3) := by decide +kernel
theorem dX4_lineIndex_22 : decode cX4_lineIndex 22 = .ok (.iinc 2 1, 3) := by decide +kernel
theorem dX4_lineIndex_25 : decode cX4_lineIndex 25 = .ok (.goto (-23), 3) := by decide +kernel
theorem dX4_lineIndex_28 : decode cX4_lineIndex 28 = .ok (.iload_n 2, 1) := by decide +kernel
theorem dX4_lineIndex_29 : decode cX4_lineIndex 29 = .ok (.ireturn, 1) := by decide +kernel
theorem dX4_placeOf_0 : decode cX4_placeOf 0 = .ok (.iconst 0, 1) := by decide +kernel
theorem dX4_placeOf_1 : decode cX4_placeOf 1 = .ok (.istore_n 2, 1) := by decide +kernel
theorem dX4_placeOf_2 : decode cX4_placeOf 2 = .ok (.aload_n 0, 1) := by decide +kernel
theorem dX4_placeOf_3 : decode cX4_placeOf 3 = .ok (.iload_n 1, 1) := by decide +kernel
theorem dX4_placeOf_4 : decode cX4_placeOf 4 = .ok (.invokevirtual 45, 3) := by decide +kernel
theorem dX4_placeOf_7 : decode cX4_placeOf 7 = .ok (.istore_n 3, 1) := by decide +kernel
theorem dX4_placeOf_8 : decode cX4_placeOf 8 = .ok (.iconst 0, 1) := by decide +kernel
theorem dX4_placeOf_9 : decode cX4_placeOf 9 = .ok (.istore 4, 2) := by decide +kernel
theorem dX4_placeOf_11 : decode cX4_placeOf 11 = .ok (.iload 4, 2) := by decide +kernel
theorem dX4_placeOf_13 : decode cX4_placeOf 13 = .ok (.iload_n 3, 1) := by decide +kernel
theorem dX4_placeOf_14 : decode cX4_placeOf 14 = .ok (.if_icmp .ge 33, 3) := by decide +kernel
theorem dX4_placeOf_17 : decode cX4_placeOf 17 = .ok (.aload_n 0, 1) := by decide +kernel
theorem dX4_placeOf_18 : decode cX4_placeOf 18 = .ok (.getfield 28, 3) := by decide +kernel
theorem dX4_placeOf_21 : decode cX4_placeOf 21 = .ok (.aload_n 0, 1) := by decide +kernel
theorem dX4_placeOf_22 : decode cX4_placeOf 22 = .ok (.getfield 34, 3) := by decide +kernel
theorem dX4_placeOf_25 : decode cX4_placeOf 25 = .ok (.iload 4, 2) := by decide +kernel
theorem dX4_placeOf_27 : decode cX4_placeOf 27 = .ok (.iaload, 1) := by decide +kernel
theorem dX4_placeOf_28 : decode cX4_placeOf 28 = .ok (.iaload, 1) := by decide +kernel
theorem dX4_placeOf_29 : decode cX4_placeOf 29 = .ok (.aload_n 0, 1) := by decide +kernel
theorem dX4_placeOf_30 : decode cX4_placeOf 30 = .ok (.getfield 28, 3) := by decide +kernel
theorem dX4_placeOf_33 : decode cX4_placeOf 33 = .ok (.iload_n 1, 1) := by decide +kernel
theorem dX4_placeOf_34 : decode cX4_placeOf 34 = .ok (.iaload, 1) := by decide +kernel
theorem dX4_placeOf_35 : decode cX4_placeOf 35 = .ok (.if_icmp .ne 6, 3) := by decide +kernel
theorem dX4_placeOf_38 : decode cX4_placeOf 38 = .ok (.iinc 2 1, 3) := by decide +kernel
theorem dX4_placeOf_41 : decode cX4_placeOf 41 = .ok (.iinc 4 1, 3) := by decide +kernel
theorem dX4_placeOf_44 : decode cX4_placeOf 44 = .ok (.goto (-33), 3) := by decide +kernel
theorem dX4_placeOf_47 : decode cX4_placeOf 47 = .ok (.iload_n 2, 1) := by decide +kernel
theorem dX4_placeOf_48 : decode cX4_placeOf 48 = .ok (.ireturn, 1) := by decide +kernel
theorem dX4_letsIn_0 : decode cX4_letsIn 0 = .ok (.aload_n 0, 1) := by decide +kernel
theorem dX4_letsIn_1 : decode cX4_letsIn 1 = .ok (.getfield 21, 3) := by decide +kernel
theorem dX4_letsIn_4 : decode cX4_letsIn 4 = .ok (.iload_n 1, 1) := by decide +kernel
theorem dX4_letsIn_5 : decode cX4_letsIn 5 = .ok (.iaload, 1) := by decide +kernel
theorem dX4_letsIn_6 : decode cX4_letsIn 6 = .ok (.aload_n 0, 1) := by decide +kernel
theorem dX4_letsIn_7 : decode cX4_letsIn 7 = .ok (.getfield 25, 3) := by decide +kernel
theorem dX4_letsIn_10 : decode cX4_letsIn 10 = .ok (.iload_n 1, 1) := by decide +kernel
theorem dX4_letsIn_11 : decode cX4_letsIn 11 = .ok (.iaload, 1) := by decide +kernel
theorem dX4_letsIn_12 : decode cX4_letsIn 12 = .ok (.aload_n 0, 1) := by decide +kernel
theorem dX4_letsIn_13 : decode cX4_letsIn 13 = .ok (.getfield 15, 3) := by decide +kernel
theorem dX4_letsIn_16 : decode cX4_letsIn 16 = .ok (.invokestatic 52, 3) := by decide +kernel
theorem dX4_letsIn_19 : decode cX4_letsIn 19 = .ok (.ireturn, 1) := by decide +kernel
theorem dX4_standing_0 : decode cX4_standing 0 = .ok (.iconst 0, 1) := by decide +kernel
theorem dX4_standing_1 : decode cX4_standing 1 = .ok (.istore_n 2, 1) := by decide +kernel
theorem dX4_standing_2 : decode cX4_standing 2 = .ok (.iconst 0, 1) := by decide +kernel
theorem dX4_standing_3 : decode cX4_standing 3 = .ok (.istore_n 3, 1) := by decide +kernel
theorem dX4_standing_4 : decode cX4_standing 4 = .ok (.iload_n 3, 1) := by decide +kernel
theorem dX4_standing_5 : decode cX4_standing 5 = .ok (.aload_n 0, 1) := by decide +kernel
theorem dX4_standing_6 : decode cX4_standing 6 = .ok (.getfield 9, 3) := by decide +kernel
theorem dX4_standing_9 : decode cX4_standing 9 = .ok (.if_icmp .ge 22, 3) := by decide +kernel
theorem dX4_standing_12 : decode cX4_standing 12 = .ok (.aload_n 0, 1) := by decide +kernel
theorem dX4_standing_13 : decode cX4_standing 13 = .ok (.getfield 28, 3) := by decide +kernel
theorem dX4_standing_16 : decode cX4_standing 16 = .ok (.iload_n 3, 1) := by decide +kernel
theorem dX4_standing_17 : decode cX4_standing 17 = .ok (.iaload, 1) := by decide +kernel
theorem dX4_standing_18 : decode cX4_standing 18 = .ok (.iload_n 1, 1) := by decide +kernel
theorem dX4_standing_19 : decode cX4_standing 19 = .ok (.if_icmp .ne 6, 3) := by decide +kernel
theorem dX4_standing_22 : decode cX4_standing 22 = .ok (.iinc 2 1, 3) := by decide +kernel
theorem dX4_standing_25 : decode cX4_standing 25 = .ok (.iinc 3 1, 3) := by decide +kernel
theorem dX4_standing_28 : decode cX4_standing 28 = .ok (.goto (-24), 3) := by decide +kernel
theorem dX4_standing_31 : decode cX4_standing 31 = .ok (.iload_n 2, 1) := by decide +kernel
theorem dX4_standing_32 : decode cX4_standing 32 = .ok (.ireturn, 1) := by decide +kernel
theorem dX4_allHurry_0 : decode cX4_allHurry 0 = .ok (.iconst 0, 1) := by decide +kernel
theorem dX4_allHurry_1 : decode cX4_allHurry 1 = .ok (.istore_n 1, 1) := by decide +kernel
theorem dX4_allHurry_2 : decode cX4_allHurry 2 = .ok (.iconst 0, 1) := by decide +kernel
theorem dX4_allHurry_3 : decode cX4_allHurry 3 = .ok (.istore_n 2, 1) := by decide +kernel
theorem dX4_allHurry_4 : decode cX4_allHurry 4 = .ok (.iload_n 2, 1) := by decide +kernel
theorem dX4_allHurry_5 : decode cX4_allHurry 5 = .ok (.aload_n 0, 1) := by decide +kernel
theorem dX4_allHurry_6 : decode cX4_allHurry 6 = .ok (.getfield 9, 3) := by decide +kernel
theorem dX4_allHurry_9 : decode cX4_allHurry 9 = .ok (.if_icmp .ge 18, 3) := by decide +kernel
theorem dX4_allHurry_12 : decode cX4_allHurry 12 = .ok (.iload_n 1, 1) := by decide +kernel
theorem dX4_allHurry_13 : decode cX4_allHurry 13 = .ok (.aload_n 0, 1) := by decide +kernel
theorem dX4_allHurry_14 : decode cX4_allHurry 14 = .ok (.getfield 31, 3) := by decide +kernel
theorem dX4_allHurry_17 : decode cX4_allHurry 17 = .ok (.iload_n 2, 1) := by decide +kernel
theorem dX4_allHurry_18 : decode cX4_allHurry 18 = .ok (.iaload, 1) := by decide +kernel
theorem dX4_allHurry_19 : decode cX4_allHurry 19 = .ok (.iadd, 1) := by decide +kernel
theorem dX4_allHurry_20 : decode cX4_allHurry 20 = .ok (.istore_n 1, 1) := by decide +kernel
theorem dX4_allHurry_21 : decode cX4_allHurry 21 = .ok (.iinc 2 1, 3) := by decide +kernel
theorem dX4_allHurry_24 : decode cX4_allHurry 24 = .ok (.goto (-20), 3) := by decide +kernel
theorem dX4_allHurry_27 : decode cX4_allHurry 27 = .ok (.iload_n 1, 1) := by decide +kernel
theorem dX4_allHurry_28 : decode cX4_allHurry 28 = .ok (.ireturn, 1) := by decide +kernel
theorem dX4_secondsAlone_0 : decode cX4_secondsAlone 0 = .ok (.iconst 0, 1) := by decide +kernel
theorem dX4_secondsAlone_1 : decode cX4_secondsAlone 1 = .ok (.istore_n 1, 1) := by decide +kernel
theorem dX4_secondsAlone_2 : decode cX4_secondsAlone 2 = .ok (.iconst 0, 1) := by decide +kernel
theorem dX4_secondsAlone_3 : decode cX4_secondsAlone 3 = .ok (.istore_n 2, 1) := by decide +kernel
theorem dX4_secondsAlone_4 : decode cX4_secondsAlone 4 = .ok (.iload_n 2, 1) := by decide +kernel
theorem dX4_secondsAlone_5 : decode cX4_secondsAlone 5 = .ok (.aload_n 0, 1) := by decide +kernel
theorem dX4_secondsAlone_6 : decode cX4_secondsAlone 6 = .ok (.getfield 9, 3) := by decide +kernel
theorem dX4_secondsAlone_9 : decode cX4_secondsAlone 9 = .ok (.if_icmp .ge 21, 3) := by decide +kernel
theorem dX4_secondsAlone_12 : decode cX4_secondsAlone 12 = .ok (.iload_n 1, 1) := by decide +kernel
theorem dX4_secondsAlone_13 : decode cX4_secondsAlone 13 = .ok (.aload_n 0, 1) := by decide +kernel
theorem dX4_secondsAlone_14 : decode cX4_secondsAlone 14 = .ok (.getfield 21, 3) := by decide +kernel
theorem dX4_secondsAlone_17 : decode cX4_secondsAlone 17 = .ok (.iload_n 2, 1) := by decide +kernel
theorem dX4_secondsAlone_18 : decode cX4_secondsAlone 18 = .ok (.iaload, 1) := by decide +kernel
theorem dX4_secondsAlone_19 : decode cX4_secondsAlone 19 = .ok (.invokestatic 58, 3) := by decide +kernel
theorem dX4_secondsAlone_22 : decode cX4_secondsAlone 22 = .ok (.iadd, 1) := by decide +kernel
theorem dX4_secondsAlone_23 : decode cX4_secondsAlone 23 = .ok (.istore_n 1, 1) := by decide +kernel
theorem dX4_secondsAlone_24 : decode cX4_secondsAlone 24 = .ok (.iinc 2 1, 3) := by decide +kernel
theorem dX4_secondsAlone_27 : decode cX4_secondsAlone 27 = .ok (.goto (-23), 3) := by decide +kernel
theorem dX4_secondsAlone_30 : decode cX4_secondsAlone 30 = .ok (.iload_n 1, 1) := by decide +kernel
theorem dX4_secondsAlone_31 : decode cX4_secondsAlone 31 = .ok (.ireturn, 1) := by decide +kernel
theorem dX5_init_0 : decode cX5_init 0 = .ok (.aload_n 0, 1) := by decide +kernel
theorem dX5_init_1 : decode cX5_init 1 = .ok (.invokespecial 3, 3) := by decide +kernel
theorem dX5_init_4 : decode cX5_init 4 = .ok (.aload_n 0, 1) := by decide +kernel
theorem dX5_init_5 : decode cX5_init 5 = .ok (.iconst 0, 1) := by decide +kernel
theorem dX5_init_6 : decode cX5_init 6 = .ok (.putfield 9, 3) := by decide +kernel
theorem dX5_init_9 : decode cX5_init 9 = .ok (.aload_n 0, 1) := by decide +kernel
theorem dX5_init_10 : decode cX5_init 10 = .ok (.bipush 96, 2) := by decide +kernel
theorem dX5_init_12 : decode cX5_init 12 = .ok (.newarray .int, 2) := by decide +kernel
theorem dX5_init_14 : decode cX5_init 14 = .ok (.putfield 15, 3) := by decide +kernel
theorem dX5_init_17 : decode cX5_init 17 = .ok (.return_, 1) := by decide +kernel
theorem dX5_isFull_0 : decode cX5_isFull 0 = .ok (.aload_n 0, 1) := by decide +kernel
theorem dX5_isFull_1 : decode cX5_isFull 1 = .ok (.getfield 9, 3) := by decide +kernel
theorem dX5_isFull_4 : decode cX5_isFull 4 = .ok (.bipush 96, 2) := by decide +kernel
theorem dX5_isFull_6 : decode cX5_isFull 6 = .ok (.if_icmp .lt 7, 3) := by decide +kernel
theorem dX5_isFull_9 : decode cX5_isFull 9 = .ok (.iconst 1, 1) := by decide +kernel
theorem dX5_isFull_10 : decode cX5_isFull 10 = .ok (.goto 4, 3) := by decide +kernel
theorem dX5_isFull_13 : decode cX5_isFull 13 = .ok (.iconst 0, 1) := by decide +kernel
theorem dX5_isFull_14 : decode cX5_isFull 14 = .ok (.ireturn, 1) := by decide +kernel
theorem dX5_append_0 : decode cX5_append 0 = .ok (.aload_n 0, 1) := by decide +kernel
theorem dX5_append_1 : decode cX5_append 1 = .ok (.invokevirtual 19, 3) := by decide +kernel
theorem dX5_append_4 : decode cX5_append 4 = .ok (.ifCond .ne 23, 3) := by decide +kernel
theorem dX5_append_7 : decode cX5_append 7 = .ok (.aload_n 0, 1) := by decide +kernel
theorem dX5_append_8 : decode cX5_append 8 = .ok (.getfield 15, 3) := by decide +kernel
theorem dX5_append_11 : decode cX5_append 11 = .ok (.aload_n 0, 1) := by decide +kernel
theorem dX5_append_12 : decode cX5_append 12 = .ok (.getfield 9, 3) := by decide +kernel
theorem dX5_append_15 : decode cX5_append 15 = .ok (.iload_n 1, 1) := by decide +kernel
theorem dX5_append_16 : decode cX5_append 16 = .ok (.iastore, 1) := by decide +kernel
theorem dX5_append_17 : decode cX5_append 17 = .ok (.aload_n 0, 1) := by decide +kernel
theorem dX5_append_18 : decode cX5_append 18 = .ok (.dup, 1) := by decide +kernel
theorem dX5_append_19 : decode cX5_append 19 = .ok (.getfield 9, 3) := by decide +kernel
theorem dX5_append_22 : decode cX5_append 22 = .ok (.iconst 1, 1) := by decide +kernel
theorem dX5_append_23 : decode cX5_append 23 = .ok (.iadd, 1) := by decide +kernel
theorem dX5_append_24 : decode cX5_append 24 = .ok (.putfield 9, 3) := by decide +kernel
theorem dX5_append_27 : decode cX5_append 27 = .ok (.aload_n 0, 1) := by decide +kernel
theorem dX5_append_28 : decode cX5_append 28 = .ok (.getfield 9, 3) := by decide +kernel
theorem dX5_append_31 : decode cX5_append 31 = .ok (.ireturn, 1) := by decide +kernel
theorem dX5_empty_0 : decode cX5_empty 0 = .ok (.aload_n 0, 1) := by decide +kernel
theorem dX5_empty_1 : decode cX5_empty 1 = .ok (.iconst 0, 1) := by decide +kernel
theorem dX5_empty_2 : decode cX5_empty 2 = .ok (.putfield 9, 3) := by decide +kernel
theorem dX5_empty_5 : decode cX5_empty 5 = .ok (.return_, 1) := by decide +kernel
theorem dX5_tellTo_0 : decode cX5_tellTo 0 = .ok (.aload_n 0, 1) := by decide +kernel
theorem dX5_tellTo_1 : decode cX5_tellTo 1 = .ok (.invokevirtual 23, 3) := by decide +kernel
theorem dX5_tellTo_4 : decode cX5_tellTo 4 = .ok (.istore_n 3, 1) := by decide +kernel
theorem dX5_tellTo_5 : decode cX5_tellTo 5 = .ok (.iload_n 3, 1) := by decide +kernel
theorem dX5_tellTo_6 : decode cX5_tellTo 6 = .ok (.ifCond .lt 9, 3) := by decide +kernel
theorem dX5_tellTo_9 : decode cX5_tellTo 9 = .ok (.sipush (-1000), 3) := by decide +kernel
theorem dX5_tellTo_12 : decode cX5_tellTo 12 = .ok (.iload_n 3, 1) := by decide +kernel
theorem dX5_tellTo_13 : decode cX5_tellTo 13 = .ok (.isub, 1) := by decide +kernel
theorem dX5_tellTo_14 : decode cX5_tellTo 14 = .ok (.ireturn, 1) := by decide +kernel
theorem dX5_tellTo_15 : decode cX5_tellTo 15 = .ok (.aload_n 2, 1) := by decide +kernel
theorem dX5_tellTo_16 : decode cX5_tellTo 16 = .ok (.aload_n 1, 1) := by decide +kernel
theorem dX5_tellTo_17 : decode cX5_tellTo 17 = .ok (.invokevirtual 27, 3) := by decide +kernel
theorem dX5_tellTo_20 : decode cX5_tellTo 20 = .ok (.iconst 0, 1) := by decide +kernel
theorem dX5_tellTo_21 : decode cX5_tellTo 21 = .ok (.istore 4, 2) := by decide +kernel
theorem dX5_tellTo_23 : decode cX5_tellTo 23 = .ok (.iconst 0, 1) := by decide +kernel
theorem dX5_tellTo_24 : decode cX5_tellTo 24 = .ok (.istore 5, 2) := by decide +kernel
theorem dX5_tellTo_26 : decode cX5_tellTo 26 = .ok (.iconst 0, 1) := by decide +kernel
theorem dX5_tellTo_27 : decode cX5_tellTo 27 = .ok (.istore 6, 2) := by decide +kernel
theorem dX5_tellTo_29 : decode cX5_tellTo 29 = .ok (.iload 6, 2) := by decide +kernel
theorem dX5_tellTo_31 : decode cX5_tellTo 31 = .ok (.aload_n 0, 1) := by decide +kernel
theorem dX5_tellTo_32 : decode cX5_tellTo 32 = .ok (.getfield 9, 3) := by decide +kernel
theorem dX5_tellTo_35 : decode cX5_tellTo 35 = .ok (.if_icmp .ge 51, 3) := by decide +kernel
theorem dX5_tellTo_38 : decode cX5_tellTo 38 = .ok (.iload 6, 2) := by decide +kernel
theorem dX5_tellTo_40 : decode cX5_tellTo 40 = .ok (.iload 5, 2) := by decide +kernel
theorem dX5_tellTo_42 : decode cX5_tellTo 42 = .ok (.if_icmp .ne 38, 3) := by decide +kernel
theorem dX5_tellTo_45 : decode cX5_tellTo 45 = .ok (.aload_n 0, 1) := by decide +kernel
theorem dX5_tellTo_46 : decode cX5_tellTo 46 = .ok (.iload 6, 2) := by decide +kernel
theorem dX5_tellTo_48 : decode cX5_tellTo 48 = .ok (.aload_n 2, 1) := by decide +kernel
theorem dX5_tellTo_49 : decode cX5_tellTo 49 = .ok (.invokevirtual 33, 3) := by decide +kernel
theorem dX5_tellTo_52 : decode cX5_tellTo 52 = .ok (.ifCond .ne 10, 3) := by decide +kernel
theorem dX5_tellTo_55 : decode cX5_tellTo 55 = .ok (.sipush (-2000), 3) := by decide +kernel
theorem dX5_tellTo_58 : decode cX5_tellTo 58 = .ok (.iload 6, 2) := by decide +kernel
theorem dX5_tellTo_60 : decode cX5_tellTo 60 = .ok (.isub, 1) := by decide +kernel
theorem dX5_tellTo_61 : decode cX5_tellTo 61 = .ok (.ireturn, 1) := by decide +kernel
theorem dX5_tellTo_62 : decode cX5_tellTo 62 = .ok (.iinc 4 1, 3) := by decide +kernel
theorem dX5_tellTo_65 : decode cX5_tellTo 65 = .ok (.iload 6, 2) := by decide +kernel
theorem dX5_tellTo_67 : decode cX5_tellTo 67 = .ok (.aload_n 0, 1) := by decide +kernel
theorem dX5_tellTo_68 : decode cX5_tellTo 68 = .ok (.getfield 15, 3) := by decide +kernel
theorem dX5_tellTo_71 : decode cX5_tellTo 71 = .ok (.iload 6, 2) := by decide +kernel
theorem dX5_tellTo_73 : decode cX5_tellTo 73 = .ok (.iaload, 1) := by decide +kernel
theorem dX5_tellTo_74 : decode cX5_tellTo 74 = .ok (.invokestatic 37, 3) := by decide +kernel
theorem dX5_tellTo_77 : decode cX5_tellTo 77 = .ok (.iadd, 1) := by decide +kernel
theorem dX5_tellTo_78 : decode cX5_tellTo 78 = .ok (.istore 5, 2) := by decide +kernel
theorem dX5_tellTo_80 : decode cX5_tellTo 80 = .ok (.iinc 6 1, 3) := by decide +kernel
theorem dX5_tellTo_83 : decode cX5_tellTo 83 = .ok (.goto (-54), 3) := by decide +kernel
theorem dX5_tellTo_86 : decode cX5_tellTo 86 = .ok (.aload_n 1, 1) := by decide +kernel
theorem dX5_tellTo_87 : decode cX5_tellTo 87 = .ok (.aload_n 2, 1) := by decide +kernel
theorem dX5_tellTo_88 : decode cX5_tellTo 88 = .ok (.invokevirtual 27, 3) := by decide +kernel
theorem dX5_tellTo_91 : decode cX5_tellTo 91 = .ok (.iload 4, 2) := by decide +kernel
theorem dX5_tellTo_93 : decode cX5_tellTo 93 = .ok (.ireturn, 1) := by decide +kernel
theorem dX5_formFault_0 : decode cX5_formFault 0 = .ok (.iconst 0, 1) := by decide +kernel
theorem dX5_formFault_1 : decode cX5_formFault 1 = .ok (.istore_n 1, 1) := by decide +kernel
theorem dX5_formFault_2 : decode cX5_formFault 2 = .ok (.iconst 0, 1) := by decide +kernel
theorem dX5_formFault_3 : decode cX5_formFault 3 = .ok (.istore_n 2, 1) := by decide +kernel
theorem dX5_formFault_4 : decode cX5_formFault 4 = .ok (.iload_n 2, 1) := by decide +kernel
theorem dX5_formFault_5 : decode cX5_formFault 5 = .ok (.aload_n 0, 1) := by decide +kernel
theorem dX5_formFault_6 : decode cX5_formFault 6 = .ok (.getfield 9, 3) := by decide +kernel
theorem dX5_formFault_9 : decode cX5_formFault 9 = .ok (.if_icmp .ge 40, 3) := by decide +kernel
theorem dX5_formFault_12 : decode cX5_formFault 12 = .ok (.aload_n 0, 1) := by decide +kernel
theorem dX5_formFault_13 : decode cX5_formFault 13 = .ok (.iload_n 1, 1) := by decide +kernel
theorem dX5_formFault_14 : decode cX5_formFault 14 = .ok (.iload_n 2, 1) := by decide +kernel
theorem dX5_formFault_15 : decode cX5_formFault 15 = .ok (.invokevirtual 41, 3) := by decide +kernel
theorem dX5_formFault_18 : decode cX5_formFault 18 = .ok (.ifCond .ne 5, 3) := by decide +kernel
theorem dX5_formFault_21 : decode cX5_formFault 21 = .ok (.iload_n 2, 1) := by decide +kernel
theorem dX5_formFault_22 : decode cX5_formFault 22 = .ok (.ireturn, 1) := by decide +kernel
theorem dX5_formFault_23 : decode cX5_formFault 23 = .ok (.iload_n 2, 1) := by decide +kernel
theorem dX5_formFault_24 : decode cX5_formFault 24 = .ok (.iload_n 1, 1) := by decide +kernel
theorem dX5_formFault_25 : decode cX5_formFault 25 = .ok (.isub, 1) := by decide +kernel
theorem dX5_formFault_26 : decode cX5_formFault 26 = .ok (.aload_n 0, 1) := by decide +kernel
theorem dX5_formFault_27 : decode cX5_formFault 27 = .ok (.iload_n 1, 1) := by decide +kernel
theorem dX5_formFault_28 : decode cX5_formFault 28 = .ok (.invokevirtual 45, 3) := by decide +kernel
theorem dX5_formFault_31 : decode cX5_formFault 31 = .ok (.invokestatic 37, 3) := by decide +kernel
theorem dX5_formFault_34 : decode cX5_formFault 34 = .ok (.iconst 1, 1) := by decide +kernel
theorem dX5_formFault_35 : decode cX5_formFault 35 = .ok (.isub, 1) := by decide +kernel
theorem dX5_formFault_36 : decode cX5_formFault 36 = .ok (.if_icmp .ne 7, 3) := by decide +kernel
theorem dX5_formFault_39 : decode cX5_formFault 39 = .ok (.iload_n 2, 1) := by decide +kernel
theorem dX5_formFault_40 : decode cX5_formFault 40 = .ok (.iconst 1, 1) := by decide +kernel
theorem dX5_formFault_41 : decode cX5_formFault 41 = .ok (.iadd, 1) := by decide +kernel
theorem dX5_formFault_42 : decode cX5_formFault 42 = .ok (.istore_n 1, 1) := by decide +kernel
theorem dX5_formFault_43 : decode cX5_formFault 43 = .ok (.iinc 2 1, 3) := by decide +kernel
theorem dX5_formFault_46 : decode cX5_formFault 46 = .ok (.goto (-42), 3) := by decide +kernel
theorem dX5_formFault_49 : decode cX5_formFault 49 = .ok (.aload_n 0, 1) := by decide +kernel
theorem dX5_formFault_50 : decode cX5_formFault 50 = .ok (.getfield 9, 3) := by decide +kernel
theorem dX5_formFault_53 : decode cX5_formFault 53 = .ok (.ifCond .le 15, 3) := by decide +kernel
theorem dX5_formFault_56 : decode cX5_formFault 56 = .ok (.iload_n 1, 1) := by decide +kernel
theorem dX5_formFault_57 : decode cX5_formFault 57 = .ok (.aload_n 0, 1) := by decide +kernel
theorem dX5_formFault_58 : decode cX5_formFault 58 = .ok (.getfield 9, 3) := by decide +kernel
theorem dX5_formFault_61 : decode cX5_formFault 61 = .ok (.if_icmp .ne 7, 3) := by decide +kernel
theorem dX5_formFault_64 : decode cX5_formFault 64 = .ok (.iconst (-1), 1) := by decide +kernel
theorem dX5_formFault_65 : decode cX5_formFault 65 = .ok (.goto 7, 3) := by decide +kernel
theorem dX5_formFault_68 : decode cX5_formFault 68 = .ok (.aload_n 0, 1) := by decide +kernel
theorem dX5_formFault_69 : decode cX5_formFault 69 = .ok (.getfield 9, 3) := by decide +kernel
theorem dX5_formFault_72 : decode cX5_formFault 72 = .ok (.ireturn, 1) := by decide +kernel
theorem dX5_isInForm_0 : decode cX5_isInForm 0 = .ok (.aload_n 0, 1) := by decide +kernel
theorem dX5_isInForm_1 : decode cX5_isInForm 1 = .ok (.iload_n 1, 1) := by decide +kernel
theorem dX5_isInForm_2 : decode cX5_isInForm 2 = .ok (.invokevirtual 45, 3) := by decide +kernel
theorem dX5_isInForm_5 : decode cX5_isInForm 5 = .ok (.istore_n 3, 1) := by decide +kernel
theorem dX5_isInForm_6 : decode cX5_isInForm 6 = .ok (.aload_n 0, 1) := by decide +kernel
theorem dX5_isInForm_7 : decode cX5_isInForm 7 = .ok (.iload_n 2, 1) := by decide +kernel
theorem dX5_isInForm_8 : decode cX5_isInForm 8 = .ok (.invokevirtual 45, 3) := by decide +kernel
theorem dX5_isInForm_11 : decode cX5_isInForm 11 = .ok (.istore 4, 2) := by decide +kernel
theorem dX5_isInForm_13 : decode cX5_isInForm 13 = .ok (.iload_n 2, 1) := by decide +kernel
theorem dX5_isInForm_14 : decode cX5_isInForm 14 = .ok (.iload_n 1, 1) := by decide +kernel
theorem dX5_isInForm_15 : decode cX5_isInForm 15 = .ok (.if_icmp .ne 16, 3) := by decide +kernel
theorem dX5_isInForm_18 : decode cX5_isInForm 18 = .ok (.iload_n 3, 1) := by decide +kernel
theorem dX5_isInForm_19 : decode cX5_isInForm 19 = .ok (.invokestatic 37, 3) := by decide +kernel
theorem dX5_isInForm_22 : decode cX5_isInForm 22 = .ok (.ifCond .le 7, 3) := by decide +kernel
theorem dX5_isInForm_25 : decode cX5_isInForm 25 = .ok (.iconst 1, 1) := by decide +kernel
theorem dX5_isInForm_26 : decode cX5_isInForm 26 = .ok (.goto 4, 3) := by decide +kernel
theorem dX5_isInForm_29 : decode cX5_isInForm 29 = .ok (.iconst 0, 1) := by decide +kernel
theorem dX5_isInForm_30 : decode cX5_isInForm 30 = .ok (.ireturn, 1) := by decide +kernel
theorem dX5_isInForm_31 : decode cX5_isInForm 31 = .ok (.iload_n 2, 1) := by decide +kernel
theorem dX5_isInForm_32 : decode cX5_isInForm 32 = .ok (.iload_n 1, 1) := by decide +kernel
theorem dX5_isInForm_33 : decode cX5_isInForm 33 = .ok (.isub, 1) := by decide +kernel
theorem dX5_isInForm_34 : decode cX5_isInForm 34 = .ok (.iload_n 3, 1) := by decide +kernel
theorem dX5_isInForm_35 : decode cX5_isInForm 35 = .ok (.invokestatic 37, 3) := by decide +kernel
theorem dX5_isInForm_38 : decode cX5_isInForm 38 = .ok (.iconst 1, 1) := by decide +kernel
theorem dX5_isInForm_39 : decode cX5_isInForm 39 = .ok (.isub, 1) := by decide +kernel
theorem dX5_isInForm_40 : decode cX5_isInForm 40 = .ok (.if_icmp .ne 16, 3) := by decide +kernel
theorem dX5_isInForm_43 : decode cX5_isInForm 43 = .ok (.iload 4, 2) := by decide +kernel
theorem dX5_isInForm_45 : decode cX5_isInForm 45 = .ok (.bipush 59, 2) := by decide +kernel
theorem dX5_isInForm_47 : decode cX5_isInForm 47 = .ok (.if_icmp .ne 7, 3) := by decide +kernel
theorem dX5_isInForm_50 : decode cX5_isInForm 50 = .ok (.iconst 1, 1) := by decide +kernel
theorem dX5_isInForm_51 : decode cX5_isInForm 51 = .ok (.goto 4, 3) := by decide +kernel
theorem dX5_isInForm_54 : decode cX5_isInForm 54 = .ok (.iconst 0, 1) := by decide +kernel
theorem dX5_isInForm_55 : decode cX5_isInForm 55 = .ok (.ireturn, 1) := by decide +kernel
theorem dX5_isInForm_56 : decode cX5_isInForm 56 = .ok (.iload_n 3, 1) := by decide +kernel
theorem dX5_isInForm_57 : decode cX5_isInForm 57 = .ok (.bipush 99, 2) := by decide +kernel
theorem dX5_isInForm_59 : decode cX5_isInForm 59 = .ok (.if_icmp .ne 24, 3) := by decide +kernel
theorem dX5_isInForm_62 : decode cX5_isInForm 62 = .ok (.iload_n 2, 1) := by decide +kernel
theorem dX5_isInForm_63 : decode cX5_isInForm 63 = .ok (.iload_n 1, 1) := by decide +kernel
theorem dX5_isInForm_64 : decode cX5_isInForm 64 = .ok (.iconst 1, 1) := by decide +kernel
theorem dX5_isInForm_65 : decode cX5_isInForm 65 = .ok (.iadd, 1) := by decide +kernel
theorem dX5_isInForm_66 : decode cX5_isInForm 66 = .ok (.if_icmp .ne 17, 3) := by decide +kernel
theorem dX5_isInForm_69 : decode cX5_isInForm 69 = .ok (.aload_n 0, 1) := by decide +kernel
theorem dX5_isInForm_70 : decode cX5_isInForm 70 = .ok (.iload_n 2, 1) := by decide +kernel
theorem dX5_isInForm_71 : decode cX5_isInForm 71 = .ok (.invokevirtual 48, 3) := by decide +kernel
theorem dX5_isInForm_74 : decode cX5_isInForm 74 = .ok (.ifCond .lt 7, 3) := by decide +kernel
theorem dX5_isInForm_77 : decode cX5_isInForm 77 = .ok (.iconst 1, 1) := by decide +kernel
theorem dX5_isInForm_78 : decode cX5_isInForm 78 = .ok (.goto 4, 3) := by decide +kernel
theorem dX5_isInForm_81 : decode cX5_isInForm 81 = .ok (.iconst 0, 1) := by decide +kernel
theorem dX5_isInForm_82 : decode cX5_isInForm 82 = .ok (.ireturn, 1) := by decide +kernel
theorem dX5_isInForm_83 : decode cX5_isInForm 83 = .ok (.iload 4, 2) := by decide +kernel
theorem dX5_isInForm_85 : decode cX5_isInForm 85 = .ok (.bipush 48, 2) := by decide +kernel
theorem dX5_isInForm_87 : decode cX5_isInForm 87 = .ok (.if_icmp .lt 14, 3) := by decide +kernel
theorem dX5_isInForm_90 : decode cX5_isInForm 90 = .ok (.iload 4, 2) := by decide +kernel
theorem dX5_isInForm_92 : decode cX5_isInForm 92 = .ok (.bipush 57, 2) := by decide +kernel
theorem dX5_isInForm_94 : decode cX5_isInForm 94 = .ok (.if_icmp .gt 7, 3) := by decide +kernel
theorem dX5_isInForm_97 : decode cX5_isInForm 97 = .ok (.iconst 1, 1) := by decide +kernel
theorem dX5_isInForm_98 : decode cX5_isInForm 98 = .ok (.goto 4, 3) := by decide +kernel
theorem dX5_isInForm_101 : decode cX5_isInForm 101 = .ok (.iconst 0, 1) := by decide +kernel
theorem dX5_isInForm_102 : decode cX5_isInForm 102 = .ok (.ireturn, 1) := by decide +kernel
theorem dX5_lengthOf_0 : decode cX5_lengthOf 0 = .ok (.iload_n 0, 1) := by decide +kernel
theorem dX5_lengthOf_1 : decode cX5_lengthOf 1 = .ok (.lookupswitch 66 #[(98, 64), (99, 59), (102, 64), (111, 64), (119, 64), (120, 62)], 59) := by decide +kernel
theorem dX5_lengthOf_60 : decode cX5_lengthOf 60 = .ok (.bipush 7, 2) := by decide +kernel
theorem dX5_lengthOf_62 : decode cX5_lengthOf 62 = .ok (.ireturn, 1) := by decide +kernel
theorem dX5_lengthOf_63 : decode cX5_lengthOf 63 = .ok (.iconst 4, 1) := by decide +kernel
theorem dX5_lengthOf_64 : decode cX5_lengthOf 64 = .ok (.ireturn, 1) := by decide +kernel
theorem dX5_lengthOf_65 : decode cX5_lengthOf 65 = .ok (.iconst 3, 1) := by decide +kernel
theorem dX5_lengthOf_66 : decode cX5_lengthOf 66 = .ok (.ireturn, 1) := by decide +kernel
theorem dX5_lengthOf_67 : decode cX5_lengthOf 67 = .ok (.iconst 0, 1) := by decide +kernel
theorem dX5_lengthOf_68 : decode cX5_lengthOf 68 = .ok (.ireturn, 1) := by decide +kernel
theorem dX5_letterAt_0 : decode cX5_letterAt 0 = .ok (.iload_n 1, 1) := by decide +kernel
theorem dX5_letterAt_1 : decode cX5_letterAt 1 = .ok (.ifCond .lt 20, 3) := by decide +kernel
theorem dX5_letterAt_4 : decode cX5_letterAt 4 = .ok (.iload_n 1, 1) := by decide +kernel
theorem dX5_letterAt_5 : decode cX5_letterAt 5 = .ok (.aload_n 0, 1) := by decide +kernel
theorem dX5_letterAt_6 : decode cX5_letterAt 6 = .ok (.getfield 9, 3) := by decide +kernel
theorem dX5_letterAt_9 : decode cX5_letterAt 9 = .ok (.if_icmp .ge 12, 3) := by decide +kernel
theorem dX5_letterAt_12 : decode cX5_letterAt 12 = .ok (.aload_n 0, 1) := by decide +kernel
theorem dX5_letterAt_13 : decode cX5_letterAt 13 = .ok (.getfield 15, 3) := by decide +kernel
theorem dX5_letterAt_16 : decode cX5_letterAt 16 = .ok (.iload_n 1, 1) := by decide +kernel
theorem dX5_letterAt_17 : decode cX5_letterAt 17 = .ok (.iaload, 1) := by decide +kernel
theorem dX5_letterAt_18 : decode cX5_letterAt 18 = .ok (.goto 4, 3) := by decide +kernel
theorem dX5_letterAt_21 : decode cX5_letterAt 21 = .ok (.iconst 0, 1) := by decide +kernel
theorem dX5_letterAt_22 : decode cX5_letterAt 22 = .ok (.ireturn, 1) := by decide +kernel
theorem dX5_digitAt_0 : decode cX5_digitAt 0 = .ok (.aload_n 0, 1) := by decide +kernel
theorem dX5_digitAt_1 : decode cX5_digitAt 1 = .ok (.iload_n 1, 1) := by decide +kernel
theorem dX5_digitAt_2 : decode cX5_digitAt 2 = .ok (.invokevirtual 45, 3) := by decide +kernel
theorem dX5_digitAt_5 : decode cX5_digitAt 5 = .ok (.bipush 48, 2) := by decide +kernel
theorem dX5_digitAt_7 : decode cX5_digitAt 7 = .ok (.isub, 1) := by decide +kernel
theorem dX5_digitAt_8 : decode cX5_digitAt 8 = .ok (.ireturn, 1) := by decide +kernel
theorem dX5_kindAt_0 : decode cX5_kindAt 0 = .ok (.ldc 53, 2) := by decide +kernel
theorem dX5_kindAt_2 : decode cX5_kindAt 2 = .ok (.aload_n 0, 1) := by decide +kernel
theorem dX5_kindAt_3 : decode cX5_kindAt 3 = .ok (.iload_n 1, 1) := by decide +kernel
theorem dX5_kindAt_4 : decode cX5_kindAt 4 = .ok (.invokevirtual 45, 3) := by decide +kernel
theorem dX5_kindAt_7 : decode cX5_kindAt 7 = .ok (.i2c, 1) := by decide +kernel
theorem dX5_kindAt_8 : decode cX5_kindAt 8 = .ok (.invokevirtual 55, 3) := by decide +kernel
theorem dX5_kindAt_11 : decode cX5_kindAt 11 = .ok (.ireturn, 1) := by decide +kernel
theorem dX5_tellStatement_0 : decode cX5_tellStatement 0 = .ok (.aload_n 0, 1) := by decide +kernel
theorem dX5_tellStatement_1 : decode cX5_tellStatement 1 = .ok (.iload_n 1, 1) := by decide +kernel
theorem dX5_tellStatement_2 : decode cX5_tellStatement 2 = .ok (.iconst 1, 1) := by decide +kernel
theorem dX5_tellStatement_3 : decode cX5_tellStatement 3 = .ok (.iadd, 1) := by decide +kernel
theorem dX5_tellStatement_4 : decode cX5_tellStatement 4 = .ok (.invokevirtual 60, 3) := by decide +kernel
theorem dX5_tellStatement_7 : decode cX5_tellStatement 7 = .ok (.istore_n 3, 1) := by decide +kernel
theorem dX5_tellStatement_8 : decode cX5_tellStatement 8 = .ok (.aload_n 0, 1) := by decide +kernel
theorem dX5_tellStatement_9 : decode cX5_tellStatement 9 = .ok (.iload_n 1, 1) := by decide +kernel
theorem dX5_tellStatement_10 : decode cX5_tellStatement 10 = .ok (.invokevirtual 45, 3) := by decide +kernel
theorem dX5_tellStatement_13 : decode cX5_tellStatement 13 = .ok (.lookupswitch 103 #[(98, 66), (99, 59), (102, 84), (111, 78), (119, 72), (120, 90)], 59) := by decide +kernel
theorem dX5_tellStatement_72 : decode cX5_tellStatement 72 = .ok (.aload_n 0, 1) := by decide +kernel
theorem dX5_tellStatement_73 : decode cX5_tellStatement 73 = .ok (.iload_n 1, 1) := by decide +kernel
theorem dX5_tellStatement_74 : decode cX5_tellStatement 74 = .ok (.aload_n 2, 1) := by decide +kernel
theorem dX5_tellStatement_75 : decode cX5_tellStatement 75 = .ok (.invokevirtual 63, 3) := by decide +kernel
theorem dX5_tellStatement_78 : decode cX5_tellStatement 78 = .ok (.ireturn, 1) := by decide +kernel
theorem dX5_tellStatement_79 : decode cX5_tellStatement 79 = .ok (.aload_n 2, 1) := by decide +kernel
theorem dX5_tellStatement_80 : decode cX5_tellStatement 80 = .ok (.iload_n 3, 1) := by decide +kernel
theorem dX5_tellStatement_81 : decode cX5_tellStatement 81 = .ok (.invokevirtual 66, 3) := by decide +kernel
theorem dX5_tellStatement_84 : decode cX5_tellStatement 84 = .ok (.ireturn, 1) := by decide +kernel
theorem dX5_tellStatement_85 : decode cX5_tellStatement 85 = .ok (.aload_n 2, 1) := by decide +kernel
theorem dX5_tellStatement_86 : decode cX5_tellStatement 86 = .ok (.iload_n 3, 1) := by decide +kernel
theorem dX5_tellStatement_87 : decode cX5_tellStatement 87 = .ok (.invokevirtual 70, 3) := by decide +kernel
theorem dX5_tellStatement_90 : decode cX5_tellStatement 90 = .ok (.ireturn, 1) := by decide +kernel
theorem dX5_tellStatement_91 : decode cX5_tellStatement 91 = .ok (.aload_n 2, 1) := by decide +kernel
theorem dX5_tellStatement_92 : decode cX5_tellStatement 92 = .ok (.iload_n 3, 1) := by decide +kernel
theorem dX5_tellStatement_93 : decode cX5_tellStatement 93 = .ok (.invokevirtual 73, 3) := by decide +kernel
theorem dX5_tellStatement_96 : decode cX5_tellStatement 96 = .ok (.ireturn, 1) := by decide +kernel
theorem dX5_tellStatement_97 : decode cX5_tellStatement 97 = .ok (.aload_n 2, 1) := by decide +kernel
theorem dX5_tellStatement_98 : decode cX5_tellStatement 98 = .ok (.iload_n 3, 1) := by decide +kernel
theorem dX5_tellStatement_99 : decode cX5_tellStatement 99 = .ok (.invokevirtual 76, 3) := by decide +kernel
theorem dX5_tellStatement_102 : decode cX5_tellStatement 102 = .ok (.ireturn, 1) := by decide +kernel
theorem dX5_tellStatement_103 : decode cX5_tellStatement 103 = .ok (.aload_n 2, 1) := by decide +kernel
theorem dX5_tellStatement_104 : decode cX5_tellStatement 104 = .ok (.iload_n 3, 1) := by decide +kernel
theorem dX5_tellStatement_105 : decode cX5_tellStatement 105 = .ok (.aload_n 0, 1) := by decide +kernel
theorem dX5_tellStatement_106 : decode cX5_tellStatement 106 = .ok (.iload_n 1, 1) := by decide +kernel
theorem dX5_tellStatement_107 : decode cX5_tellStatement 107 = .ok (.iconst 2, 1) := by decide +kernel
theorem dX5_tellStatement_108 : decode cX5_tellStatement 108 = .ok (.iadd, 1) := by decide +kernel
theorem dX5_tellStatement_109 : decode cX5_tellStatement 109 = .ok (.invokevirtual 60, 3) := by decide +kernel
theorem dX5_tellStatement_112 : decode cX5_tellStatement 112 = .ok (.invokevirtual 79, 3) := by decide +kernel
theorem dX5_tellStatement_115 : decode cX5_tellStatement 115 = .ok (.ireturn, 1) := by decide +kernel
theorem dX5_tellStatement_116 : decode cX5_tellStatement 116 = .ok (.iconst 0, 1) := by decide +kernel
theorem dX5_tellStatement_117 : decode cX5_tellStatement 117 = .ok (.ireturn, 1) := by decide +kernel
theorem dX5_tellCar_0 : decode cX5_tellCar 0 = .ok (.bipush 10, 2) := by decide +kernel
theorem dX5_tellCar_2 : decode cX5_tellCar 2 = .ok (.aload_n 0, 1) := by decide +kernel
theorem dX5_tellCar_3 : decode cX5_tellCar 3 = .ok (.iload_n 1, 1) := by decide +kernel
theorem dX5_tellCar_4 : decode cX5_tellCar 4 = .ok (.iconst 4, 1) := by decide +kernel
theorem dX5_tellCar_5 : decode cX5_tellCar 5 = .ok (.iadd, 1) := by decide +kernel
theorem dX5_tellCar_6 : decode cX5_tellCar 6 = .ok (.invokevirtual 60, 3) := by decide +kernel
theorem dX5_tellCar_9 : decode cX5_tellCar 9 = .ok (.imul, 1) := by decide +kernel
theorem dX5_tellCar_10 : decode cX5_tellCar 10 = .ok (.aload_n 0, 1) := by decide +kernel
theorem dX5_tellCar_11 : decode cX5_tellCar 11 = .ok (.iload_n 1, 1) := by decide +kernel
theorem dX5_tellCar_12 : decode cX5_tellCar 12 = .ok (.iconst 5, 1) := by decide +kernel
theorem dX5_tellCar_13 : decode cX5_tellCar 13 = .ok (.iadd, 1) := by decide +kernel
theorem dX5_tellCar_14 : decode cX5_tellCar 14 = .ok (.invokevirtual 60, 3) := by decide +kernel
theorem dX5_tellCar_17 : decode cX5_tellCar 17 = .ok (.iadd, 1) := by decide +kernel
theorem dX5_tellCar_18 : decode cX5_tellCar 18 = .ok (.istore_n 3, 1) := by decide +kernel
theorem dX5_tellCar_19 : decode cX5_tellCar 19 = .ok (.aload_n 2, 1) := by decide +kernel
theorem dX5_tellCar_20 : decode cX5_tellCar 20 = .ok (.aload_n 0, 1) := by decide +kernel
theorem dX5_tellCar_21 : decode cX5_tellCar 21 = .ok (.iload_n 1, 1) := by decide +kernel
theorem dX5_tellCar_22 : decode cX5_tellCar 22 = .ok (.iconst 1, 1) := by decide +kernel
theorem dX5_tellCar_23 : decode cX5_tellCar 23 = .ok (.iadd, 1) := by decide +kernel
theorem dX5_tellCar_24 : decode cX5_tellCar 24 = .ok (.invokevirtual 48, 3) := by decide +kernel
theorem dX5_tellCar_27 : decode cX5_tellCar 27 = .ok (.aload_n 0, 1) := by decide +kernel
theorem dX5_tellCar_28 : decode cX5_tellCar 28 = .ok (.iload_n 1, 1) := by decide +kernel
theorem dX5_tellCar_29 : decode cX5_tellCar 29 = .ok (.iconst 2, 1) := by decide +kernel
theorem dX5_tellCar_30 : decode cX5_tellCar 30 = .ok (.iadd, 1) := by decide +kernel
theorem dX5_tellCar_31 : decode cX5_tellCar 31 = .ok (.invokevirtual 60, 3) := by decide +kernel
theorem dX5_tellCar_34 : decode cX5_tellCar 34 = .ok (.aload_n 0, 1) := by decide +kernel
theorem dX5_tellCar_35 : decode cX5_tellCar 35 = .ok (.iload_n 1, 1) := by decide +kernel
theorem dX5_tellCar_36 : decode cX5_tellCar 36 = .ok (.iconst 3, 1) := by decide +kernel
theorem dX5_tellCar_37 : decode cX5_tellCar 37 = .ok (.iadd, 1) := by decide +kernel
theorem dX5_tellCar_38 : decode cX5_tellCar 38 = .ok (.invokevirtual 60, 3) := by decide +kernel
theorem dX5_tellCar_41 : decode cX5_tellCar 41 = .ok (.iload_n 3, 1) := by decide +kernel
theorem dX5_tellCar_42 : decode cX5_tellCar 42 = .ok (.invokevirtual 82, 3) := by decide +kernel
theorem dX5_tellCar_45 : decode cX5_tellCar 45 = .ok (.ireturn, 1) := by decide +kernel
