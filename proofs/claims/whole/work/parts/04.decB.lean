theorem dX6_init_0 : decode cX6_init 0 = .ok (.aload_n 0, 1) := by decide +kernel
theorem dX6_init_1 : decode cX6_init 1 = .ok (.invokespecial 1, 3) := by decide +kernel
theorem dX6_init_4 : decode cX6_init 4 = .ok (.aload_n 0, 1) := by decide +kernel
theorem dX6_init_5 : decode cX6_init 5 = .ok (.new 7, 3) := by decide +kernel
theorem dX6_init_8 : decode cX6_init 8 = .ok (.dup, 1) := by decide +kernel
theorem dX6_init_9 : decode cX6_init 9 = .ok (.invokespecial 9, 3) := by decide +kernel
theorem dX6_init_12 : decode cX6_init 12 = .ok (.putfield 10, 3) := by decide +kernel
theorem dX6_init_15 : decode cX6_init 15 = .ok (.aload_n 0, 1) := by decide +kernel
theorem dX6_init_16 : decode cX6_init 16 = .ok (.new 7, 3) := by decide +kernel
theorem dX6_init_19 : decode cX6_init 19 = .ok (.dup, 1) := by decide +kernel
theorem dX6_init_20 : decode cX6_init 20 = .ok (.invokespecial 9, 3) := by decide +kernel
theorem dX6_init_23 : decode cX6_init 23 = .ok (.putfield 16, 3) := by decide +kernel
theorem dX6_init_26 : decode cX6_init 26 = .ok (.aload_n 0, 1) := by decide +kernel
theorem dX6_init_27 : decode cX6_init 27 = .ok (.iconst 0, 1) := by decide +kernel
theorem dX6_init_28 : decode cX6_init 28 = .ok (.putfield 19, 3) := by decide +kernel
theorem dX6_init_31 : decode cX6_init 31 = .ok (.aload_n 0, 1) := by decide +kernel
theorem dX6_init_32 : decode cX6_init 32 = .ok (.new 23, 3) := by decide +kernel
theorem dX6_init_35 : decode cX6_init 35 = .ok (.dup, 1) := by decide +kernel
theorem dX6_init_36 : decode cX6_init 36 = .ok (.invokespecial 25, 3) := by decide +kernel
theorem dX6_init_39 : decode cX6_init 39 = .ok (.putfield 26, 3) := by decide +kernel
theorem dX6_init_42 : decode cX6_init 42 = .ok (.aload_n 0, 1) := by decide +kernel
theorem dX6_init_43 : decode cX6_init 43 = .ok (.bipush 12, 2) := by decide +kernel
theorem dX6_init_45 : decode cX6_init 45 = .ok (.newarray .int, 2) := by decide +kernel
theorem dX6_init_47 : decode cX6_init 47 = .ok (.putfield 30, 3) := by decide +kernel
theorem dX6_init_50 : decode cX6_init 50 = .ok (.aload_n 0, 1) := by decide +kernel
theorem dX6_init_51 : decode cX6_init 51 = .ok (.iconst 0, 1) := by decide +kernel
theorem dX6_init_52 : decode cX6_init 52 = .ok (.putfield 34, 3) := by decide +kernel
theorem dX6_init_55 : decode cX6_init 55 = .ok (.aload_n 0, 1) := by decide +kernel
theorem dX6_init_56 : decode cX6_init 56 = .ok (.bipush 7, 2) := by decide +kernel
theorem dX6_init_58 : decode cX6_init 58 = .ok (.newarray .int, 2) := by decide +kernel
theorem dX6_init_60 : decode cX6_init 60 = .ok (.putfield 38, 3) := by decide +kernel
theorem dX6_init_63 : decode cX6_init 63 = .ok (.aload_n 0, 1) := by decide +kernel
theorem dX6_init_64 : decode cX6_init 64 = .ok (.new 7, 3) := by decide +kernel
theorem dX6_init_67 : decode cX6_init 67 = .ok (.dup, 1) := by decide +kernel
theorem dX6_init_68 : decode cX6_init 68 = .ok (.invokespecial 9, 3) := by decide +kernel
theorem dX6_init_71 : decode cX6_init 71 = .ok (.putfield 41, 3) := by decide +kernel
theorem dX6_init_74 : decode cX6_init 74 = .ok (.aload_n 0, 1) := by decide +kernel
theorem dX6_init_75 : decode cX6_init 75 = .ok (.new 44, 3) := by decide +kernel
theorem dX6_init_78 : decode cX6_init 78 = .ok (.dup, 1) := by decide +kernel
theorem dX6_init_79 : decode cX6_init 79 = .ok (.invokespecial 46, 3) := by decide +kernel
theorem dX6_init_82 : decode cX6_init 82 = .ok (.putfield 47, 3) := by decide +kernel
theorem dX6_init_85 : decode cX6_init 85 = .ok (.aload_n 0, 1) := by decide +kernel
theorem dX6_init_86 : decode cX6_init 86 = .ok (.new 51, 3) := by decide +kernel
theorem dX6_init_89 : decode cX6_init 89 = .ok (.dup, 1) := by decide +kernel
theorem dX6_init_90 : decode cX6_init 90 = .ok (.invokespecial 53, 3) := by decide +kernel
theorem dX6_init_93 : decode cX6_init 93 = .ok (.putfield 54, 3) := by decide +kernel
theorem dX6_init_96 : decode cX6_init 96 = .ok (.aload_n 0, 1) := by decide +kernel
theorem dX6_init_97 : decode cX6_init 97 = .ok (.new 58, 3) := by decide +kernel
theorem dX6_init_100 : decode cX6_init 100 = .ok (.dup, 1) := by decide +kernel
theorem dX6_init_101 : decode cX6_init 101 = .ok (.invokespecial 60, 3) := by decide +kernel
theorem dX6_init_104 : decode cX6_init 104 = .ok (.putfield 61, 3) := by decide +kernel
theorem dX6_init_107 : decode cX6_init 107 = .ok (.return_, 1) := by decide +kernel
theorem dX6_letter_0 : decode cX6_letter 0 = .ok (.iload_n 1, 1) := by decide +kernel
theorem dX6_letter_1 : decode cX6_letter 1 = .ok (.ifCond .ge 10, 3) := by decide +kernel
theorem dX6_letter_4 : decode cX6_letter 4 = .ok (.aload_n 0, 1) := by decide +kernel
theorem dX6_letter_5 : decode cX6_letter 5 = .ok (.bipush (-4), 2) := by decide +kernel
theorem dX6_letter_7 : decode cX6_letter 7 = .ok (.invokevirtual 65, 3) := by decide +kernel
theorem dX6_letter_10 : decode cX6_letter 10 = .ok (.ireturn, 1) := by decide +kernel
theorem dX6_letter_11 : decode cX6_letter 11 = .ok (.iload_n 1, 1) := by decide +kernel
theorem dX6_letter_12 : decode cX6_letter 12 = .ok (.sipush 255, 3) := by decide +kernel
theorem dX6_letter_15 : decode cX6_letter 15 = .ok (.if_icmp .gt 13, 3) := by decide +kernel
theorem dX6_letter_18 : decode cX6_letter 18 = .ok (.aload_n 0, 1) := by decide +kernel
theorem dX6_letter_19 : decode cX6_letter 19 = .ok (.getfield 26, 3) := by decide +kernel
theorem dX6_letter_22 : decode cX6_letter 22 = .ok (.invokevirtual 69, 3) := by decide +kernel
theorem dX6_letter_25 : decode cX6_letter 25 = .ok (.ifCond .eq 10, 3) := by decide +kernel
theorem dX6_letter_28 : decode cX6_letter 28 = .ok (.aload_n 0, 1) := by decide +kernel
theorem dX6_letter_29 : decode cX6_letter 29 = .ok (.bipush (-6), 2) := by decide +kernel
theorem dX6_letter_31 : decode cX6_letter 31 = .ok (.invokevirtual 65, 3) := by decide +kernel
theorem dX6_letter_34 : decode cX6_letter 34 = .ok (.ireturn, 1) := by decide +kernel
theorem dX6_letter_35 : decode cX6_letter 35 = .ok (.aload_n 0, 1) := by decide +kernel
theorem dX6_letter_36 : decode cX6_letter 36 = .ok (.getfield 26, 3) := by decide +kernel
theorem dX6_letter_39 : decode cX6_letter 39 = .ok (.iload_n 1, 1) := by decide +kernel
theorem dX6_letter_40 : decode cX6_letter 40 = .ok (.invokevirtual 73, 3) := by decide +kernel
theorem dX6_letter_43 : decode cX6_letter 43 = .ok (.ireturn, 1) := by decide +kernel
theorem dX6_road_0 : decode cX6_road 0 = .ok (.aload_n 0, 1) := by decide +kernel
theorem dX6_road_1 : decode cX6_road 1 = .ok (.getfield 26, 3) := by decide +kernel
theorem dX6_road_4 : decode cX6_road 4 = .ok (.aload_n 0, 1) := by decide +kernel
theorem dX6_road_5 : decode cX6_road 5 = .ok (.getfield 10, 3) := by decide +kernel
theorem dX6_road_8 : decode cX6_road 8 = .ok (.aload_n 0, 1) := by decide +kernel
theorem dX6_road_9 : decode cX6_road 9 = .ok (.getfield 41, 3) := by decide +kernel
theorem dX6_road_12 : decode cX6_road 12 = .ok (.invokevirtual 76, 3) := by decide +kernel
theorem dX6_road_15 : decode cX6_road 15 = .ok (.istore_n 1, 1) := by decide +kernel
theorem dX6_road_16 : decode cX6_road 16 = .ok (.aload_n 0, 1) := by decide +kernel
theorem dX6_road_17 : decode cX6_road 17 = .ok (.getfield 26, 3) := by decide +kernel
theorem dX6_road_20 : decode cX6_road 20 = .ok (.invokevirtual 80, 3) := by decide +kernel
theorem dX6_road_23 : decode cX6_road 23 = .ok (.iload_n 1, 1) := by decide +kernel
theorem dX6_road_24 : decode cX6_road 24 = .ok (.ireturn, 1) := by decide +kernel
theorem dX6_car_0 : decode cX6_car 0 = .ok (.aload_n 0, 1) := by decide +kernel
theorem dX6_car_1 : decode cX6_car 1 = .ok (.getfield 10, 3) := by decide +kernel
theorem dX6_car_4 : decode cX6_car 4 = .ok (.iload_n 1, 1) := by decide +kernel
theorem dX6_car_5 : decode cX6_car 5 = .ok (.invokevirtual 83, 3) := by decide +kernel
theorem dX6_car_8 : decode cX6_car 8 = .ok (.ifCond .ne 9, 3) := by decide +kernel
theorem dX6_car_11 : decode cX6_car 11 = .ok (.aload_n 0, 1) := by decide +kernel
theorem dX6_car_12 : decode cX6_car 12 = .ok (.iconst (-1), 1) := by decide +kernel
theorem dX6_car_13 : decode cX6_car 13 = .ok (.invokevirtual 65, 3) := by decide +kernel
theorem dX6_car_16 : decode cX6_car 16 = .ok (.ireturn, 1) := by decide +kernel
theorem dX6_car_17 : decode cX6_car 17 = .ok (.iload_n 2, 1) := by decide +kernel
theorem dX6_car_18 : decode cX6_car 18 = .ok (.tableswitch 113 0 6 #[42, 52, 62, 72, 82, 91, 100], 42) := by decide +kernel
theorem dX6_car_60 : decode cX6_car 60 = .ok (.aload_n 0, 1) := by decide +kernel
theorem dX6_car_61 : decode cX6_car 61 = .ok (.getfield 10, 3) := by decide +kernel
theorem dX6_car_64 : decode cX6_car 64 = .ok (.getfield 87, 3) := by decide +kernel
theorem dX6_car_67 : decode cX6_car 67 = .ok (.iload_n 1, 1) := by decide +kernel
theorem dX6_car_68 : decode cX6_car 68 = .ok (.iaload, 1) := by decide +kernel
theorem dX6_car_69 : decode cX6_car 69 = .ok (.ireturn, 1) := by decide +kernel
theorem dX6_car_70 : decode cX6_car 70 = .ok (.aload_n 0, 1) := by decide +kernel
theorem dX6_car_71 : decode cX6_car 71 = .ok (.getfield 10, 3) := by decide +kernel
theorem dX6_car_74 : decode cX6_car 74 = .ok (.getfield 90, 3) := by decide +kernel
theorem dX6_car_77 : decode cX6_car 77 = .ok (.iload_n 1, 1) := by decide +kernel
theorem dX6_car_78 : decode cX6_car 78 = .ok (.iaload, 1) := by decide +kernel
theorem dX6_car_79 : decode cX6_car 79 = .ok (.ireturn, 1) := by decide +kernel
theorem dX6_car_80 : decode cX6_car 80 = .ok (.aload_n 0, 1) := by decide +kernel
theorem dX6_car_81 : decode cX6_car 81 = .ok (.getfield 10, 3) := by decide +kernel
theorem dX6_car_84 : decode cX6_car 84 = .ok (.getfield 93, 3) := by decide +kernel
theorem dX6_car_87 : decode cX6_car 87 = .ok (.iload_n 1, 1) := by decide +kernel
theorem dX6_car_88 : decode cX6_car 88 = .ok (.iaload, 1) := by decide +kernel
theorem dX6_car_89 : decode cX6_car 89 = .ok (.ireturn, 1) := by decide +kernel
theorem dX6_car_90 : decode cX6_car 90 = .ok (.aload_n 0, 1) := by decide +kernel
theorem dX6_car_91 : decode cX6_car 91 = .ok (.getfield 10, 3) := by decide +kernel
theorem dX6_car_94 : decode cX6_car 94 = .ok (.getfield 96, 3) := by decide +kernel
theorem dX6_car_97 : decode cX6_car 97 = .ok (.iload_n 1, 1) := by decide +kernel
theorem dX6_car_98 : decode cX6_car 98 = .ok (.iaload, 1) := by decide +kernel
theorem dX6_car_99 : decode cX6_car 99 = .ok (.ireturn, 1) := by decide +kernel
theorem dX6_car_100 : decode cX6_car 100 = .ok (.aload_n 0, 1) := by decide +kernel
theorem dX6_car_101 : decode cX6_car 101 = .ok (.getfield 10, 3) := by decide +kernel
theorem dX6_car_104 : decode cX6_car 104 = .ok (.iload_n 1, 1) := by decide +kernel
theorem dX6_car_105 : decode cX6_car 105 = .ok (.invokevirtual 99, 3) := by decide +kernel
theorem dX6_car_108 : decode cX6_car 108 = .ok (.ireturn, 1) := by decide +kernel
theorem dX6_car_109 : decode cX6_car 109 = .ok (.aload_n 0, 1) := by decide +kernel
theorem dX6_car_110 : decode cX6_car 110 = .ok (.getfield 10, 3) := by decide +kernel
theorem dX6_car_113 : decode cX6_car 113 = .ok (.iload_n 1, 1) := by decide +kernel
theorem dX6_car_114 : decode cX6_car 114 = .ok (.invokevirtual 102, 3) := by decide +kernel
theorem dX6_car_117 : decode cX6_car 117 = .ok (.ireturn, 1) := by decide +kernel
theorem dX6_car_118 : decode cX6_car 118 = .ok (.aload_n 0, 1) := by decide +kernel
theorem dX6_car_119 : decode cX6_car 119 = .ok (.getfield 10, 3) := by decide +kernel
theorem dX6_car_122 : decode cX6_car 122 = .ok (.getfield 87, 3) := by decide +kernel
theorem dX6_car_125 : decode cX6_car 125 = .ok (.iload_n 1, 1) := by decide +kernel
theorem dX6_car_126 : decode cX6_car 126 = .ok (.iaload, 1) := by decide +kernel
theorem dX6_car_127 : decode cX6_car 127 = .ok (.invokestatic 105, 3) := by decide +kernel
theorem dX6_car_130 : decode cX6_car 130 = .ok (.ireturn, 1) := by decide +kernel
theorem dX6_car_131 : decode cX6_car 131 = .ok (.aload_n 0, 1) := by decide +kernel
theorem dX6_car_132 : decode cX6_car 132 = .ok (.bipush (-2), 2) := by decide +kernel
theorem dX6_car_134 : decode cX6_car 134 = .ok (.invokevirtual 65, 3) := by decide +kernel
theorem dX6_car_137 : decode cX6_car 137 = .ok (.ireturn, 1) := by decide +kernel
theorem dX6_hurry_0 : decode cX6_hurry 0 = .ok (.aload_n 0, 1) := by decide +kernel
theorem dX6_hurry_1 : decode cX6_hurry 1 = .ok (.getfield 10, 3) := by decide +kernel
theorem dX6_hurry_4 : decode cX6_hurry 4 = .ok (.iload_n 1, 1) := by decide +kernel
theorem dX6_hurry_5 : decode cX6_hurry 5 = .ok (.invokevirtual 83, 3) := by decide +kernel
theorem dX6_hurry_8 : decode cX6_hurry 8 = .ok (.ifCond .ne 9, 3) := by decide +kernel
theorem dX6_hurry_11 : decode cX6_hurry 11 = .ok (.aload_n 0, 1) := by decide +kernel
theorem dX6_hurry_12 : decode cX6_hurry 12 = .ok (.iconst (-1), 1) := by decide +kernel
theorem dX6_hurry_13 : decode cX6_hurry 13 = .ok (.invokevirtual 65, 3) := by decide +kernel
theorem dX6_hurry_16 : decode cX6_hurry 16 = .ok (.ireturn, 1) := by decide +kernel
theorem dX6_hurry_17 : decode cX6_hurry 17 = .ok (.iload_n 2, 1) := by decide +kernel
theorem dX6_hurry_18 : decode cX6_hurry 18 = .ok (.ifCond .ge 10, 3) := by decide +kernel
theorem dX6_hurry_21 : decode cX6_hurry 21 = .ok (.aload_n 0, 1) := by decide +kernel
theorem dX6_hurry_22 : decode cX6_hurry 22 = .ok (.bipush (-4), 2) := by decide +kernel
theorem dX6_hurry_24 : decode cX6_hurry 24 = .ok (.invokevirtual 65, 3) := by decide +kernel
theorem dX6_hurry_27 : decode cX6_hurry 27 = .ok (.ireturn, 1) := by decide +kernel
theorem dX6_hurry_28 : decode cX6_hurry 28 = .ok (.iload_n 2, 1) := by decide +kernel
theorem dX6_hurry_29 : decode cX6_hurry 29 = .ok (.bipush 20, 2) := by decide +kernel
theorem dX6_hurry_31 : decode cX6_hurry 31 = .ok (.if_icmp .le 10, 3) := by decide +kernel
theorem dX6_hurry_34 : decode cX6_hurry 34 = .ok (.aload_n 0, 1) := by decide +kernel
theorem dX6_hurry_35 : decode cX6_hurry 35 = .ok (.bipush (-6), 2) := by decide +kernel
theorem dX6_hurry_37 : decode cX6_hurry 37 = .ok (.invokevirtual 65, 3) := by decide +kernel
theorem dX6_hurry_40 : decode cX6_hurry 40 = .ok (.ireturn, 1) := by decide +kernel
theorem dX6_hurry_41 : decode cX6_hurry 41 = .ok (.aload_n 0, 1) := by decide +kernel
theorem dX6_hurry_42 : decode cX6_hurry 42 = .ok (.getfield 10, 3) := by decide +kernel
theorem dX6_hurry_45 : decode cX6_hurry 45 = .ok (.getfield 96, 3) := by decide +kernel
theorem dX6_hurry_48 : decode cX6_hurry 48 = .ok (.iload_n 1, 1) := by decide +kernel
theorem dX6_hurry_49 : decode cX6_hurry 49 = .ok (.iaload, 1) := by decide +kernel
theorem dX6_hurry_50 : decode cX6_hurry 50 = .ok (.istore_n 3, 1) := by decide +kernel
theorem dX6_hurry_51 : decode cX6_hurry 51 = .ok (.aload_n 0, 1) := by decide +kernel
theorem dX6_hurry_52 : decode cX6_hurry 52 = .ok (.getfield 10, 3) := by decide +kernel
theorem dX6_hurry_55 : decode cX6_hurry 55 = .ok (.getfield 96, 3) := by decide +kernel
theorem dX6_hurry_58 : decode cX6_hurry 58 = .ok (.iload_n 1, 1) := by decide +kernel
theorem dX6_hurry_59 : decode cX6_hurry 59 = .ok (.iload_n 2, 1) := by decide +kernel
theorem dX6_hurry_60 : decode cX6_hurry 60 = .ok (.iastore, 1) := by decide +kernel
theorem dX6_hurry_61 : decode cX6_hurry 61 = .ok (.iload_n 3, 1) := by decide +kernel
theorem dX6_hurry_62 : decode cX6_hurry 62 = .ok (.ireturn, 1) := by decide +kernel
theorem dX6_goOver_0 : decode cX6_goOver 0 = .ok (.aload_n 0, 1) := by decide +kernel
theorem dX6_goOver_1 : decode cX6_goOver 1 = .ok (.getfield 10, 3) := by decide +kernel
theorem dX6_goOver_4 : decode cX6_goOver 4 = .ok (.iload_n 1, 1) := by decide +kernel
theorem dX6_goOver_5 : decode cX6_goOver 5 = .ok (.invokevirtual 83, 3) := by decide +kernel
theorem dX6_goOver_8 : decode cX6_goOver 8 = .ok (.ifCond .ne 9, 3) := by decide +kernel
theorem dX6_goOver_11 : decode cX6_goOver 11 = .ok (.aload_n 0, 1) := by decide +kernel
theorem dX6_goOver_12 : decode cX6_goOver 12 = .ok (.iconst (-1), 1) := by decide +kernel
theorem dX6_goOver_13 : decode cX6_goOver 13 = .ok (.invokevirtual 65, 3) := by decide +kernel
theorem dX6_goOver_16 : decode cX6_goOver 16 = .ok (.ireturn, 1) := by decide +kernel
theorem dX6_goOver_17 : decode cX6_goOver 17 = .ok (.aload_n 0, 1) := by decide +kernel
theorem dX6_goOver_18 : decode cX6_goOver 18 = .ok (.getfield 10, 3) := by decide +kernel
theorem dX6_goOver_21 : decode cX6_goOver 21 = .ok (.iload_n 1, 1) := by decide +kernel
theorem dX6_goOver_22 : decode cX6_goOver 22 = .ok (.invokevirtual 110, 3) := by decide +kernel
theorem dX6_goOver_25 : decode cX6_goOver 25 = .ok (.pop, 1) := by decide +kernel
theorem dX6_goOver_26 : decode cX6_goOver 26 = .ok (.aload_n 0, 1) := by decide +kernel
theorem dX6_goOver_27 : decode cX6_goOver 27 = .ok (.getfield 10, 3) := by decide +kernel
theorem dX6_goOver_30 : decode cX6_goOver 30 = .ok (.iload_n 1, 1) := by decide +kernel
theorem dX6_goOver_31 : decode cX6_goOver 31 = .ok (.invokevirtual 99, 3) := by decide +kernel
theorem dX6_goOver_34 : decode cX6_goOver 34 = .ok (.ireturn, 1) := by decide +kernel
theorem dX6_standFirst_0 : decode cX6_standFirst 0 = .ok (.aload_n 0, 1) := by decide +kernel
theorem dX6_standFirst_1 : decode cX6_standFirst 1 = .ok (.getfield 10, 3) := by decide +kernel
theorem dX6_standFirst_4 : decode cX6_standFirst 4 = .ok (.iload_n 1, 1) := by decide +kernel
theorem dX6_standFirst_5 : decode cX6_standFirst 5 = .ok (.invokevirtual 83, 3) := by decide +kernel
theorem dX6_standFirst_8 : decode cX6_standFirst 8 = .ok (.ifCond .ne 9, 3) := by decide +kernel
theorem dX6_standFirst_11 : decode cX6_standFirst 11 = .ok (.aload_n 0, 1) := by decide +kernel
theorem dX6_standFirst_12 : decode cX6_standFirst 12 = .ok (.iconst (-1), 1) := by decide +kernel
theorem dX6_standFirst_13 : decode cX6_standFirst 13 = .ok (.invokevirtual 65, 3) := by decide +kernel
theorem dX6_standFirst_16 : decode cX6_standFirst 16 = .ok (.ireturn, 1) := by decide +kernel
theorem dX6_standFirst_17 : decode cX6_standFirst 17 = .ok (.aload_n 0, 1) := by decide +kernel
theorem dX6_standFirst_18 : decode cX6_standFirst 18 = .ok (.getfield 10, 3) := by decide +kernel
theorem dX6_standFirst_21 : decode cX6_standFirst 21 = .ok (.iload_n 1, 1) := by decide +kernel
theorem dX6_standFirst_22 : decode cX6_standFirst 22 = .ok (.invokevirtual 99, 3) := by decide +kernel
theorem dX6_standFirst_25 : decode cX6_standFirst 25 = .ok (.istore_n 2, 1) := by decide +kernel
theorem dX6_standFirst_26 : decode cX6_standFirst 26 = .ok (.aload_n 0, 1) := by decide +kernel
theorem dX6_standFirst_27 : decode cX6_standFirst 27 = .ok (.getfield 10, 3) := by decide +kernel
theorem dX6_standFirst_30 : decode cX6_standFirst 30 = .ok (.iload_n 1, 1) := by decide +kernel
theorem dX6_standFirst_31 : decode cX6_standFirst 31 = .ok (.invokevirtual 113, 3) := by decide +kernel
theorem dX6_standFirst_34 : decode cX6_standFirst 34 = .ok (.pop, 1) := by decide +kernel
theorem dX6_standFirst_35 : decode cX6_standFirst 35 = .ok (.iload_n 2, 1) := by decide +kernel
theorem dX6_standFirst_36 : decode cX6_standFirst 36 = .ok (.ireturn, 1) := by decide +kernel
theorem dX6_set_0 : decode cX6_set 0 = .ok (.iload_n 1, 1) := by decide +kernel
theorem dX6_set_1 : decode cX6_set 1 = .ok (.ifCond .eq 15, 3) := by decide +kernel
theorem dX6_set_4 : decode cX6_set 4 = .ok (.iload_n 1, 1) := by decide +kernel
theorem dX6_set_5 : decode cX6_set 5 = .ok (.iconst 1, 1) := by decide +kernel
theorem dX6_set_6 : decode cX6_set 6 = .ok (.if_icmp .eq 10, 3) := by decide +kernel
theorem dX6_set_9 : decode cX6_set 9 = .ok (.aload_n 0, 1) := by decide +kernel
theorem dX6_set_10 : decode cX6_set 10 = .ok (.bipush (-2), 2) := by decide +kernel
theorem dX6_set_12 : decode cX6_set 12 = .ok (.invokevirtual 65, 3) := by decide +kernel
theorem dX6_set_15 : decode cX6_set 15 = .ok (.ireturn, 1) := by decide +kernel
theorem dX6_set_16 : decode cX6_set 16 = .ok (.iload_n 2, 1) := by decide +kernel
theorem dX6_set_17 : decode cX6_set 17 = .ok (.ifCond .ge 10, 3) := by decide +kernel
theorem dX6_set_20 : decode cX6_set 20 = .ok (.aload_n 0, 1) := by decide +kernel
theorem dX6_set_21 : decode cX6_set 21 = .ok (.bipush (-4), 2) := by decide +kernel
theorem dX6_set_23 : decode cX6_set 23 = .ok (.invokevirtual 65, 3) := by decide +kernel
theorem dX6_set_26 : decode cX6_set 26 = .ok (.ireturn, 1) := by decide +kernel
theorem dX6_set_27 : decode cX6_set 27 = .ok (.iload_n 1, 1) := by decide +kernel
theorem dX6_set_28 : decode cX6_set 28 = .ok (.ifCond .ne 13, 3) := by decide +kernel
theorem dX6_set_31 : decode cX6_set 31 = .ok (.aload_n 0, 1) := by decide +kernel
theorem dX6_set_32 : decode cX6_set 32 = .ok (.getfield 10, 3) := by decide +kernel
theorem dX6_set_35 : decode cX6_set 35 = .ok (.getfield 116, 3) := by decide +kernel
theorem dX6_set_38 : decode cX6_set 38 = .ok (.goto 10, 3) := by decide +kernel
theorem dX6_set_41 : decode cX6_set 41 = .ok (.aload_n 0, 1) := by decide +kernel
theorem dX6_set_42 : decode cX6_set 42 = .ok (.getfield 10, 3) := by decide +kernel
theorem dX6_set_45 : decode cX6_set 45 = .ok (.getfield 119, 3) := by decide +kernel
theorem dX6_set_48 : decode cX6_set 48 = .ok (.istore_n 3, 1) := by decide +kernel
theorem dX6_set_49 : decode cX6_set 49 = .ok (.iload_n 1, 1) := by decide +kernel
theorem dX6_set_50 : decode cX6_set 50 = .ok (.ifCond .ne 14, 3) := by decide +kernel
theorem dX6_set_53 : decode cX6_set 53 = .ok (.aload_n 0, 1) := by decide +kernel
theorem dX6_set_54 : decode cX6_set 54 = .ok (.getfield 10, 3) := by decide +kernel
theorem dX6_set_57 : decode cX6_set 57 = .ok (.iload_n 2, 1) := by decide +kernel
theorem dX6_set_58 : decode cX6_set 58 = .ok (.invokevirtual 122, 3) := by decide +kernel
theorem dX6_set_61 : decode cX6_set 61 = .ok (.goto 11, 3) := by decide +kernel
theorem dX6_set_64 : decode cX6_set 64 = .ok (.aload_n 0, 1) := by decide +kernel
theorem dX6_set_65 : decode cX6_set 65 = .ok (.getfield 10, 3) := by decide +kernel
theorem dX6_set_68 : decode cX6_set 68 = .ok (.iload_n 2, 1) := by decide +kernel
theorem dX6_set_69 : decode cX6_set 69 = .ok (.invokevirtual 125, 3) := by decide +kernel
theorem dX6_set_72 : decode cX6_set 72 = .ok (.istore 4, 2) := by decide +kernel
theorem dX6_set_74 : decode cX6_set 74 = .ok (.iload 4, 2) := by decide +kernel
theorem dX6_set_76 : decode cX6_set 76 = .ok (.ifCond .eq 7, 3) := by decide +kernel
theorem dX6_set_79 : decode cX6_set 79 = .ok (.iload_n 3, 1) := by decide +kernel
theorem dX6_set_80 : decode cX6_set 80 = .ok (.goto 9, 3) := by decide +kernel
theorem dX6_set_83 : decode cX6_set 83 = .ok (.aload_n 0, 1) := by decide +kernel
theorem dX6_set_84 : decode cX6_set 84 = .ok (.bipush (-6), 2) := by decide +kernel
theorem dX6_set_86 : decode cX6_set 86 = .ok (.invokevirtual 65, 3) := by decide +kernel
theorem dX6_set_89 : decode cX6_set 89 = .ok (.ireturn, 1) := by decide +kernel
theorem dX6_order_0 : decode cX6_order 0 = .ok (.aload_n 0, 1) := by decide +kernel
theorem dX6_order_1 : decode cX6_order 1 = .ok (.getfield 10, 3) := by decide +kernel
theorem dX6_order_4 : decode cX6_order 4 = .ok (.iload_n 1, 1) := by decide +kernel
theorem dX6_order_5 : decode cX6_order 5 = .ok (.invokevirtual 83, 3) := by decide +kernel
theorem dX6_order_8 : decode cX6_order 8 = .ok (.ifCond .ne 9, 3) := by decide +kernel
theorem dX6_order_11 : decode cX6_order 11 = .ok (.aload_n 0, 1) := by decide +kernel
theorem dX6_order_12 : decode cX6_order 12 = .ok (.iconst (-1), 1) := by decide +kernel
theorem dX6_order_13 : decode cX6_order 13 = .ok (.invokevirtual 65, 3) := by decide +kernel
theorem dX6_order_16 : decode cX6_order 16 = .ok (.ireturn, 1) := by decide +kernel
theorem dX6_order_17 : decode cX6_order 17 = .ok (.aload_n 0, 1) := by decide +kernel
theorem dX6_order_18 : decode cX6_order 18 = .ok (.getfield 47, 3) := by decide +kernel
theorem dX6_order_21 : decode cX6_order 21 = .ok (.aload_n 0, 1) := by decide +kernel
theorem dX6_order_22 : decode cX6_order 22 = .ok (.getfield 10, 3) := by decide +kernel
theorem dX6_order_25 : decode cX6_order 25 = .ok (.iconst 0, 1) := by decide +kernel
theorem dX6_order_26 : decode cX6_order 26 = .ok (.invokevirtual 128, 3) := by decide +kernel
theorem dX6_order_29 : decode cX6_order 29 = .ok (.aload_n 0, 1) := by decide +kernel
theorem dX6_order_30 : decode cX6_order 30 = .ok (.getfield 47, 3) := by decide +kernel
theorem dX6_order_33 : decode cX6_order 33 = .ok (.getfield 132, 3) := by decide +kernel
theorem dX6_order_36 : decode cX6_order 36 = .ok (.iload_n 1, 1) := by decide +kernel
theorem dX6_order_37 : decode cX6_order 37 = .ok (.iaload, 1) := by decide +kernel
theorem dX6_order_38 : decode cX6_order 38 = .ok (.ireturn, 1) := by decide +kernel
theorem dX6_of_0 : decode cX6_of 0 = .ok (.aload_n 0, 1) := by decide +kernel
theorem dX6_of_1 : decode cX6_of 1 = .ok (.getfield 10, 3) := by decide +kernel
theorem dX6_of_4 : decode cX6_of 4 = .ok (.iload_n 1, 1) := by decide +kernel
theorem dX6_of_5 : decode cX6_of 5 = .ok (.invokevirtual 83, 3) := by decide +kernel
theorem dX6_of_8 : decode cX6_of 8 = .ok (.ifCond .ne 9, 3) := by decide +kernel
theorem dX6_of_11 : decode cX6_of 11 = .ok (.aload_n 0, 1) := by decide +kernel
theorem dX6_of_12 : decode cX6_of 12 = .ok (.iconst (-1), 1) := by decide +kernel
theorem dX6_of_13 : decode cX6_of 13 = .ok (.invokevirtual 65, 3) := by decide +kernel
theorem dX6_of_16 : decode cX6_of 16 = .ok (.ireturn, 1) := by decide +kernel
theorem dX6_of_17 : decode cX6_of 17 = .ok (.iload_n 2, 1) := by decide +kernel
theorem dX6_of_18 : decode cX6_of 18 = .ok (.ifCond .eq 15, 3) := by decide +kernel
theorem dX6_of_21 : decode cX6_of 21 = .ok (.iload_n 2, 1) := by decide +kernel
theorem dX6_of_22 : decode cX6_of 22 = .ok (.iconst 1, 1) := by decide +kernel
theorem dX6_of_23 : decode cX6_of 23 = .ok (.if_icmp .eq 10, 3) := by decide +kernel
theorem dX6_of_26 : decode cX6_of 26 = .ok (.aload_n 0, 1) := by decide +kernel
theorem dX6_of_27 : decode cX6_of 27 = .ok (.bipush (-2), 2) := by decide +kernel
theorem dX6_of_29 : decode cX6_of 29 = .ok (.invokevirtual 65, 3) := by decide +kernel
theorem dX6_of_32 : decode cX6_of 32 = .ok (.ireturn, 1) := by decide +kernel
theorem dX6_of_33 : decode cX6_of 33 = .ok (.aload_n 0, 1) := by decide +kernel
theorem dX6_of_34 : decode cX6_of 34 = .ok (.getfield 47, 3) := by decide +kernel
theorem dX6_of_37 : decode cX6_of 37 = .ok (.aload_n 0, 1) := by decide +kernel
theorem dX6_of_38 : decode cX6_of 38 = .ok (.getfield 10, 3) := by decide +kernel
theorem dX6_of_41 : decode cX6_of 41 = .ok (.iconst 0, 1) := by decide +kernel
theorem dX6_of_42 : decode cX6_of 42 = .ok (.invokevirtual 128, 3) := by decide +kernel
theorem dX6_of_45 : decode cX6_of 45 = .ok (.iload_n 2, 1) := by decide +kernel
theorem dX6_of_46 : decode cX6_of 46 = .ok (.ifCond .ne 15, 3) := by decide +kernel
theorem dX6_of_49 : decode cX6_of 49 = .ok (.aload_n 0, 1) := by decide +kernel
theorem dX6_of_50 : decode cX6_of 50 = .ok (.getfield 47, 3) := by decide +kernel
theorem dX6_of_53 : decode cX6_of 53 = .ok (.getfield 135, 3) := by decide +kernel
theorem dX6_of_56 : decode cX6_of 56 = .ok (.iload_n 1, 1) := by decide +kernel
theorem dX6_of_57 : decode cX6_of 57 = .ok (.iaload, 1) := by decide +kernel
theorem dX6_of_58 : decode cX6_of 58 = .ok (.goto 12, 3) := by decide +kernel
theorem dX6_of_61 : decode cX6_of 61 = .ok (.aload_n 0, 1) := by decide +kernel
theorem dX6_of_62 : decode cX6_of 62 = .ok (.getfield 47, 3) := by decide +kernel
theorem dX6_of_65 : decode cX6_of 65 = .ok (.getfield 138, 3) := by decide +kernel
theorem dX6_of_68 : decode cX6_of 68 = .ok (.iload_n 1, 1) := by decide +kernel
theorem dX6_of_69 : decode cX6_of 69 = .ok (.iaload, 1) := by decide +kernel
theorem dX6_of_70 : decode cX6_of 70 = .ok (.ireturn, 1) := by decide +kernel
theorem dX6_sums_0 : decode cX6_sums 0 = .ok (.iload_n 1, 1) := by decide +kernel
theorem dX6_sums_1 : decode cX6_sums 1 = .ok (.ifCond .lt 8, 3) := by decide +kernel
theorem dX6_sums_4 : decode cX6_sums 4 = .ok (.iload_n 1, 1) := by decide +kernel
theorem dX6_sums_5 : decode cX6_sums 5 = .ok (.iconst 4, 1) := by decide +kernel
theorem dX6_sums_6 : decode cX6_sums 6 = .ok (.if_icmp .le 10, 3) := by decide +kernel
theorem dX6_sums_9 : decode cX6_sums 9 = .ok (.aload_n 0, 1) := by decide +kernel
theorem dX6_sums_10 : decode cX6_sums 10 = .ok (.bipush (-2), 2) := by decide +kernel
theorem dX6_sums_12 : decode cX6_sums 12 = .ok (.invokevirtual 65, 3) := by decide +kernel
theorem dX6_sums_15 : decode cX6_sums 15 = .ok (.ireturn, 1) := by decide +kernel
theorem dX6_sums_16 : decode cX6_sums 16 = .ok (.aload_n 0, 1) := by decide +kernel
theorem dX6_sums_17 : decode cX6_sums 17 = .ok (.getfield 47, 3) := by decide +kernel
theorem dX6_sums_20 : decode cX6_sums 20 = .ok (.aload_n 0, 1) := by decide +kernel
theorem dX6_sums_21 : decode cX6_sums 21 = .ok (.getfield 10, 3) := by decide +kernel
theorem dX6_sums_24 : decode cX6_sums 24 = .ok (.iconst 0, 1) := by decide +kernel
theorem dX6_sums_25 : decode cX6_sums 25 = .ok (.invokevirtual 128, 3) := by decide +kernel
theorem dX6_sums_28 : decode cX6_sums 28 = .ok (.iload_n 1, 1) := by decide +kernel
theorem dX6_sums_29 : decode cX6_sums 29 = .ok (.tableswitch 71 0 3 #[31, 39, 47, 59], 31) := by decide +kernel
theorem dX6_sums_60 : decode cX6_sums 60 = .ok (.aload_n 0, 1) := by decide +kernel
theorem dX6_sums_61 : decode cX6_sums 61 = .ok (.getfield 47, 3) := by decide +kernel
theorem dX6_sums_64 : decode cX6_sums 64 = .ok (.getfield 141, 3) := by decide +kernel
theorem dX6_sums_67 : decode cX6_sums 67 = .ok (.ireturn, 1) := by decide +kernel
theorem dX6_sums_68 : decode cX6_sums 68 = .ok (.aload_n 0, 1) := by decide +kernel
theorem dX6_sums_69 : decode cX6_sums 69 = .ok (.getfield 47, 3) := by decide +kernel
theorem dX6_sums_72 : decode cX6_sums 72 = .ok (.invokevirtual 144, 3) := by decide +kernel
theorem dX6_sums_75 : decode cX6_sums 75 = .ok (.ireturn, 1) := by decide +kernel
theorem dX6_sums_76 : decode cX6_sums 76 = .ok (.aload_n 0, 1) := by decide +kernel
theorem dX6_sums_77 : decode cX6_sums 77 = .ok (.getfield 47, 3) := by decide +kernel
theorem dX6_sums_80 : decode cX6_sums 80 = .ok (.aload_n 0, 1) := by decide +kernel
theorem dX6_sums_81 : decode cX6_sums 81 = .ok (.getfield 10, 3) := by decide +kernel
theorem dX6_sums_84 : decode cX6_sums 84 = .ok (.invokevirtual 148, 3) := by decide +kernel
theorem dX6_sums_87 : decode cX6_sums 87 = .ok (.ireturn, 1) := by decide +kernel
theorem dX6_sums_88 : decode cX6_sums 88 = .ok (.aload_n 0, 1) := by decide +kernel
theorem dX6_sums_89 : decode cX6_sums 89 = .ok (.getfield 47, 3) := by decide +kernel
theorem dX6_sums_92 : decode cX6_sums 92 = .ok (.aload_n 0, 1) := by decide +kernel
theorem dX6_sums_93 : decode cX6_sums 93 = .ok (.getfield 10, 3) := by decide +kernel
theorem dX6_sums_96 : decode cX6_sums 96 = .ok (.invokevirtual 152, 3) := by decide +kernel
theorem dX6_sums_99 : decode cX6_sums 99 = .ok (.ireturn, 1) := by decide +kernel
theorem dX6_sums_100 : decode cX6_sums 100 = .ok (.aload_n 0, 1) := by decide +kernel
theorem dX6_sums_101 : decode cX6_sums 101 = .ok (.getfield 47, 3) := by decide +kernel
theorem dX6_sums_104 : decode cX6_sums 104 = .ok (.aload_n 0, 1) := by decide +kernel
theorem dX6_sums_105 : decode cX6_sums 105 = .ok (.getfield 10, 3) := by decide +kernel
theorem dX6_sums_108 : decode cX6_sums 108 = .ok (.invokevirtual 155, 3) := by decide +kernel
theorem dX6_sums_111 : decode cX6_sums 111 = .ok (.ireturn, 1) := by decide +kernel
theorem dX6_queue_0 : decode cX6_queue 0 = .ok (.iload_n 1, 1) := by decide +kernel
theorem dX6_queue_1 : decode cX6_queue 1 = .ok (.ifCond .eq 14, 3) := by decide +kernel
theorem dX6_queue_4 : decode cX6_queue 4 = .ok (.iload_n 1, 1) := by decide +kernel
theorem dX6_queue_5 : decode cX6_queue 5 = .ok (.iconst 1, 1) := by decide +kernel
theorem dX6_queue_6 : decode cX6_queue 6 = .ok (.if_icmp .eq 9, 3) := by decide +kernel
theorem dX6_queue_9 : decode cX6_queue 9 = .ok (.aload_n 0, 1) := by decide +kernel
theorem dX6_queue_10 : decode cX6_queue 10 = .ok (.iconst (-1), 1) := by decide +kernel
theorem dX6_queue_11 : decode cX6_queue 11 = .ok (.invokevirtual 65, 3) := by decide +kernel
theorem dX6_queue_14 : decode cX6_queue 14 = .ok (.ireturn, 1) := by decide +kernel
theorem dX6_queue_15 : decode cX6_queue 15 = .ok (.iload_n 2, 1) := by decide +kernel
theorem dX6_queue_16 : decode cX6_queue 16 = .ok (.ifCond .ge 10, 3) := by decide +kernel
theorem dX6_queue_19 : decode cX6_queue 19 = .ok (.aload_n 0, 1) := by decide +kernel
theorem dX6_queue_20 : decode cX6_queue 20 = .ok (.bipush (-4), 2) := by decide +kernel
theorem dX6_queue_22 : decode cX6_queue 22 = .ok (.invokevirtual 65, 3) := by decide +kernel
theorem dX6_queue_25 : decode cX6_queue 25 = .ok (.ireturn, 1) := by decide +kernel
theorem dX6_queue_26 : decode cX6_queue 26 = .ok (.iload_n 2, 1) := by decide +kernel
theorem dX6_queue_27 : decode cX6_queue 27 = .ok (.aload_n 0, 1) := by decide +kernel
theorem dX6_queue_28 : decode cX6_queue 28 = .ok (.getfield 10, 3) := by decide +kernel
theorem dX6_queue_31 : decode cX6_queue 31 = .ok (.getfield 158, 3) := by decide +kernel
theorem dX6_queue_34 : decode cX6_queue 34 = .ok (.if_icmp .le 10, 3) := by decide +kernel
theorem dX6_queue_37 : decode cX6_queue 37 = .ok (.aload_n 0, 1) := by decide +kernel
theorem dX6_queue_38 : decode cX6_queue 38 = .ok (.bipush (-6), 2) := by decide +kernel
theorem dX6_queue_40 : decode cX6_queue 40 = .ok (.invokevirtual 65, 3) := by decide +kernel
theorem dX6_queue_43 : decode cX6_queue 43 = .ok (.ireturn, 1) := by decide +kernel
theorem dX6_queue_44 : decode cX6_queue 44 = .ok (.aload_n 0, 1) := by decide +kernel
theorem dX6_queue_45 : decode cX6_queue 45 = .ok (.getfield 47, 3) := by decide +kernel
theorem dX6_queue_48 : decode cX6_queue 48 = .ok (.aload_n 0, 1) := by decide +kernel
theorem dX6_queue_49 : decode cX6_queue 49 = .ok (.getfield 10, 3) := by decide +kernel
theorem dX6_queue_52 : decode cX6_queue 52 = .ok (.iconst 0, 1) := by decide +kernel
theorem dX6_queue_53 : decode cX6_queue 53 = .ok (.invokevirtual 128, 3) := by decide +kernel
theorem dX6_queue_56 : decode cX6_queue 56 = .ok (.aload_n 0, 1) := by decide +kernel
theorem dX6_queue_57 : decode cX6_queue 57 = .ok (.getfield 10, 3) := by decide +kernel
theorem dX6_queue_60 : decode cX6_queue 60 = .ok (.iload_n 1, 1) := by decide +kernel
theorem dX6_queue_61 : decode cX6_queue 61 = .ok (.invokevirtual 161, 3) := by decide +kernel
theorem dX6_queue_64 : decode cX6_queue 64 = .ok (.aload_n 0, 1) := by decide +kernel
theorem dX6_queue_65 : decode cX6_queue 65 = .ok (.getfield 47, 3) := by decide +kernel
theorem dX6_queue_68 : decode cX6_queue 68 = .ok (.aload_n 0, 1) := by decide +kernel
theorem dX6_queue_69 : decode cX6_queue 69 = .ok (.getfield 10, 3) := by decide +kernel
theorem dX6_queue_72 : decode cX6_queue 72 = .ok (.iload_n 1, 1) := by decide +kernel
theorem dX6_queue_73 : decode cX6_queue 73 = .ok (.iload_n 2, 1) := by decide +kernel
theorem dX6_queue_74 : decode cX6_queue 74 = .ok (.invokevirtual 164, 3) := by decide +kernel
theorem dX6_queue_77 : decode cX6_queue 77 = .ok (.isub, 1) := by decide +kernel
theorem dX6_queue_78 : decode cX6_queue 78 = .ok (.ireturn, 1) := by decide +kernel
theorem dX6_bestBoard_0 : decode cX6_bestBoard 0 = .ok (.aload_n 0, 1) := by decide +kernel
theorem dX6_bestBoard_1 : decode cX6_bestBoard 1 = .ok (.getfield 54, 3) := by decide +kernel
theorem dX6_bestBoard_4 : decode cX6_bestBoard 4 = .ok (.aload_n 0, 1) := by decide +kernel
theorem dX6_bestBoard_5 : decode cX6_bestBoard 5 = .ok (.getfield 10, 3) := by decide +kernel
theorem dX6_bestBoard_8 : decode cX6_bestBoard 8 = .ok (.invokevirtual 168, 3) := by decide +kernel
theorem dX6_bestBoard_11 : decode cX6_bestBoard 11 = .ok (.ireturn, 1) := by decide +kernel
theorem dX6_over_0 : decode cX6_over 0 = .ok (.iload_n 1, 1) := by decide +kernel
theorem dX6_over_1 : decode cX6_over 1 = .ok (.ifCond .eq 15, 3) := by decide +kernel
theorem dX6_over_4 : decode cX6_over 4 = .ok (.iload_n 1, 1) := by decide +kernel
theorem dX6_over_5 : decode cX6_over 5 = .ok (.iconst 1, 1) := by decide +kernel
theorem dX6_over_6 : decode cX6_over 6 = .ok (.if_icmp .eq 10, 3) := by decide +kernel
theorem dX6_over_9 : decode cX6_over 9 = .ok (.aload_n 0, 1) := by decide +kernel
theorem dX6_over_10 : decode cX6_over 10 = .ok (.bipush (-2), 2) := by decide +kernel
theorem dX6_over_12 : decode cX6_over 12 = .ok (.invokevirtual 65, 3) := by decide +kernel
theorem dX6_over_15 : decode cX6_over 15 = .ok (.ireturn, 1) := by decide +kernel
theorem dX6_over_16 : decode cX6_over 16 = .ok (.aload_n 0, 1) := by decide +kernel
theorem dX6_over_17 : decode cX6_over 17 = .ok (.getfield 54, 3) := by decide +kernel
theorem dX6_over_20 : decode cX6_over 20 = .ok (.aload_n 0, 1) := by decide +kernel
theorem dX6_over_21 : decode cX6_over 21 = .ok (.getfield 10, 3) := by decide +kernel
theorem dX6_over_24 : decode cX6_over 24 = .ok (.iconst 0, 1) := by decide +kernel
theorem dX6_over_25 : decode cX6_over 25 = .ok (.iload_n 1, 1) := by decide +kernel
theorem dX6_over_26 : decode cX6_over 26 = .ok (.iconst 1, 1) := by decide +kernel
theorem dX6_over_27 : decode cX6_over 27 = .ok (.if_icmp .ne 7, 3) := by decide +kernel
theorem dX6_over_30 : decode cX6_over 30 = .ok (.iconst 1, 1) := by decide +kernel
theorem dX6_over_31 : decode cX6_over 31 = .ok (.goto 4, 3) := by decide +kernel
theorem dX6_over_34 : decode cX6_over 34 = .ok (.iconst 0, 1) := by decide +kernel
theorem dX6_over_35 : decode cX6_over 35 = .ok (.invokevirtual 171, 3) := by decide +kernel
theorem dX6_over_38 : decode cX6_over 38 = .ok (.ireturn, 1) := by decide +kernel
theorem dX6_first_0 : decode cX6_first 0 = .ok (.iload_n 1, 1) := by decide +kernel
theorem dX6_first_1 : decode cX6_first 1 = .ok (.ifCond .eq 15, 3) := by decide +kernel
theorem dX6_first_4 : decode cX6_first 4 = .ok (.iload_n 1, 1) := by decide +kernel
theorem dX6_first_5 : decode cX6_first 5 = .ok (.iconst 1, 1) := by decide +kernel
theorem dX6_first_6 : decode cX6_first 6 = .ok (.if_icmp .eq 10, 3) := by decide +kernel
theorem dX6_first_9 : decode cX6_first 9 = .ok (.aload_n 0, 1) := by decide +kernel
theorem dX6_first_10 : decode cX6_first 10 = .ok (.bipush (-2), 2) := by decide +kernel
theorem dX6_first_12 : decode cX6_first 12 = .ok (.invokevirtual 65, 3) := by decide +kernel
theorem dX6_first_15 : decode cX6_first 15 = .ok (.ireturn, 1) := by decide +kernel
theorem dX6_first_16 : decode cX6_first 16 = .ok (.aload_n 0, 1) := by decide +kernel
theorem dX6_first_17 : decode cX6_first 17 = .ok (.getfield 54, 3) := by decide +kernel
theorem dX6_first_20 : decode cX6_first 20 = .ok (.aload_n 0, 1) := by decide +kernel
theorem dX6_first_21 : decode cX6_first 21 = .ok (.getfield 10, 3) := by decide +kernel
theorem dX6_first_24 : decode cX6_first 24 = .ok (.iconst 1, 1) := by decide +kernel
theorem dX6_first_25 : decode cX6_first 25 = .ok (.iload_n 1, 1) := by decide +kernel
theorem dX6_first_26 : decode cX6_first 26 = .ok (.iconst 1, 1) := by decide +kernel
theorem dX6_first_27 : decode cX6_first 27 = .ok (.if_icmp .ne 7, 3) := by decide +kernel
theorem dX6_first_30 : decode cX6_first 30 = .ok (.iconst 1, 1) := by decide +kernel
theorem dX6_first_31 : decode cX6_first 31 = .ok (.goto 4, 3) := by decide +kernel
theorem dX6_first_34 : decode cX6_first 34 = .ok (.iconst 0, 1) := by decide +kernel
theorem dX6_first_35 : decode cX6_first 35 = .ok (.invokevirtual 171, 3) := by decide +kernel
theorem dX6_first_38 : decode cX6_first 38 = .ok (.ireturn, 1) := by decide +kernel
theorem dX6_lets_0 : decode cX6_lets 0 = .ok (.aload_n 0, 1) := by decide +kernel
theorem dX6_lets_1 : decode cX6_lets 1 = .ok (.getfield 54, 3) := by decide +kernel
theorem dX6_lets_4 : decode cX6_lets 4 = .ok (.aload_n 0, 1) := by decide +kernel
theorem dX6_lets_5 : decode cX6_lets 5 = .ok (.getfield 10, 3) := by decide +kernel
theorem dX6_lets_8 : decode cX6_lets 8 = .ok (.invokevirtual 175, 3) := by decide +kernel
theorem dX6_lets_11 : decode cX6_lets 11 = .ok (.ireturn, 1) := by decide +kernel
theorem dX6_spoil_0 : decode cX6_spoil 0 = .ok (.iload_n 1, 1) := by decide +kernel
theorem dX6_spoil_1 : decode cX6_spoil 1 = .ok (.ifCond .eq 15, 3) := by decide +kernel
theorem dX6_spoil_4 : decode cX6_spoil 4 = .ok (.iload_n 1, 1) := by decide +kernel
theorem dX6_spoil_5 : decode cX6_spoil 5 = .ok (.iconst 1, 1) := by decide +kernel
theorem dX6_spoil_6 : decode cX6_spoil 6 = .ok (.if_icmp .eq 10, 3) := by decide +kernel
theorem dX6_spoil_9 : decode cX6_spoil 9 = .ok (.aload_n 0, 1) := by decide +kernel
theorem dX6_spoil_10 : decode cX6_spoil 10 = .ok (.bipush (-2), 2) := by decide +kernel
theorem dX6_spoil_12 : decode cX6_spoil 12 = .ok (.invokevirtual 65, 3) := by decide +kernel
theorem dX6_spoil_15 : decode cX6_spoil 15 = .ok (.ireturn, 1) := by decide +kernel
theorem dX6_spoil_16 : decode cX6_spoil 16 = .ok (.aload_n 0, 1) := by decide +kernel
theorem dX6_spoil_17 : decode cX6_spoil 17 = .ok (.getfield 54, 3) := by decide +kernel
theorem dX6_spoil_20 : decode cX6_spoil 20 = .ok (.aload_n 0, 1) := by decide +kernel
theorem dX6_spoil_21 : decode cX6_spoil 21 = .ok (.getfield 10, 3) := by decide +kernel
theorem dX6_spoil_24 : decode cX6_spoil 24 = .ok (.iconst 0, 1) := by decide +kernel
theorem dX6_spoil_25 : decode cX6_spoil 25 = .ok (.invokevirtual 178, 3) := by decide +kernel
theorem dX6_spoil_28 : decode cX6_spoil 28 = .ok (.iload_n 1, 1) := by decide +kernel
theorem dX6_spoil_29 : decode cX6_spoil 29 = .ok (.invokestatic 182, 3) := by decide +kernel
theorem dX6_spoil_32 : decode cX6_spoil 32 = .ok (.ireturn, 1) := by decide +kernel
theorem dX6_mend_0 : decode cX6_mend 0 = .ok (.iload_n 1, 1) := by decide +kernel
theorem dX6_mend_1 : decode cX6_mend 1 = .ok (.ifCond .eq 15, 3) := by decide +kernel
theorem dX6_mend_4 : decode cX6_mend 4 = .ok (.iload_n 1, 1) := by decide +kernel
theorem dX6_mend_5 : decode cX6_mend 5 = .ok (.iconst 1, 1) := by decide +kernel
theorem dX6_mend_6 : decode cX6_mend 6 = .ok (.if_icmp .eq 10, 3) := by decide +kernel
theorem dX6_mend_9 : decode cX6_mend 9 = .ok (.aload_n 0, 1) := by decide +kernel
theorem dX6_mend_10 : decode cX6_mend 10 = .ok (.bipush (-2), 2) := by decide +kernel
theorem dX6_mend_12 : decode cX6_mend 12 = .ok (.invokevirtual 65, 3) := by decide +kernel
theorem dX6_mend_15 : decode cX6_mend 15 = .ok (.ireturn, 1) := by decide +kernel
theorem dX6_mend_16 : decode cX6_mend 16 = .ok (.aload_n 0, 1) := by decide +kernel
theorem dX6_mend_17 : decode cX6_mend 17 = .ok (.getfield 54, 3) := by decide +kernel
theorem dX6_mend_20 : decode cX6_mend 20 = .ok (.aload_n 0, 1) := by decide +kernel
theorem dX6_mend_21 : decode cX6_mend 21 = .ok (.getfield 10, 3) := by decide +kernel
theorem dX6_mend_24 : decode cX6_mend 24 = .ok (.iconst 1, 1) := by decide +kernel
theorem dX6_mend_25 : decode cX6_mend 25 = .ok (.invokevirtual 178, 3) := by decide +kernel
theorem dX6_mend_28 : decode cX6_mend 28 = .ok (.iload_n 1, 1) := by decide +kernel
theorem dX6_mend_29 : decode cX6_mend 29 = .ok (.invokestatic 182, 3) := by decide +kernel
theorem dX6_mend_32 : decode cX6_mend 32 = .ok (.ireturn, 1) := by decide +kernel
theorem dX6_loses_0 : decode cX6_loses 0 = .ok (.aload_n 0, 1) := by decide +kernel
theorem dX6_loses_1 : decode cX6_loses 1 = .ok (.getfield 10, 3) := by decide +kernel
theorem dX6_loses_4 : decode cX6_loses 4 = .ok (.iload_n 1, 1) := by decide +kernel
theorem dX6_loses_5 : decode cX6_loses 5 = .ok (.iload_n 2, 1) := by decide +kernel
theorem dX6_loses_6 : decode cX6_loses 6 = .ok (.invokevirtual 186, 3) := by decide +kernel
theorem dX6_loses_9 : decode cX6_loses 9 = .ok (.ifCond .ne 12, 3) := by decide +kernel
theorem dX6_loses_12 : decode cX6_loses 12 = .ok (.ldc 190, 2) := by decide +kernel
theorem dX6_loses_14 : decode cX6_loses 14 = .ok (.aload_n 0, 1) := by decide +kernel
theorem dX6_loses_15 : decode cX6_loses 15 = .ok (.iconst (-1), 1) := by decide +kernel
theorem dX6_loses_16 : decode cX6_loses 16 = .ok (.invokevirtual 65, 3) := by decide +kernel
theorem dX6_loses_19 : decode cX6_loses 19 = .ok (.isub, 1) := by decide +kernel
theorem dX6_loses_20 : decode cX6_loses 20 = .ok (.ireturn, 1) := by decide +kernel
theorem dX6_loses_21 : decode cX6_loses 21 = .ok (.aload_n 0, 1) := by decide +kernel
theorem dX6_loses_22 : decode cX6_loses 22 = .ok (.getfield 61, 3) := by decide +kernel
theorem dX6_loses_25 : decode cX6_loses 25 = .ok (.aload_n 0, 1) := by decide +kernel
theorem dX6_loses_26 : decode cX6_loses 26 = .ok (.getfield 10, 3) := by decide +kernel
theorem dX6_loses_29 : decode cX6_loses 29 = .ok (.iload_n 1, 1) := by decide +kernel
theorem dX6_loses_30 : decode cX6_loses 30 = .ok (.iload_n 2, 1) := by decide +kernel
theorem dX6_loses_31 : decode cX6_loses 31 = .ok (.invokevirtual 191, 3) := by decide +kernel
theorem dX6_loses_34 : decode cX6_loses 34 = .ok (.ireturn, 1) := by decide +kernel
theorem dX6_byWhom_0 : decode cX6_byWhom 0 = .ok (.aload_n 0, 1) := by decide +kernel
theorem dX6_byWhom_1 : decode cX6_byWhom 1 = .ok (.getfield 10, 3) := by decide +kernel
theorem dX6_byWhom_4 : decode cX6_byWhom 4 = .ok (.iload_n 1, 1) := by decide +kernel
theorem dX6_byWhom_5 : decode cX6_byWhom 5 = .ok (.invokevirtual 83, 3) := by decide +kernel
theorem dX6_byWhom_8 : decode cX6_byWhom 8 = .ok (.ifCond .ne 9, 3) := by decide +kernel
theorem dX6_byWhom_11 : decode cX6_byWhom 11 = .ok (.aload_n 0, 1) := by decide +kernel
theorem dX6_byWhom_12 : decode cX6_byWhom 12 = .ok (.iconst (-1), 1) := by decide +kernel
theorem dX6_byWhom_13 : decode cX6_byWhom 13 = .ok (.invokevirtual 65, 3) := by decide +kernel
theorem dX6_byWhom_16 : decode cX6_byWhom 16 = .ok (.ireturn, 1) := by decide +kernel
theorem dX6_byWhom_17 : decode cX6_byWhom 17 = .ok (.aload_n 0, 1) := by decide +kernel
theorem dX6_byWhom_18 : decode cX6_byWhom 18 = .ok (.getfield 61, 3) := by decide +kernel
theorem dX6_byWhom_21 : decode cX6_byWhom 21 = .ok (.aload_n 0, 1) := by decide +kernel
theorem dX6_byWhom_22 : decode cX6_byWhom 22 = .ok (.getfield 10, 3) := by decide +kernel
theorem dX6_byWhom_25 : decode cX6_byWhom 25 = .ok (.iload_n 1, 1) := by decide +kernel
theorem dX6_byWhom_26 : decode cX6_byWhom 26 = .ok (.invokevirtual 194, 3) := by decide +kernel
theorem dX6_byWhom_29 : decode cX6_byWhom 29 = .ok (.ireturn, 1) := by decide +kernel
theorem dX6_two_0 : decode cX6_two 0 = .ok (.aload_n 0, 1) := by decide +kernel
theorem dX6_two_1 : decode cX6_two 1 = .ok (.getfield 10, 3) := by decide +kernel
theorem dX6_two_4 : decode cX6_two 4 = .ok (.iload_n 1, 1) := by decide +kernel
theorem dX6_two_5 : decode cX6_two 5 = .ok (.iload_n 2, 1) := by decide +kernel
theorem dX6_two_6 : decode cX6_two 6 = .ok (.invokevirtual 186, 3) := by decide +kernel
theorem dX6_two_9 : decode cX6_two 9 = .ok (.ifCond .ne 9, 3) := by decide +kernel
theorem dX6_two_12 : decode cX6_two 12 = .ok (.aload_n 0, 1) := by decide +kernel
theorem dX6_two_13 : decode cX6_two 13 = .ok (.iconst (-1), 1) := by decide +kernel
theorem dX6_two_14 : decode cX6_two 14 = .ok (.invokevirtual 65, 3) := by decide +kernel
theorem dX6_two_17 : decode cX6_two 17 = .ok (.ireturn, 1) := by decide +kernel
theorem dX6_two_18 : decode cX6_two 18 = .ok (.aload_n 0, 1) := by decide +kernel
theorem dX6_two_19 : decode cX6_two 19 = .ok (.getfield 61, 3) := by decide +kernel
theorem dX6_two_22 : decode cX6_two 22 = .ok (.aload_n 0, 1) := by decide +kernel
theorem dX6_two_23 : decode cX6_two 23 = .ok (.getfield 10, 3) := by decide +kernel
theorem dX6_two_26 : decode cX6_two 26 = .ok (.iload_n 1, 1) := by decide +kernel
theorem dX6_two_27 : decode cX6_two 27 = .ok (.iload_n 2, 1) := by decide +kernel
theorem dX6_two_28 : decode cX6_two 28 = .ok (.invokevirtual 198, 3) := by decide +kernel
theorem dX6_two_31 : decode cX6_two 31 = .ok (.ireturn, 1) := by decide +kernel
theorem dX6_fair_0 : decode cX6_fair 0 = .ok (.aload_n 0, 1) := by decide +kernel
theorem dX6_fair_1 : decode cX6_fair 1 = .ok (.getfield 47, 3) := by decide +kernel
theorem dX6_fair_4 : decode cX6_fair 4 = .ok (.aload_n 0, 1) := by decide +kernel
theorem dX6_fair_5 : decode cX6_fair 5 = .ok (.getfield 10, 3) := by decide +kernel
theorem dX6_fair_8 : decode cX6_fair 8 = .ok (.iconst 0, 1) := by decide +kernel
theorem dX6_fair_9 : decode cX6_fair 9 = .ok (.invokevirtual 128, 3) := by decide +kernel
theorem dX6_fair_12 : decode cX6_fair 12 = .ok (.iconst 0, 1) := by decide +kernel
theorem dX6_fair_13 : decode cX6_fair 13 = .ok (.istore_n 1, 1) := by decide +kernel
theorem dX6_fair_14 : decode cX6_fair 14 = .ok (.iconst 0, 1) := by decide +kernel
theorem dX6_fair_15 : decode cX6_fair 15 = .ok (.istore_n 2, 1) := by decide +kernel
theorem dX6_fair_16 : decode cX6_fair 16 = .ok (.iload_n 2, 1) := by decide +kernel
theorem dX6_fair_17 : decode cX6_fair 17 = .ok (.aload_n 0, 1) := by decide +kernel
theorem dX6_fair_18 : decode cX6_fair 18 = .ok (.getfield 10, 3) := by decide +kernel
theorem dX6_fair_21 : decode cX6_fair 21 = .ok (.getfield 158, 3) := by decide +kernel
theorem dX6_fair_24 : decode cX6_fair 24 = .ok (.if_icmp .ge 20, 3) := by decide +kernel
theorem dX6_fair_27 : decode cX6_fair 27 = .ok (.iload_n 1, 1) := by decide +kernel
theorem dX6_fair_28 : decode cX6_fair 28 = .ok (.aload_n 0, 1) := by decide +kernel
theorem dX6_fair_29 : decode cX6_fair 29 = .ok (.getfield 47, 3) := by decide +kernel
theorem dX6_fair_32 : decode cX6_fair 32 = .ok (.iload_n 2, 1) := by decide +kernel
theorem dX6_fair_33 : decode cX6_fair 33 = .ok (.invokevirtual 201, 3) := by decide +kernel
theorem dX6_fair_36 : decode cX6_fair 36 = .ok (.iadd, 1) := by decide +kernel
theorem dX6_fair_37 : decode cX6_fair 37 = .ok (.istore_n 1, 1) := by decide +kernel
theorem dX6_fair_38 : decode cX6_fair 38 = .ok (.iinc 2 1, 3) := by decide +kernel
theorem dX6_fair_41 : decode cX6_fair 41 = .ok (.goto (-25), 3) := by decide +kernel
theorem dX6_fair_44 : decode cX6_fair 44 = .ok (.iload_n 1, 1) := by decide +kernel
theorem dX6_fair_45 : decode cX6_fair 45 = .ok (.ireturn, 1) := by decide +kernel
theorem dX6_lucky_0 : decode cX6_lucky 0 = .ok (.aload_n 0, 1) := by decide +kernel
theorem dX6_lucky_1 : decode cX6_lucky 1 = .ok (.getfield 47, 3) := by decide +kernel
theorem dX6_lucky_4 : decode cX6_lucky 4 = .ok (.aload_n 0, 1) := by decide +kernel
theorem dX6_lucky_5 : decode cX6_lucky 5 = .ok (.getfield 10, 3) := by decide +kernel
theorem dX6_lucky_8 : decode cX6_lucky 8 = .ok (.iconst 0, 1) := by decide +kernel
theorem dX6_lucky_9 : decode cX6_lucky 9 = .ok (.invokevirtual 128, 3) := by decide +kernel
theorem dX6_lucky_12 : decode cX6_lucky 12 = .ok (.bipush (-9), 2) := by decide +kernel
theorem dX6_lucky_14 : decode cX6_lucky 14 = .ok (.istore_n 1, 1) := by decide +kernel
theorem dX6_lucky_15 : decode cX6_lucky 15 = .ok (.iconst 0, 1) := by decide +kernel
theorem dX6_lucky_16 : decode cX6_lucky 16 = .ok (.istore_n 2, 1) := by decide +kernel
theorem dX6_lucky_17 : decode cX6_lucky 17 = .ok (.iconst 0, 1) := by decide +kernel
theorem dX6_lucky_18 : decode cX6_lucky 18 = .ok (.istore_n 3, 1) := by decide +kernel
theorem dX6_lucky_19 : decode cX6_lucky 19 = .ok (.iload_n 3, 1) := by decide +kernel
theorem dX6_lucky_20 : decode cX6_lucky 20 = .ok (.aload_n 0, 1) := by decide +kernel
theorem dX6_lucky_21 : decode cX6_lucky 21 = .ok (.getfield 10, 3) := by decide +kernel
theorem dX6_lucky_24 : decode cX6_lucky 24 = .ok (.getfield 158, 3) := by decide +kernel
theorem dX6_lucky_27 : decode cX6_lucky 27 = .ok (.if_icmp .ge 30, 3) := by decide +kernel
theorem dX6_lucky_30 : decode cX6_lucky 30 = .ok (.aload_n 0, 1) := by decide +kernel
theorem dX6_lucky_31 : decode cX6_lucky 31 = .ok (.getfield 47, 3) := by decide +kernel
theorem dX6_lucky_34 : decode cX6_lucky 34 = .ok (.iload_n 3, 1) := by decide +kernel
theorem dX6_lucky_35 : decode cX6_lucky 35 = .ok (.invokevirtual 201, 3) := by decide +kernel
theorem dX6_lucky_38 : decode cX6_lucky 38 = .ok (.istore 4, 2) := by decide +kernel
theorem dX6_lucky_40 : decode cX6_lucky 40 = .ok (.iload 4, 2) := by decide +kernel
theorem dX6_lucky_42 : decode cX6_lucky 42 = .ok (.iload_n 2, 1) := by decide +kernel
theorem dX6_lucky_43 : decode cX6_lucky 43 = .ok (.if_icmp .le 8, 3) := by decide +kernel
theorem dX6_lucky_46 : decode cX6_lucky 46 = .ok (.iload 4, 2) := by decide +kernel
theorem dX6_lucky_48 : decode cX6_lucky 48 = .ok (.istore_n 2, 1) := by decide +kernel
theorem dX6_lucky_49 : decode cX6_lucky 49 = .ok (.iload_n 3, 1) := by decide +kernel
theorem dX6_lucky_50 : decode cX6_lucky 50 = .ok (.istore_n 1, 1) := by decide +kernel
theorem dX6_lucky_51 : decode cX6_lucky 51 = .ok (.iinc 3 1, 3) := by decide +kernel
theorem dX6_lucky_54 : decode cX6_lucky 54 = .ok (.goto (-35), 3) := by decide +kernel
theorem dX6_lucky_57 : decode cX6_lucky 57 = .ok (.iload_n 1, 1) := by decide +kernel
theorem dX6_lucky_58 : decode cX6_lucky 58 = .ok (.ireturn, 1) := by decide +kernel
theorem dX6_away_0 : decode cX6_away 0 = .ok (.aload_n 0, 1) := by decide +kernel
theorem dX6_away_1 : decode cX6_away 1 = .ok (.getfield 54, 3) := by decide +kernel
theorem dX6_away_4 : decode cX6_away 4 = .ok (.aload_n 0, 1) := by decide +kernel
theorem dX6_away_5 : decode cX6_away 5 = .ok (.getfield 10, 3) := by decide +kernel
theorem dX6_away_8 : decode cX6_away 8 = .ok (.invokevirtual 204, 3) := by decide +kernel
theorem dX6_away_11 : decode cX6_away 11 = .ok (.ireturn, 1) := by decide +kernel
theorem dX6_wider_0 : decode cX6_wider 0 = .ok (.iconst 0, 1) := by decide +kernel
theorem dX6_wider_1 : decode cX6_wider 1 = .ok (.istore_n 1, 1) := by decide +kernel
theorem dX6_wider_2 : decode cX6_wider 2 = .ok (.iconst 0, 1) := by decide +kernel
theorem dX6_wider_3 : decode cX6_wider 3 = .ok (.istore_n 2, 1) := by decide +kernel
theorem dX6_wider_4 : decode cX6_wider 4 = .ok (.iload_n 2, 1) := by decide +kernel
theorem dX6_wider_5 : decode cX6_wider 5 = .ok (.aload_n 0, 1) := by decide +kernel
theorem dX6_wider_6 : decode cX6_wider 6 = .ok (.getfield 10, 3) := by decide +kernel
theorem dX6_wider_9 : decode cX6_wider 9 = .ok (.getfield 158, 3) := by decide +kernel
theorem dX6_wider_12 : decode cX6_wider 12 = .ok (.if_icmp .ge 34, 3) := by decide +kernel
theorem dX6_wider_15 : decode cX6_wider 15 = .ok (.aload_n 0, 1) := by decide +kernel
theorem dX6_wider_16 : decode cX6_wider 16 = .ok (.getfield 10, 3) := by decide +kernel
theorem dX6_wider_19 : decode cX6_wider 19 = .ok (.getfield 87, 3) := by decide +kernel
theorem dX6_wider_22 : decode cX6_wider 22 = .ok (.iload_n 2, 1) := by decide +kernel
theorem dX6_wider_23 : decode cX6_wider 23 = .ok (.iaload, 1) := by decide +kernel
theorem dX6_wider_24 : decode cX6_wider 24 = .ok (.invokestatic 105, 3) := by decide +kernel
theorem dX6_wider_27 : decode cX6_wider 27 = .ok (.istore_n 3, 1) := by decide +kernel
theorem dX6_wider_28 : decode cX6_wider 28 = .ok (.iload_n 1, 1) := by decide +kernel
theorem dX6_wider_29 : decode cX6_wider 29 = .ok (.iload_n 3, 1) := by decide +kernel
theorem dX6_wider_30 : decode cX6_wider 30 = .ok (.iconst 1, 1) := by decide +kernel
theorem dX6_wider_31 : decode cX6_wider 31 = .ok (.iload_n 3, 1) := by decide +kernel
theorem dX6_wider_32 : decode cX6_wider 32 = .ok (.iconst 1, 1) := by decide +kernel
theorem dX6_wider_33 : decode cX6_wider 33 = .ok (.isub, 1) := by decide +kernel
theorem dX6_wider_34 : decode cX6_wider 34 = .ok (.invokestatic 207, 3) := by decide +kernel
theorem dX6_wider_37 : decode cX6_wider 37 = .ok (.isub, 1) := by decide +kernel
theorem dX6_wider_38 : decode cX6_wider 38 = .ok (.iadd, 1) := by decide +kernel
theorem dX6_wider_39 : decode cX6_wider 39 = .ok (.istore_n 1, 1) := by decide +kernel
theorem dX6_wider_40 : decode cX6_wider 40 = .ok (.iinc 2 1, 3) := by decide +kernel
theorem dX6_wider_43 : decode cX6_wider 43 = .ok (.goto (-39), 3) := by decide +kernel
theorem dX6_wider_46 : decode cX6_wider 46 = .ok (.iload_n 1, 1) := by decide +kernel
theorem dX6_wider_47 : decode cX6_wider 47 = .ok (.ireturn, 1) := by decide +kernel
theorem dX6_gap_0 : decode cX6_gap 0 = .ok (.iload_n 1, 1) := by decide +kernel
theorem dX6_gap_1 : decode cX6_gap 1 = .ok (.ifCond .eq 15, 3) := by decide +kernel
theorem dX6_gap_4 : decode cX6_gap 4 = .ok (.iload_n 1, 1) := by decide +kernel
theorem dX6_gap_5 : decode cX6_gap 5 = .ok (.iconst 1, 1) := by decide +kernel
theorem dX6_gap_6 : decode cX6_gap 6 = .ok (.if_icmp .eq 10, 3) := by decide +kernel
theorem dX6_gap_9 : decode cX6_gap 9 = .ok (.aload_n 0, 1) := by decide +kernel
theorem dX6_gap_10 : decode cX6_gap 10 = .ok (.bipush (-2), 2) := by decide +kernel
theorem dX6_gap_12 : decode cX6_gap 12 = .ok (.invokevirtual 65, 3) := by decide +kernel
theorem dX6_gap_15 : decode cX6_gap 15 = .ok (.ireturn, 1) := by decide +kernel
theorem dX6_gap_16 : decode cX6_gap 16 = .ok (.aload_n 0, 1) := by decide +kernel
theorem dX6_gap_17 : decode cX6_gap 17 = .ok (.getfield 47, 3) := by decide +kernel
theorem dX6_gap_20 : decode cX6_gap 20 = .ok (.aload_n 0, 1) := by decide +kernel
theorem dX6_gap_21 : decode cX6_gap 21 = .ok (.getfield 10, 3) := by decide +kernel
theorem dX6_gap_24 : decode cX6_gap 24 = .ok (.iconst 0, 1) := by decide +kernel
theorem dX6_gap_25 : decode cX6_gap 25 = .ok (.invokevirtual 128, 3) := by decide +kernel
theorem dX6_gap_28 : decode cX6_gap 28 = .ok (.iconst 0, 1) := by decide +kernel
theorem dX6_gap_29 : decode cX6_gap 29 = .ok (.istore_n 2, 1) := by decide +kernel
theorem dX6_gap_30 : decode cX6_gap 30 = .ok (.bipush (-9), 2) := by decide +kernel
theorem dX6_gap_32 : decode cX6_gap 32 = .ok (.istore_n 3, 1) := by decide +kernel
theorem dX6_gap_33 : decode cX6_gap 33 = .ok (.iconst 0, 1) := by decide +kernel
theorem dX6_gap_34 : decode cX6_gap 34 = .ok (.istore 4, 2) := by decide +kernel
theorem dX6_gap_36 : decode cX6_gap 36 = .ok (.iload 4, 2) := by decide +kernel
theorem dX6_gap_38 : decode cX6_gap 38 = .ok (.iconst 1, 1) := by decide +kernel
theorem dX6_gap_39 : decode cX6_gap 39 = .ok (.iadd, 1) := by decide +kernel
theorem dX6_gap_40 : decode cX6_gap 40 = .ok (.aload_n 0, 1) := by decide +kernel
theorem dX6_gap_41 : decode cX6_gap 41 = .ok (.getfield 47, 3) := by decide +kernel
theorem dX6_gap_44 : decode cX6_gap 44 = .ok (.getfield 212, 3) := by decide +kernel
theorem dX6_gap_47 : decode cX6_gap 47 = .ok (.if_icmp .ge 50, 3) := by decide +kernel
theorem dX6_gap_50 : decode cX6_gap 50 = .ok (.aload_n 0, 1) := by decide +kernel
theorem dX6_gap_51 : decode cX6_gap 51 = .ok (.getfield 47, 3) := by decide +kernel
theorem dX6_gap_54 : decode cX6_gap 54 = .ok (.iload 4, 2) := by decide +kernel
theorem dX6_gap_56 : decode cX6_gap 56 = .ok (.iconst 1, 1) := by decide +kernel
theorem dX6_gap_57 : decode cX6_gap 57 = .ok (.iadd, 1) := by decide +kernel
theorem dX6_gap_58 : decode cX6_gap 58 = .ok (.invokevirtual 215, 3) := by decide +kernel
theorem dX6_gap_61 : decode cX6_gap 61 = .ok (.aload_n 0, 1) := by decide +kernel
theorem dX6_gap_62 : decode cX6_gap 62 = .ok (.getfield 47, 3) := by decide +kernel
theorem dX6_gap_65 : decode cX6_gap 65 = .ok (.iload 4, 2) := by decide +kernel
theorem dX6_gap_67 : decode cX6_gap 67 = .ok (.invokevirtual 215, 3) := by decide +kernel
theorem dX6_gap_70 : decode cX6_gap 70 = .ok (.isub, 1) := by decide +kernel
theorem dX6_gap_71 : decode cX6_gap 71 = .ok (.istore 5, 2) := by decide +kernel
theorem dX6_gap_73 : decode cX6_gap 73 = .ok (.iload_n 3, 1) := by decide +kernel
theorem dX6_gap_74 : decode cX6_gap 74 = .ok (.bipush (-9), 2) := by decide +kernel
theorem dX6_gap_76 : decode cX6_gap 76 = .ok (.if_icmp .eq 9, 3) := by decide +kernel
theorem dX6_gap_79 : decode cX6_gap 79 = .ok (.iload 5, 2) := by decide +kernel
theorem dX6_gap_81 : decode cX6_gap 81 = .ok (.iload_n 2, 1) := by decide +kernel
theorem dX6_gap_82 : decode cX6_gap 82 = .ok (.if_icmp .le 9, 3) := by decide +kernel
theorem dX6_gap_85 : decode cX6_gap 85 = .ok (.iload 5, 2) := by decide +kernel
theorem dX6_gap_87 : decode cX6_gap 87 = .ok (.istore_n 2, 1) := by decide +kernel
theorem dX6_gap_88 : decode cX6_gap 88 = .ok (.iload 4, 2) := by decide +kernel
theorem dX6_gap_90 : decode cX6_gap 90 = .ok (.istore_n 3, 1) := by decide +kernel
theorem dX6_gap_91 : decode cX6_gap 91 = .ok (.iinc 4 1, 3) := by decide +kernel
theorem dX6_gap_94 : decode cX6_gap 94 = .ok (.goto (-58), 3) := by decide +kernel
theorem dX6_gap_97 : decode cX6_gap 97 = .ok (.iload_n 1, 1) := by decide +kernel
theorem dX6_gap_98 : decode cX6_gap 98 = .ok (.ifCond .ne 7, 3) := by decide +kernel
theorem dX6_gap_101 : decode cX6_gap 101 = .ok (.iload_n 2, 1) := by decide +kernel
theorem dX6_gap_102 : decode cX6_gap 102 = .ok (.goto 4, 3) := by decide +kernel
theorem dX6_gap_105 : decode cX6_gap 105 = .ok (.iload_n 3, 1) := by decide +kernel
theorem dX6_gap_106 : decode cX6_gap 106 = .ok (.ireturn, 1) := by decide +kernel
theorem dX6_even_0 : decode cX6_even 0 = .ok (.iload_n 1, 1) := by decide +kernel
theorem dX6_even_1 : decode cX6_even 1 = .ok (.ifCond .ge 10, 3) := by decide +kernel
theorem dX6_even_4 : decode cX6_even 4 = .ok (.aload_n 0, 1) := by decide +kernel
theorem dX6_even_5 : decode cX6_even 5 = .ok (.bipush (-4), 2) := by decide +kernel
theorem dX6_even_7 : decode cX6_even 7 = .ok (.invokevirtual 65, 3) := by decide +kernel
theorem dX6_even_10 : decode cX6_even 10 = .ok (.ireturn, 1) := by decide +kernel
theorem dX6_even_11 : decode cX6_even 11 = .ok (.iload_n 1, 1) := by decide +kernel
theorem dX6_even_12 : decode cX6_even 12 = .ok (.bipush 99, 2) := by decide +kernel
theorem dX6_even_14 : decode cX6_even 14 = .ok (.if_icmp .le 10, 3) := by decide +kernel
theorem dX6_even_17 : decode cX6_even 17 = .ok (.aload_n 0, 1) := by decide +kernel
theorem dX6_even_18 : decode cX6_even 18 = .ok (.bipush (-6), 2) := by decide +kernel
theorem dX6_even_20 : decode cX6_even 20 = .ok (.invokevirtual 65, 3) := by decide +kernel
theorem dX6_even_23 : decode cX6_even 23 = .ok (.ireturn, 1) := by decide +kernel
theorem dX6_even_24 : decode cX6_even 24 = .ok (.aload_n 0, 1) := by decide +kernel
theorem dX6_even_25 : decode cX6_even 25 = .ok (.getfield 54, 3) := by decide +kernel
theorem dX6_even_28 : decode cX6_even 28 = .ok (.aload_n 0, 1) := by decide +kernel
theorem dX6_even_29 : decode cX6_even 29 = .ok (.getfield 10, 3) := by decide +kernel
theorem dX6_even_32 : decode cX6_even 32 = .ok (.iload_n 1, 1) := by decide +kernel
theorem dX6_even_33 : decode cX6_even 33 = .ok (.invokevirtual 218, 3) := by decide +kernel
theorem dX6_even_36 : decode cX6_even 36 = .ok (.ireturn, 1) := by decide +kernel
theorem dX6_keep_0 : decode cX6_keep 0 = .ok (.iload_n 1, 1) := by decide +kernel
theorem dX6_keep_1 : decode cX6_keep 1 = .ok (.ifCond .ge 10, 3) := by decide +kernel
theorem dX6_keep_4 : decode cX6_keep 4 = .ok (.aload_n 0, 1) := by decide +kernel
theorem dX6_keep_5 : decode cX6_keep 5 = .ok (.bipush (-4), 2) := by decide +kernel
theorem dX6_keep_7 : decode cX6_keep 7 = .ok (.invokevirtual 65, 3) := by decide +kernel
theorem dX6_keep_10 : decode cX6_keep 10 = .ok (.ireturn, 1) := by decide +kernel
theorem dX6_keep_11 : decode cX6_keep 11 = .ok (.iload_n 1, 1) := by decide +kernel
theorem dX6_keep_12 : decode cX6_keep 12 = .ok (.bipush 99, 2) := by decide +kernel
theorem dX6_keep_14 : decode cX6_keep 14 = .ok (.if_icmp .le 10, 3) := by decide +kernel
theorem dX6_keep_17 : decode cX6_keep 17 = .ok (.aload_n 0, 1) := by decide +kernel
theorem dX6_keep_18 : decode cX6_keep 18 = .ok (.bipush (-6), 2) := by decide +kernel
theorem dX6_keep_20 : decode cX6_keep 20 = .ok (.invokevirtual 65, 3) := by decide +kernel
theorem dX6_keep_23 : decode cX6_keep 23 = .ok (.ireturn, 1) := by decide +kernel
theorem dX6_keep_24 : decode cX6_keep 24 = .ok (.iload_n 2, 1) := by decide +kernel
theorem dX6_keep_25 : decode cX6_keep 25 = .ok (.ifCond .eq 15, 3) := by decide +kernel
theorem dX6_keep_28 : decode cX6_keep 28 = .ok (.iload_n 2, 1) := by decide +kernel
theorem dX6_keep_29 : decode cX6_keep 29 = .ok (.iconst 1, 1) := by decide +kernel
theorem dX6_keep_30 : decode cX6_keep 30 = .ok (.if_icmp .eq 10, 3) := by decide +kernel
theorem dX6_keep_33 : decode cX6_keep 33 = .ok (.aload_n 0, 1) := by decide +kernel
theorem dX6_keep_34 : decode cX6_keep 34 = .ok (.bipush (-2), 2) := by decide +kernel
theorem dX6_keep_36 : decode cX6_keep 36 = .ok (.invokevirtual 65, 3) := by decide +kernel
theorem dX6_keep_39 : decode cX6_keep 39 = .ok (.ireturn, 1) := by decide +kernel
theorem dX6_keep_40 : decode cX6_keep 40 = .ok (.aload_n 0, 1) := by decide +kernel
theorem dX6_keep_41 : decode cX6_keep 41 = .ok (.getfield 54, 3) := by decide +kernel
theorem dX6_keep_44 : decode cX6_keep 44 = .ok (.aload_n 0, 1) := by decide +kernel
theorem dX6_keep_45 : decode cX6_keep 45 = .ok (.getfield 10, 3) := by decide +kernel
theorem dX6_keep_48 : decode cX6_keep 48 = .ok (.iload_n 1, 1) := by decide +kernel
theorem dX6_keep_49 : decode cX6_keep 49 = .ok (.invokevirtual 221, 3) := by decide +kernel
theorem dX6_keep_52 : decode cX6_keep 52 = .ok (.iload_n 2, 1) := by decide +kernel
theorem dX6_keep_53 : decode cX6_keep 53 = .ok (.invokestatic 182, 3) := by decide +kernel
theorem dX6_keep_56 : decode cX6_keep 56 = .ok (.ireturn, 1) := by decide +kernel
theorem dX6_who_0 : decode cX6_who 0 = .ok (.aload_n 0, 1) := by decide +kernel
theorem dX6_who_1 : decode cX6_who 1 = .ok (.getfield 10, 3) := by decide +kernel
theorem dX6_who_4 : decode cX6_who 4 = .ok (.iload_n 1, 1) := by decide +kernel
theorem dX6_who_5 : decode cX6_who 5 = .ok (.invokevirtual 83, 3) := by decide +kernel
theorem dX6_who_8 : decode cX6_who 8 = .ok (.ifCond .ne 9, 3) := by decide +kernel
theorem dX6_who_11 : decode cX6_who 11 = .ok (.aload_n 0, 1) := by decide +kernel
theorem dX6_who_12 : decode cX6_who 12 = .ok (.iconst (-1), 1) := by decide +kernel
theorem dX6_who_13 : decode cX6_who 13 = .ok (.invokevirtual 65, 3) := by decide +kernel
theorem dX6_who_16 : decode cX6_who 16 = .ok (.ireturn, 1) := by decide +kernel
theorem dX6_who_17 : decode cX6_who 17 = .ok (.iload_n 2, 1) := by decide +kernel
theorem dX6_who_18 : decode cX6_who 18 = .ok (.ifCond .eq 15, 3) := by decide +kernel
theorem dX6_who_21 : decode cX6_who 21 = .ok (.iload_n 2, 1) := by decide +kernel
theorem dX6_who_22 : decode cX6_who 22 = .ok (.iconst 1, 1) := by decide +kernel
theorem dX6_who_23 : decode cX6_who 23 = .ok (.if_icmp .eq 10, 3) := by decide +kernel
theorem dX6_who_26 : decode cX6_who 26 = .ok (.aload_n 0, 1) := by decide +kernel
theorem dX6_who_27 : decode cX6_who 27 = .ok (.bipush (-2), 2) := by decide +kernel
theorem dX6_who_29 : decode cX6_who 29 = .ok (.invokevirtual 65, 3) := by decide +kernel
theorem dX6_who_32 : decode cX6_who 32 = .ok (.ireturn, 1) := by decide +kernel
theorem dX6_who_33 : decode cX6_who 33 = .ok (.iconst 0, 1) := by decide +kernel
theorem dX6_who_34 : decode cX6_who 34 = .ok (.istore_n 3, 1) := by decide +kernel
theorem dX6_who_35 : decode cX6_who 35 = .ok (.iload_n 2, 1) := by decide +kernel
theorem dX6_who_36 : decode cX6_who 36 = .ok (.ifCond .ne 7, 3) := by decide +kernel
theorem dX6_who_39 : decode cX6_who 39 = .ok (.iconst 5, 1) := by decide +kernel
theorem dX6_who_40 : decode cX6_who 40 = .ok (.goto 5, 3) := by decide +kernel
theorem dX6_who_43 : decode cX6_who 43 = .ok (.bipush 9, 2) := by decide +kernel
theorem dX6_who_45 : decode cX6_who 45 = .ok (.istore 4, 2) := by decide +kernel
theorem dX6_who_47 : decode cX6_who 47 = .ok (.iconst 0, 1) := by decide +kernel
theorem dX6_who_48 : decode cX6_who 48 = .ok (.istore 5, 2) := by decide +kernel
theorem dX6_who_50 : decode cX6_who 50 = .ok (.iload 5, 2) := by decide +kernel
theorem dX6_who_52 : decode cX6_who 52 = .ok (.iload 4, 2) := by decide +kernel
theorem dX6_who_54 : decode cX6_who 54 = .ok (.if_icmp .gt 69, 3) := by decide +kernel
theorem dX6_who_57 : decode cX6_who 57 = .ok (.aload_n 0, 1) := by decide +kernel
theorem dX6_who_58 : decode cX6_who 58 = .ok (.getfield 41, 3) := by decide +kernel
theorem dX6_who_61 : decode cX6_who 61 = .ok (.aload_n 0, 1) := by decide +kernel
theorem dX6_who_62 : decode cX6_who 62 = .ok (.getfield 10, 3) := by decide +kernel
theorem dX6_who_65 : decode cX6_who 65 = .ok (.invokevirtual 224, 3) := by decide +kernel
theorem dX6_who_68 : decode cX6_who 68 = .ok (.iload_n 2, 1) := by decide +kernel
theorem dX6_who_69 : decode cX6_who 69 = .ok (.ifCond .ne 17, 3) := by decide +kernel
theorem dX6_who_72 : decode cX6_who 72 = .ok (.aload_n 0, 1) := by decide +kernel
theorem dX6_who_73 : decode cX6_who 73 = .ok (.getfield 41, 3) := by decide +kernel
theorem dX6_who_76 : decode cX6_who 76 = .ok (.getfield 87, 3) := by decide +kernel
theorem dX6_who_79 : decode cX6_who 79 = .ok (.iload_n 1, 1) := by decide +kernel
theorem dX6_who_80 : decode cX6_who 80 = .ok (.iload 5, 2) := by decide +kernel
theorem dX6_who_82 : decode cX6_who 82 = .ok (.iastore, 1) := by decide +kernel
theorem dX6_who_83 : decode cX6_who 83 = .ok (.goto 14, 3) := by decide +kernel
theorem dX6_who_86 : decode cX6_who 86 = .ok (.aload_n 0, 1) := by decide +kernel
theorem dX6_who_87 : decode cX6_who 87 = .ok (.getfield 41, 3) := by decide +kernel
theorem dX6_who_90 : decode cX6_who 90 = .ok (.getfield 90, 3) := by decide +kernel
theorem dX6_who_93 : decode cX6_who 93 = .ok (.iload_n 1, 1) := by decide +kernel
theorem dX6_who_94 : decode cX6_who 94 = .ok (.iload 5, 2) := by decide +kernel
theorem dX6_who_96 : decode cX6_who 96 = .ok (.iastore, 1) := by decide +kernel
theorem dX6_who_97 : decode cX6_who 97 = .ok (.aload_n 0, 1) := by decide +kernel
theorem dX6_who_98 : decode cX6_who 98 = .ok (.aload_n 0, 1) := by decide +kernel
theorem dX6_who_99 : decode cX6_who 99 = .ok (.getfield 41, 3) := by decide +kernel
theorem dX6_who_102 : decode cX6_who 102 = .ok (.invokevirtual 228, 3) := by decide +kernel
theorem dX6_who_105 : decode cX6_who 105 = .ok (.bipush (-9), 2) := by decide +kernel
theorem dX6_who_107 : decode cX6_who 107 = .ok (.if_icmp .ne 10, 3) := by decide +kernel
theorem dX6_who_110 : decode cX6_who 110 = .ok (.iload_n 3, 1) := by decide +kernel
theorem dX6_who_111 : decode cX6_who 111 = .ok (.iconst 1, 1) := by decide +kernel
theorem dX6_who_112 : decode cX6_who 112 = .ok (.iload 5, 2) := by decide +kernel
theorem dX6_who_114 : decode cX6_who 114 = .ok (.ishl, 1) := by decide +kernel
theorem dX6_who_115 : decode cX6_who 115 = .ok (.ior, 1) := by decide +kernel
theorem dX6_who_116 : decode cX6_who 116 = .ok (.istore_n 3, 1) := by decide +kernel
theorem dX6_who_117 : decode cX6_who 117 = .ok (.iinc 5 1, 3) := by decide +kernel
theorem dX6_who_120 : decode cX6_who 120 = .ok (.goto (-70), 3) := by decide +kernel
theorem dX6_who_123 : decode cX6_who 123 = .ok (.iload_n 3, 1) := by decide +kernel
theorem dX6_who_124 : decode cX6_who 124 = .ok (.ireturn, 1) := by decide +kernel
theorem dX6_row_0 : decode cX6_row 0 = .ok (.iload_n 1, 1) := by decide +kernel
theorem dX6_row_1 : decode cX6_row 1 = .ok (.ifCond .ge 10, 3) := by decide +kernel
theorem dX6_row_4 : decode cX6_row 4 = .ok (.aload_n 0, 1) := by decide +kernel
theorem dX6_row_5 : decode cX6_row 5 = .ok (.bipush (-4), 2) := by decide +kernel
theorem dX6_row_7 : decode cX6_row 7 = .ok (.invokevirtual 65, 3) := by decide +kernel
theorem dX6_row_10 : decode cX6_row 10 = .ok (.ireturn, 1) := by decide +kernel
theorem dX6_row_11 : decode cX6_row 11 = .ok (.iload_n 1, 1) := by decide +kernel
theorem dX6_row_12 : decode cX6_row 12 = .ok (.bipush 99, 2) := by decide +kernel
theorem dX6_row_14 : decode cX6_row 14 = .ok (.if_icmp .gt 12, 3) := by decide +kernel
theorem dX6_row_17 : decode cX6_row 17 = .ok (.aload_n 0, 1) := by decide +kernel
theorem dX6_row_18 : decode cX6_row 18 = .ok (.getfield 34, 3) := by decide +kernel
theorem dX6_row_21 : decode cX6_row 21 = .ok (.bipush 12, 2) := by decide +kernel
theorem dX6_row_23 : decode cX6_row 23 = .ok (.if_icmp .lt 10, 3) := by decide +kernel
theorem dX6_row_26 : decode cX6_row 26 = .ok (.aload_n 0, 1) := by decide +kernel
theorem dX6_row_27 : decode cX6_row 27 = .ok (.bipush (-6), 2) := by decide +kernel
theorem dX6_row_29 : decode cX6_row 29 = .ok (.invokevirtual 65, 3) := by decide +kernel
theorem dX6_row_32 : decode cX6_row 32 = .ok (.ireturn, 1) := by decide +kernel
theorem dX6_row_33 : decode cX6_row 33 = .ok (.aload_n 0, 1) := by decide +kernel
theorem dX6_row_34 : decode cX6_row 34 = .ok (.getfield 30, 3) := by decide +kernel
theorem dX6_row_37 : decode cX6_row 37 = .ok (.aload_n 0, 1) := by decide +kernel
theorem dX6_row_38 : decode cX6_row 38 = .ok (.getfield 34, 3) := by decide +kernel
theorem dX6_row_41 : decode cX6_row 41 = .ok (.iload_n 1, 1) := by decide +kernel
theorem dX6_row_42 : decode cX6_row 42 = .ok (.iastore, 1) := by decide +kernel
theorem dX6_row_43 : decode cX6_row 43 = .ok (.aload_n 0, 1) := by decide +kernel
theorem dX6_row_44 : decode cX6_row 44 = .ok (.dup, 1) := by decide +kernel
theorem dX6_row_45 : decode cX6_row 45 = .ok (.getfield 34, 3) := by decide +kernel
theorem dX6_row_48 : decode cX6_row 48 = .ok (.iconst 1, 1) := by decide +kernel
theorem dX6_row_49 : decode cX6_row 49 = .ok (.iadd, 1) := by decide +kernel
theorem dX6_row_50 : decode cX6_row 50 = .ok (.putfield 34, 3) := by decide +kernel
theorem dX6_row_53 : decode cX6_row 53 = .ok (.aload_n 0, 1) := by decide +kernel
theorem dX6_row_54 : decode cX6_row 54 = .ok (.getfield 34, 3) := by decide +kernel
theorem dX6_row_57 : decode cX6_row 57 = .ok (.ireturn, 1) := by decide +kernel
theorem dX6_judge_0 : decode cX6_judge 0 = .ok (.aload_n 0, 1) := by decide +kernel
theorem dX6_judge_1 : decode cX6_judge 1 = .ok (.aload_n 0, 1) := by decide +kernel
theorem dX6_judge_2 : decode cX6_judge 2 = .ok (.getfield 10, 3) := by decide +kernel
theorem dX6_judge_5 : decode cX6_judge 5 = .ok (.invokevirtual 228, 3) := by decide +kernel
theorem dX6_judge_8 : decode cX6_judge 8 = .ok (.istore_n 1, 1) := by decide +kernel
theorem dX6_judge_9 : decode cX6_judge 9 = .ok (.aload_n 0, 1) := by decide +kernel
theorem dX6_judge_10 : decode cX6_judge 10 = .ok (.iconst 0, 1) := by decide +kernel
theorem dX6_judge_11 : decode cX6_judge 11 = .ok (.putfield 34, 3) := by decide +kernel
theorem dX6_judge_14 : decode cX6_judge 14 = .ok (.iload_n 1, 1) := by decide +kernel
theorem dX6_judge_15 : decode cX6_judge 15 = .ok (.ireturn, 1) := by decide +kernel
theorem dX6_clear_0 : decode cX6_clear 0 = .ok (.aload_n 0, 1) := by decide +kernel
theorem dX6_clear_1 : decode cX6_clear 1 = .ok (.getfield 34, 3) := by decide +kernel
theorem dX6_clear_4 : decode cX6_clear 4 = .ok (.istore_n 1, 1) := by decide +kernel
theorem dX6_clear_5 : decode cX6_clear 5 = .ok (.aload_n 0, 1) := by decide +kernel
theorem dX6_clear_6 : decode cX6_clear 6 = .ok (.iconst 0, 1) := by decide +kernel
theorem dX6_clear_7 : decode cX6_clear 7 = .ok (.putfield 34, 3) := by decide +kernel
theorem dX6_clear_10 : decode cX6_clear 10 = .ok (.iload_n 1, 1) := by decide +kernel
theorem dX6_clear_11 : decode cX6_clear 11 = .ok (.ireturn, 1) := by decide +kernel
theorem dX6_lots_0 : decode cX6_lots 0 = .ok (.iload_n 1, 1) := by decide +kernel
theorem dX6_lots_1 : decode cX6_lots 1 = .ok (.iconst 1, 1) := by decide +kernel
theorem dX6_lots_2 : decode cX6_lots 2 = .ok (.if_icmp .ge 10, 3) := by decide +kernel
theorem dX6_lots_5 : decode cX6_lots 5 = .ok (.aload_n 0, 1) := by decide +kernel
theorem dX6_lots_6 : decode cX6_lots 6 = .ok (.bipush (-4), 2) := by decide +kernel
theorem dX6_lots_8 : decode cX6_lots 8 = .ok (.invokevirtual 65, 3) := by decide +kernel
theorem dX6_lots_11 : decode cX6_lots 11 = .ok (.ireturn, 1) := by decide +kernel
theorem dX6_lots_12 : decode cX6_lots 12 = .ok (.iload_n 1, 1) := by decide +kernel
theorem dX6_lots_13 : decode cX6_lots 13 = .ok (.bipush 20, 2) := by decide +kernel
theorem dX6_lots_15 : decode cX6_lots 15 = .ok (.if_icmp .le 10, 3) := by decide +kernel
theorem dX6_lots_18 : decode cX6_lots 18 = .ok (.aload_n 0, 1) := by decide +kernel
theorem dX6_lots_19 : decode cX6_lots 19 = .ok (.bipush (-6), 2) := by decide +kernel
theorem dX6_lots_21 : decode cX6_lots 21 = .ok (.invokevirtual 65, 3) := by decide +kernel
theorem dX6_lots_24 : decode cX6_lots 24 = .ok (.ireturn, 1) := by decide +kernel
theorem dX6_lots_25 : decode cX6_lots 25 = .ok (.iload_n 3, 1) := by decide +kernel
theorem dX6_lots_26 : decode cX6_lots 26 = .ok (.ifCond .eq 15, 3) := by decide +kernel
theorem dX6_lots_29 : decode cX6_lots 29 = .ok (.iload_n 3, 1) := by decide +kernel
theorem dX6_lots_30 : decode cX6_lots 30 = .ok (.iconst 1, 1) := by decide +kernel
theorem dX6_lots_31 : decode cX6_lots 31 = .ok (.if_icmp .eq 10, 3) := by decide +kernel
theorem dX6_lots_34 : decode cX6_lots 34 = .ok (.aload_n 0, 1) := by decide +kernel
theorem dX6_lots_35 : decode cX6_lots 35 = .ok (.bipush (-2), 2) := by decide +kernel
theorem dX6_lots_37 : decode cX6_lots 37 = .ok (.invokevirtual 65, 3) := by decide +kernel
theorem dX6_lots_40 : decode cX6_lots 40 = .ok (.ireturn, 1) := by decide +kernel
theorem dX6_lots_41 : decode cX6_lots 41 = .ok (.aload_n 0, 1) := by decide +kernel
theorem dX6_lots_42 : decode cX6_lots 42 = .ok (.getfield 61, 3) := by decide +kernel
theorem dX6_lots_45 : decode cX6_lots 45 = .ok (.aload_n 0, 1) := by decide +kernel
theorem dX6_lots_46 : decode cX6_lots 46 = .ok (.getfield 10, 3) := by decide +kernel
theorem dX6_lots_49 : decode cX6_lots 49 = .ok (.iload_n 1, 1) := by decide +kernel
theorem dX6_lots_50 : decode cX6_lots 50 = .ok (.iload_n 2, 1) := by decide +kernel
theorem dX6_lots_51 : decode cX6_lots 51 = .ok (.iload_n 3, 1) := by decide +kernel
theorem dX6_lots_52 : decode cX6_lots 52 = .ok (.iconst 1, 1) := by decide +kernel
theorem dX6_lots_53 : decode cX6_lots 53 = .ok (.if_icmp .ne 7, 3) := by decide +kernel
theorem dX6_lots_56 : decode cX6_lots 56 = .ok (.iconst 1, 1) := by decide +kernel
theorem dX6_lots_57 : decode cX6_lots 57 = .ok (.goto 4, 3) := by decide +kernel
theorem dX6_lots_60 : decode cX6_lots 60 = .ok (.iconst 0, 1) := by decide +kernel
theorem dX6_lots_61 : decode cX6_lots 61 = .ok (.invokevirtual 231, 3) := by decide +kernel
theorem dX6_lots_64 : decode cX6_lots 64 = .ok (.ireturn, 1) := by decide +kernel
theorem dX6_image_0 : decode cX6_image 0 = .ok (.aload_n 0, 1) := by decide +kernel
theorem dX6_image_1 : decode cX6_image 1 = .ok (.getfield 16, 3) := by decide +kernel
theorem dX6_image_4 : decode cX6_image 4 = .ok (.aload_n 0, 1) := by decide +kernel
theorem dX6_image_5 : decode cX6_image 5 = .ok (.getfield 10, 3) := by decide +kernel
theorem dX6_image_8 : decode cX6_image 8 = .ok (.invokevirtual 224, 3) := by decide +kernel
theorem dX6_image_11 : decode cX6_image 11 = .ok (.aload_n 0, 1) := by decide +kernel
theorem dX6_image_12 : decode cX6_image 12 = .ok (.iconst 1, 1) := by decide +kernel
theorem dX6_image_13 : decode cX6_image 13 = .ok (.putfield 19, 3) := by decide +kernel
theorem dX6_image_16 : decode cX6_image 16 = .ok (.aload_n 0, 1) := by decide +kernel
theorem dX6_image_17 : decode cX6_image 17 = .ok (.getfield 10, 3) := by decide +kernel
theorem dX6_image_20 : decode cX6_image 20 = .ok (.getfield 158, 3) := by decide +kernel
theorem dX6_image_23 : decode cX6_image 23 = .ok (.ireturn, 1) := by decide +kernel
theorem dX6_on_0 : decode cX6_on 0 = .ok (.aload_n 0, 1) := by decide +kernel
theorem dX6_on_1 : decode cX6_on 1 = .ok (.getfield 19, 3) := by decide +kernel
theorem dX6_on_4 : decode cX6_on 4 = .ok (.ifCond .ne 10, 3) := by decide +kernel
theorem dX6_on_7 : decode cX6_on 7 = .ok (.aload_n 0, 1) := by decide +kernel
theorem dX6_on_8 : decode cX6_on 8 = .ok (.bipush (-3), 2) := by decide +kernel
theorem dX6_on_10 : decode cX6_on 10 = .ok (.invokevirtual 65, 3) := by decide +kernel
theorem dX6_on_13 : decode cX6_on 13 = .ok (.ireturn, 1) := by decide +kernel
theorem dX6_on_14 : decode cX6_on 14 = .ok (.aload_n 0, 1) := by decide +kernel
theorem dX6_on_15 : decode cX6_on 15 = .ok (.getfield 10, 3) := by decide +kernel
theorem dX6_on_18 : decode cX6_on 18 = .ok (.aload_n 0, 1) := by decide +kernel
theorem dX6_on_19 : decode cX6_on 19 = .ok (.getfield 16, 3) := by decide +kernel
theorem dX6_on_22 : decode cX6_on 22 = .ok (.invokevirtual 224, 3) := by decide +kernel
theorem dX6_on_25 : decode cX6_on 25 = .ok (.aload_n 0, 1) := by decide +kernel
theorem dX6_on_26 : decode cX6_on 26 = .ok (.getfield 10, 3) := by decide +kernel
theorem dX6_on_29 : decode cX6_on 29 = .ok (.getfield 158, 3) := by decide +kernel
theorem dX6_on_32 : decode cX6_on 32 = .ok (.ireturn, 1) := by decide +kernel
theorem dX6_count_0 : decode cX6_count 0 = .ok (.iload_n 1, 1) := by decide +kernel
theorem dX6_count_1 : decode cX6_count 1 = .ok (.tableswitch 122 0 8 #[51, 59, 68, 77, 85, 93, 101, 109, 114], 51) := by decide +kernel
theorem dX6_count_52 : decode cX6_count 52 = .ok (.aload_n 0, 1) := by decide +kernel
theorem dX6_count_53 : decode cX6_count 53 = .ok (.getfield 10, 3) := by decide +kernel
theorem dX6_count_56 : decode cX6_count 56 = .ok (.getfield 158, 3) := by decide +kernel
theorem dX6_count_59 : decode cX6_count 59 = .ok (.ireturn, 1) := by decide +kernel
theorem dX6_count_60 : decode cX6_count 60 = .ok (.aload_n 0, 1) := by decide +kernel
theorem dX6_count_61 : decode cX6_count 61 = .ok (.getfield 10, 3) := by decide +kernel
theorem dX6_count_64 : decode cX6_count 64 = .ok (.iconst 0, 1) := by decide +kernel
theorem dX6_count_65 : decode cX6_count 65 = .ok (.invokevirtual 161, 3) := by decide +kernel
theorem dX6_count_68 : decode cX6_count 68 = .ok (.ireturn, 1) := by decide +kernel
theorem dX6_count_69 : decode cX6_count 69 = .ok (.aload_n 0, 1) := by decide +kernel
theorem dX6_count_70 : decode cX6_count 70 = .ok (.getfield 10, 3) := by decide +kernel
theorem dX6_count_73 : decode cX6_count 73 = .ok (.iconst 1, 1) := by decide +kernel
theorem dX6_count_74 : decode cX6_count 74 = .ok (.invokevirtual 161, 3) := by decide +kernel
theorem dX6_count_77 : decode cX6_count 77 = .ok (.ireturn, 1) := by decide +kernel
theorem dX6_count_78 : decode cX6_count 78 = .ok (.aload_n 0, 1) := by decide +kernel
theorem dX6_count_79 : decode cX6_count 79 = .ok (.getfield 10, 3) := by decide +kernel
theorem dX6_count_82 : decode cX6_count 82 = .ok (.getfield 116, 3) := by decide +kernel
theorem dX6_count_85 : decode cX6_count 85 = .ok (.ireturn, 1) := by decide +kernel
theorem dX6_count_86 : decode cX6_count 86 = .ok (.aload_n 0, 1) := by decide +kernel
theorem dX6_count_87 : decode cX6_count 87 = .ok (.getfield 10, 3) := by decide +kernel
theorem dX6_count_90 : decode cX6_count 90 = .ok (.getfield 119, 3) := by decide +kernel
theorem dX6_count_93 : decode cX6_count 93 = .ok (.ireturn, 1) := by decide +kernel
theorem dX6_count_94 : decode cX6_count 94 = .ok (.aload_n 0, 1) := by decide +kernel
theorem dX6_count_95 : decode cX6_count 95 = .ok (.getfield 10, 3) := by decide +kernel
theorem dX6_count_98 : decode cX6_count 98 = .ok (.invokevirtual 235, 3) := by decide +kernel
theorem dX6_count_101 : decode cX6_count 101 = .ok (.ireturn, 1) := by decide +kernel
theorem dX6_count_102 : decode cX6_count 102 = .ok (.aload_n 0, 1) := by decide +kernel
theorem dX6_count_103 : decode cX6_count 103 = .ok (.getfield 10, 3) := by decide +kernel
theorem dX6_count_106 : decode cX6_count 106 = .ok (.invokevirtual 238, 3) := by decide +kernel
theorem dX6_count_109 : decode cX6_count 109 = .ok (.ireturn, 1) := by decide +kernel
theorem dX6_count_110 : decode cX6_count 110 = .ok (.aload_n 0, 1) := by decide +kernel
theorem dX6_count_111 : decode cX6_count 111 = .ok (.getfield 34, 3) := by decide +kernel
theorem dX6_count_114 : decode cX6_count 114 = .ok (.ireturn, 1) := by decide +kernel
theorem dX6_count_115 : decode cX6_count 115 = .ok (.aload_n 0, 1) := by decide +kernel
theorem dX6_count_116 : decode cX6_count 116 = .ok (.getfield 26, 3) := by decide +kernel
theorem dX6_count_119 : decode cX6_count 119 = .ok (.getfield 241, 3) := by decide +kernel
theorem dX6_count_122 : decode cX6_count 122 = .ok (.ireturn, 1) := by decide +kernel
theorem dX6_count_123 : decode cX6_count 123 = .ok (.iload_n 1, 1) := by decide +kernel
theorem dX6_count_124 : decode cX6_count 124 = .ok (.bipush 10, 2) := by decide +kernel
theorem dX6_count_126 : decode cX6_count 126 = .ok (.if_icmp .le 21, 3) := by decide +kernel
theorem dX6_count_129 : decode cX6_count 129 = .ok (.iload_n 1, 1) := by decide +kernel
theorem dX6_count_130 : decode cX6_count 130 = .ok (.bipush 16, 2) := by decide +kernel
theorem dX6_count_132 : decode cX6_count 132 = .ok (.if_icmp .gt 15, 3) := by decide +kernel
theorem dX6_count_135 : decode cX6_count 135 = .ok (.aload_n 0, 1) := by decide +kernel
theorem dX6_count_136 : decode cX6_count 136 = .ok (.getfield 38, 3) := by decide +kernel
theorem dX6_count_139 : decode cX6_count 139 = .ok (.iload_n 1, 1) := by decide +kernel
theorem dX6_count_140 : decode cX6_count 140 = .ok (.bipush 10, 2) := by decide +kernel
theorem dX6_count_142 : decode cX6_count 142 = .ok (.isub, 1) := by decide +kernel
theorem dX6_count_143 : decode cX6_count 143 = .ok (.iaload, 1) := by decide +kernel
theorem dX6_count_144 : decode cX6_count 144 = .ok (.goto 5, 3) := by decide +kernel
theorem dX6_count_147 : decode cX6_count 147 = .ok (.bipush (-9), 2) := by decide +kernel
theorem dX6_count_149 : decode cX6_count 149 = .ok (.ireturn, 1) := by decide +kernel
theorem dX6_refuse_0 : decode cX6_refuse 0 = .ok (.iload_n 1, 1) := by decide +kernel
theorem dX6_refuse_1 : decode cX6_refuse 1 = .ok (.ifCond .ge 20, 3) := by decide +kernel
theorem dX6_refuse_4 : decode cX6_refuse 4 = .ok (.iload_n 1, 1) := by decide +kernel
theorem dX6_refuse_5 : decode cX6_refuse 5 = .ok (.bipush (-6), 2) := by decide +kernel
theorem dX6_refuse_7 : decode cX6_refuse 7 = .ok (.if_icmp .lt 14, 3) := by decide +kernel
theorem dX6_refuse_10 : decode cX6_refuse 10 = .ok (.aload_n 0, 1) := by decide +kernel
theorem dX6_refuse_11 : decode cX6_refuse 11 = .ok (.getfield 38, 3) := by decide +kernel
theorem dX6_refuse_14 : decode cX6_refuse 14 = .ok (.iload_n 1, 1) := by decide +kernel
theorem dX6_refuse_15 : decode cX6_refuse 15 = .ok (.ineg, 1) := by decide +kernel
theorem dX6_refuse_16 : decode cX6_refuse 16 = .ok (.dup2, 1) := by decide +kernel
theorem dX6_refuse_17 : decode cX6_refuse 17 = .ok (.iaload, 1) := by decide +kernel
theorem dX6_refuse_18 : decode cX6_refuse 18 = .ok (.iconst 1, 1) := by decide +kernel
theorem dX6_refuse_19 : decode cX6_refuse 19 = .ok (.iadd, 1) := by decide +kernel
theorem dX6_refuse_20 : decode cX6_refuse 20 = .ok (.iastore, 1) := by decide +kernel
theorem dX6_refuse_21 : decode cX6_refuse 21 = .ok (.iload_n 1, 1) := by decide +kernel
theorem dX6_refuse_22 : decode cX6_refuse 22 = .ok (.ireturn, 1) := by decide +kernel
theorem dX6_bitsOrHowMany_0 : decode cX6_bitsOrHowMany 0 = .ok (.iload_n 0, 1) := by decide +kernel
theorem dX6_bitsOrHowMany_1 : decode cX6_bitsOrHowMany 1 = .ok (.bipush (-9), 2) := by decide +kernel
theorem dX6_bitsOrHowMany_3 : decode cX6_bitsOrHowMany 3 = .ok (.if_icmp .eq 7, 3) := by decide +kernel
theorem dX6_bitsOrHowMany_6 : decode cX6_bitsOrHowMany 6 = .ok (.iload_n 1, 1) := by decide +kernel
theorem dX6_bitsOrHowMany_7 : decode cX6_bitsOrHowMany 7 = .ok (.ifCond .ne 7, 3) := by decide +kernel
theorem dX6_bitsOrHowMany_10 : decode cX6_bitsOrHowMany 10 = .ok (.iload_n 0, 1) := by decide +kernel
theorem dX6_bitsOrHowMany_11 : decode cX6_bitsOrHowMany 11 = .ok (.goto 7, 3) := by decide +kernel
theorem dX6_bitsOrHowMany_14 : decode cX6_bitsOrHowMany 14 = .ok (.iload_n 0, 1) := by decide +kernel
theorem dX6_bitsOrHowMany_15 : decode cX6_bitsOrHowMany 15 = .ok (.invokestatic 244, 3) := by decide +kernel
theorem dX6_bitsOrHowMany_18 : decode cX6_bitsOrHowMany 18 = .ok (.ireturn, 1) := by decide +kernel
theorem dX6_firstNotSo_0 : decode cX6_firstNotSo 0 = .ok (.aload_n 0, 1) := by decide +kernel
theorem dX6_firstNotSo_1 : decode cX6_firstNotSo 1 = .ok (.getfield 47, 3) := by decide +kernel
theorem dX6_firstNotSo_4 : decode cX6_firstNotSo 4 = .ok (.aload_n 1, 1) := by decide +kernel
theorem dX6_firstNotSo_5 : decode cX6_firstNotSo 5 = .ok (.iconst 0, 1) := by decide +kernel
theorem dX6_firstNotSo_6 : decode cX6_firstNotSo 6 = .ok (.invokevirtual 128, 3) := by decide +kernel
theorem dX6_firstNotSo_9 : decode cX6_firstNotSo 9 = .ok (.iconst 0, 1) := by decide +kernel
theorem dX6_firstNotSo_10 : decode cX6_firstNotSo 10 = .ok (.istore_n 2, 1) := by decide +kernel
theorem dX6_firstNotSo_11 : decode cX6_firstNotSo 11 = .ok (.iload_n 2, 1) := by decide +kernel
theorem dX6_firstNotSo_12 : decode cX6_firstNotSo 12 = .ok (.aload_n 0, 1) := by decide +kernel
theorem dX6_firstNotSo_13 : decode cX6_firstNotSo 13 = .ok (.getfield 34, 3) := by decide +kernel
theorem dX6_firstNotSo_16 : decode cX6_firstNotSo 16 = .ok (.if_icmp .ge 40, 3) := by decide +kernel
theorem dX6_firstNotSo_19 : decode cX6_firstNotSo 19 = .ok (.iload_n 2, 1) := by decide +kernel
theorem dX6_firstNotSo_20 : decode cX6_firstNotSo 20 = .ok (.aload_n 0, 1) := by decide +kernel
theorem dX6_firstNotSo_21 : decode cX6_firstNotSo 21 = .ok (.getfield 47, 3) := by decide +kernel
theorem dX6_firstNotSo_24 : decode cX6_firstNotSo 24 = .ok (.getfield 212, 3) := by decide +kernel
theorem dX6_firstNotSo_27 : decode cX6_firstNotSo 27 = .ok (.if_icmp .ge 21, 3) := by decide +kernel
theorem dX6_firstNotSo_30 : decode cX6_firstNotSo 30 = .ok (.aload_n 0, 1) := by decide +kernel
theorem dX6_firstNotSo_31 : decode cX6_firstNotSo 31 = .ok (.getfield 47, 3) := by decide +kernel
theorem dX6_firstNotSo_34 : decode cX6_firstNotSo 34 = .ok (.getfield 132, 3) := by decide +kernel
theorem dX6_firstNotSo_37 : decode cX6_firstNotSo 37 = .ok (.iload_n 2, 1) := by decide +kernel
theorem dX6_firstNotSo_38 : decode cX6_firstNotSo 38 = .ok (.iaload, 1) := by decide +kernel
theorem dX6_firstNotSo_39 : decode cX6_firstNotSo 39 = .ok (.aload_n 0, 1) := by decide +kernel
theorem dX6_firstNotSo_40 : decode cX6_firstNotSo 40 = .ok (.getfield 30, 3) := by decide +kernel
theorem dX6_firstNotSo_43 : decode cX6_firstNotSo 43 = .ok (.iload_n 2, 1) := by decide +kernel
theorem dX6_firstNotSo_44 : decode cX6_firstNotSo 44 = .ok (.iaload, 1) := by decide +kernel
theorem dX6_firstNotSo_45 : decode cX6_firstNotSo 45 = .ok (.if_icmp .eq 5, 3) := by decide +kernel
theorem dX6_firstNotSo_48 : decode cX6_firstNotSo 48 = .ok (.iload_n 2, 1) := by decide +kernel
theorem dX6_firstNotSo_49 : decode cX6_firstNotSo 49 = .ok (.ireturn, 1) := by decide +kernel
theorem dX6_firstNotSo_50 : decode cX6_firstNotSo 50 = .ok (.iinc 2 1, 3) := by decide +kernel
theorem dX6_firstNotSo_53 : decode cX6_firstNotSo 53 = .ok (.goto (-42), 3) := by decide +kernel
theorem dX6_firstNotSo_56 : decode cX6_firstNotSo 56 = .ok (.bipush (-9), 2) := by decide +kernel
theorem dX6_firstNotSo_58 : decode cX6_firstNotSo 58 = .ok (.ireturn, 1) := by decide +kernel
theorem dJ11_isValidCodePoint_9a6ad_0 : decode cJ11_isValidCodePoint_9a6ad 0 = .ok (.iload_n 0, 1) := by decide +kernel
theorem dJ11_isValidCodePoint_9a6ad_1 : decode cJ11_isValidCodePoint_9a6ad 1 = .ok (.bipush 16, 2) := by decide +kernel
theorem dJ11_isValidCodePoint_9a6ad_3 : decode cJ11_isValidCodePoint_9a6ad 3 = .ok (.iushr, 1) := by decide +kernel
theorem dJ11_isValidCodePoint_9a6ad_4 : decode cJ11_isValidCodePoint_9a6ad 4 = .ok (.istore_n 1, 1) := by decide +kernel
theorem dJ11_isValidCodePoint_9a6ad_5 : decode cJ11_isValidCodePoint_9a6ad 5 = .ok (.iload_n 1, 1) := by decide +kernel
theorem dJ11_isValidCodePoint_9a6ad_6 : decode cJ11_isValidCodePoint_9a6ad 6 = .ok (.bipush 17, 2) := by decide +kernel
theorem dJ11_isValidCodePoint_9a6ad_8 : decode cJ11_isValidCodePoint_9a6ad 8 = .ok (.if_icmp .ge 7, 3) := by decide +kernel
theorem dJ11_isValidCodePoint_9a6ad_11 : decode cJ11_isValidCodePoint_9a6ad 11 = .ok (.iconst 1, 1) := by decide +kernel
theorem dJ11_isValidCodePoint_9a6ad_12 : decode cJ11_isValidCodePoint_9a6ad 12 = .ok (.goto 4, 3) := by decide +kernel
theorem dJ11_isValidCodePoint_9a6ad_15 : decode cJ11_isValidCodePoint_9a6ad 15 = .ok (.iconst 0, 1) := by decide +kernel
theorem dJ11_isValidCodePoint_9a6ad_16 : decode cJ11_isValidCodePoint_9a6ad 16 = .ok (.ireturn, 1) := by decide +kernel
theorem dJ11_highSurrogate_5068e_0 : decode cJ11_highSurrogate_5068e 0 = .ok (.iload_n 0, 1) := by decide +kernel
theorem dJ11_highSurrogate_5068e_1 : decode cJ11_highSurrogate_5068e 1 = .ok (.bipush 10, 2) := by decide +kernel
theorem dJ11_highSurrogate_5068e_3 : decode cJ11_highSurrogate_5068e 3 = .ok (.iushr, 1) := by decide +kernel
theorem dJ11_highSurrogate_5068e_4 : decode cJ11_highSurrogate_5068e 4 = .ok (.ldc 110, 2) := by decide +kernel
theorem dJ11_highSurrogate_5068e_6 : decode cJ11_highSurrogate_5068e 6 = .ok (.iadd, 1) := by decide +kernel
theorem dJ11_highSurrogate_5068e_7 : decode cJ11_highSurrogate_5068e 7 = .ok (.i2c, 1) := by decide +kernel
theorem dJ11_highSurrogate_5068e_8 : decode cJ11_highSurrogate_5068e 8 = .ok (.ireturn, 1) := by decide +kernel
theorem dJ11_lowSurrogate_5068e_0 : decode cJ11_lowSurrogate_5068e 0 = .ok (.iload_n 0, 1) := by decide +kernel
theorem dJ11_lowSurrogate_5068e_1 : decode cJ11_lowSurrogate_5068e 1 = .ok (.sipush 1023, 3) := by decide +kernel
theorem dJ11_lowSurrogate_5068e_4 : decode cJ11_lowSurrogate_5068e 4 = .ok (.iand, 1) := by decide +kernel
theorem dJ11_lowSurrogate_5068e_5 : decode cJ11_lowSurrogate_5068e 5 = .ok (.ldc 76, 2) := by decide +kernel
theorem dJ11_lowSurrogate_5068e_7 : decode cJ11_lowSurrogate_5068e 7 = .ok (.iadd, 1) := by decide +kernel
theorem dJ11_lowSurrogate_5068e_8 : decode cJ11_lowSurrogate_5068e 8 = .ok (.i2c, 1) := by decide +kernel
theorem dJ11_lowSurrogate_5068e_9 : decode cJ11_lowSurrogate_5068e 9 = .ok (.ireturn, 1) := by decide +kernel
theorem dJ6_bitCount_0f7a4_0 : decode cJ6_bitCount_0f7a4 0 = .ok (.iload_n 0, 1) := by decide +kernel
theorem dJ6_bitCount_0f7a4_1 : decode cJ6_bitCount_0f7a4 1 = .ok (.iload_n 0, 1) := by decide +kernel
theorem dJ6_bitCount_0f7a4_2 : decode cJ6_bitCount_0f7a4 2 = .ok (.iconst 1, 1) := by decide +kernel
theorem dJ6_bitCount_0f7a4_3 : decode cJ6_bitCount_0f7a4 3 = .ok (.iushr, 1) := by decide +kernel
theorem dJ6_bitCount_0f7a4_4 : decode cJ6_bitCount_0f7a4 4 = .ok (.ldc_w 265, 3) := by decide +kernel
theorem dJ6_bitCount_0f7a4_7 : decode cJ6_bitCount_0f7a4 7 = .ok (.iand, 1) := by decide +kernel
theorem dJ6_bitCount_0f7a4_8 : decode cJ6_bitCount_0f7a4 8 = .ok (.isub, 1) := by decide +kernel
theorem dJ6_bitCount_0f7a4_9 : decode cJ6_bitCount_0f7a4 9 = .ok (.istore_n 0, 1) := by decide +kernel
theorem dJ6_bitCount_0f7a4_10 : decode cJ6_bitCount_0f7a4 10 = .ok (.iload_n 0, 1) := by decide +kernel
theorem dJ6_bitCount_0f7a4_11 : decode cJ6_bitCount_0f7a4 11 = .ok (.ldc_w 266, 3) := by decide +kernel
theorem dJ6_bitCount_0f7a4_14 : decode cJ6_bitCount_0f7a4 14 = .ok (.iand, 1) := by decide +kernel
theorem dJ6_bitCount_0f7a4_15 : decode cJ6_bitCount_0f7a4 15 = .ok (.iload_n 0, 1) := by decide +kernel
theorem dJ6_bitCount_0f7a4_16 : decode cJ6_bitCount_0f7a4 16 = .ok (.iconst 2, 1) := by decide +kernel
theorem dJ6_bitCount_0f7a4_17 : decode cJ6_bitCount_0f7a4 17 = .ok (.iushr, 1) := by decide +kernel
theorem dJ6_bitCount_0f7a4_18 : decode cJ6_bitCount_0f7a4 18 = .ok (.ldc_w 266, 3) := by decide +kernel
theorem dJ6_bitCount_0f7a4_21 : decode cJ6_bitCount_0f7a4 21 = .ok (.iand, 1) := by decide +kernel
theorem dJ6_bitCount_0f7a4_22 : decode cJ6_bitCount_0f7a4 22 = .ok (.iadd, 1) := by decide +kernel
theorem dJ6_bitCount_0f7a4_23 : decode cJ6_bitCount_0f7a4 23 = .ok (.istore_n 0, 1) := by decide +kernel
theorem dJ6_bitCount_0f7a4_24 : decode cJ6_bitCount_0f7a4 24 = .ok (.iload_n 0, 1) := by decide +kernel
theorem dJ6_bitCount_0f7a4_25 : decode cJ6_bitCount_0f7a4 25 = .ok (.iload_n 0, 1) := by decide +kernel
theorem dJ6_bitCount_0f7a4_26 : decode cJ6_bitCount_0f7a4 26 = .ok (.iconst 4, 1) := by decide +kernel
theorem dJ6_bitCount_0f7a4_27 : decode cJ6_bitCount_0f7a4 27 = .ok (.iushr, 1) := by decide +kernel
theorem dJ6_bitCount_0f7a4_28 : decode cJ6_bitCount_0f7a4 28 = .ok (.iadd, 1) := by decide +kernel
theorem dJ6_bitCount_0f7a4_29 : decode cJ6_bitCount_0f7a4 29 = .ok (.ldc_w 267, 3) := by decide +kernel
theorem dJ6_bitCount_0f7a4_32 : decode cJ6_bitCount_0f7a4 32 = .ok (.iand, 1) := by decide +kernel
theorem dJ6_bitCount_0f7a4_33 : decode cJ6_bitCount_0f7a4 33 = .ok (.istore_n 0, 1) := by decide +kernel
theorem dJ6_bitCount_0f7a4_34 : decode cJ6_bitCount_0f7a4 34 = .ok (.iload_n 0, 1) := by decide +kernel
theorem dJ6_bitCount_0f7a4_35 : decode cJ6_bitCount_0f7a4 35 = .ok (.iload_n 0, 1) := by decide +kernel
theorem dJ6_bitCount_0f7a4_36 : decode cJ6_bitCount_0f7a4 36 = .ok (.bipush 8, 2) := by decide +kernel
theorem dJ6_bitCount_0f7a4_38 : decode cJ6_bitCount_0f7a4 38 = .ok (.iushr, 1) := by decide +kernel
theorem dJ6_bitCount_0f7a4_39 : decode cJ6_bitCount_0f7a4 39 = .ok (.iadd, 1) := by decide +kernel
theorem dJ6_bitCount_0f7a4_40 : decode cJ6_bitCount_0f7a4 40 = .ok (.istore_n 0, 1) := by decide +kernel
theorem dJ6_bitCount_0f7a4_41 : decode cJ6_bitCount_0f7a4 41 = .ok (.iload_n 0, 1) := by decide +kernel
theorem dJ6_bitCount_0f7a4_42 : decode cJ6_bitCount_0f7a4 42 = .ok (.iload_n 0, 1) := by decide +kernel
theorem dJ6_bitCount_0f7a4_43 : decode cJ6_bitCount_0f7a4 43 = .ok (.bipush 16, 2) := by decide +kernel
theorem dJ6_bitCount_0f7a4_45 : decode cJ6_bitCount_0f7a4 45 = .ok (.iushr, 1) := by decide +kernel
theorem dJ6_bitCount_0f7a4_46 : decode cJ6_bitCount_0f7a4 46 = .ok (.iadd, 1) := by decide +kernel
theorem dJ6_bitCount_0f7a4_47 : decode cJ6_bitCount_0f7a4 47 = .ok (.istore_n 0, 1) := by decide +kernel
theorem dJ6_bitCount_0f7a4_48 : decode cJ6_bitCount_0f7a4 48 = .ok (.iload_n 0, 1) := by decide +kernel
theorem dJ6_bitCount_0f7a4_49 : decode cJ6_bitCount_0f7a4 49 = .ok (.bipush 63, 2) := by decide +kernel
theorem dJ6_bitCount_0f7a4_51 : decode cJ6_bitCount_0f7a4 51 = .ok (.iand, 1) := by decide +kernel
theorem dJ6_bitCount_0f7a4_52 : decode cJ6_bitCount_0f7a4 52 = .ok (.ireturn, 1) := by decide +kernel
theorem dJ9_max_7cf53_0 : decode cJ9_max_7cf53 0 = .ok (.iload_n 0, 1) := by decide +kernel
theorem dJ9_max_7cf53_1 : decode cJ9_max_7cf53 1 = .ok (.iload_n 1, 1) := by decide +kernel
theorem dJ9_max_7cf53_2 : decode cJ9_max_7cf53 2 = .ok (.if_icmp .lt 7, 3) := by decide +kernel
theorem dJ9_max_7cf53_5 : decode cJ9_max_7cf53 5 = .ok (.iload_n 0, 1) := by decide +kernel
theorem dJ9_max_7cf53_6 : decode cJ9_max_7cf53 6 = .ok (.goto 4, 3) := by decide +kernel
theorem dJ9_max_7cf53_9 : decode cJ9_max_7cf53 9 = .ok (.iload_n 1, 1) := by decide +kernel
theorem dJ9_max_7cf53_10 : decode cJ9_max_7cf53 10 = .ok (.ireturn, 1) := by decide +kernel
theorem dJ9_min_7cf53_0 : decode cJ9_min_7cf53 0 = .ok (.iload_n 0, 1) := by decide +kernel
theorem dJ9_min_7cf53_1 : decode cJ9_min_7cf53 1 = .ok (.iload_n 1, 1) := by decide +kernel
theorem dJ9_min_7cf53_2 : decode cJ9_min_7cf53 2 = .ok (.if_icmp .gt 7, 3) := by decide +kernel
theorem dJ9_min_7cf53_5 : decode cJ9_min_7cf53 5 = .ok (.iload_n 0, 1) := by decide +kernel
theorem dJ9_min_7cf53_6 : decode cJ9_min_7cf53 6 = .ok (.goto 4, 3) := by decide +kernel
theorem dJ9_min_7cf53_9 : decode cJ9_min_7cf53 9 = .ok (.iload_n 1, 1) := by decide +kernel
theorem dJ9_min_7cf53_10 : decode cJ9_min_7cf53 10 = .ok (.ireturn, 1) := by decide +kernel
theorem dJ0_length_8abf5_0 : decode cJ0_length_8abf5 0 = .ok (.aload_n 0, 1) := by decide +kernel
theorem dJ0_length_8abf5_1 : decode cJ0_length_8abf5 1 = .ok (.getfield 9, 3) := by decide +kernel
theorem dJ0_length_8abf5_4 : decode cJ0_length_8abf5 4 = .ok (.arraylength, 1) := by decide +kernel
theorem dJ0_length_8abf5_5 : decode cJ0_length_8abf5 5 = .ok (.aload_n 0, 1) := by decide +kernel
theorem dJ0_length_8abf5_6 : decode cJ0_length_8abf5 6 = .ok (.invokevirtual 335, 3) := by decide +kernel
theorem dJ0_length_8abf5_9 : decode cJ0_length_8abf5 9 = .ok (.ishr, 1) := by decide +kernel
theorem dJ0_length_8abf5_10 : decode cJ0_length_8abf5 10 = .ok (.ireturn, 1) := by decide +kernel
theorem dJ0_indexOf_0f7a4_0 : decode cJ0_indexOf_0f7a4 0 = .ok (.aload_n 0, 1) := by decide +kernel
theorem dJ0_indexOf_0f7a4_1 : decode cJ0_indexOf_0f7a4 1 = .ok (.iload_n 1, 1) := by decide +kernel
theorem dJ0_indexOf_0f7a4_2 : decode cJ0_indexOf_0f7a4 2 = .ok (.iconst 0, 1) := by decide +kernel
theorem dJ0_indexOf_0f7a4_3 : decode cJ0_indexOf_0f7a4 3 = .ok (.invokevirtual 633, 3) := by decide +kernel
theorem dJ0_indexOf_0f7a4_6 : decode cJ0_indexOf_0f7a4 6 = .ok (.ireturn, 1) := by decide +kernel
theorem dJ0_indexOf_7cf53_0 : decode cJ0_indexOf_7cf53 0 = .ok (.aload_n 0, 1) := by decide +kernel
theorem dJ0_indexOf_7cf53_1 : decode cJ0_indexOf_7cf53 1 = .ok (.invokevirtual 492, 3) := by decide +kernel
theorem dJ0_indexOf_7cf53_4 : decode cJ0_indexOf_7cf53 4 = .ok (.ifCond .eq 19, 3) := by decide +kernel
theorem dJ0_indexOf_7cf53_7 : decode cJ0_indexOf_7cf53 7 = .ok (.aload_n 0, 1) := by decide +kernel
theorem dJ0_indexOf_7cf53_8 : decode cJ0_indexOf_7cf53 8 = .ok (.getfield 9, 3) := by decide +kernel
theorem dJ0_indexOf_7cf53_11 : decode cJ0_indexOf_7cf53 11 = .ok (.iload_n 1, 1) := by decide +kernel
theorem dJ0_indexOf_7cf53_12 : decode cJ0_indexOf_7cf53 12 = .ok (.iload_n 2, 1) := by decide +kernel
theorem dJ0_indexOf_7cf53_13 : decode cJ0_indexOf_7cf53 13 = .ok (.aload_n 0, 1) := by decide +kernel
theorem dJ0_indexOf_7cf53_14 : decode cJ0_indexOf_7cf53 14 = .ok (.invokevirtual 505, 3) := by decide +kernel
theorem dJ0_indexOf_7cf53_17 : decode cJ0_indexOf_7cf53 17 = .ok (.invokestatic 637, 3) := by decide +kernel
theorem dJ0_indexOf_7cf53_20 : decode cJ0_indexOf_7cf53 20 = .ok (.goto 16, 3) := by decide +kernel
theorem dJ0_indexOf_7cf53_23 : decode cJ0_indexOf_7cf53 23 = .ok (.aload_n 0, 1) := by decide +kernel
theorem dJ0_indexOf_7cf53_24 : decode cJ0_indexOf_7cf53 24 = .ok (.getfield 9, 3) := by decide +kernel
theorem dJ0_indexOf_7cf53_27 : decode cJ0_indexOf_7cf53 27 = .ok (.iload_n 1, 1) := by decide +kernel
theorem dJ0_indexOf_7cf53_28 : decode cJ0_indexOf_7cf53 28 = .ok (.iload_n 2, 1) := by decide +kernel
theorem dJ0_indexOf_7cf53_29 : decode cJ0_indexOf_7cf53 29 = .ok (.aload_n 0, 1) := by decide +kernel
theorem dJ0_indexOf_7cf53_30 : decode cJ0_indexOf_7cf53 30 = .ok (.invokevirtual 505, 3) := by decide +kernel
theorem dJ0_indexOf_7cf53_33 : decode cJ0_indexOf_7cf53 33 = .ok (.invokestatic 640, 3) := by decide +kernel
theorem dJ0_indexOf_7cf53_36 : decode cJ0_indexOf_7cf53 36 = .ok (.ireturn, 1) := by decide +kernel
theorem dJ0_coder_7d493_0 : decode cJ0_coder_7d493 0 = .ok (.getstatic 38, 3) := by decide +kernel
theorem dJ0_coder_7d493_3 : decode cJ0_coder_7d493 3 = .ok (.ifCond .eq 10, 3) := by decide +kernel
theorem dJ0_coder_7d493_6 : decode cJ0_coder_7d493 6 = .ok (.aload_n 0, 1) := by decide +kernel
theorem dJ0_coder_7d493_7 : decode cJ0_coder_7d493 7 = .ok (.getfield 15, 3) := by decide +kernel
theorem dJ0_coder_7d493_10 : decode cJ0_coder_7d493 10 = .ok (.goto 4, 3) := by decide +kernel
theorem dJ0_coder_7d493_13 : decode cJ0_coder_7d493 13 = .ok (.iconst 1, 1) := by decide +kernel
theorem dJ0_coder_7d493_14 : decode cJ0_coder_7d493 14 = .ok (.ireturn, 1) := by decide +kernel
theorem dJ0_isLatin1_aae02_0 : decode cJ0_isLatin1_aae02 0 = .ok (.getstatic 38, 3) := by decide +kernel
theorem dJ0_isLatin1_aae02_3 : decode cJ0_isLatin1_aae02 3 = .ok (.ifCond .eq 14, 3) := by decide +kernel
theorem dJ0_isLatin1_aae02_6 : decode cJ0_isLatin1_aae02 6 = .ok (.aload_n 0, 1) := by decide +kernel
theorem dJ0_isLatin1_aae02_7 : decode cJ0_isLatin1_aae02 7 = .ok (.getfield 15, 3) := by decide +kernel
theorem dJ0_isLatin1_aae02_10 : decode cJ0_isLatin1_aae02 10 = .ok (.ifCond .ne 7, 3) := by decide +kernel
theorem dJ0_isLatin1_aae02_13 : decode cJ0_isLatin1_aae02 13 = .ok (.iconst 1, 1) := by decide +kernel
theorem dJ0_isLatin1_aae02_14 : decode cJ0_isLatin1_aae02 14 = .ok (.goto 4, 3) := by decide +kernel
theorem dJ0_isLatin1_aae02_17 : decode cJ0_isLatin1_aae02 17 = .ok (.iconst 0, 1) := by decide +kernel
theorem dJ0_isLatin1_aae02_18 : decode cJ0_isLatin1_aae02 18 = .ok (.ireturn, 1) := by decide +kernel
theorem dJ0_checkBoundsBeginEnd_23922_0 : decode cJ0_checkBoundsBeginEnd_23922 0 = .ok (.iload_n 0, 1) := by decide +kernel
theorem dJ0_checkBoundsBeginEnd_23922_1 : decode cJ0_checkBoundsBeginEnd_23922 1 = .ok (.iload_n 1, 1) := by decide +kernel
theorem dJ0_checkBoundsBeginEnd_23922_2 : decode cJ0_checkBoundsBeginEnd_23922 2 = .ok (.iload_n 2, 1) := by decide +kernel
theorem dJ0_checkBoundsBeginEnd_23922_3 : decode cJ0_checkBoundsBeginEnd_23922 3 = .ok (.getstatic 1053, 3) := by decide +kernel
theorem dJ0_checkBoundsBeginEnd_23922_6 : decode cJ0_checkBoundsBeginEnd_23922 6 = .ok (.invokestatic 1062, 3) := by decide +kernel
theorem dJ0_checkBoundsBeginEnd_23922_9 : decode cJ0_checkBoundsBeginEnd_23922 9 = .ok (.pop, 1) := by decide +kernel
theorem dJ0_checkBoundsBeginEnd_23922_10 : decode cJ0_checkBoundsBeginEnd_23922 10 = .ok (.return_, 1) := by decide +kernel
theorem dJ1_canEncode_9a6ad_0 : decode cJ1_canEncode_9a6ad 0 = .ok (.iload_n 0, 1) := by decide +kernel
theorem dJ1_canEncode_9a6ad_1 : decode cJ1_canEncode_9a6ad 1 = .ok (.ifCond .lt 14, 3) := by decide +kernel
theorem dJ1_canEncode_9a6ad_4 : decode cJ1_canEncode_9a6ad 4 = .ok (.iload_n 0, 1) := by decide +kernel
theorem dJ1_canEncode_9a6ad_5 : decode cJ1_canEncode_9a6ad 5 = .ok (.sipush 255, 3) := by decide +kernel
theorem dJ1_canEncode_9a6ad_8 : decode cJ1_canEncode_9a6ad 8 = .ok (.if_icmp .gt 7, 3) := by decide +kernel
theorem dJ1_canEncode_9a6ad_11 : decode cJ1_canEncode_9a6ad 11 = .ok (.iconst 1, 1) := by decide +kernel
theorem dJ1_canEncode_9a6ad_12 : decode cJ1_canEncode_9a6ad 12 = .ok (.goto 4, 3) := by decide +kernel
theorem dJ1_canEncode_9a6ad_15 : decode cJ1_canEncode_9a6ad 15 = .ok (.iconst 0, 1) := by decide +kernel
theorem dJ1_canEncode_9a6ad_16 : decode cJ1_canEncode_9a6ad 16 = .ok (.ireturn, 1) := by decide +kernel
theorem dJ1_indexOf_4cfef_0 : decode cJ1_indexOf_4cfef 0 = .ok (.iload_n 1, 1) := by decide +kernel
theorem dJ1_indexOf_4cfef_1 : decode cJ1_indexOf_4cfef 1 = .ok (.invokestatic 88, 3) := by decide +kernel
theorem dJ1_indexOf_4cfef_4 : decode cJ1_indexOf_4cfef 4 = .ok (.ifCond .ne 5, 3) := by decide +kernel
theorem dJ1_indexOf_4cfef_7 : decode cJ1_indexOf_4cfef 7 = .ok (.iconst (-1), 1) := by decide +kernel
theorem dJ1_indexOf_4cfef_8 : decode cJ1_indexOf_4cfef 8 = .ok (.ireturn, 1) := by decide +kernel
theorem dJ1_indexOf_4cfef_9 : decode cJ1_indexOf_4cfef 9 = .ok (.iload_n 2, 1) := by decide +kernel
theorem dJ1_indexOf_4cfef_10 : decode cJ1_indexOf_4cfef 10 = .ok (.iconst 0, 1) := by decide +kernel
theorem dJ1_indexOf_4cfef_11 : decode cJ1_indexOf_4cfef 11 = .ok (.invokestatic 92, 3) := by decide +kernel
theorem dJ1_indexOf_4cfef_14 : decode cJ1_indexOf_4cfef 14 = .ok (.istore_n 2, 1) := by decide +kernel
theorem dJ1_indexOf_4cfef_15 : decode cJ1_indexOf_4cfef 15 = .ok (.iload_n 3, 1) := by decide +kernel
theorem dJ1_indexOf_4cfef_16 : decode cJ1_indexOf_4cfef 16 = .ok (.aload_n 0, 1) := by decide +kernel
theorem dJ1_indexOf_4cfef_17 : decode cJ1_indexOf_4cfef 17 = .ok (.arraylength, 1) := by decide +kernel
theorem dJ1_indexOf_4cfef_18 : decode cJ1_indexOf_4cfef 18 = .ok (.invokestatic 38, 3) := by decide +kernel
theorem dJ1_indexOf_4cfef_21 : decode cJ1_indexOf_4cfef 21 = .ok (.istore_n 3, 1) := by decide +kernel
theorem dJ1_indexOf_4cfef_22 : decode cJ1_indexOf_4cfef 22 = .ok (.iload_n 2, 1) := by decide +kernel
theorem dJ1_indexOf_4cfef_23 : decode cJ1_indexOf_4cfef 23 = .ok (.iload_n 3, 1) := by decide +kernel
theorem dJ1_indexOf_4cfef_24 : decode cJ1_indexOf_4cfef 24 = .ok (.if_icmp .lt 5, 3) := by decide +kernel
theorem dJ1_indexOf_4cfef_27 : decode cJ1_indexOf_4cfef 27 = .ok (.iconst (-1), 1) := by decide +kernel
theorem dJ1_indexOf_4cfef_28 : decode cJ1_indexOf_4cfef 28 = .ok (.ireturn, 1) := by decide +kernel
theorem dJ1_indexOf_4cfef_29 : decode cJ1_indexOf_4cfef 29 = .ok (.aload_n 0, 1) := by decide +kernel
theorem dJ1_indexOf_4cfef_30 : decode cJ1_indexOf_4cfef 30 = .ok (.iload_n 1, 1) := by decide +kernel
theorem dJ1_indexOf_4cfef_31 : decode cJ1_indexOf_4cfef 31 = .ok (.iload_n 2, 1) := by decide +kernel
theorem dJ1_indexOf_4cfef_32 : decode cJ1_indexOf_4cfef 32 = .ok (.iload_n 3, 1) := by decide +kernel
theorem dJ1_indexOf_4cfef_33 : decode cJ1_indexOf_4cfef 33 = .ok (.invokestatic 95, 3) := by decide +kernel
theorem dJ1_indexOf_4cfef_36 : decode cJ1_indexOf_4cfef 36 = .ok (.ireturn, 1) := by decide +kernel
theorem dJ1_indexOfChar_4cfef_0 : decode cJ1_indexOfChar_4cfef 0 = .ok (.iload_n 1, 1) := by decide +kernel
theorem dJ1_indexOfChar_4cfef_1 : decode cJ1_indexOfChar_4cfef 1 = .ok (.i2b, 1) := by decide +kernel
theorem dJ1_indexOfChar_4cfef_2 : decode cJ1_indexOfChar_4cfef 2 = .ok (.istore 4, 2) := by decide +kernel
theorem dJ1_indexOfChar_4cfef_4 : decode cJ1_indexOfChar_4cfef 4 = .ok (.iload_n 2, 1) := by decide +kernel
theorem dJ1_indexOfChar_4cfef_5 : decode cJ1_indexOfChar_4cfef 5 = .ok (.istore 5, 2) := by decide +kernel
theorem dJ1_indexOfChar_4cfef_7 : decode cJ1_indexOfChar_4cfef 7 = .ok (.iload 5, 2) := by decide +kernel
theorem dJ1_indexOfChar_4cfef_9 : decode cJ1_indexOfChar_4cfef 9 = .ok (.iload_n 3, 1) := by decide +kernel
theorem dJ1_indexOfChar_4cfef_10 : decode cJ1_indexOfChar_4cfef 10 = .ok (.if_icmp .ge 21, 3) := by decide +kernel
theorem dJ1_indexOfChar_4cfef_13 : decode cJ1_indexOfChar_4cfef 13 = .ok (.aload_n 0, 1) := by decide +kernel
theorem dJ1_indexOfChar_4cfef_14 : decode cJ1_indexOfChar_4cfef 14 = .ok (.iload 5, 2) := by decide +kernel
theorem dJ1_indexOfChar_4cfef_16 : decode cJ1_indexOfChar_4cfef 16 = .ok (.baload, 1) := by decide +kernel
theorem dJ1_indexOfChar_4cfef_17 : decode cJ1_indexOfChar_4cfef 17 = .ok (.iload 4, 2) := by decide +kernel
theorem dJ1_indexOfChar_4cfef_19 : decode cJ1_indexOfChar_4cfef 19 = .ok (.if_icmp .ne 6, 3) := by decide +kernel
theorem dJ1_indexOfChar_4cfef_22 : decode cJ1_indexOfChar_4cfef 22 = .ok (.iload 5, 2) := by decide +kernel
theorem dJ1_indexOfChar_4cfef_24 : decode cJ1_indexOfChar_4cfef 24 = .ok (.ireturn, 1) := by decide +kernel
theorem dJ1_indexOfChar_4cfef_25 : decode cJ1_indexOfChar_4cfef 25 = .ok (.iinc 5 1, 3) := by decide +kernel
theorem dJ1_indexOfChar_4cfef_28 : decode cJ1_indexOfChar_4cfef 28 = .ok (.goto (-21), 3) := by decide +kernel
theorem dJ1_indexOfChar_4cfef_31 : decode cJ1_indexOfChar_4cfef 31 = .ok (.iconst (-1), 1) := by decide +kernel
theorem dJ1_indexOfChar_4cfef_32 : decode cJ1_indexOfChar_4cfef 32 = .ok (.ireturn, 1) := by decide +kernel
theorem dJ2_getChar_3b067_0 : decode cJ2_getChar_3b067 0 = .ok (.getstatic 44, 3) := by decide +kernel
theorem dJ2_getChar_3b067_3 : decode cJ2_getChar_3b067 3 = .ok (.ifCond .ne 25, 3) := by decide +kernel
theorem dJ2_getChar_3b067_6 : decode cJ2_getChar_3b067 6 = .ok (.iload_n 1, 1) := by decide +kernel
theorem dJ2_getChar_3b067_7 : decode cJ2_getChar_3b067 7 = .ok (.ifCond .lt 11, 3) := by decide +kernel
theorem dJ2_getChar_3b067_10 : decode cJ2_getChar_3b067 10 = .ok (.iload_n 1, 1) := by decide +kernel
theorem dJ2_getChar_3b067_11 : decode cJ2_getChar_3b067 11 = .ok (.aload_n 0, 1) := by decide +kernel
theorem dJ2_getChar_3b067_12 : decode cJ2_getChar_3b067 12 = .ok (.invokestatic 48, 3) := by decide +kernel
theorem dJ2_getChar_3b067_15 : decode cJ2_getChar_3b067 15 = .ok (.if_icmp .lt 13, 3) := by decide +kernel
theorem dJ2_getChar_3b067_18 : decode cJ2_getChar_3b067 18 = .ok (.new 52, 3) := by decide +kernel
theorem dJ2_getChar_3b067_21 : decode cJ2_getChar_3b067 21 = .ok (.dup, 1) := by decide +kernel
theorem dJ2_getChar_3b067_22 : decode cJ2_getChar_3b067 22 = .ok (.ldc 54, 2) := by decide +kernel
theorem dJ2_getChar_3b067_24 : decode cJ2_getChar_3b067 24 = .ok (.invokespecial 56, 3) := by decide +kernel
theorem dJ2_getChar_3b067_27 : decode cJ2_getChar_3b067 27 = .ok (.athrow, 1) := by decide +kernel
theorem dJ2_getChar_3b067_28 : decode cJ2_getChar_3b067 28 = .ok (.iload_n 1, 1) := by decide +kernel
theorem dJ2_getChar_3b067_29 : decode cJ2_getChar_3b067 29 = .ok (.iconst 1, 1) := by decide +kernel
theorem dJ2_getChar_3b067_30 : decode cJ2_getChar_3b067 30 = .ok (.ishl, 1) := by decide +kernel
theorem dJ2_getChar_3b067_31 : decode cJ2_getChar_3b067 31 = .ok (.istore_n 1, 1) := by decide +kernel
theorem dJ2_getChar_3b067_32 : decode cJ2_getChar_3b067 32 = .ok (.aload_n 0, 1) := by decide +kernel
theorem dJ2_getChar_3b067_33 : decode cJ2_getChar_3b067 33 = .ok (.iload_n 1, 1) := by decide +kernel
theorem dJ2_getChar_3b067_34 : decode cJ2_getChar_3b067 34 = .ok (.iinc 1 1, 3) := by decide +kernel
theorem dJ2_getChar_3b067_37 : decode cJ2_getChar_3b067 37 = .ok (.baload, 1) := by decide +kernel
theorem dJ2_getChar_3b067_38 : decode cJ2_getChar_3b067 38 = .ok (.sipush 255, 3) := by decide +kernel
theorem dJ2_getChar_3b067_41 : decode cJ2_getChar_3b067 41 = .ok (.iand, 1) := by decide +kernel
theorem dJ2_getChar_3b067_42 : decode cJ2_getChar_3b067 42 = .ok (.getstatic 59, 3) := by decide +kernel
theorem dJ2_getChar_3b067_45 : decode cJ2_getChar_3b067 45 = .ok (.ishl, 1) := by decide +kernel
theorem dJ2_getChar_3b067_46 : decode cJ2_getChar_3b067 46 = .ok (.aload_n 0, 1) := by decide +kernel
theorem dJ2_getChar_3b067_47 : decode cJ2_getChar_3b067 47 = .ok (.iload_n 1, 1) := by decide +kernel
theorem dJ2_getChar_3b067_48 : decode cJ2_getChar_3b067 48 = .ok (.baload, 1) := by decide +kernel
theorem dJ2_getChar_3b067_49 : decode cJ2_getChar_3b067 49 = .ok (.sipush 255, 3) := by decide +kernel
theorem dJ2_getChar_3b067_52 : decode cJ2_getChar_3b067 52 = .ok (.iand, 1) := by decide +kernel
theorem dJ2_getChar_3b067_53 : decode cJ2_getChar_3b067 53 = .ok (.getstatic 63, 3) := by decide +kernel
theorem dJ2_getChar_3b067_56 : decode cJ2_getChar_3b067 56 = .ok (.ishl, 1) := by decide +kernel
theorem dJ2_getChar_3b067_57 : decode cJ2_getChar_3b067 57 = .ok (.ior, 1) := by decide +kernel
theorem dJ2_getChar_3b067_58 : decode cJ2_getChar_3b067 58 = .ok (.i2c, 1) := by decide +kernel
theorem dJ2_getChar_3b067_59 : decode cJ2_getChar_3b067 59 = .ok (.ireturn, 1) := by decide +kernel
theorem dJ2_length_9d52b_0 : decode cJ2_length_9d52b 0 = .ok (.aload_n 0, 1) := by decide +kernel
theorem dJ2_length_9d52b_1 : decode cJ2_length_9d52b 1 = .ok (.arraylength, 1) := by decide +kernel
theorem dJ2_length_9d52b_2 : decode cJ2_length_9d52b 2 = .ok (.iconst 1, 1) := by decide +kernel
theorem dJ2_length_9d52b_3 : decode cJ2_length_9d52b 3 = .ok (.ishr, 1) := by decide +kernel
theorem dJ2_length_9d52b_4 : decode cJ2_length_9d52b 4 = .ok (.ireturn, 1) := by decide +kernel
theorem dJ2_indexOf_4cfef_0 : decode cJ2_indexOf_4cfef 0 = .ok (.iload_n 2, 1) := by decide +kernel
theorem dJ2_indexOf_4cfef_1 : decode cJ2_indexOf_4cfef 1 = .ok (.iconst 0, 1) := by decide +kernel
theorem dJ2_indexOf_4cfef_2 : decode cJ2_indexOf_4cfef 2 = .ok (.invokestatic 224, 3) := by decide +kernel
theorem dJ2_indexOf_4cfef_5 : decode cJ2_indexOf_4cfef 5 = .ok (.istore_n 2, 1) := by decide +kernel
theorem dJ2_indexOf_4cfef_6 : decode cJ2_indexOf_4cfef 6 = .ok (.iload_n 3, 1) := by decide +kernel
theorem dJ2_indexOf_4cfef_7 : decode cJ2_indexOf_4cfef 7 = .ok (.aload_n 0, 1) := by decide +kernel
theorem dJ2_indexOf_4cfef_8 : decode cJ2_indexOf_4cfef 8 = .ok (.arraylength, 1) := by decide +kernel
theorem dJ2_indexOf_4cfef_9 : decode cJ2_indexOf_4cfef 9 = .ok (.iconst 1, 1) := by decide +kernel
theorem dJ2_indexOf_4cfef_10 : decode cJ2_indexOf_4cfef 10 = .ok (.ishr, 1) := by decide +kernel
theorem dJ2_indexOf_4cfef_11 : decode cJ2_indexOf_4cfef 11 = .ok (.invokestatic 183, 3) := by decide +kernel
theorem dJ2_indexOf_4cfef_14 : decode cJ2_indexOf_4cfef 14 = .ok (.istore_n 3, 1) := by decide +kernel
theorem dJ2_indexOf_4cfef_15 : decode cJ2_indexOf_4cfef 15 = .ok (.iload_n 2, 1) := by decide +kernel
theorem dJ2_indexOf_4cfef_16 : decode cJ2_indexOf_4cfef 16 = .ok (.iload_n 3, 1) := by decide +kernel
theorem dJ2_indexOf_4cfef_17 : decode cJ2_indexOf_4cfef 17 = .ok (.if_icmp .lt 5, 3) := by decide +kernel
theorem dJ2_indexOf_4cfef_20 : decode cJ2_indexOf_4cfef 20 = .ok (.iconst (-1), 1) := by decide +kernel
theorem dJ2_indexOf_4cfef_21 : decode cJ2_indexOf_4cfef 21 = .ok (.ireturn, 1) := by decide +kernel
theorem dJ2_indexOf_4cfef_22 : decode cJ2_indexOf_4cfef 22 = .ok (.iload_n 1, 1) := by decide +kernel
theorem dJ2_indexOf_4cfef_23 : decode cJ2_indexOf_4cfef 23 = .ok (.ldc 227, 2) := by decide +kernel
theorem dJ2_indexOf_4cfef_25 : decode cJ2_indexOf_4cfef 25 = .ok (.if_icmp .ge 11, 3) := by decide +kernel
theorem dJ2_indexOf_4cfef_28 : decode cJ2_indexOf_4cfef 28 = .ok (.aload_n 0, 1) := by decide +kernel
theorem dJ2_indexOf_4cfef_29 : decode cJ2_indexOf_4cfef 29 = .ok (.iload_n 1, 1) := by decide +kernel
theorem dJ2_indexOf_4cfef_30 : decode cJ2_indexOf_4cfef 30 = .ok (.iload_n 2, 1) := by decide +kernel
theorem dJ2_indexOf_4cfef_31 : decode cJ2_indexOf_4cfef 31 = .ok (.iload_n 3, 1) := by decide +kernel
theorem dJ2_indexOf_4cfef_32 : decode cJ2_indexOf_4cfef 32 = .ok (.invokestatic 228, 3) := by decide +kernel
theorem dJ2_indexOf_4cfef_35 : decode cJ2_indexOf_4cfef 35 = .ok (.ireturn, 1) := by decide +kernel
theorem dJ2_indexOf_4cfef_36 : decode cJ2_indexOf_4cfef 36 = .ok (.aload_n 0, 1) := by decide +kernel
theorem dJ2_indexOf_4cfef_37 : decode cJ2_indexOf_4cfef 37 = .ok (.iload_n 1, 1) := by decide +kernel
theorem dJ2_indexOf_4cfef_38 : decode cJ2_indexOf_4cfef 38 = .ok (.iload_n 2, 1) := by decide +kernel
theorem dJ2_indexOf_4cfef_39 : decode cJ2_indexOf_4cfef 39 = .ok (.iload_n 3, 1) := by decide +kernel
theorem dJ2_indexOf_4cfef_40 : decode cJ2_indexOf_4cfef 40 = .ok (.invokestatic 232, 3) := by decide +kernel
theorem dJ2_indexOf_4cfef_43 : decode cJ2_indexOf_4cfef 43 = .ok (.ireturn, 1) := by decide +kernel
theorem dJ2_indexOfChar_4cfef_0 : decode cJ2_indexOfChar_4cfef 0 = .ok (.iload_n 2, 1) := by decide +kernel
theorem dJ2_indexOfChar_4cfef_1 : decode cJ2_indexOfChar_4cfef 1 = .ok (.iload_n 3, 1) := by decide +kernel
theorem dJ2_indexOfChar_4cfef_2 : decode cJ2_indexOfChar_4cfef 2 = .ok (.aload_n 0, 1) := by decide +kernel
theorem dJ2_indexOfChar_4cfef_3 : decode cJ2_indexOfChar_4cfef 3 = .ok (.invokestatic 96, 3) := by decide +kernel
theorem dJ2_indexOfChar_4cfef_6 : decode cJ2_indexOfChar_4cfef 6 = .ok (.aload_n 0, 1) := by decide +kernel
theorem dJ2_indexOfChar_4cfef_7 : decode cJ2_indexOfChar_4cfef 7 = .ok (.iload_n 1, 1) := by decide +kernel
theorem dJ2_indexOfChar_4cfef_8 : decode cJ2_indexOfChar_4cfef 8 = .ok (.iload_n 2, 1) := by decide +kernel
theorem dJ2_indexOfChar_4cfef_9 : decode cJ2_indexOfChar_4cfef 9 = .ok (.iload_n 3, 1) := by decide +kernel
theorem dJ2_indexOfChar_4cfef_10 : decode cJ2_indexOfChar_4cfef 10 = .ok (.invokestatic 244, 3) := by decide +kernel
theorem dJ2_indexOfChar_4cfef_13 : decode cJ2_indexOfChar_4cfef 13 = .ok (.ireturn, 1) := by decide +kernel
theorem dJ2_indexOfCharUnsafe_4cfef_0 : decode cJ2_indexOfCharUnsafe_4cfef 0 = .ok (.iload_n 2, 1) := by decide +kernel
theorem dJ2_indexOfCharUnsafe_4cfef_1 : decode cJ2_indexOfCharUnsafe_4cfef 1 = .ok (.istore 4, 2) := by decide +kernel
theorem dJ2_indexOfCharUnsafe_4cfef_3 : decode cJ2_indexOfCharUnsafe_4cfef 3 = .ok (.iload 4, 2) := by decide +kernel
theorem dJ2_indexOfCharUnsafe_4cfef_5 : decode cJ2_indexOfCharUnsafe_4cfef 5 = .ok (.iload_n 3, 1) := by decide +kernel
theorem dJ2_indexOfCharUnsafe_4cfef_6 : decode cJ2_indexOfCharUnsafe_4cfef 6 = .ok (.if_icmp .ge 22, 3) := by decide +kernel
theorem dJ2_indexOfCharUnsafe_4cfef_9 : decode cJ2_indexOfCharUnsafe_4cfef 9 = .ok (.aload_n 0, 1) := by decide +kernel
theorem dJ2_indexOfCharUnsafe_4cfef_10 : decode cJ2_indexOfCharUnsafe_4cfef 10 = .ok (.iload 4, 2) := by decide +kernel
theorem dJ2_indexOfCharUnsafe_4cfef_12 : decode cJ2_indexOfCharUnsafe_4cfef 12 = .ok (.invokestatic 71, 3) := by decide +kernel
theorem dJ2_indexOfCharUnsafe_4cfef_15 : decode cJ2_indexOfCharUnsafe_4cfef 15 = .ok (.iload_n 1, 1) := by decide +kernel
theorem dJ2_indexOfCharUnsafe_4cfef_16 : decode cJ2_indexOfCharUnsafe_4cfef 16 = .ok (.if_icmp .ne 6, 3) := by decide +kernel
theorem dJ2_indexOfCharUnsafe_4cfef_19 : decode cJ2_indexOfCharUnsafe_4cfef 19 = .ok (.iload 4, 2) := by decide +kernel
theorem dJ2_indexOfCharUnsafe_4cfef_21 : decode cJ2_indexOfCharUnsafe_4cfef 21 = .ok (.ireturn, 1) := by decide +kernel
theorem dJ2_indexOfCharUnsafe_4cfef_22 : decode cJ2_indexOfCharUnsafe_4cfef 22 = .ok (.iinc 4 1, 3) := by decide +kernel
theorem dJ2_indexOfCharUnsafe_4cfef_25 : decode cJ2_indexOfCharUnsafe_4cfef 25 = .ok (.goto (-22), 3) := by decide +kernel
theorem dJ2_indexOfCharUnsafe_4cfef_28 : decode cJ2_indexOfCharUnsafe_4cfef 28 = .ok (.iconst (-1), 1) := by decide +kernel
theorem dJ2_indexOfCharUnsafe_4cfef_29 : decode cJ2_indexOfCharUnsafe_4cfef 29 = .ok (.ireturn, 1) := by decide +kernel
theorem dJ2_indexOfSupplementary_4cfef_0 : decode cJ2_indexOfSupplementary_4cfef 0 = .ok (.iload_n 1, 1) := by decide +kernel
theorem dJ2_indexOfSupplementary_4cfef_1 : decode cJ2_indexOfSupplementary_4cfef 1 = .ok (.invokestatic 164, 3) := by decide +kernel
theorem dJ2_indexOfSupplementary_4cfef_4 : decode cJ2_indexOfSupplementary_4cfef 4 = .ok (.ifCond .eq 65, 3) := by decide +kernel
theorem dJ2_indexOfSupplementary_4cfef_7 : decode cJ2_indexOfSupplementary_4cfef 7 = .ok (.iload_n 1, 1) := by decide +kernel
theorem dJ2_indexOfSupplementary_4cfef_8 : decode cJ2_indexOfSupplementary_4cfef 8 = .ok (.invokestatic 157, 3) := by decide +kernel
theorem dJ2_indexOfSupplementary_4cfef_11 : decode cJ2_indexOfSupplementary_4cfef 11 = .ok (.istore 4, 2) := by decide +kernel
theorem dJ2_indexOfSupplementary_4cfef_13 : decode cJ2_indexOfSupplementary_4cfef 13 = .ok (.iload_n 1, 1) := by decide +kernel
theorem dJ2_indexOfSupplementary_4cfef_14 : decode cJ2_indexOfSupplementary_4cfef 14 = .ok (.invokestatic 161, 3) := by decide +kernel
theorem dJ2_indexOfSupplementary_4cfef_17 : decode cJ2_indexOfSupplementary_4cfef 17 = .ok (.istore 5, 2) := by decide +kernel
theorem dJ2_indexOfSupplementary_4cfef_19 : decode cJ2_indexOfSupplementary_4cfef 19 = .ok (.iload_n 2, 1) := by decide +kernel
theorem dJ2_indexOfSupplementary_4cfef_20 : decode cJ2_indexOfSupplementary_4cfef 20 = .ok (.iload_n 3, 1) := by decide +kernel
theorem dJ2_indexOfSupplementary_4cfef_21 : decode cJ2_indexOfSupplementary_4cfef 21 = .ok (.aload_n 0, 1) := by decide +kernel
theorem dJ2_indexOfSupplementary_4cfef_22 : decode cJ2_indexOfSupplementary_4cfef 22 = .ok (.invokestatic 96, 3) := by decide +kernel
theorem dJ2_indexOfSupplementary_4cfef_25 : decode cJ2_indexOfSupplementary_4cfef 25 = .ok (.iload_n 2, 1) := by decide +kernel
theorem dJ2_indexOfSupplementary_4cfef_26 : decode cJ2_indexOfSupplementary_4cfef 26 = .ok (.istore 6, 2) := by decide +kernel
theorem dJ2_indexOfSupplementary_4cfef_28 : decode cJ2_indexOfSupplementary_4cfef 28 = .ok (.iload 6, 2) := by decide +kernel
theorem dJ2_indexOfSupplementary_4cfef_30 : decode cJ2_indexOfSupplementary_4cfef 30 = .ok (.iload_n 3, 1) := by decide +kernel
theorem dJ2_indexOfSupplementary_4cfef_31 : decode cJ2_indexOfSupplementary_4cfef 31 = .ok (.iconst 1, 1) := by decide +kernel
theorem dJ2_indexOfSupplementary_4cfef_32 : decode cJ2_indexOfSupplementary_4cfef 32 = .ok (.isub, 1) := by decide +kernel
theorem dJ2_indexOfSupplementary_4cfef_33 : decode cJ2_indexOfSupplementary_4cfef 33 = .ok (.if_icmp .ge 36, 3) := by decide +kernel
theorem dJ2_indexOfSupplementary_4cfef_36 : decode cJ2_indexOfSupplementary_4cfef 36 = .ok (.aload_n 0, 1) := by decide +kernel
theorem dJ2_indexOfSupplementary_4cfef_37 : decode cJ2_indexOfSupplementary_4cfef 37 = .ok (.iload 6, 2) := by decide +kernel
theorem dJ2_indexOfSupplementary_4cfef_39 : decode cJ2_indexOfSupplementary_4cfef 39 = .ok (.invokestatic 71, 3) := by decide +kernel
theorem dJ2_indexOfSupplementary_4cfef_42 : decode cJ2_indexOfSupplementary_4cfef 42 = .ok (.iload 4, 2) := by decide +kernel
theorem dJ2_indexOfSupplementary_4cfef_44 : decode cJ2_indexOfSupplementary_4cfef 44 = .ok (.if_icmp .ne 19, 3) := by decide +kernel
theorem dJ2_indexOfSupplementary_4cfef_47 : decode cJ2_indexOfSupplementary_4cfef 47 = .ok (.aload_n 0, 1) := by decide +kernel
theorem dJ2_indexOfSupplementary_4cfef_48 : decode cJ2_indexOfSupplementary_4cfef 48 = .ok (.iload 6, 2) := by decide +kernel
theorem dJ2_indexOfSupplementary_4cfef_50 : decode cJ2_indexOfSupplementary_4cfef 50 = .ok (.iconst 1, 1) := by decide +kernel
theorem dJ2_indexOfSupplementary_4cfef_51 : decode cJ2_indexOfSupplementary_4cfef 51 = .ok (.iadd, 1) := by decide +kernel
theorem dJ2_indexOfSupplementary_4cfef_52 : decode cJ2_indexOfSupplementary_4cfef 52 = .ok (.invokestatic 71, 3) := by decide +kernel
theorem dJ2_indexOfSupplementary_4cfef_55 : decode cJ2_indexOfSupplementary_4cfef 55 = .ok (.iload 5, 2) := by decide +kernel
theorem dJ2_indexOfSupplementary_4cfef_57 : decode cJ2_indexOfSupplementary_4cfef 57 = .ok (.if_icmp .ne 6, 3) := by decide +kernel
theorem dJ2_indexOfSupplementary_4cfef_60 : decode cJ2_indexOfSupplementary_4cfef 60 = .ok (.iload 6, 2) := by decide +kernel
theorem dJ2_indexOfSupplementary_4cfef_62 : decode cJ2_indexOfSupplementary_4cfef 62 = .ok (.ireturn, 1) := by decide +kernel
theorem dJ2_indexOfSupplementary_4cfef_63 : decode cJ2_indexOfSupplementary_4cfef 63 = .ok (.iinc 6 1, 3) := by decide +kernel
theorem dJ2_indexOfSupplementary_4cfef_66 : decode cJ2_indexOfSupplementary_4cfef 66 = .ok (.goto (-38), 3) := by decide +kernel
theorem dJ2_indexOfSupplementary_4cfef_69 : decode cJ2_indexOfSupplementary_4cfef 69 = .ok (.iconst (-1), 1) := by decide +kernel
theorem dJ2_indexOfSupplementary_4cfef_70 : decode cJ2_indexOfSupplementary_4cfef 70 = .ok (.ireturn, 1) := by decide +kernel
theorem dJ2_checkBoundsBeginEnd_d044e_0 : decode cJ2_checkBoundsBeginEnd_d044e 0 = .ok (.iload_n 0, 1) := by decide +kernel
theorem dJ2_checkBoundsBeginEnd_d044e_1 : decode cJ2_checkBoundsBeginEnd_d044e 1 = .ok (.iload_n 1, 1) := by decide +kernel
theorem dJ2_checkBoundsBeginEnd_d044e_2 : decode cJ2_checkBoundsBeginEnd_d044e 2 = .ok (.aload_n 2, 1) := by decide +kernel
theorem dJ2_checkBoundsBeginEnd_d044e_3 : decode cJ2_checkBoundsBeginEnd_d044e 3 = .ok (.invokestatic 48, 3) := by decide +kernel
theorem dJ2_checkBoundsBeginEnd_d044e_6 : decode cJ2_checkBoundsBeginEnd_d044e 6 = .ok (.invokestatic 241, 3) := by decide +kernel
theorem dJ2_checkBoundsBeginEnd_d044e_9 : decode cJ2_checkBoundsBeginEnd_d044e 9 = .ok (.return_, 1) := by decide +kernel
theorem dJ3_checkFromToIndex_8c36e_0 : decode cJ3_checkFromToIndex_8c36e 0 = .ok (.iload_n 0, 1) := by decide +kernel
theorem dJ3_checkFromToIndex_8c36e_1 : decode cJ3_checkFromToIndex_8c36e 1 = .ok (.ifCond .lt 13, 3) := by decide +kernel
theorem dJ3_checkFromToIndex_8c36e_4 : decode cJ3_checkFromToIndex_8c36e 4 = .ok (.iload_n 0, 1) := by decide +kernel
theorem dJ3_checkFromToIndex_8c36e_5 : decode cJ3_checkFromToIndex_8c36e 5 = .ok (.iload_n 1, 1) := by decide +kernel
theorem dJ3_checkFromToIndex_8c36e_6 : decode cJ3_checkFromToIndex_8c36e 6 = .ok (.if_icmp .gt 8, 3) := by decide +kernel
theorem dJ3_checkFromToIndex_8c36e_9 : decode cJ3_checkFromToIndex_8c36e 9 = .ok (.iload_n 1, 1) := by decide +kernel
theorem dJ3_checkFromToIndex_8c36e_10 : decode cJ3_checkFromToIndex_8c36e 10 = .ok (.iload_n 2, 1) := by decide +kernel
theorem dJ3_checkFromToIndex_8c36e_11 : decode cJ3_checkFromToIndex_8c36e 11 = .ok (.if_icmp .le 11, 3) := by decide +kernel
theorem dJ3_checkFromToIndex_8c36e_14 : decode cJ3_checkFromToIndex_8c36e 14 = .ok (.aload_n 3, 1) := by decide +kernel
theorem dJ3_checkFromToIndex_8c36e_15 : decode cJ3_checkFromToIndex_8c36e 15 = .ok (.iload_n 0, 1) := by decide +kernel
theorem dJ3_checkFromToIndex_8c36e_16 : decode cJ3_checkFromToIndex_8c36e 16 = .ok (.iload_n 1, 1) := by decide +kernel
theorem dJ3_checkFromToIndex_8c36e_17 : decode cJ3_checkFromToIndex_8c36e 17 = .ok (.iload_n 2, 1) := by decide +kernel
theorem dJ3_checkFromToIndex_8c36e_18 : decode cJ3_checkFromToIndex_8c36e 18 = .ok (.invokestatic 99, 3) := by decide +kernel
theorem dJ3_checkFromToIndex_8c36e_21 : decode cJ3_checkFromToIndex_8c36e 21 = .ok (.athrow, 1) := by decide +kernel
theorem dJ3_checkFromToIndex_8c36e_22 : decode cJ3_checkFromToIndex_8c36e 22 = .ok (.iload_n 0, 1) := by decide +kernel
theorem dJ3_checkFromToIndex_8c36e_23 : decode cJ3_checkFromToIndex_8c36e 23 = .ok (.ireturn, 1) := by decide +kernel
theorem dL_law_0 : decode cL_law 0 = .ok (.new 7, 3) := by decide +kernel
theorem dL_law_3 : decode cL_law 3 = .ok (.dup, 1) := by decide +kernel
theorem dL_law_4 : decode cL_law 4 = .ok (.invokespecial 9, 3) := by decide +kernel
theorem dL_law_7 : decode cL_law 7 = .ok (.astore_n 1, 1) := by decide +kernel
theorem dL_law_8 : decode cL_law 8 = .ok (.new 10, 3) := by decide +kernel
theorem dL_law_11 : decode cL_law 11 = .ok (.dup, 1) := by decide +kernel
theorem dL_law_12 : decode cL_law 12 = .ok (.invokespecial 12, 3) := by decide +kernel
theorem dL_law_15 : decode cL_law 15 = .ok (.astore_n 2, 1) := by decide +kernel
theorem dL_law_16 : decode cL_law 16 = .ok (.iconst 0, 1) := by decide +kernel
theorem dL_law_17 : decode cL_law 17 = .ok (.istore_n 3, 1) := by decide +kernel
theorem dL_law_18 : decode cL_law 18 = .ok (.iload_n 3, 1) := by decide +kernel
theorem dL_law_19 : decode cL_law 19 = .ok (.aload_n 0, 1) := by decide +kernel
theorem dL_law_20 : decode cL_law 20 = .ok (.arraylength, 1) := by decide +kernel
theorem dL_law_21 : decode cL_law 21 = .ok (.iconst 4, 1) := by decide +kernel
theorem dL_law_22 : decode cL_law 22 = .ok (.isub, 1) := by decide +kernel
theorem dL_law_23 : decode cL_law 23 = .ok (.if_icmp .gt 976, 3) := by decide +kernel
theorem dL_law_26 : decode cL_law 26 = .ok (.aload_n 0, 1) := by decide +kernel
theorem dL_law_27 : decode cL_law 27 = .ok (.iload_n 3, 1) := by decide +kernel
theorem dL_law_28 : decode cL_law 28 = .ok (.iaload, 1) := by decide +kernel
theorem dL_law_29 : decode cL_law 29 = .ok (.bipush 63, 2) := by decide +kernel
theorem dL_law_31 : decode cL_law 31 = .ok (.iand, 1) := by decide +kernel
theorem dL_law_32 : decode cL_law 32 = .ok (.tableswitch 961 0 34 #[156, 179, 192, 225, 258, 281, 304, 337, 360, 393, 416, 449, 462, 485, 508, 521, 544, 567, 600, 623, 656, 669, 682, 695, 708, 731, 754, 787, 820, 843, 856, 869, 912, 925, 938], 156) := by decide +kernel
theorem dL_law_188 : decode cL_law 188 = .ok (.aload_n 1, 1) := by decide +kernel
theorem dL_law_189 : decode cL_law 189 = .ok (.aload_n 0, 1) := by decide +kernel
theorem dL_law_190 : decode cL_law 190 = .ok (.iload_n 3, 1) := by decide +kernel
theorem dL_law_191 : decode cL_law 191 = .ok (.iconst 1, 1) := by decide +kernel
theorem dL_law_192 : decode cL_law 192 = .ok (.iadd, 1) := by decide +kernel
theorem dL_law_193 : decode cL_law 193 = .ok (.iaload, 1) := by decide +kernel
theorem dL_law_194 : decode cL_law 194 = .ok (.invokevirtual 13, 3) := by decide +kernel
theorem dL_law_197 : decode cL_law 197 = .ok (.aload_n 2, 1) := by decide +kernel
theorem dL_law_198 : decode cL_law 198 = .ok (.aload_n 0, 1) := by decide +kernel
theorem dL_law_199 : decode cL_law 199 = .ok (.iload_n 3, 1) := by decide +kernel
theorem dL_law_200 : decode cL_law 200 = .ok (.iconst 1, 1) := by decide +kernel
theorem dL_law_201 : decode cL_law 201 = .ok (.iadd, 1) := by decide +kernel
theorem dL_law_202 : decode cL_law 202 = .ok (.iaload, 1) := by decide +kernel
theorem dL_law_203 : decode cL_law 203 = .ok (.invokevirtual 17, 3) := by decide +kernel
theorem dL_law_206 : decode cL_law 206 = .ok (.if_icmp .eq 787, 3) := by decide +kernel
theorem dL_law_209 : decode cL_law 209 = .ok (.iconst 0, 1) := by decide +kernel
theorem dL_law_210 : decode cL_law 210 = .ok (.ireturn, 1) := by decide +kernel
theorem dL_law_211 : decode cL_law 211 = .ok (.aload_n 1, 1) := by decide +kernel
theorem dL_law_212 : decode cL_law 212 = .ok (.invokevirtual 18, 3) := by decide +kernel
theorem dL_law_215 : decode cL_law 215 = .ok (.aload_n 2, 1) := by decide +kernel
theorem dL_law_216 : decode cL_law 216 = .ok (.invokevirtual 22, 3) := by decide +kernel
theorem dL_law_219 : decode cL_law 219 = .ok (.if_icmp .eq 774, 3) := by decide +kernel
theorem dL_law_222 : decode cL_law 222 = .ok (.iconst 0, 1) := by decide +kernel
theorem dL_law_223 : decode cL_law 223 = .ok (.ireturn, 1) := by decide +kernel
theorem dL_law_224 : decode cL_law 224 = .ok (.aload_n 1, 1) := by decide +kernel
theorem dL_law_225 : decode cL_law 225 = .ok (.aload_n 0, 1) := by decide +kernel
theorem dL_law_226 : decode cL_law 226 = .ok (.iload_n 3, 1) := by decide +kernel
theorem dL_law_227 : decode cL_law 227 = .ok (.iconst 1, 1) := by decide +kernel
theorem dL_law_228 : decode cL_law 228 = .ok (.iadd, 1) := by decide +kernel
theorem dL_law_229 : decode cL_law 229 = .ok (.iaload, 1) := by decide +kernel
theorem dL_law_230 : decode cL_law 230 = .ok (.aload_n 0, 1) := by decide +kernel
theorem dL_law_231 : decode cL_law 231 = .ok (.iload_n 3, 1) := by decide +kernel
theorem dL_law_232 : decode cL_law 232 = .ok (.iconst 2, 1) := by decide +kernel
theorem dL_law_233 : decode cL_law 233 = .ok (.iadd, 1) := by decide +kernel
theorem dL_law_234 : decode cL_law 234 = .ok (.iaload, 1) := by decide +kernel
theorem dL_law_235 : decode cL_law 235 = .ok (.invokevirtual 23, 3) := by decide +kernel
theorem dL_law_238 : decode cL_law 238 = .ok (.aload_n 2, 1) := by decide +kernel
theorem dL_law_239 : decode cL_law 239 = .ok (.aload_n 0, 1) := by decide +kernel
theorem dL_law_240 : decode cL_law 240 = .ok (.iload_n 3, 1) := by decide +kernel
theorem dL_law_241 : decode cL_law 241 = .ok (.iconst 1, 1) := by decide +kernel
theorem dL_law_242 : decode cL_law 242 = .ok (.iadd, 1) := by decide +kernel
theorem dL_law_243 : decode cL_law 243 = .ok (.iaload, 1) := by decide +kernel
theorem dL_law_244 : decode cL_law 244 = .ok (.aload_n 0, 1) := by decide +kernel
theorem dL_law_245 : decode cL_law 245 = .ok (.iload_n 3, 1) := by decide +kernel
theorem dL_law_246 : decode cL_law 246 = .ok (.iconst 2, 1) := by decide +kernel
theorem dL_law_247 : decode cL_law 247 = .ok (.iadd, 1) := by decide +kernel
theorem dL_law_248 : decode cL_law 248 = .ok (.iaload, 1) := by decide +kernel
theorem dL_law_249 : decode cL_law 249 = .ok (.invokevirtual 27, 3) := by decide +kernel
theorem dL_law_252 : decode cL_law 252 = .ok (.if_icmp .eq 741, 3) := by decide +kernel
theorem dL_law_255 : decode cL_law 255 = .ok (.iconst 0, 1) := by decide +kernel
theorem dL_law_256 : decode cL_law 256 = .ok (.ireturn, 1) := by decide +kernel
theorem dL_law_257 : decode cL_law 257 = .ok (.aload_n 1, 1) := by decide +kernel
theorem dL_law_258 : decode cL_law 258 = .ok (.aload_n 0, 1) := by decide +kernel
theorem dL_law_259 : decode cL_law 259 = .ok (.iload_n 3, 1) := by decide +kernel
theorem dL_law_260 : decode cL_law 260 = .ok (.iconst 1, 1) := by decide +kernel
theorem dL_law_261 : decode cL_law 261 = .ok (.iadd, 1) := by decide +kernel
theorem dL_law_262 : decode cL_law 262 = .ok (.iaload, 1) := by decide +kernel
theorem dL_law_263 : decode cL_law 263 = .ok (.aload_n 0, 1) := by decide +kernel
theorem dL_law_264 : decode cL_law 264 = .ok (.iload_n 3, 1) := by decide +kernel
theorem dL_law_265 : decode cL_law 265 = .ok (.iconst 2, 1) := by decide +kernel
theorem dL_law_266 : decode cL_law 266 = .ok (.iadd, 1) := by decide +kernel
theorem dL_law_267 : decode cL_law 267 = .ok (.iaload, 1) := by decide +kernel
theorem dL_law_268 : decode cL_law 268 = .ok (.invokevirtual 28, 3) := by decide +kernel
theorem dL_law_271 : decode cL_law 271 = .ok (.aload_n 2, 1) := by decide +kernel
theorem dL_law_272 : decode cL_law 272 = .ok (.aload_n 0, 1) := by decide +kernel
theorem dL_law_273 : decode cL_law 273 = .ok (.iload_n 3, 1) := by decide +kernel
theorem dL_law_274 : decode cL_law 274 = .ok (.iconst 1, 1) := by decide +kernel
theorem dL_law_275 : decode cL_law 275 = .ok (.iadd, 1) := by decide +kernel
theorem dL_law_276 : decode cL_law 276 = .ok (.iaload, 1) := by decide +kernel
theorem dL_law_277 : decode cL_law 277 = .ok (.aload_n 0, 1) := by decide +kernel
theorem dL_law_278 : decode cL_law 278 = .ok (.iload_n 3, 1) := by decide +kernel
theorem dL_law_279 : decode cL_law 279 = .ok (.iconst 2, 1) := by decide +kernel
theorem dL_law_280 : decode cL_law 280 = .ok (.iadd, 1) := by decide +kernel
theorem dL_law_281 : decode cL_law 281 = .ok (.iaload, 1) := by decide +kernel
theorem dL_law_282 : decode cL_law 282 = .ok (.invokevirtual 31, 3) := by decide +kernel
theorem dL_law_285 : decode cL_law 285 = .ok (.if_icmp .eq 708, 3) := by decide +kernel
theorem dL_law_288 : decode cL_law 288 = .ok (.iconst 0, 1) := by decide +kernel
theorem dL_law_289 : decode cL_law 289 = .ok (.ireturn, 1) := by decide +kernel
theorem dL_law_290 : decode cL_law 290 = .ok (.aload_n 1, 1) := by decide +kernel
theorem dL_law_291 : decode cL_law 291 = .ok (.aload_n 0, 1) := by decide +kernel
theorem dL_law_292 : decode cL_law 292 = .ok (.iload_n 3, 1) := by decide +kernel
theorem dL_law_293 : decode cL_law 293 = .ok (.iconst 1, 1) := by decide +kernel
theorem dL_law_294 : decode cL_law 294 = .ok (.iadd, 1) := by decide +kernel
theorem dL_law_295 : decode cL_law 295 = .ok (.iaload, 1) := by decide +kernel
theorem dL_law_296 : decode cL_law 296 = .ok (.invokevirtual 32, 3) := by decide +kernel
theorem dL_law_299 : decode cL_law 299 = .ok (.aload_n 2, 1) := by decide +kernel
theorem dL_law_300 : decode cL_law 300 = .ok (.aload_n 0, 1) := by decide +kernel
theorem dL_law_301 : decode cL_law 301 = .ok (.iload_n 3, 1) := by decide +kernel
theorem dL_law_302 : decode cL_law 302 = .ok (.iconst 1, 1) := by decide +kernel
theorem dL_law_303 : decode cL_law 303 = .ok (.iadd, 1) := by decide +kernel
theorem dL_law_304 : decode cL_law 304 = .ok (.iaload, 1) := by decide +kernel
theorem dL_law_305 : decode cL_law 305 = .ok (.invokevirtual 35, 3) := by decide +kernel
theorem dL_law_308 : decode cL_law 308 = .ok (.if_icmp .eq 685, 3) := by decide +kernel
theorem dL_law_311 : decode cL_law 311 = .ok (.iconst 0, 1) := by decide +kernel
theorem dL_law_312 : decode cL_law 312 = .ok (.ireturn, 1) := by decide +kernel
theorem dL_law_313 : decode cL_law 313 = .ok (.aload_n 1, 1) := by decide +kernel
theorem dL_law_314 : decode cL_law 314 = .ok (.aload_n 0, 1) := by decide +kernel
theorem dL_law_315 : decode cL_law 315 = .ok (.iload_n 3, 1) := by decide +kernel
theorem dL_law_316 : decode cL_law 316 = .ok (.iconst 1, 1) := by decide +kernel
theorem dL_law_317 : decode cL_law 317 = .ok (.iadd, 1) := by decide +kernel
theorem dL_law_318 : decode cL_law 318 = .ok (.iaload, 1) := by decide +kernel
theorem dL_law_319 : decode cL_law 319 = .ok (.invokevirtual 36, 3) := by decide +kernel
theorem dL_law_322 : decode cL_law 322 = .ok (.aload_n 2, 1) := by decide +kernel
theorem dL_law_323 : decode cL_law 323 = .ok (.aload_n 0, 1) := by decide +kernel
theorem dL_law_324 : decode cL_law 324 = .ok (.iload_n 3, 1) := by decide +kernel
theorem dL_law_325 : decode cL_law 325 = .ok (.iconst 1, 1) := by decide +kernel
theorem dL_law_326 : decode cL_law 326 = .ok (.iadd, 1) := by decide +kernel
theorem dL_law_327 : decode cL_law 327 = .ok (.iaload, 1) := by decide +kernel
theorem dL_law_328 : decode cL_law 328 = .ok (.invokevirtual 39, 3) := by decide +kernel
theorem dL_law_331 : decode cL_law 331 = .ok (.if_icmp .eq 662, 3) := by decide +kernel
theorem dL_law_334 : decode cL_law 334 = .ok (.iconst 0, 1) := by decide +kernel
theorem dL_law_335 : decode cL_law 335 = .ok (.ireturn, 1) := by decide +kernel
theorem dL_law_336 : decode cL_law 336 = .ok (.aload_n 1, 1) := by decide +kernel
theorem dL_law_337 : decode cL_law 337 = .ok (.aload_n 0, 1) := by decide +kernel
theorem dL_law_338 : decode cL_law 338 = .ok (.iload_n 3, 1) := by decide +kernel
theorem dL_law_339 : decode cL_law 339 = .ok (.iconst 1, 1) := by decide +kernel
theorem dL_law_340 : decode cL_law 340 = .ok (.iadd, 1) := by decide +kernel
theorem dL_law_341 : decode cL_law 341 = .ok (.iaload, 1) := by decide +kernel
theorem dL_law_342 : decode cL_law 342 = .ok (.aload_n 0, 1) := by decide +kernel
theorem dL_law_343 : decode cL_law 343 = .ok (.iload_n 3, 1) := by decide +kernel
theorem dL_law_344 : decode cL_law 344 = .ok (.iconst 2, 1) := by decide +kernel
theorem dL_law_345 : decode cL_law 345 = .ok (.iadd, 1) := by decide +kernel
theorem dL_law_346 : decode cL_law 346 = .ok (.iaload, 1) := by decide +kernel
theorem dL_law_347 : decode cL_law 347 = .ok (.invokevirtual 40, 3) := by decide +kernel
theorem dL_law_350 : decode cL_law 350 = .ok (.aload_n 2, 1) := by decide +kernel
theorem dL_law_351 : decode cL_law 351 = .ok (.aload_n 0, 1) := by decide +kernel
theorem dL_law_352 : decode cL_law 352 = .ok (.iload_n 3, 1) := by decide +kernel
theorem dL_law_353 : decode cL_law 353 = .ok (.iconst 1, 1) := by decide +kernel
theorem dL_law_354 : decode cL_law 354 = .ok (.iadd, 1) := by decide +kernel
theorem dL_law_355 : decode cL_law 355 = .ok (.iaload, 1) := by decide +kernel
theorem dL_law_356 : decode cL_law 356 = .ok (.aload_n 0, 1) := by decide +kernel
theorem dL_law_357 : decode cL_law 357 = .ok (.iload_n 3, 1) := by decide +kernel
theorem dL_law_358 : decode cL_law 358 = .ok (.iconst 2, 1) := by decide +kernel
theorem dL_law_359 : decode cL_law 359 = .ok (.iadd, 1) := by decide +kernel
theorem dL_law_360 : decode cL_law 360 = .ok (.iaload, 1) := by decide +kernel
theorem dL_law_361 : decode cL_law 361 = .ok (.invokevirtual 43, 3) := by decide +kernel
theorem dL_law_364 : decode cL_law 364 = .ok (.if_icmp .eq 629, 3) := by decide +kernel
theorem dL_law_367 : decode cL_law 367 = .ok (.iconst 0, 1) := by decide +kernel
theorem dL_law_368 : decode cL_law 368 = .ok (.ireturn, 1) := by decide +kernel
theorem dL_law_369 : decode cL_law 369 = .ok (.aload_n 1, 1) := by decide +kernel
theorem dL_law_370 : decode cL_law 370 = .ok (.aload_n 0, 1) := by decide +kernel
theorem dL_law_371 : decode cL_law 371 = .ok (.iload_n 3, 1) := by decide +kernel
theorem dL_law_372 : decode cL_law 372 = .ok (.iconst 1, 1) := by decide +kernel
theorem dL_law_373 : decode cL_law 373 = .ok (.iadd, 1) := by decide +kernel
theorem dL_law_374 : decode cL_law 374 = .ok (.iaload, 1) := by decide +kernel
theorem dL_law_375 : decode cL_law 375 = .ok (.invokevirtual 44, 3) := by decide +kernel
theorem dL_law_378 : decode cL_law 378 = .ok (.aload_n 2, 1) := by decide +kernel
theorem dL_law_379 : decode cL_law 379 = .ok (.aload_n 0, 1) := by decide +kernel
theorem dL_law_380 : decode cL_law 380 = .ok (.iload_n 3, 1) := by decide +kernel
theorem dL_law_381 : decode cL_law 381 = .ok (.iconst 1, 1) := by decide +kernel
theorem dL_law_382 : decode cL_law 382 = .ok (.iadd, 1) := by decide +kernel
theorem dL_law_383 : decode cL_law 383 = .ok (.iaload, 1) := by decide +kernel
theorem dL_law_384 : decode cL_law 384 = .ok (.invokevirtual 47, 3) := by decide +kernel
theorem dL_law_387 : decode cL_law 387 = .ok (.if_icmp .eq 606, 3) := by decide +kernel
theorem dL_law_390 : decode cL_law 390 = .ok (.iconst 0, 1) := by decide +kernel
theorem dL_law_391 : decode cL_law 391 = .ok (.ireturn, 1) := by decide +kernel
theorem dL_law_392 : decode cL_law 392 = .ok (.aload_n 1, 1) := by decide +kernel
theorem dL_law_393 : decode cL_law 393 = .ok (.aload_n 0, 1) := by decide +kernel
theorem dL_law_394 : decode cL_law 394 = .ok (.iload_n 3, 1) := by decide +kernel
theorem dL_law_395 : decode cL_law 395 = .ok (.iconst 1, 1) := by decide +kernel
theorem dL_law_396 : decode cL_law 396 = .ok (.iadd, 1) := by decide +kernel
theorem dL_law_397 : decode cL_law 397 = .ok (.iaload, 1) := by decide +kernel
theorem dL_law_398 : decode cL_law 398 = .ok (.aload_n 0, 1) := by decide +kernel
theorem dL_law_399 : decode cL_law 399 = .ok (.iload_n 3, 1) := by decide +kernel
theorem dL_law_400 : decode cL_law 400 = .ok (.iconst 2, 1) := by decide +kernel
theorem dL_law_401 : decode cL_law 401 = .ok (.iadd, 1) := by decide +kernel
theorem dL_law_402 : decode cL_law 402 = .ok (.iaload, 1) := by decide +kernel
theorem dL_law_403 : decode cL_law 403 = .ok (.invokevirtual 48, 3) := by decide +kernel
theorem dL_law_406 : decode cL_law 406 = .ok (.aload_n 2, 1) := by decide +kernel
theorem dL_law_407 : decode cL_law 407 = .ok (.aload_n 0, 1) := by decide +kernel
theorem dL_law_408 : decode cL_law 408 = .ok (.iload_n 3, 1) := by decide +kernel
theorem dL_law_409 : decode cL_law 409 = .ok (.iconst 1, 1) := by decide +kernel
theorem dL_law_410 : decode cL_law 410 = .ok (.iadd, 1) := by decide +kernel
theorem dL_law_411 : decode cL_law 411 = .ok (.iaload, 1) := by decide +kernel
theorem dL_law_412 : decode cL_law 412 = .ok (.aload_n 0, 1) := by decide +kernel
theorem dL_law_413 : decode cL_law 413 = .ok (.iload_n 3, 1) := by decide +kernel
theorem dL_law_414 : decode cL_law 414 = .ok (.iconst 2, 1) := by decide +kernel
theorem dL_law_415 : decode cL_law 415 = .ok (.iadd, 1) := by decide +kernel
theorem dL_law_416 : decode cL_law 416 = .ok (.iaload, 1) := by decide +kernel
theorem dL_law_417 : decode cL_law 417 = .ok (.invokevirtual 51, 3) := by decide +kernel
theorem dL_law_420 : decode cL_law 420 = .ok (.if_icmp .eq 573, 3) := by decide +kernel
theorem dL_law_423 : decode cL_law 423 = .ok (.iconst 0, 1) := by decide +kernel
theorem dL_law_424 : decode cL_law 424 = .ok (.ireturn, 1) := by decide +kernel
theorem dL_law_425 : decode cL_law 425 = .ok (.aload_n 1, 1) := by decide +kernel
theorem dL_law_426 : decode cL_law 426 = .ok (.aload_n 0, 1) := by decide +kernel
theorem dL_law_427 : decode cL_law 427 = .ok (.iload_n 3, 1) := by decide +kernel
theorem dL_law_428 : decode cL_law 428 = .ok (.iconst 1, 1) := by decide +kernel
theorem dL_law_429 : decode cL_law 429 = .ok (.iadd, 1) := by decide +kernel
theorem dL_law_430 : decode cL_law 430 = .ok (.iaload, 1) := by decide +kernel
theorem dL_law_431 : decode cL_law 431 = .ok (.invokevirtual 52, 3) := by decide +kernel
theorem dL_law_434 : decode cL_law 434 = .ok (.aload_n 2, 1) := by decide +kernel
theorem dL_law_435 : decode cL_law 435 = .ok (.aload_n 0, 1) := by decide +kernel
theorem dL_law_436 : decode cL_law 436 = .ok (.iload_n 3, 1) := by decide +kernel
theorem dL_law_437 : decode cL_law 437 = .ok (.iconst 1, 1) := by decide +kernel
theorem dL_law_438 : decode cL_law 438 = .ok (.iadd, 1) := by decide +kernel
theorem dL_law_439 : decode cL_law 439 = .ok (.iaload, 1) := by decide +kernel
theorem dL_law_440 : decode cL_law 440 = .ok (.invokevirtual 55, 3) := by decide +kernel
theorem dL_law_443 : decode cL_law 443 = .ok (.if_icmp .eq 550, 3) := by decide +kernel
theorem dL_law_446 : decode cL_law 446 = .ok (.iconst 0, 1) := by decide +kernel
theorem dL_law_447 : decode cL_law 447 = .ok (.ireturn, 1) := by decide +kernel
theorem dL_law_448 : decode cL_law 448 = .ok (.aload_n 1, 1) := by decide +kernel
theorem dL_law_449 : decode cL_law 449 = .ok (.aload_n 0, 1) := by decide +kernel
theorem dL_law_450 : decode cL_law 450 = .ok (.iload_n 3, 1) := by decide +kernel
theorem dL_law_451 : decode cL_law 451 = .ok (.iconst 1, 1) := by decide +kernel
theorem dL_law_452 : decode cL_law 452 = .ok (.iadd, 1) := by decide +kernel
theorem dL_law_453 : decode cL_law 453 = .ok (.iaload, 1) := by decide +kernel
theorem dL_law_454 : decode cL_law 454 = .ok (.aload_n 0, 1) := by decide +kernel
theorem dL_law_455 : decode cL_law 455 = .ok (.iload_n 3, 1) := by decide +kernel
theorem dL_law_456 : decode cL_law 456 = .ok (.iconst 2, 1) := by decide +kernel
theorem dL_law_457 : decode cL_law 457 = .ok (.iadd, 1) := by decide +kernel
theorem dL_law_458 : decode cL_law 458 = .ok (.iaload, 1) := by decide +kernel
theorem dL_law_459 : decode cL_law 459 = .ok (.invokevirtual 56, 3) := by decide +kernel
theorem dL_law_462 : decode cL_law 462 = .ok (.aload_n 2, 1) := by decide +kernel
theorem dL_law_463 : decode cL_law 463 = .ok (.aload_n 0, 1) := by decide +kernel
theorem dL_law_464 : decode cL_law 464 = .ok (.iload_n 3, 1) := by decide +kernel
theorem dL_law_465 : decode cL_law 465 = .ok (.iconst 1, 1) := by decide +kernel
theorem dL_law_466 : decode cL_law 466 = .ok (.iadd, 1) := by decide +kernel
theorem dL_law_467 : decode cL_law 467 = .ok (.iaload, 1) := by decide +kernel
theorem dL_law_468 : decode cL_law 468 = .ok (.aload_n 0, 1) := by decide +kernel
theorem dL_law_469 : decode cL_law 469 = .ok (.iload_n 3, 1) := by decide +kernel
theorem dL_law_470 : decode cL_law 470 = .ok (.iconst 2, 1) := by decide +kernel
theorem dL_law_471 : decode cL_law 471 = .ok (.iadd, 1) := by decide +kernel
theorem dL_law_472 : decode cL_law 472 = .ok (.iaload, 1) := by decide +kernel
theorem dL_law_473 : decode cL_law 473 = .ok (.invokevirtual 59, 3) := by decide +kernel
theorem dL_law_476 : decode cL_law 476 = .ok (.if_icmp .eq 517, 3) := by decide +kernel
theorem dL_law_479 : decode cL_law 479 = .ok (.iconst 0, 1) := by decide +kernel
theorem dL_law_480 : decode cL_law 480 = .ok (.ireturn, 1) := by decide +kernel
theorem dL_law_481 : decode cL_law 481 = .ok (.aload_n 1, 1) := by decide +kernel
theorem dL_law_482 : decode cL_law 482 = .ok (.invokevirtual 60, 3) := by decide +kernel
theorem dL_law_485 : decode cL_law 485 = .ok (.aload_n 2, 1) := by decide +kernel
theorem dL_law_486 : decode cL_law 486 = .ok (.invokevirtual 63, 3) := by decide +kernel
theorem dL_law_489 : decode cL_law 489 = .ok (.if_icmp .eq 504, 3) := by decide +kernel
theorem dL_law_492 : decode cL_law 492 = .ok (.iconst 0, 1) := by decide +kernel
theorem dL_law_493 : decode cL_law 493 = .ok (.ireturn, 1) := by decide +kernel
theorem dL_law_494 : decode cL_law 494 = .ok (.aload_n 1, 1) := by decide +kernel
theorem dL_law_495 : decode cL_law 495 = .ok (.aload_n 0, 1) := by decide +kernel
theorem dL_law_496 : decode cL_law 496 = .ok (.iload_n 3, 1) := by decide +kernel
theorem dL_law_497 : decode cL_law 497 = .ok (.iconst 1, 1) := by decide +kernel
theorem dL_law_498 : decode cL_law 498 = .ok (.iadd, 1) := by decide +kernel
theorem dL_law_499 : decode cL_law 499 = .ok (.iaload, 1) := by decide +kernel
theorem dL_law_500 : decode cL_law 500 = .ok (.invokevirtual 64, 3) := by decide +kernel
theorem dL_law_503 : decode cL_law 503 = .ok (.aload_n 2, 1) := by decide +kernel
theorem dL_law_504 : decode cL_law 504 = .ok (.aload_n 0, 1) := by decide +kernel
theorem dL_law_505 : decode cL_law 505 = .ok (.iload_n 3, 1) := by decide +kernel
theorem dL_law_506 : decode cL_law 506 = .ok (.iconst 1, 1) := by decide +kernel
theorem dL_law_507 : decode cL_law 507 = .ok (.iadd, 1) := by decide +kernel
theorem dL_law_508 : decode cL_law 508 = .ok (.iaload, 1) := by decide +kernel
theorem dL_law_509 : decode cL_law 509 = .ok (.invokevirtual 67, 3) := by decide +kernel
theorem dL_law_512 : decode cL_law 512 = .ok (.if_icmp .eq 481, 3) := by decide +kernel
theorem dL_law_515 : decode cL_law 515 = .ok (.iconst 0, 1) := by decide +kernel
theorem dL_law_516 : decode cL_law 516 = .ok (.ireturn, 1) := by decide +kernel
theorem dL_law_517 : decode cL_law 517 = .ok (.aload_n 1, 1) := by decide +kernel
theorem dL_law_518 : decode cL_law 518 = .ok (.aload_n 0, 1) := by decide +kernel
theorem dL_law_519 : decode cL_law 519 = .ok (.iload_n 3, 1) := by decide +kernel
theorem dL_law_520 : decode cL_law 520 = .ok (.iconst 1, 1) := by decide +kernel
theorem dL_law_521 : decode cL_law 521 = .ok (.iadd, 1) := by decide +kernel
theorem dL_law_522 : decode cL_law 522 = .ok (.iaload, 1) := by decide +kernel
theorem dL_law_523 : decode cL_law 523 = .ok (.invokevirtual 68, 3) := by decide +kernel
theorem dL_law_526 : decode cL_law 526 = .ok (.aload_n 2, 1) := by decide +kernel
theorem dL_law_527 : decode cL_law 527 = .ok (.aload_n 0, 1) := by decide +kernel
theorem dL_law_528 : decode cL_law 528 = .ok (.iload_n 3, 1) := by decide +kernel
theorem dL_law_529 : decode cL_law 529 = .ok (.iconst 1, 1) := by decide +kernel
theorem dL_law_530 : decode cL_law 530 = .ok (.iadd, 1) := by decide +kernel
theorem dL_law_531 : decode cL_law 531 = .ok (.iaload, 1) := by decide +kernel
theorem dL_law_532 : decode cL_law 532 = .ok (.invokevirtual 71, 3) := by decide +kernel
theorem dL_law_535 : decode cL_law 535 = .ok (.if_icmp .eq 458, 3) := by decide +kernel
theorem dL_law_538 : decode cL_law 538 = .ok (.iconst 0, 1) := by decide +kernel
theorem dL_law_539 : decode cL_law 539 = .ok (.ireturn, 1) := by decide +kernel
theorem dL_law_540 : decode cL_law 540 = .ok (.aload_n 1, 1) := by decide +kernel
theorem dL_law_541 : decode cL_law 541 = .ok (.invokevirtual 72, 3) := by decide +kernel
theorem dL_law_544 : decode cL_law 544 = .ok (.aload_n 2, 1) := by decide +kernel
theorem dL_law_545 : decode cL_law 545 = .ok (.invokevirtual 75, 3) := by decide +kernel
theorem dL_law_548 : decode cL_law 548 = .ok (.if_icmp .eq 445, 3) := by decide +kernel
theorem dL_law_551 : decode cL_law 551 = .ok (.iconst 0, 1) := by decide +kernel
theorem dL_law_552 : decode cL_law 552 = .ok (.ireturn, 1) := by decide +kernel
theorem dL_law_553 : decode cL_law 553 = .ok (.aload_n 1, 1) := by decide +kernel
theorem dL_law_554 : decode cL_law 554 = .ok (.aload_n 0, 1) := by decide +kernel
theorem dL_law_555 : decode cL_law 555 = .ok (.iload_n 3, 1) := by decide +kernel
theorem dL_law_556 : decode cL_law 556 = .ok (.iconst 1, 1) := by decide +kernel
theorem dL_law_557 : decode cL_law 557 = .ok (.iadd, 1) := by decide +kernel
theorem dL_law_558 : decode cL_law 558 = .ok (.iaload, 1) := by decide +kernel
theorem dL_law_559 : decode cL_law 559 = .ok (.invokevirtual 76, 3) := by decide +kernel
theorem dL_law_562 : decode cL_law 562 = .ok (.aload_n 2, 1) := by decide +kernel
theorem dL_law_563 : decode cL_law 563 = .ok (.aload_n 0, 1) := by decide +kernel
theorem dL_law_564 : decode cL_law 564 = .ok (.iload_n 3, 1) := by decide +kernel
theorem dL_law_565 : decode cL_law 565 = .ok (.iconst 1, 1) := by decide +kernel
theorem dL_law_566 : decode cL_law 566 = .ok (.iadd, 1) := by decide +kernel
theorem dL_law_567 : decode cL_law 567 = .ok (.iaload, 1) := by decide +kernel
theorem dL_law_568 : decode cL_law 568 = .ok (.invokevirtual 79, 3) := by decide +kernel
theorem dL_law_571 : decode cL_law 571 = .ok (.if_icmp .eq 422, 3) := by decide +kernel
theorem dL_law_574 : decode cL_law 574 = .ok (.iconst 0, 1) := by decide +kernel
theorem dL_law_575 : decode cL_law 575 = .ok (.ireturn, 1) := by decide +kernel
theorem dL_law_576 : decode cL_law 576 = .ok (.aload_n 1, 1) := by decide +kernel
theorem dL_law_577 : decode cL_law 577 = .ok (.aload_n 0, 1) := by decide +kernel
theorem dL_law_578 : decode cL_law 578 = .ok (.iload_n 3, 1) := by decide +kernel
theorem dL_law_579 : decode cL_law 579 = .ok (.iconst 1, 1) := by decide +kernel
theorem dL_law_580 : decode cL_law 580 = .ok (.iadd, 1) := by decide +kernel
theorem dL_law_581 : decode cL_law 581 = .ok (.iaload, 1) := by decide +kernel
theorem dL_law_582 : decode cL_law 582 = .ok (.invokevirtual 80, 3) := by decide +kernel
theorem dL_law_585 : decode cL_law 585 = .ok (.aload_n 2, 1) := by decide +kernel
theorem dL_law_586 : decode cL_law 586 = .ok (.aload_n 0, 1) := by decide +kernel
theorem dL_law_587 : decode cL_law 587 = .ok (.iload_n 3, 1) := by decide +kernel
theorem dL_law_588 : decode cL_law 588 = .ok (.iconst 1, 1) := by decide +kernel
theorem dL_law_589 : decode cL_law 589 = .ok (.iadd, 1) := by decide +kernel
theorem dL_law_590 : decode cL_law 590 = .ok (.iaload, 1) := by decide +kernel
theorem dL_law_591 : decode cL_law 591 = .ok (.invokevirtual 83, 3) := by decide +kernel
theorem dL_law_594 : decode cL_law 594 = .ok (.if_icmp .eq 399, 3) := by decide +kernel
theorem dL_law_597 : decode cL_law 597 = .ok (.iconst 0, 1) := by decide +kernel
theorem dL_law_598 : decode cL_law 598 = .ok (.ireturn, 1) := by decide +kernel
theorem dL_law_599 : decode cL_law 599 = .ok (.aload_n 1, 1) := by decide +kernel
theorem dL_law_600 : decode cL_law 600 = .ok (.aload_n 0, 1) := by decide +kernel
theorem dL_law_601 : decode cL_law 601 = .ok (.iload_n 3, 1) := by decide +kernel
theorem dL_law_602 : decode cL_law 602 = .ok (.iconst 1, 1) := by decide +kernel
theorem dL_law_603 : decode cL_law 603 = .ok (.iadd, 1) := by decide +kernel
theorem dL_law_604 : decode cL_law 604 = .ok (.iaload, 1) := by decide +kernel
theorem dL_law_605 : decode cL_law 605 = .ok (.aload_n 0, 1) := by decide +kernel
theorem dL_law_606 : decode cL_law 606 = .ok (.iload_n 3, 1) := by decide +kernel
theorem dL_law_607 : decode cL_law 607 = .ok (.iconst 2, 1) := by decide +kernel
theorem dL_law_608 : decode cL_law 608 = .ok (.iadd, 1) := by decide +kernel
theorem dL_law_609 : decode cL_law 609 = .ok (.iaload, 1) := by decide +kernel
theorem dL_law_610 : decode cL_law 610 = .ok (.invokevirtual 84, 3) := by decide +kernel
theorem dL_law_613 : decode cL_law 613 = .ok (.aload_n 2, 1) := by decide +kernel
theorem dL_law_614 : decode cL_law 614 = .ok (.aload_n 0, 1) := by decide +kernel
theorem dL_law_615 : decode cL_law 615 = .ok (.iload_n 3, 1) := by decide +kernel
theorem dL_law_616 : decode cL_law 616 = .ok (.iconst 1, 1) := by decide +kernel
theorem dL_law_617 : decode cL_law 617 = .ok (.iadd, 1) := by decide +kernel
theorem dL_law_618 : decode cL_law 618 = .ok (.iaload, 1) := by decide +kernel
theorem dL_law_619 : decode cL_law 619 = .ok (.aload_n 0, 1) := by decide +kernel
theorem dL_law_620 : decode cL_law 620 = .ok (.iload_n 3, 1) := by decide +kernel
theorem dL_law_621 : decode cL_law 621 = .ok (.iconst 2, 1) := by decide +kernel
theorem dL_law_622 : decode cL_law 622 = .ok (.iadd, 1) := by decide +kernel
theorem dL_law_623 : decode cL_law 623 = .ok (.iaload, 1) := by decide +kernel
theorem dL_law_624 : decode cL_law 624 = .ok (.invokevirtual 87, 3) := by decide +kernel
theorem dL_law_627 : decode cL_law 627 = .ok (.if_icmp .eq 366, 3) := by decide +kernel
theorem dL_law_630 : decode cL_law 630 = .ok (.iconst 0, 1) := by decide +kernel
theorem dL_law_631 : decode cL_law 631 = .ok (.ireturn, 1) := by decide +kernel
theorem dL_law_632 : decode cL_law 632 = .ok (.aload_n 1, 1) := by decide +kernel
theorem dL_law_633 : decode cL_law 633 = .ok (.aload_n 0, 1) := by decide +kernel
theorem dL_law_634 : decode cL_law 634 = .ok (.iload_n 3, 1) := by decide +kernel
theorem dL_law_635 : decode cL_law 635 = .ok (.iconst 1, 1) := by decide +kernel
theorem dL_law_636 : decode cL_law 636 = .ok (.iadd, 1) := by decide +kernel
theorem dL_law_637 : decode cL_law 637 = .ok (.iaload, 1) := by decide +kernel
theorem dL_law_638 : decode cL_law 638 = .ok (.invokevirtual 88, 3) := by decide +kernel
theorem dL_law_641 : decode cL_law 641 = .ok (.aload_n 2, 1) := by decide +kernel
theorem dL_law_642 : decode cL_law 642 = .ok (.aload_n 0, 1) := by decide +kernel
theorem dL_law_643 : decode cL_law 643 = .ok (.iload_n 3, 1) := by decide +kernel
theorem dL_law_644 : decode cL_law 644 = .ok (.iconst 1, 1) := by decide +kernel
theorem dL_law_645 : decode cL_law 645 = .ok (.iadd, 1) := by decide +kernel
theorem dL_law_646 : decode cL_law 646 = .ok (.iaload, 1) := by decide +kernel
theorem dL_law_647 : decode cL_law 647 = .ok (.invokevirtual 91, 3) := by decide +kernel
theorem dL_law_650 : decode cL_law 650 = .ok (.if_icmp .eq 343, 3) := by decide +kernel
theorem dL_law_653 : decode cL_law 653 = .ok (.iconst 0, 1) := by decide +kernel
theorem dL_law_654 : decode cL_law 654 = .ok (.ireturn, 1) := by decide +kernel
theorem dL_law_655 : decode cL_law 655 = .ok (.aload_n 1, 1) := by decide +kernel
theorem dL_law_656 : decode cL_law 656 = .ok (.aload_n 0, 1) := by decide +kernel
theorem dL_law_657 : decode cL_law 657 = .ok (.iload_n 3, 1) := by decide +kernel
theorem dL_law_658 : decode cL_law 658 = .ok (.iconst 1, 1) := by decide +kernel
theorem dL_law_659 : decode cL_law 659 = .ok (.iadd, 1) := by decide +kernel
theorem dL_law_660 : decode cL_law 660 = .ok (.iaload, 1) := by decide +kernel
theorem dL_law_661 : decode cL_law 661 = .ok (.aload_n 0, 1) := by decide +kernel
theorem dL_law_662 : decode cL_law 662 = .ok (.iload_n 3, 1) := by decide +kernel
theorem dL_law_663 : decode cL_law 663 = .ok (.iconst 2, 1) := by decide +kernel
theorem dL_law_664 : decode cL_law 664 = .ok (.iadd, 1) := by decide +kernel
theorem dL_law_665 : decode cL_law 665 = .ok (.iaload, 1) := by decide +kernel
theorem dL_law_666 : decode cL_law 666 = .ok (.invokevirtual 92, 3) := by decide +kernel
theorem dL_law_669 : decode cL_law 669 = .ok (.aload_n 2, 1) := by decide +kernel
theorem dL_law_670 : decode cL_law 670 = .ok (.aload_n 0, 1) := by decide +kernel
theorem dL_law_671 : decode cL_law 671 = .ok (.iload_n 3, 1) := by decide +kernel
theorem dL_law_672 : decode cL_law 672 = .ok (.iconst 1, 1) := by decide +kernel
theorem dL_law_673 : decode cL_law 673 = .ok (.iadd, 1) := by decide +kernel
theorem dL_law_674 : decode cL_law 674 = .ok (.iaload, 1) := by decide +kernel
theorem dL_law_675 : decode cL_law 675 = .ok (.aload_n 0, 1) := by decide +kernel
theorem dL_law_676 : decode cL_law 676 = .ok (.iload_n 3, 1) := by decide +kernel
theorem dL_law_677 : decode cL_law 677 = .ok (.iconst 2, 1) := by decide +kernel
theorem dL_law_678 : decode cL_law 678 = .ok (.iadd, 1) := by decide +kernel
theorem dL_law_679 : decode cL_law 679 = .ok (.iaload, 1) := by decide +kernel
theorem dL_law_680 : decode cL_law 680 = .ok (.invokevirtual 95, 3) := by decide +kernel
theorem dL_law_683 : decode cL_law 683 = .ok (.if_icmp .eq 310, 3) := by decide +kernel
theorem dL_law_686 : decode cL_law 686 = .ok (.iconst 0, 1) := by decide +kernel
theorem dL_law_687 : decode cL_law 687 = .ok (.ireturn, 1) := by decide +kernel
theorem dL_law_688 : decode cL_law 688 = .ok (.aload_n 1, 1) := by decide +kernel
theorem dL_law_689 : decode cL_law 689 = .ok (.invokevirtual 96, 3) := by decide +kernel
theorem dL_law_692 : decode cL_law 692 = .ok (.aload_n 2, 1) := by decide +kernel
theorem dL_law_693 : decode cL_law 693 = .ok (.invokevirtual 99, 3) := by decide +kernel
theorem dL_law_696 : decode cL_law 696 = .ok (.if_icmp .eq 297, 3) := by decide +kernel
theorem dL_law_699 : decode cL_law 699 = .ok (.iconst 0, 1) := by decide +kernel
theorem dL_law_700 : decode cL_law 700 = .ok (.ireturn, 1) := by decide +kernel
theorem dL_law_701 : decode cL_law 701 = .ok (.aload_n 1, 1) := by decide +kernel
theorem dL_law_702 : decode cL_law 702 = .ok (.invokevirtual 100, 3) := by decide +kernel
theorem dL_law_705 : decode cL_law 705 = .ok (.aload_n 2, 1) := by decide +kernel
theorem dL_law_706 : decode cL_law 706 = .ok (.invokevirtual 103, 3) := by decide +kernel
theorem dL_law_709 : decode cL_law 709 = .ok (.if_icmp .eq 284, 3) := by decide +kernel
theorem dL_law_712 : decode cL_law 712 = .ok (.iconst 0, 1) := by decide +kernel
theorem dL_law_713 : decode cL_law 713 = .ok (.ireturn, 1) := by decide +kernel
theorem dL_law_714 : decode cL_law 714 = .ok (.aload_n 1, 1) := by decide +kernel
theorem dL_law_715 : decode cL_law 715 = .ok (.invokevirtual 104, 3) := by decide +kernel
theorem dL_law_718 : decode cL_law 718 = .ok (.aload_n 2, 1) := by decide +kernel
theorem dL_law_719 : decode cL_law 719 = .ok (.invokevirtual 107, 3) := by decide +kernel
theorem dL_law_722 : decode cL_law 722 = .ok (.if_icmp .eq 271, 3) := by decide +kernel
theorem dL_law_725 : decode cL_law 725 = .ok (.iconst 0, 1) := by decide +kernel
theorem dL_law_726 : decode cL_law 726 = .ok (.ireturn, 1) := by decide +kernel
theorem dL_law_727 : decode cL_law 727 = .ok (.aload_n 1, 1) := by decide +kernel
theorem dL_law_728 : decode cL_law 728 = .ok (.invokevirtual 108, 3) := by decide +kernel
theorem dL_law_731 : decode cL_law 731 = .ok (.aload_n 2, 1) := by decide +kernel
theorem dL_law_732 : decode cL_law 732 = .ok (.invokevirtual 111, 3) := by decide +kernel
theorem dL_law_735 : decode cL_law 735 = .ok (.if_icmp .eq 258, 3) := by decide +kernel
theorem dL_law_738 : decode cL_law 738 = .ok (.iconst 0, 1) := by decide +kernel
theorem dL_law_739 : decode cL_law 739 = .ok (.ireturn, 1) := by decide +kernel
theorem dL_law_740 : decode cL_law 740 = .ok (.aload_n 1, 1) := by decide +kernel
theorem dL_law_741 : decode cL_law 741 = .ok (.aload_n 0, 1) := by decide +kernel
theorem dL_law_742 : decode cL_law 742 = .ok (.iload_n 3, 1) := by decide +kernel
theorem dL_law_743 : decode cL_law 743 = .ok (.iconst 1, 1) := by decide +kernel
theorem dL_law_744 : decode cL_law 744 = .ok (.iadd, 1) := by decide +kernel
theorem dL_law_745 : decode cL_law 745 = .ok (.iaload, 1) := by decide +kernel
theorem dL_law_746 : decode cL_law 746 = .ok (.invokevirtual 112, 3) := by decide +kernel
theorem dL_law_749 : decode cL_law 749 = .ok (.aload_n 2, 1) := by decide +kernel
theorem dL_law_750 : decode cL_law 750 = .ok (.aload_n 0, 1) := by decide +kernel
theorem dL_law_751 : decode cL_law 751 = .ok (.iload_n 3, 1) := by decide +kernel
theorem dL_law_752 : decode cL_law 752 = .ok (.iconst 1, 1) := by decide +kernel
theorem dL_law_753 : decode cL_law 753 = .ok (.iadd, 1) := by decide +kernel
theorem dL_law_754 : decode cL_law 754 = .ok (.iaload, 1) := by decide +kernel
theorem dL_law_755 : decode cL_law 755 = .ok (.invokevirtual 115, 3) := by decide +kernel
theorem dL_law_758 : decode cL_law 758 = .ok (.if_icmp .eq 235, 3) := by decide +kernel
theorem dL_law_761 : decode cL_law 761 = .ok (.iconst 0, 1) := by decide +kernel
theorem dL_law_762 : decode cL_law 762 = .ok (.ireturn, 1) := by decide +kernel
theorem dL_law_763 : decode cL_law 763 = .ok (.aload_n 1, 1) := by decide +kernel
theorem dL_law_764 : decode cL_law 764 = .ok (.aload_n 0, 1) := by decide +kernel
theorem dL_law_765 : decode cL_law 765 = .ok (.iload_n 3, 1) := by decide +kernel
theorem dL_law_766 : decode cL_law 766 = .ok (.iconst 1, 1) := by decide +kernel
theorem dL_law_767 : decode cL_law 767 = .ok (.iadd, 1) := by decide +kernel
theorem dL_law_768 : decode cL_law 768 = .ok (.iaload, 1) := by decide +kernel
theorem dL_law_769 : decode cL_law 769 = .ok (.invokevirtual 116, 3) := by decide +kernel
theorem dL_law_772 : decode cL_law 772 = .ok (.aload_n 2, 1) := by decide +kernel
theorem dL_law_773 : decode cL_law 773 = .ok (.aload_n 0, 1) := by decide +kernel
theorem dL_law_774 : decode cL_law 774 = .ok (.iload_n 3, 1) := by decide +kernel
theorem dL_law_775 : decode cL_law 775 = .ok (.iconst 1, 1) := by decide +kernel
theorem dL_law_776 : decode cL_law 776 = .ok (.iadd, 1) := by decide +kernel
theorem dL_law_777 : decode cL_law 777 = .ok (.iaload, 1) := by decide +kernel
theorem dL_law_778 : decode cL_law 778 = .ok (.invokevirtual 119, 3) := by decide +kernel
theorem dL_law_781 : decode cL_law 781 = .ok (.if_icmp .eq 212, 3) := by decide +kernel
theorem dL_law_784 : decode cL_law 784 = .ok (.iconst 0, 1) := by decide +kernel
theorem dL_law_785 : decode cL_law 785 = .ok (.ireturn, 1) := by decide +kernel
theorem dL_law_786 : decode cL_law 786 = .ok (.aload_n 1, 1) := by decide +kernel
theorem dL_law_787 : decode cL_law 787 = .ok (.aload_n 0, 1) := by decide +kernel
theorem dL_law_788 : decode cL_law 788 = .ok (.iload_n 3, 1) := by decide +kernel
theorem dL_law_789 : decode cL_law 789 = .ok (.iconst 1, 1) := by decide +kernel
theorem dL_law_790 : decode cL_law 790 = .ok (.iadd, 1) := by decide +kernel
theorem dL_law_791 : decode cL_law 791 = .ok (.iaload, 1) := by decide +kernel
theorem dL_law_792 : decode cL_law 792 = .ok (.aload_n 0, 1) := by decide +kernel
theorem dL_law_793 : decode cL_law 793 = .ok (.iload_n 3, 1) := by decide +kernel
theorem dL_law_794 : decode cL_law 794 = .ok (.iconst 2, 1) := by decide +kernel
theorem dL_law_795 : decode cL_law 795 = .ok (.iadd, 1) := by decide +kernel
theorem dL_law_796 : decode cL_law 796 = .ok (.iaload, 1) := by decide +kernel
theorem dL_law_797 : decode cL_law 797 = .ok (.invokevirtual 120, 3) := by decide +kernel
theorem dL_law_800 : decode cL_law 800 = .ok (.aload_n 2, 1) := by decide +kernel
theorem dL_law_801 : decode cL_law 801 = .ok (.aload_n 0, 1) := by decide +kernel
theorem dL_law_802 : decode cL_law 802 = .ok (.iload_n 3, 1) := by decide +kernel
theorem dL_law_803 : decode cL_law 803 = .ok (.iconst 1, 1) := by decide +kernel
theorem dL_law_804 : decode cL_law 804 = .ok (.iadd, 1) := by decide +kernel
theorem dL_law_805 : decode cL_law 805 = .ok (.iaload, 1) := by decide +kernel
theorem dL_law_806 : decode cL_law 806 = .ok (.aload_n 0, 1) := by decide +kernel
theorem dL_law_807 : decode cL_law 807 = .ok (.iload_n 3, 1) := by decide +kernel
theorem dL_law_808 : decode cL_law 808 = .ok (.iconst 2, 1) := by decide +kernel
theorem dL_law_809 : decode cL_law 809 = .ok (.iadd, 1) := by decide +kernel
theorem dL_law_810 : decode cL_law 810 = .ok (.iaload, 1) := by decide +kernel
theorem dL_law_811 : decode cL_law 811 = .ok (.invokevirtual 123, 3) := by decide +kernel
theorem dL_law_814 : decode cL_law 814 = .ok (.if_icmp .eq 179, 3) := by decide +kernel
theorem dL_law_817 : decode cL_law 817 = .ok (.iconst 0, 1) := by decide +kernel
theorem dL_law_818 : decode cL_law 818 = .ok (.ireturn, 1) := by decide +kernel
theorem dL_law_819 : decode cL_law 819 = .ok (.aload_n 1, 1) := by decide +kernel
theorem dL_law_820 : decode cL_law 820 = .ok (.aload_n 0, 1) := by decide +kernel
theorem dL_law_821 : decode cL_law 821 = .ok (.iload_n 3, 1) := by decide +kernel
theorem dL_law_822 : decode cL_law 822 = .ok (.iconst 1, 1) := by decide +kernel
theorem dL_law_823 : decode cL_law 823 = .ok (.iadd, 1) := by decide +kernel
theorem dL_law_824 : decode cL_law 824 = .ok (.iaload, 1) := by decide +kernel
theorem dL_law_825 : decode cL_law 825 = .ok (.aload_n 0, 1) := by decide +kernel
theorem dL_law_826 : decode cL_law 826 = .ok (.iload_n 3, 1) := by decide +kernel
theorem dL_law_827 : decode cL_law 827 = .ok (.iconst 2, 1) := by decide +kernel
theorem dL_law_828 : decode cL_law 828 = .ok (.iadd, 1) := by decide +kernel
theorem dL_law_829 : decode cL_law 829 = .ok (.iaload, 1) := by decide +kernel
theorem dL_law_830 : decode cL_law 830 = .ok (.invokevirtual 124, 3) := by decide +kernel
theorem dL_law_833 : decode cL_law 833 = .ok (.aload_n 2, 1) := by decide +kernel
theorem dL_law_834 : decode cL_law 834 = .ok (.aload_n 0, 1) := by decide +kernel
theorem dL_law_835 : decode cL_law 835 = .ok (.iload_n 3, 1) := by decide +kernel
theorem dL_law_836 : decode cL_law 836 = .ok (.iconst 1, 1) := by decide +kernel
theorem dL_law_837 : decode cL_law 837 = .ok (.iadd, 1) := by decide +kernel
theorem dL_law_838 : decode cL_law 838 = .ok (.iaload, 1) := by decide +kernel
theorem dL_law_839 : decode cL_law 839 = .ok (.aload_n 0, 1) := by decide +kernel
theorem dL_law_840 : decode cL_law 840 = .ok (.iload_n 3, 1) := by decide +kernel
theorem dL_law_841 : decode cL_law 841 = .ok (.iconst 2, 1) := by decide +kernel
theorem dL_law_842 : decode cL_law 842 = .ok (.iadd, 1) := by decide +kernel
theorem dL_law_843 : decode cL_law 843 = .ok (.iaload, 1) := by decide +kernel
theorem dL_law_844 : decode cL_law 844 = .ok (.invokevirtual 127, 3) := by decide +kernel
theorem dL_law_847 : decode cL_law 847 = .ok (.if_icmp .eq 146, 3) := by decide +kernel
theorem dL_law_850 : decode cL_law 850 = .ok (.iconst 0, 1) := by decide +kernel
theorem dL_law_851 : decode cL_law 851 = .ok (.ireturn, 1) := by decide +kernel
theorem dL_law_852 : decode cL_law 852 = .ok (.aload_n 1, 1) := by decide +kernel
theorem dL_law_853 : decode cL_law 853 = .ok (.aload_n 0, 1) := by decide +kernel
theorem dL_law_854 : decode cL_law 854 = .ok (.iload_n 3, 1) := by decide +kernel
theorem dL_law_855 : decode cL_law 855 = .ok (.iconst 1, 1) := by decide +kernel
theorem dL_law_856 : decode cL_law 856 = .ok (.iadd, 1) := by decide +kernel
theorem dL_law_857 : decode cL_law 857 = .ok (.iaload, 1) := by decide +kernel
theorem dL_law_858 : decode cL_law 858 = .ok (.invokevirtual 128, 3) := by decide +kernel
theorem dL_law_861 : decode cL_law 861 = .ok (.aload_n 2, 1) := by decide +kernel
theorem dL_law_862 : decode cL_law 862 = .ok (.aload_n 0, 1) := by decide +kernel
theorem dL_law_863 : decode cL_law 863 = .ok (.iload_n 3, 1) := by decide +kernel
theorem dL_law_864 : decode cL_law 864 = .ok (.iconst 1, 1) := by decide +kernel
theorem dL_law_865 : decode cL_law 865 = .ok (.iadd, 1) := by decide +kernel
theorem dL_law_866 : decode cL_law 866 = .ok (.iaload, 1) := by decide +kernel
theorem dL_law_867 : decode cL_law 867 = .ok (.invokevirtual 131, 3) := by decide +kernel
theorem dL_law_870 : decode cL_law 870 = .ok (.if_icmp .eq 123, 3) := by decide +kernel
theorem dL_law_873 : decode cL_law 873 = .ok (.iconst 0, 1) := by decide +kernel
theorem dL_law_874 : decode cL_law 874 = .ok (.ireturn, 1) := by decide +kernel
theorem dL_law_875 : decode cL_law 875 = .ok (.aload_n 1, 1) := by decide +kernel
theorem dL_law_876 : decode cL_law 876 = .ok (.invokevirtual 132, 3) := by decide +kernel
theorem dL_law_879 : decode cL_law 879 = .ok (.aload_n 2, 1) := by decide +kernel
theorem dL_law_880 : decode cL_law 880 = .ok (.invokevirtual 135, 3) := by decide +kernel
theorem dL_law_883 : decode cL_law 883 = .ok (.if_icmp .eq 110, 3) := by decide +kernel
theorem dL_law_886 : decode cL_law 886 = .ok (.iconst 0, 1) := by decide +kernel
theorem dL_law_887 : decode cL_law 887 = .ok (.ireturn, 1) := by decide +kernel
theorem dL_law_888 : decode cL_law 888 = .ok (.aload_n 1, 1) := by decide +kernel
theorem dL_law_889 : decode cL_law 889 = .ok (.invokevirtual 136, 3) := by decide +kernel
theorem dL_law_892 : decode cL_law 892 = .ok (.aload_n 2, 1) := by decide +kernel
theorem dL_law_893 : decode cL_law 893 = .ok (.invokevirtual 139, 3) := by decide +kernel
theorem dL_law_896 : decode cL_law 896 = .ok (.if_icmp .eq 97, 3) := by decide +kernel
theorem dL_law_899 : decode cL_law 899 = .ok (.iconst 0, 1) := by decide +kernel
theorem dL_law_900 : decode cL_law 900 = .ok (.ireturn, 1) := by decide +kernel
theorem dL_law_901 : decode cL_law 901 = .ok (.aload_n 1, 1) := by decide +kernel
theorem dL_law_902 : decode cL_law 902 = .ok (.aload_n 0, 1) := by decide +kernel
theorem dL_law_903 : decode cL_law 903 = .ok (.iload_n 3, 1) := by decide +kernel
theorem dL_law_904 : decode cL_law 904 = .ok (.iconst 1, 1) := by decide +kernel
theorem dL_law_905 : decode cL_law 905 = .ok (.iadd, 1) := by decide +kernel
theorem dL_law_906 : decode cL_law 906 = .ok (.iaload, 1) := by decide +kernel
theorem dL_law_907 : decode cL_law 907 = .ok (.aload_n 0, 1) := by decide +kernel
theorem dL_law_908 : decode cL_law 908 = .ok (.iload_n 3, 1) := by decide +kernel
theorem dL_law_909 : decode cL_law 909 = .ok (.iconst 2, 1) := by decide +kernel
theorem dL_law_910 : decode cL_law 910 = .ok (.iadd, 1) := by decide +kernel
theorem dL_law_911 : decode cL_law 911 = .ok (.iaload, 1) := by decide +kernel
theorem dL_law_912 : decode cL_law 912 = .ok (.aload_n 0, 1) := by decide +kernel
theorem dL_law_913 : decode cL_law 913 = .ok (.iload_n 3, 1) := by decide +kernel
theorem dL_law_914 : decode cL_law 914 = .ok (.iconst 3, 1) := by decide +kernel
theorem dL_law_915 : decode cL_law 915 = .ok (.iadd, 1) := by decide +kernel
theorem dL_law_916 : decode cL_law 916 = .ok (.iaload, 1) := by decide +kernel
theorem dL_law_917 : decode cL_law 917 = .ok (.invokevirtual 140, 3) := by decide +kernel
theorem dL_law_920 : decode cL_law 920 = .ok (.aload_n 2, 1) := by decide +kernel
theorem dL_law_921 : decode cL_law 921 = .ok (.aload_n 0, 1) := by decide +kernel
theorem dL_law_922 : decode cL_law 922 = .ok (.iload_n 3, 1) := by decide +kernel
theorem dL_law_923 : decode cL_law 923 = .ok (.iconst 1, 1) := by decide +kernel
theorem dL_law_924 : decode cL_law 924 = .ok (.iadd, 1) := by decide +kernel
theorem dL_law_925 : decode cL_law 925 = .ok (.iaload, 1) := by decide +kernel
theorem dL_law_926 : decode cL_law 926 = .ok (.aload_n 0, 1) := by decide +kernel
theorem dL_law_927 : decode cL_law 927 = .ok (.iload_n 3, 1) := by decide +kernel
theorem dL_law_928 : decode cL_law 928 = .ok (.iconst 2, 1) := by decide +kernel
theorem dL_law_929 : decode cL_law 929 = .ok (.iadd, 1) := by decide +kernel
theorem dL_law_930 : decode cL_law 930 = .ok (.iaload, 1) := by decide +kernel
theorem dL_law_931 : decode cL_law 931 = .ok (.aload_n 0, 1) := by decide +kernel
theorem dL_law_932 : decode cL_law 932 = .ok (.iload_n 3, 1) := by decide +kernel
theorem dL_law_933 : decode cL_law 933 = .ok (.iconst 3, 1) := by decide +kernel
theorem dL_law_934 : decode cL_law 934 = .ok (.iadd, 1) := by decide +kernel
theorem dL_law_935 : decode cL_law 935 = .ok (.iaload, 1) := by decide +kernel
theorem dL_law_936 : decode cL_law 936 = .ok (.invokevirtual 144, 3) := by decide +kernel
theorem dL_law_939 : decode cL_law 939 = .ok (.if_icmp .eq 54, 3) := by decide +kernel
theorem dL_law_942 : decode cL_law 942 = .ok (.iconst 0, 1) := by decide +kernel
theorem dL_law_943 : decode cL_law 943 = .ok (.ireturn, 1) := by decide +kernel
theorem dL_law_944 : decode cL_law 944 = .ok (.aload_n 1, 1) := by decide +kernel
theorem dL_law_945 : decode cL_law 945 = .ok (.invokevirtual 145, 3) := by decide +kernel
theorem dL_law_948 : decode cL_law 948 = .ok (.aload_n 2, 1) := by decide +kernel
theorem dL_law_949 : decode cL_law 949 = .ok (.invokevirtual 148, 3) := by decide +kernel
theorem dL_law_952 : decode cL_law 952 = .ok (.if_icmp .eq 41, 3) := by decide +kernel
theorem dL_law_955 : decode cL_law 955 = .ok (.iconst 0, 1) := by decide +kernel
theorem dL_law_956 : decode cL_law 956 = .ok (.ireturn, 1) := by decide +kernel
theorem dL_law_957 : decode cL_law 957 = .ok (.aload_n 1, 1) := by decide +kernel
theorem dL_law_958 : decode cL_law 958 = .ok (.invokevirtual 149, 3) := by decide +kernel
theorem dL_law_961 : decode cL_law 961 = .ok (.aload_n 2, 1) := by decide +kernel
theorem dL_law_962 : decode cL_law 962 = .ok (.invokevirtual 152, 3) := by decide +kernel
theorem dL_law_965 : decode cL_law 965 = .ok (.if_icmp .eq 28, 3) := by decide +kernel
theorem dL_law_968 : decode cL_law 968 = .ok (.iconst 0, 1) := by decide +kernel
theorem dL_law_969 : decode cL_law 969 = .ok (.ireturn, 1) := by decide +kernel
theorem dL_law_970 : decode cL_law 970 = .ok (.aload_n 1, 1) := by decide +kernel
theorem dL_law_971 : decode cL_law 971 = .ok (.aload_n 0, 1) := by decide +kernel
theorem dL_law_972 : decode cL_law 972 = .ok (.iload_n 3, 1) := by decide +kernel
theorem dL_law_973 : decode cL_law 973 = .ok (.iconst 1, 1) := by decide +kernel
theorem dL_law_974 : decode cL_law 974 = .ok (.iadd, 1) := by decide +kernel
theorem dL_law_975 : decode cL_law 975 = .ok (.iaload, 1) := by decide +kernel
theorem dL_law_976 : decode cL_law 976 = .ok (.invokevirtual 153, 3) := by decide +kernel
theorem dL_law_979 : decode cL_law 979 = .ok (.aload_n 2, 1) := by decide +kernel
theorem dL_law_980 : decode cL_law 980 = .ok (.aload_n 0, 1) := by decide +kernel
theorem dL_law_981 : decode cL_law 981 = .ok (.iload_n 3, 1) := by decide +kernel
theorem dL_law_982 : decode cL_law 982 = .ok (.iconst 1, 1) := by decide +kernel
theorem dL_law_983 : decode cL_law 983 = .ok (.iadd, 1) := by decide +kernel
theorem dL_law_984 : decode cL_law 984 = .ok (.iaload, 1) := by decide +kernel
theorem dL_law_985 : decode cL_law 985 = .ok (.invokevirtual 156, 3) := by decide +kernel
theorem dL_law_988 : decode cL_law 988 = .ok (.if_icmp .eq 5, 3) := by decide +kernel
theorem dL_law_991 : decode cL_law 991 = .ok (.iconst 0, 1) := by decide +kernel
theorem dL_law_992 : decode cL_law 992 = .ok (.ireturn, 1) := by decide +kernel
theorem dL_law_993 : decode cL_law 993 = .ok (.iinc 3 4, 3) := by decide +kernel
theorem dL_law_996 : decode cL_law 996 = .ok (.goto (-978), 3) := by decide +kernel
theorem dL_law_999 : decode cL_law 999 = .ok (.iconst 1, 1) := by decide +kernel
theorem dL_law_1000 : decode cL_law 1000 = .ok (.ireturn, 1) := by decide +kernel
