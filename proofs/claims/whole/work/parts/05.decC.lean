theorem dX7_init_0 : decode cX7_init 0 = .ok (.aload_n 0, 1) := by decide +kernel
theorem dX7_init_1 : decode cX7_init 1 = .ok (.invokespecial 1, 3) := by decide +kernel
theorem dX7_init_4 : decode cX7_init 4 = .ok (.aload_n 0, 1) := by decide +kernel
theorem dX7_init_5 : decode cX7_init 5 = .ok (.bipush 9, 2) := by decide +kernel
theorem dX7_init_7 : decode cX7_init 7 = .ok (.newarray .int, 2) := by decide +kernel
theorem dX7_init_9 : decode cX7_init 9 = .ok (.putfield 7, 3) := by decide +kernel
theorem dX7_init_12 : decode cX7_init 12 = .ok (.aload_n 0, 1) := by decide +kernel
theorem dX7_init_13 : decode cX7_init 13 = .ok (.bipush 9, 2) := by decide +kernel
theorem dX7_init_15 : decode cX7_init 15 = .ok (.newarray .int, 2) := by decide +kernel
theorem dX7_init_17 : decode cX7_init 17 = .ok (.putfield 13, 3) := by decide +kernel
theorem dX7_init_20 : decode cX7_init 20 = .ok (.aload_n 0, 1) := by decide +kernel
theorem dX7_init_21 : decode cX7_init 21 = .ok (.bipush 9, 2) := by decide +kernel
theorem dX7_init_23 : decode cX7_init 23 = .ok (.newarray .int, 2) := by decide +kernel
theorem dX7_init_25 : decode cX7_init 25 = .ok (.putfield 16, 3) := by decide +kernel
theorem dX7_init_28 : decode cX7_init 28 = .ok (.aload_n 0, 1) := by decide +kernel
theorem dX7_init_29 : decode cX7_init 29 = .ok (.bipush 9, 2) := by decide +kernel
theorem dX7_init_31 : decode cX7_init 31 = .ok (.newarray .int, 2) := by decide +kernel
theorem dX7_init_33 : decode cX7_init 33 = .ok (.putfield 19, 3) := by decide +kernel
theorem dX7_init_36 : decode cX7_init 36 = .ok (.aload_n 0, 1) := by decide +kernel
theorem dX7_init_37 : decode cX7_init 37 = .ok (.bipush 9, 2) := by decide +kernel
theorem dX7_init_39 : decode cX7_init 39 = .ok (.newarray .int, 2) := by decide +kernel
theorem dX7_init_41 : decode cX7_init 41 = .ok (.putfield 22, 3) := by decide +kernel
theorem dX7_init_44 : decode cX7_init 44 = .ok (.aload_n 0, 1) := by decide +kernel
theorem dX7_init_45 : decode cX7_init 45 = .ok (.bipush 96, 2) := by decide +kernel
theorem dX7_init_47 : decode cX7_init 47 = .ok (.newarray .int, 2) := by decide +kernel
theorem dX7_init_49 : decode cX7_init 49 = .ok (.putfield 25, 3) := by decide +kernel
theorem dX7_init_52 : decode cX7_init 52 = .ok (.aload_n 0, 1) := by decide +kernel
theorem dX7_init_53 : decode cX7_init 53 = .ok (.bipush 8, 2) := by decide +kernel
theorem dX7_init_55 : decode cX7_init 55 = .ok (.newarray .int, 2) := by decide +kernel
theorem dX7_init_57 : decode cX7_init 57 = .ok (.putfield 28, 3) := by decide +kernel
theorem dX7_init_60 : decode cX7_init 60 = .ok (.aload_n 0, 1) := by decide +kernel
theorem dX7_init_61 : decode cX7_init 61 = .ok (.bipush 12, 2) := by decide +kernel
theorem dX7_init_63 : decode cX7_init 63 = .ok (.newarray .int, 2) := by decide +kernel
theorem dX7_init_65 : decode cX7_init 65 = .ok (.putfield 31, 3) := by decide +kernel
theorem dX7_init_68 : decode cX7_init 68 = .ok (.aload_n 0, 1) := by decide +kernel
theorem dX7_init_69 : decode cX7_init 69 = .ok (.bipush 7, 2) := by decide +kernel
theorem dX7_init_71 : decode cX7_init 71 = .ok (.newarray .int, 2) := by decide +kernel
theorem dX7_init_73 : decode cX7_init 73 = .ok (.putfield 34, 3) := by decide +kernel
theorem dX7_init_76 : decode cX7_init 76 = .ok (.aload_n 0, 1) := by decide +kernel
theorem dX7_init_77 : decode cX7_init 77 = .ok (.bipush 48, 2) := by decide +kernel
theorem dX7_init_79 : decode cX7_init 79 = .ok (.newarray .int, 2) := by decide +kernel
theorem dX7_init_81 : decode cX7_init 81 = .ok (.putfield 37, 3) := by decide +kernel
theorem dX7_init_84 : decode cX7_init 84 = .ok (.aload_n 0, 1) := by decide +kernel
theorem dX7_init_85 : decode cX7_init 85 = .ok (.bipush 48, 2) := by decide +kernel
theorem dX7_init_87 : decode cX7_init 87 = .ok (.newarray .int, 2) := by decide +kernel
theorem dX7_init_89 : decode cX7_init 89 = .ok (.putfield 40, 3) := by decide +kernel
theorem dX7_init_92 : decode cX7_init 92 = .ok (.aload_n 0, 1) := by decide +kernel
theorem dX7_init_93 : decode cX7_init 93 = .ok (.bipush 48, 2) := by decide +kernel
theorem dX7_init_95 : decode cX7_init 95 = .ok (.newarray .int, 2) := by decide +kernel
theorem dX7_init_97 : decode cX7_init 97 = .ok (.putfield 43, 3) := by decide +kernel
theorem dX7_init_100 : decode cX7_init 100 = .ok (.aload_n 0, 1) := by decide +kernel
theorem dX7_init_101 : decode cX7_init 101 = .ok (.bipush 9, 2) := by decide +kernel
theorem dX7_init_103 : decode cX7_init 103 = .ok (.newarray .int, 2) := by decide +kernel
theorem dX7_init_105 : decode cX7_init 105 = .ok (.putfield 46, 3) := by decide +kernel
theorem dX7_init_108 : decode cX7_init 108 = .ok (.aload_n 0, 1) := by decide +kernel
theorem dX7_init_109 : decode cX7_init 109 = .ok (.bipush 9, 2) := by decide +kernel
theorem dX7_init_111 : decode cX7_init 111 = .ok (.newarray .int, 2) := by decide +kernel
theorem dX7_init_113 : decode cX7_init 113 = .ok (.putfield 49, 3) := by decide +kernel
theorem dX7_init_116 : decode cX7_init 116 = .ok (.aload_n 0, 1) := by decide +kernel
theorem dX7_init_117 : decode cX7_init 117 = .ok (.bipush 9, 2) := by decide +kernel
theorem dX7_init_119 : decode cX7_init 119 = .ok (.newarray .int, 2) := by decide +kernel
theorem dX7_init_121 : decode cX7_init 121 = .ok (.putfield 52, 3) := by decide +kernel
theorem dX7_init_124 : decode cX7_init 124 = .ok (.aload_n 0, 1) := by decide +kernel
theorem dX7_init_125 : decode cX7_init 125 = .ok (.iconst 1, 1) := by decide +kernel
theorem dX7_init_126 : decode cX7_init 126 = .ok (.putfield 55, 3) := by decide +kernel
theorem dX7_init_129 : decode cX7_init 129 = .ok (.return_, 1) := by decide +kernel
theorem dX7_no_0 : decode cX7_no 0 = .ok (.aload_n 0, 1) := by decide +kernel
theorem dX7_no_1 : decode cX7_no 1 = .ok (.getfield 34, 3) := by decide +kernel
theorem dX7_no_4 : decode cX7_no 4 = .ok (.iload_n 1, 1) := by decide +kernel
theorem dX7_no_5 : decode cX7_no 5 = .ok (.ineg, 1) := by decide +kernel
theorem dX7_no_6 : decode cX7_no 6 = .ok (.dup2, 1) := by decide +kernel
theorem dX7_no_7 : decode cX7_no 7 = .ok (.iaload, 1) := by decide +kernel
theorem dX7_no_8 : decode cX7_no 8 = .ok (.iconst 1, 1) := by decide +kernel
theorem dX7_no_9 : decode cX7_no 9 = .ok (.iadd, 1) := by decide +kernel
theorem dX7_no_10 : decode cX7_no 10 = .ok (.iastore, 1) := by decide +kernel
theorem dX7_no_11 : decode cX7_no 11 = .ok (.iload_n 1, 1) := by decide +kernel
theorem dX7_no_12 : decode cX7_no 12 = .ok (.ireturn, 1) := by decide +kernel
theorem dX7_within_0 : decode cX7_within 0 = .ok (.iload_n 0, 1) := by decide +kernel
theorem dX7_within_1 : decode cX7_within 1 = .ok (.iload_n 1, 1) := by decide +kernel
theorem dX7_within_2 : decode cX7_within 2 = .ok (.if_icmp .lt 12, 3) := by decide +kernel
theorem dX7_within_5 : decode cX7_within 5 = .ok (.iload_n 0, 1) := by decide +kernel
theorem dX7_within_6 : decode cX7_within 6 = .ok (.iload_n 2, 1) := by decide +kernel
theorem dX7_within_7 : decode cX7_within 7 = .ok (.if_icmp .gt 7, 3) := by decide +kernel
theorem dX7_within_10 : decode cX7_within 10 = .ok (.iconst 1, 1) := by decide +kernel
theorem dX7_within_11 : decode cX7_within 11 = .ok (.goto 4, 3) := by decide +kernel
theorem dX7_within_14 : decode cX7_within 14 = .ok (.iconst 0, 1) := by decide +kernel
theorem dX7_within_15 : decode cX7_within 15 = .ok (.ireturn, 1) := by decide +kernel
theorem dX7_isCar_0 : decode cX7_isCar 0 = .ok (.iload_n 1, 1) := by decide +kernel
theorem dX7_isCar_1 : decode cX7_isCar 1 = .ok (.iconst 0, 1) := by decide +kernel
theorem dX7_isCar_2 : decode cX7_isCar 2 = .ok (.aload_n 0, 1) := by decide +kernel
theorem dX7_isCar_3 : decode cX7_isCar 3 = .ok (.getfield 59, 3) := by decide +kernel
theorem dX7_isCar_6 : decode cX7_isCar 6 = .ok (.iconst 1, 1) := by decide +kernel
theorem dX7_isCar_7 : decode cX7_isCar 7 = .ok (.isub, 1) := by decide +kernel
theorem dX7_isCar_8 : decode cX7_isCar 8 = .ok (.invokestatic 62, 3) := by decide +kernel
theorem dX7_isCar_11 : decode cX7_isCar 11 = .ok (.ireturn, 1) := by decide +kernel
theorem dX7_letter_0 : decode cX7_letter 0 = .ok (.iload_n 1, 1) := by decide +kernel
theorem dX7_letter_1 : decode cX7_letter 1 = .ok (.ifCond .ge 10, 3) := by decide +kernel
theorem dX7_letter_4 : decode cX7_letter 4 = .ok (.aload_n 0, 1) := by decide +kernel
theorem dX7_letter_5 : decode cX7_letter 5 = .ok (.bipush (-4), 2) := by decide +kernel
theorem dX7_letter_7 : decode cX7_letter 7 = .ok (.invokevirtual 66, 3) := by decide +kernel
theorem dX7_letter_10 : decode cX7_letter 10 = .ok (.ireturn, 1) := by decide +kernel
theorem dX7_letter_11 : decode cX7_letter 11 = .ok (.iload_n 1, 1) := by decide +kernel
theorem dX7_letter_12 : decode cX7_letter 12 = .ok (.sipush 255, 3) := by decide +kernel
theorem dX7_letter_15 : decode cX7_letter 15 = .ok (.if_icmp .gt 12, 3) := by decide +kernel
theorem dX7_letter_18 : decode cX7_letter 18 = .ok (.aload_n 0, 1) := by decide +kernel
theorem dX7_letter_19 : decode cX7_letter 19 = .ok (.getfield 70, 3) := by decide +kernel
theorem dX7_letter_22 : decode cX7_letter 22 = .ok (.bipush 96, 2) := by decide +kernel
theorem dX7_letter_24 : decode cX7_letter 24 = .ok (.if_icmp .ne 10, 3) := by decide +kernel
theorem dX7_letter_27 : decode cX7_letter 27 = .ok (.aload_n 0, 1) := by decide +kernel
theorem dX7_letter_28 : decode cX7_letter 28 = .ok (.bipush (-6), 2) := by decide +kernel
theorem dX7_letter_30 : decode cX7_letter 30 = .ok (.invokevirtual 66, 3) := by decide +kernel
theorem dX7_letter_33 : decode cX7_letter 33 = .ok (.ireturn, 1) := by decide +kernel
theorem dX7_letter_34 : decode cX7_letter 34 = .ok (.aload_n 0, 1) := by decide +kernel
theorem dX7_letter_35 : decode cX7_letter 35 = .ok (.getfield 25, 3) := by decide +kernel
theorem dX7_letter_38 : decode cX7_letter 38 = .ok (.aload_n 0, 1) := by decide +kernel
theorem dX7_letter_39 : decode cX7_letter 39 = .ok (.dup, 1) := by decide +kernel
theorem dX7_letter_40 : decode cX7_letter 40 = .ok (.getfield 70, 3) := by decide +kernel
theorem dX7_letter_43 : decode cX7_letter 43 = .ok (.dup_x1, 1) := by decide +kernel
theorem dX7_letter_44 : decode cX7_letter 44 = .ok (.iconst 1, 1) := by decide +kernel
theorem dX7_letter_45 : decode cX7_letter 45 = .ok (.iadd, 1) := by decide +kernel
theorem dX7_letter_46 : decode cX7_letter 46 = .ok (.putfield 70, 3) := by decide +kernel
theorem dX7_letter_49 : decode cX7_letter 49 = .ok (.iload_n 1, 1) := by decide +kernel
theorem dX7_letter_50 : decode cX7_letter 50 = .ok (.iastore, 1) := by decide +kernel
theorem dX7_letter_51 : decode cX7_letter 51 = .ok (.aload_n 0, 1) := by decide +kernel
theorem dX7_letter_52 : decode cX7_letter 52 = .ok (.getfield 70, 3) := by decide +kernel
theorem dX7_letter_55 : decode cX7_letter 55 = .ok (.ireturn, 1) := by decide +kernel
theorem dX7_is_0 : decode cX7_is 0 = .ok (.aload_n 0, 1) := by decide +kernel
theorem dX7_is_1 : decode cX7_is 1 = .ok (.getfield 73, 3) := by decide +kernel
theorem dX7_is_4 : decode cX7_is 4 = .ok (.aload_n 0, 1) := by decide +kernel
theorem dX7_is_5 : decode cX7_is 5 = .ok (.getfield 70, 3) := by decide +kernel
theorem dX7_is_8 : decode cX7_is 8 = .ok (.if_icmp .eq 16, 3) := by decide +kernel
theorem dX7_is_11 : decode cX7_is 11 = .ok (.aload_n 0, 1) := by decide +kernel
theorem dX7_is_12 : decode cX7_is 12 = .ok (.getfield 25, 3) := by decide +kernel
theorem dX7_is_15 : decode cX7_is 15 = .ok (.aload_n 0, 1) := by decide +kernel
theorem dX7_is_16 : decode cX7_is 16 = .ok (.getfield 73, 3) := by decide +kernel
theorem dX7_is_19 : decode cX7_is 19 = .ok (.iaload, 1) := by decide +kernel
theorem dX7_is_20 : decode cX7_is 20 = .ok (.iload_n 1, 1) := by decide +kernel
theorem dX7_is_21 : decode cX7_is 21 = .ok (.if_icmp .eq 5, 3) := by decide +kernel
theorem dX7_is_24 : decode cX7_is 24 = .ok (.iconst 0, 1) := by decide +kernel
theorem dX7_is_25 : decode cX7_is 25 = .ok (.ireturn, 1) := by decide +kernel
theorem dX7_is_26 : decode cX7_is 26 = .ok (.aload_n 0, 1) := by decide +kernel
theorem dX7_is_27 : decode cX7_is 27 = .ok (.dup, 1) := by decide +kernel
theorem dX7_is_28 : decode cX7_is 28 = .ok (.getfield 73, 3) := by decide +kernel
theorem dX7_is_31 : decode cX7_is 31 = .ok (.iconst 1, 1) := by decide +kernel
theorem dX7_is_32 : decode cX7_is 32 = .ok (.iadd, 1) := by decide +kernel
theorem dX7_is_33 : decode cX7_is 33 = .ok (.putfield 73, 3) := by decide +kernel
theorem dX7_is_36 : decode cX7_is 36 = .ok (.iconst 1, 1) := by decide +kernel
theorem dX7_is_37 : decode cX7_is 37 = .ok (.ireturn, 1) := by decide +kernel
theorem dX7_digits_0 : decode cX7_digits 0 = .ok (.iconst 0, 1) := by decide +kernel
theorem dX7_digits_1 : decode cX7_digits 1 = .ok (.istore_n 2, 1) := by decide +kernel
theorem dX7_digits_2 : decode cX7_digits 2 = .ok (.iload_n 2, 1) := by decide +kernel
theorem dX7_digits_3 : decode cX7_digits 3 = .ok (.iload_n 1, 1) := by decide +kernel
theorem dX7_digits_4 : decode cX7_digits 4 = .ok (.if_icmp .ge 75, 3) := by decide +kernel
theorem dX7_digits_7 : decode cX7_digits 7 = .ok (.aload_n 0, 1) := by decide +kernel
theorem dX7_digits_8 : decode cX7_digits 8 = .ok (.getfield 73, 3) := by decide +kernel
theorem dX7_digits_11 : decode cX7_digits 11 = .ok (.aload_n 0, 1) := by decide +kernel
theorem dX7_digits_12 : decode cX7_digits 12 = .ok (.getfield 70, 3) := by decide +kernel
theorem dX7_digits_15 : decode cX7_digits 15 = .ok (.if_icmp .eq 31, 3) := by decide +kernel
theorem dX7_digits_18 : decode cX7_digits 18 = .ok (.aload_n 0, 1) := by decide +kernel
theorem dX7_digits_19 : decode cX7_digits 19 = .ok (.getfield 25, 3) := by decide +kernel
theorem dX7_digits_22 : decode cX7_digits 22 = .ok (.aload_n 0, 1) := by decide +kernel
theorem dX7_digits_23 : decode cX7_digits 23 = .ok (.getfield 73, 3) := by decide +kernel
theorem dX7_digits_26 : decode cX7_digits 26 = .ok (.iaload, 1) := by decide +kernel
theorem dX7_digits_27 : decode cX7_digits 27 = .ok (.bipush 48, 2) := by decide +kernel
theorem dX7_digits_29 : decode cX7_digits 29 = .ok (.if_icmp .lt 17, 3) := by decide +kernel
theorem dX7_digits_32 : decode cX7_digits 32 = .ok (.aload_n 0, 1) := by decide +kernel
theorem dX7_digits_33 : decode cX7_digits 33 = .ok (.getfield 25, 3) := by decide +kernel
theorem dX7_digits_36 : decode cX7_digits 36 = .ok (.aload_n 0, 1) := by decide +kernel
theorem dX7_digits_37 : decode cX7_digits 37 = .ok (.getfield 73, 3) := by decide +kernel
theorem dX7_digits_40 : decode cX7_digits 40 = .ok (.iaload, 1) := by decide +kernel
theorem dX7_digits_41 : decode cX7_digits 41 = .ok (.bipush 57, 2) := by decide +kernel
theorem dX7_digits_43 : decode cX7_digits 43 = .ok (.if_icmp .le 5, 3) := by decide +kernel
theorem dX7_digits_46 : decode cX7_digits 46 = .ok (.iconst 0, 1) := by decide +kernel
theorem dX7_digits_47 : decode cX7_digits 47 = .ok (.ireturn, 1) := by decide +kernel
theorem dX7_digits_48 : decode cX7_digits 48 = .ok (.aload_n 0, 1) := by decide +kernel
theorem dX7_digits_49 : decode cX7_digits 49 = .ok (.getfield 28, 3) := by decide +kernel
theorem dX7_digits_52 : decode cX7_digits 52 = .ok (.iload_n 2, 1) := by decide +kernel
theorem dX7_digits_53 : decode cX7_digits 53 = .ok (.aload_n 0, 1) := by decide +kernel
theorem dX7_digits_54 : decode cX7_digits 54 = .ok (.getfield 25, 3) := by decide +kernel
theorem dX7_digits_57 : decode cX7_digits 57 = .ok (.aload_n 0, 1) := by decide +kernel
theorem dX7_digits_58 : decode cX7_digits 58 = .ok (.dup, 1) := by decide +kernel
theorem dX7_digits_59 : decode cX7_digits 59 = .ok (.getfield 73, 3) := by decide +kernel
theorem dX7_digits_62 : decode cX7_digits 62 = .ok (.dup_x1, 1) := by decide +kernel
theorem dX7_digits_63 : decode cX7_digits 63 = .ok (.iconst 1, 1) := by decide +kernel
theorem dX7_digits_64 : decode cX7_digits 64 = .ok (.iadd, 1) := by decide +kernel
theorem dX7_digits_65 : decode cX7_digits 65 = .ok (.putfield 73, 3) := by decide +kernel
theorem dX7_digits_68 : decode cX7_digits 68 = .ok (.iaload, 1) := by decide +kernel
theorem dX7_digits_69 : decode cX7_digits 69 = .ok (.bipush 48, 2) := by decide +kernel
theorem dX7_digits_71 : decode cX7_digits 71 = .ok (.isub, 1) := by decide +kernel
theorem dX7_digits_72 : decode cX7_digits 72 = .ok (.iastore, 1) := by decide +kernel
theorem dX7_digits_73 : decode cX7_digits 73 = .ok (.iinc 2 1, 3) := by decide +kernel
theorem dX7_digits_76 : decode cX7_digits 76 = .ok (.goto (-74), 3) := by decide +kernel
theorem dX7_digits_79 : decode cX7_digits 79 = .ok (.iconst 1, 1) := by decide +kernel
theorem dX7_digits_80 : decode cX7_digits 80 = .ok (.ireturn, 1) := by decide +kernel
theorem dX7_two_0 : decode cX7_two 0 = .ok (.bipush 10, 2) := by decide +kernel
theorem dX7_two_2 : decode cX7_two 2 = .ok (.aload_n 0, 1) := by decide +kernel
theorem dX7_two_3 : decode cX7_two 3 = .ok (.getfield 28, 3) := by decide +kernel
theorem dX7_two_6 : decode cX7_two 6 = .ok (.iload_n 1, 1) := by decide +kernel
theorem dX7_two_7 : decode cX7_two 7 = .ok (.iaload, 1) := by decide +kernel
theorem dX7_two_8 : decode cX7_two 8 = .ok (.imul, 1) := by decide +kernel
theorem dX7_two_9 : decode cX7_two 9 = .ok (.aload_n 0, 1) := by decide +kernel
theorem dX7_two_10 : decode cX7_two 10 = .ok (.getfield 28, 3) := by decide +kernel
theorem dX7_two_13 : decode cX7_two 13 = .ok (.iload_n 1, 1) := by decide +kernel
theorem dX7_two_14 : decode cX7_two 14 = .ok (.iconst 1, 1) := by decide +kernel
theorem dX7_two_15 : decode cX7_two 15 = .ok (.iadd, 1) := by decide +kernel
theorem dX7_two_16 : decode cX7_two 16 = .ok (.iaload, 1) := by decide +kernel
theorem dX7_two_17 : decode cX7_two 17 = .ok (.iadd, 1) := by decide +kernel
theorem dX7_two_18 : decode cX7_two 18 = .ok (.ireturn, 1) := by decide +kernel
theorem dX7_statement_0 : decode cX7_statement 0 = .ok (.aload_n 0, 1) := by decide +kernel
theorem dX7_statement_1 : decode cX7_statement 1 = .ok (.bipush 99, 2) := by decide +kernel
theorem dX7_statement_3 : decode cX7_statement 3 = .ok (.invokevirtual 76, 3) := by decide +kernel
theorem dX7_statement_6 : decode cX7_statement 6 = .ok (.ifCond .eq 193, 3) := by decide +kernel
theorem dX7_statement_9 : decode cX7_statement 9 = .ok (.aload_n 0, 1) := by decide +kernel
theorem dX7_statement_10 : decode cX7_statement 10 = .ok (.getfield 73, 3) := by decide +kernel
theorem dX7_statement_13 : decode cX7_statement 13 = .ok (.aload_n 0, 1) := by decide +kernel
theorem dX7_statement_14 : decode cX7_statement 14 = .ok (.getfield 70, 3) := by decide +kernel
theorem dX7_statement_17 : decode cX7_statement 17 = .ok (.if_icmp .ge 32, 3) := by decide +kernel
theorem dX7_statement_20 : decode cX7_statement 20 = .ok (.aload_n 0, 1) := by decide +kernel
theorem dX7_statement_21 : decode cX7_statement 21 = .ok (.getfield 25, 3) := by decide +kernel
theorem dX7_statement_24 : decode cX7_statement 24 = .ok (.aload_n 0, 1) := by decide +kernel
theorem dX7_statement_25 : decode cX7_statement 25 = .ok (.getfield 73, 3) := by decide +kernel
theorem dX7_statement_28 : decode cX7_statement 28 = .ok (.iaload, 1) := by decide +kernel
theorem dX7_statement_29 : decode cX7_statement 29 = .ok (.ifCond .le 20, 3) := by decide +kernel
theorem dX7_statement_32 : decode cX7_statement 32 = .ok (.ldc 80, 2) := by decide +kernel
theorem dX7_statement_34 : decode cX7_statement 34 = .ok (.aload_n 0, 1) := by decide +kernel
theorem dX7_statement_35 : decode cX7_statement 35 = .ok (.getfield 25, 3) := by decide +kernel
theorem dX7_statement_38 : decode cX7_statement 38 = .ok (.aload_n 0, 1) := by decide +kernel
theorem dX7_statement_39 : decode cX7_statement 39 = .ok (.getfield 73, 3) := by decide +kernel
theorem dX7_statement_42 : decode cX7_statement 42 = .ok (.iaload, 1) := by decide +kernel
theorem dX7_statement_43 : decode cX7_statement 43 = .ok (.invokevirtual 82, 3) := by decide +kernel
theorem dX7_statement_46 : decode cX7_statement 46 = .ok (.goto 4, 3) := by decide +kernel
theorem dX7_statement_49 : decode cX7_statement 49 = .ok (.iconst (-1), 1) := by decide +kernel
theorem dX7_statement_50 : decode cX7_statement 50 = .ok (.istore_n 2, 1) := by decide +kernel
theorem dX7_statement_51 : decode cX7_statement 51 = .ok (.iload_n 2, 1) := by decide +kernel
theorem dX7_statement_52 : decode cX7_statement 52 = .ok (.ifCond .ge 5, 3) := by decide +kernel
theorem dX7_statement_55 : decode cX7_statement 55 = .ok (.iconst (-1), 1) := by decide +kernel
theorem dX7_statement_56 : decode cX7_statement 56 = .ok (.ireturn, 1) := by decide +kernel
theorem dX7_statement_57 : decode cX7_statement 57 = .ok (.aload_n 0, 1) := by decide +kernel
theorem dX7_statement_58 : decode cX7_statement 58 = .ok (.dup, 1) := by decide +kernel
theorem dX7_statement_59 : decode cX7_statement 59 = .ok (.getfield 73, 3) := by decide +kernel
theorem dX7_statement_62 : decode cX7_statement 62 = .ok (.iconst 1, 1) := by decide +kernel
theorem dX7_statement_63 : decode cX7_statement 63 = .ok (.iadd, 1) := by decide +kernel
theorem dX7_statement_64 : decode cX7_statement 64 = .ok (.putfield 73, 3) := by decide +kernel
theorem dX7_statement_67 : decode cX7_statement 67 = .ok (.aload_n 0, 1) := by decide +kernel
theorem dX7_statement_68 : decode cX7_statement 68 = .ok (.iconst 4, 1) := by decide +kernel
theorem dX7_statement_69 : decode cX7_statement 69 = .ok (.invokevirtual 87, 3) := by decide +kernel
theorem dX7_statement_72 : decode cX7_statement 72 = .ok (.ifCond .ne 5, 3) := by decide +kernel
theorem dX7_statement_75 : decode cX7_statement 75 = .ok (.iconst (-1), 1) := by decide +kernel
theorem dX7_statement_76 : decode cX7_statement 76 = .ok (.ireturn, 1) := by decide +kernel
theorem dX7_statement_77 : decode cX7_statement 77 = .ok (.iload_n 1, 1) := by decide +kernel
theorem dX7_statement_78 : decode cX7_statement 78 = .ok (.ifCond .ne 5, 3) := by decide +kernel
theorem dX7_statement_81 : decode cX7_statement 81 = .ok (.iconst 1, 1) := by decide +kernel
theorem dX7_statement_82 : decode cX7_statement 82 = .ok (.ireturn, 1) := by decide +kernel
theorem dX7_statement_83 : decode cX7_statement 83 = .ok (.aload_n 0, 1) := by decide +kernel
theorem dX7_statement_84 : decode cX7_statement 84 = .ok (.getfield 28, 3) := by decide +kernel
theorem dX7_statement_87 : decode cX7_statement 87 = .ok (.iconst 1, 1) := by decide +kernel
theorem dX7_statement_88 : decode cX7_statement 88 = .ok (.iaload, 1) := by decide +kernel
theorem dX7_statement_89 : decode cX7_statement 89 = .ok (.iconst 1, 1) := by decide +kernel
theorem dX7_statement_90 : decode cX7_statement 90 = .ok (.if_icmp .gt 22, 3) := by decide +kernel
theorem dX7_statement_93 : decode cX7_statement 93 = .ok (.aload_n 0, 1) := by decide +kernel
theorem dX7_statement_94 : decode cX7_statement 94 = .ok (.iconst 2, 1) := by decide +kernel
theorem dX7_statement_95 : decode cX7_statement 95 = .ok (.invokevirtual 90, 3) := by decide +kernel
theorem dX7_statement_98 : decode cX7_statement 98 = .ok (.bipush 20, 2) := by decide +kernel
theorem dX7_statement_100 : decode cX7_statement 100 = .ok (.if_icmp .gt 12, 3) := by decide +kernel
theorem dX7_statement_103 : decode cX7_statement 103 = .ok (.aload_n 0, 1) := by decide +kernel
theorem dX7_statement_104 : decode cX7_statement 104 = .ok (.getfield 59, 3) := by decide +kernel
theorem dX7_statement_107 : decode cX7_statement 107 = .ok (.bipush 9, 2) := by decide +kernel
theorem dX7_statement_109 : decode cX7_statement 109 = .ok (.if_icmp .ne 5, 3) := by decide +kernel
theorem dX7_statement_112 : decode cX7_statement 112 = .ok (.iconst 0, 1) := by decide +kernel
theorem dX7_statement_113 : decode cX7_statement 113 = .ok (.ireturn, 1) := by decide +kernel
theorem dX7_statement_114 : decode cX7_statement 114 = .ok (.aload_n 0, 1) := by decide +kernel
theorem dX7_statement_115 : decode cX7_statement 115 = .ok (.getfield 7, 3) := by decide +kernel
theorem dX7_statement_118 : decode cX7_statement 118 = .ok (.aload_n 0, 1) := by decide +kernel
theorem dX7_statement_119 : decode cX7_statement 119 = .ok (.getfield 59, 3) := by decide +kernel
theorem dX7_statement_122 : decode cX7_statement 122 = .ok (.iload_n 2, 1) := by decide +kernel
theorem dX7_statement_123 : decode cX7_statement 123 = .ok (.iastore, 1) := by decide +kernel
theorem dX7_statement_124 : decode cX7_statement 124 = .ok (.aload_n 0, 1) := by decide +kernel
theorem dX7_statement_125 : decode cX7_statement 125 = .ok (.getfield 13, 3) := by decide +kernel
theorem dX7_statement_128 : decode cX7_statement 128 = .ok (.aload_n 0, 1) := by decide +kernel
theorem dX7_statement_129 : decode cX7_statement 129 = .ok (.getfield 59, 3) := by decide +kernel
theorem dX7_statement_132 : decode cX7_statement 132 = .ok (.aload_n 0, 1) := by decide +kernel
theorem dX7_statement_133 : decode cX7_statement 133 = .ok (.getfield 28, 3) := by decide +kernel
theorem dX7_statement_136 : decode cX7_statement 136 = .ok (.iconst 0, 1) := by decide +kernel
theorem dX7_statement_137 : decode cX7_statement 137 = .ok (.iaload, 1) := by decide +kernel
theorem dX7_statement_138 : decode cX7_statement 138 = .ok (.iastore, 1) := by decide +kernel
theorem dX7_statement_139 : decode cX7_statement 139 = .ok (.aload_n 0, 1) := by decide +kernel
theorem dX7_statement_140 : decode cX7_statement 140 = .ok (.getfield 19, 3) := by decide +kernel
theorem dX7_statement_143 : decode cX7_statement 143 = .ok (.aload_n 0, 1) := by decide +kernel
theorem dX7_statement_144 : decode cX7_statement 144 = .ok (.getfield 59, 3) := by decide +kernel
theorem dX7_statement_147 : decode cX7_statement 147 = .ok (.aload_n 0, 1) := by decide +kernel
theorem dX7_statement_148 : decode cX7_statement 148 = .ok (.getfield 28, 3) := by decide +kernel
theorem dX7_statement_151 : decode cX7_statement 151 = .ok (.iconst 1, 1) := by decide +kernel
theorem dX7_statement_152 : decode cX7_statement 152 = .ok (.iaload, 1) := by decide +kernel
theorem dX7_statement_153 : decode cX7_statement 153 = .ok (.iastore, 1) := by decide +kernel
theorem dX7_statement_154 : decode cX7_statement 154 = .ok (.aload_n 0, 1) := by decide +kernel
theorem dX7_statement_155 : decode cX7_statement 155 = .ok (.getfield 22, 3) := by decide +kernel
theorem dX7_statement_158 : decode cX7_statement 158 = .ok (.aload_n 0, 1) := by decide +kernel
theorem dX7_statement_159 : decode cX7_statement 159 = .ok (.getfield 59, 3) := by decide +kernel
theorem dX7_statement_162 : decode cX7_statement 162 = .ok (.aload_n 0, 1) := by decide +kernel
theorem dX7_statement_163 : decode cX7_statement 163 = .ok (.aload_n 0, 1) := by decide +kernel
theorem dX7_statement_164 : decode cX7_statement 164 = .ok (.getfield 28, 3) := by decide +kernel
theorem dX7_statement_167 : decode cX7_statement 167 = .ok (.iconst 1, 1) := by decide +kernel
theorem dX7_statement_168 : decode cX7_statement 168 = .ok (.iaload, 1) := by decide +kernel
theorem dX7_statement_169 : decode cX7_statement 169 = .ok (.invokevirtual 93, 3) := by decide +kernel
theorem dX7_statement_172 : decode cX7_statement 172 = .ok (.iastore, 1) := by decide +kernel
theorem dX7_statement_173 : decode cX7_statement 173 = .ok (.aload_n 0, 1) := by decide +kernel
theorem dX7_statement_174 : decode cX7_statement 174 = .ok (.getfield 16, 3) := by decide +kernel
theorem dX7_statement_177 : decode cX7_statement 177 = .ok (.aload_n 0, 1) := by decide +kernel
theorem dX7_statement_178 : decode cX7_statement 178 = .ok (.getfield 59, 3) := by decide +kernel
theorem dX7_statement_181 : decode cX7_statement 181 = .ok (.aload_n 0, 1) := by decide +kernel
theorem dX7_statement_182 : decode cX7_statement 182 = .ok (.iconst 2, 1) := by decide +kernel
theorem dX7_statement_183 : decode cX7_statement 183 = .ok (.invokevirtual 90, 3) := by decide +kernel
theorem dX7_statement_186 : decode cX7_statement 186 = .ok (.iastore, 1) := by decide +kernel
theorem dX7_statement_187 : decode cX7_statement 187 = .ok (.aload_n 0, 1) := by decide +kernel
theorem dX7_statement_188 : decode cX7_statement 188 = .ok (.dup, 1) := by decide +kernel
theorem dX7_statement_189 : decode cX7_statement 189 = .ok (.getfield 59, 3) := by decide +kernel
theorem dX7_statement_192 : decode cX7_statement 192 = .ok (.iconst 1, 1) := by decide +kernel
theorem dX7_statement_193 : decode cX7_statement 193 = .ok (.iadd, 1) := by decide +kernel
theorem dX7_statement_194 : decode cX7_statement 194 = .ok (.putfield 59, 3) := by decide +kernel
theorem dX7_statement_197 : decode cX7_statement 197 = .ok (.iconst 1, 1) := by decide +kernel
theorem dX7_statement_198 : decode cX7_statement 198 = .ok (.ireturn, 1) := by decide +kernel
theorem dX7_statement_199 : decode cX7_statement 199 = .ok (.aload_n 0, 1) := by decide +kernel
theorem dX7_statement_200 : decode cX7_statement 200 = .ok (.bipush 120, 2) := by decide +kernel
theorem dX7_statement_202 : decode cX7_statement 202 = .ok (.invokevirtual 76, 3) := by decide +kernel
theorem dX7_statement_205 : decode cX7_statement 205 = .ok (.ifCond .eq 132, 3) := by decide +kernel
theorem dX7_statement_208 : decode cX7_statement 208 = .ok (.aload_n 0, 1) := by decide +kernel
theorem dX7_statement_209 : decode cX7_statement 209 = .ok (.iconst 2, 1) := by decide +kernel
theorem dX7_statement_210 : decode cX7_statement 210 = .ok (.invokevirtual 87, 3) := by decide +kernel
theorem dX7_statement_213 : decode cX7_statement 213 = .ok (.ifCond .ne 5, 3) := by decide +kernel
theorem dX7_statement_216 : decode cX7_statement 216 = .ok (.iconst (-1), 1) := by decide +kernel
theorem dX7_statement_217 : decode cX7_statement 217 = .ok (.ireturn, 1) := by decide +kernel
theorem dX7_statement_218 : decode cX7_statement 218 = .ok (.iload_n 1, 1) := by decide +kernel
theorem dX7_statement_219 : decode cX7_statement 219 = .ok (.ifCond .ne 5, 3) := by decide +kernel
theorem dX7_statement_222 : decode cX7_statement 222 = .ok (.iconst 1, 1) := by decide +kernel
theorem dX7_statement_223 : decode cX7_statement 223 = .ok (.ireturn, 1) := by decide +kernel
theorem dX7_statement_224 : decode cX7_statement 224 = .ok (.aload_n 0, 1) := by decide +kernel
theorem dX7_statement_225 : decode cX7_statement 225 = .ok (.aload_n 0, 1) := by decide +kernel
theorem dX7_statement_226 : decode cX7_statement 226 = .ok (.getfield 28, 3) := by decide +kernel
theorem dX7_statement_229 : decode cX7_statement 229 = .ok (.iconst 0, 1) := by decide +kernel
theorem dX7_statement_230 : decode cX7_statement 230 = .ok (.iaload, 1) := by decide +kernel
theorem dX7_statement_231 : decode cX7_statement 231 = .ok (.invokevirtual 96, 3) := by decide +kernel
theorem dX7_statement_234 : decode cX7_statement 234 = .ok (.ifCond .eq 31, 3) := by decide +kernel
theorem dX7_statement_237 : decode cX7_statement 237 = .ok (.aload_n 0, 1) := by decide +kernel
theorem dX7_statement_238 : decode cX7_statement 238 = .ok (.aload_n 0, 1) := by decide +kernel
theorem dX7_statement_239 : decode cX7_statement 239 = .ok (.getfield 28, 3) := by decide +kernel
theorem dX7_statement_242 : decode cX7_statement 242 = .ok (.iconst 1, 1) := by decide +kernel
theorem dX7_statement_243 : decode cX7_statement 243 = .ok (.iaload, 1) := by decide +kernel
theorem dX7_statement_244 : decode cX7_statement 244 = .ok (.invokevirtual 96, 3) := by decide +kernel
theorem dX7_statement_247 : decode cX7_statement 247 = .ok (.ifCond .eq 18, 3) := by decide +kernel
theorem dX7_statement_250 : decode cX7_statement 250 = .ok (.aload_n 0, 1) := by decide +kernel
theorem dX7_statement_251 : decode cX7_statement 251 = .ok (.getfield 28, 3) := by decide +kernel
theorem dX7_statement_254 : decode cX7_statement 254 = .ok (.iconst 0, 1) := by decide +kernel
theorem dX7_statement_255 : decode cX7_statement 255 = .ok (.iaload, 1) := by decide +kernel
theorem dX7_statement_256 : decode cX7_statement 256 = .ok (.aload_n 0, 1) := by decide +kernel
theorem dX7_statement_257 : decode cX7_statement 257 = .ok (.getfield 28, 3) := by decide +kernel
theorem dX7_statement_260 : decode cX7_statement 260 = .ok (.iconst 1, 1) := by decide +kernel
theorem dX7_statement_261 : decode cX7_statement 261 = .ok (.iaload, 1) := by decide +kernel
theorem dX7_statement_262 : decode cX7_statement 262 = .ok (.if_icmp .ne 5, 3) := by decide +kernel
theorem dX7_statement_265 : decode cX7_statement 265 = .ok (.iconst 0, 1) := by decide +kernel
theorem dX7_statement_266 : decode cX7_statement 266 = .ok (.ireturn, 1) := by decide +kernel
theorem dX7_statement_267 : decode cX7_statement 267 = .ok (.aload_n 0, 1) := by decide +kernel
theorem dX7_statement_268 : decode cX7_statement 268 = .ok (.getfield 7, 3) := by decide +kernel
theorem dX7_statement_271 : decode cX7_statement 271 = .ok (.aload_n 0, 1) := by decide +kernel
theorem dX7_statement_272 : decode cX7_statement 272 = .ok (.getfield 28, 3) := by decide +kernel
theorem dX7_statement_275 : decode cX7_statement 275 = .ok (.iconst 0, 1) := by decide +kernel
theorem dX7_statement_276 : decode cX7_statement 276 = .ok (.iaload, 1) := by decide +kernel
theorem dX7_statement_277 : decode cX7_statement 277 = .ok (.iaload, 1) := by decide +kernel
theorem dX7_statement_278 : decode cX7_statement 278 = .ok (.istore_n 2, 1) := by decide +kernel
theorem dX7_statement_279 : decode cX7_statement 279 = .ok (.aload_n 0, 1) := by decide +kernel
theorem dX7_statement_280 : decode cX7_statement 280 = .ok (.getfield 13, 3) := by decide +kernel
theorem dX7_statement_283 : decode cX7_statement 283 = .ok (.aload_n 0, 1) := by decide +kernel
theorem dX7_statement_284 : decode cX7_statement 284 = .ok (.getfield 28, 3) := by decide +kernel
theorem dX7_statement_287 : decode cX7_statement 287 = .ok (.iconst 0, 1) := by decide +kernel
theorem dX7_statement_288 : decode cX7_statement 288 = .ok (.iaload, 1) := by decide +kernel
theorem dX7_statement_289 : decode cX7_statement 289 = .ok (.iaload, 1) := by decide +kernel
theorem dX7_statement_290 : decode cX7_statement 290 = .ok (.istore_n 3, 1) := by decide +kernel
theorem dX7_statement_291 : decode cX7_statement 291 = .ok (.aload_n 0, 1) := by decide +kernel
theorem dX7_statement_292 : decode cX7_statement 292 = .ok (.aload_n 0, 1) := by decide +kernel
theorem dX7_statement_293 : decode cX7_statement 293 = .ok (.getfield 28, 3) := by decide +kernel
theorem dX7_statement_296 : decode cX7_statement 296 = .ok (.iconst 0, 1) := by decide +kernel
theorem dX7_statement_297 : decode cX7_statement 297 = .ok (.iaload, 1) := by decide +kernel
theorem dX7_statement_298 : decode cX7_statement 298 = .ok (.aload_n 0, 1) := by decide +kernel
theorem dX7_statement_299 : decode cX7_statement 299 = .ok (.getfield 7, 3) := by decide +kernel
theorem dX7_statement_302 : decode cX7_statement 302 = .ok (.aload_n 0, 1) := by decide +kernel
theorem dX7_statement_303 : decode cX7_statement 303 = .ok (.getfield 28, 3) := by decide +kernel
theorem dX7_statement_306 : decode cX7_statement 306 = .ok (.iconst 1, 1) := by decide +kernel
theorem dX7_statement_307 : decode cX7_statement 307 = .ok (.iaload, 1) := by decide +kernel
theorem dX7_statement_308 : decode cX7_statement 308 = .ok (.iaload, 1) := by decide +kernel
theorem dX7_statement_309 : decode cX7_statement 309 = .ok (.aload_n 0, 1) := by decide +kernel
theorem dX7_statement_310 : decode cX7_statement 310 = .ok (.getfield 13, 3) := by decide +kernel
theorem dX7_statement_313 : decode cX7_statement 313 = .ok (.aload_n 0, 1) := by decide +kernel
theorem dX7_statement_314 : decode cX7_statement 314 = .ok (.getfield 28, 3) := by decide +kernel
theorem dX7_statement_317 : decode cX7_statement 317 = .ok (.iconst 1, 1) := by decide +kernel
theorem dX7_statement_318 : decode cX7_statement 318 = .ok (.iaload, 1) := by decide +kernel
theorem dX7_statement_319 : decode cX7_statement 319 = .ok (.iaload, 1) := by decide +kernel
theorem dX7_statement_320 : decode cX7_statement 320 = .ok (.invokevirtual 99, 3) := by decide +kernel
theorem dX7_statement_323 : decode cX7_statement 323 = .ok (.aload_n 0, 1) := by decide +kernel
theorem dX7_statement_324 : decode cX7_statement 324 = .ok (.aload_n 0, 1) := by decide +kernel
theorem dX7_statement_325 : decode cX7_statement 325 = .ok (.getfield 28, 3) := by decide +kernel
theorem dX7_statement_328 : decode cX7_statement 328 = .ok (.iconst 1, 1) := by decide +kernel
theorem dX7_statement_329 : decode cX7_statement 329 = .ok (.iaload, 1) := by decide +kernel
theorem dX7_statement_330 : decode cX7_statement 330 = .ok (.iload_n 2, 1) := by decide +kernel
theorem dX7_statement_331 : decode cX7_statement 331 = .ok (.iload_n 3, 1) := by decide +kernel
theorem dX7_statement_332 : decode cX7_statement 332 = .ok (.invokevirtual 99, 3) := by decide +kernel
theorem dX7_statement_335 : decode cX7_statement 335 = .ok (.iconst 1, 1) := by decide +kernel
theorem dX7_statement_336 : decode cX7_statement 336 = .ok (.ireturn, 1) := by decide +kernel
theorem dX7_statement_337 : decode cX7_statement 337 = .ok (.aload_n 0, 1) := by decide +kernel
theorem dX7_statement_338 : decode cX7_statement 338 = .ok (.bipush 98, 2) := by decide +kernel
theorem dX7_statement_340 : decode cX7_statement 340 = .ok (.invokevirtual 76, 3) := by decide +kernel
theorem dX7_statement_343 : decode cX7_statement 343 = .ok (.ifCond .eq 7, 3) := by decide +kernel
theorem dX7_statement_346 : decode cX7_statement 346 = .ok (.iconst 0, 1) := by decide +kernel
theorem dX7_statement_347 : decode cX7_statement 347 = .ok (.goto 43, 3) := by decide +kernel
theorem dX7_statement_350 : decode cX7_statement 350 = .ok (.aload_n 0, 1) := by decide +kernel
theorem dX7_statement_351 : decode cX7_statement 351 = .ok (.bipush 119, 2) := by decide +kernel
theorem dX7_statement_353 : decode cX7_statement 353 = .ok (.invokevirtual 76, 3) := by decide +kernel
theorem dX7_statement_356 : decode cX7_statement 356 = .ok (.ifCond .eq 7, 3) := by decide +kernel
theorem dX7_statement_359 : decode cX7_statement 359 = .ok (.iconst 1, 1) := by decide +kernel
theorem dX7_statement_360 : decode cX7_statement 360 = .ok (.goto 30, 3) := by decide +kernel
theorem dX7_statement_363 : decode cX7_statement 363 = .ok (.aload_n 0, 1) := by decide +kernel
theorem dX7_statement_364 : decode cX7_statement 364 = .ok (.bipush 111, 2) := by decide +kernel
theorem dX7_statement_366 : decode cX7_statement 366 = .ok (.invokevirtual 76, 3) := by decide +kernel
theorem dX7_statement_369 : decode cX7_statement 369 = .ok (.ifCond .eq 7, 3) := by decide +kernel
theorem dX7_statement_372 : decode cX7_statement 372 = .ok (.iconst 2, 1) := by decide +kernel
theorem dX7_statement_373 : decode cX7_statement 373 = .ok (.goto 17, 3) := by decide +kernel
theorem dX7_statement_376 : decode cX7_statement 376 = .ok (.aload_n 0, 1) := by decide +kernel
theorem dX7_statement_377 : decode cX7_statement 377 = .ok (.bipush 102, 2) := by decide +kernel
theorem dX7_statement_379 : decode cX7_statement 379 = .ok (.invokevirtual 76, 3) := by decide +kernel
theorem dX7_statement_382 : decode cX7_statement 382 = .ok (.ifCond .eq 7, 3) := by decide +kernel
theorem dX7_statement_385 : decode cX7_statement 385 = .ok (.iconst 3, 1) := by decide +kernel
theorem dX7_statement_386 : decode cX7_statement 386 = .ok (.goto 4, 3) := by decide +kernel
theorem dX7_statement_389 : decode cX7_statement 389 = .ok (.iconst (-1), 1) := by decide +kernel
theorem dX7_statement_390 : decode cX7_statement 390 = .ok (.istore_n 2, 1) := by decide +kernel
theorem dX7_statement_391 : decode cX7_statement 391 = .ok (.iload_n 2, 1) := by decide +kernel
theorem dX7_statement_392 : decode cX7_statement 392 = .ok (.ifCond .lt 11, 3) := by decide +kernel
theorem dX7_statement_395 : decode cX7_statement 395 = .ok (.aload_n 0, 1) := by decide +kernel
theorem dX7_statement_396 : decode cX7_statement 396 = .ok (.iconst 1, 1) := by decide +kernel
theorem dX7_statement_397 : decode cX7_statement 397 = .ok (.invokevirtual 87, 3) := by decide +kernel
theorem dX7_statement_400 : decode cX7_statement 400 = .ok (.ifCond .ne 5, 3) := by decide +kernel
theorem dX7_statement_403 : decode cX7_statement 403 = .ok (.iconst (-1), 1) := by decide +kernel
theorem dX7_statement_404 : decode cX7_statement 404 = .ok (.ireturn, 1) := by decide +kernel
theorem dX7_statement_405 : decode cX7_statement 405 = .ok (.iload_n 1, 1) := by decide +kernel
theorem dX7_statement_406 : decode cX7_statement 406 = .ok (.ifCond .ne 5, 3) := by decide +kernel
theorem dX7_statement_409 : decode cX7_statement 409 = .ok (.iconst 1, 1) := by decide +kernel
theorem dX7_statement_410 : decode cX7_statement 410 = .ok (.ireturn, 1) := by decide +kernel
theorem dX7_statement_411 : decode cX7_statement 411 = .ok (.iload_n 2, 1) := by decide +kernel
theorem dX7_statement_412 : decode cX7_statement 412 = .ok (.ifCond .ne 27, 3) := by decide +kernel
theorem dX7_statement_415 : decode cX7_statement 415 = .ok (.aload_n 0, 1) := by decide +kernel
theorem dX7_statement_416 : decode cX7_statement 416 = .ok (.getfield 28, 3) := by decide +kernel
theorem dX7_statement_419 : decode cX7_statement 419 = .ok (.iconst 0, 1) := by decide +kernel
theorem dX7_statement_420 : decode cX7_statement 420 = .ok (.iaload, 1) := by decide +kernel
theorem dX7_statement_421 : decode cX7_statement 421 = .ok (.iconst 2, 1) := by decide +kernel
theorem dX7_statement_422 : decode cX7_statement 422 = .ok (.if_icmp .le 5, 3) := by decide +kernel
theorem dX7_statement_425 : decode cX7_statement 425 = .ok (.iconst 0, 1) := by decide +kernel
theorem dX7_statement_426 : decode cX7_statement 426 = .ok (.ireturn, 1) := by decide +kernel
theorem dX7_statement_427 : decode cX7_statement 427 = .ok (.aload_n 0, 1) := by decide +kernel
theorem dX7_statement_428 : decode cX7_statement 428 = .ok (.aload_n 0, 1) := by decide +kernel
theorem dX7_statement_429 : decode cX7_statement 429 = .ok (.getfield 28, 3) := by decide +kernel
theorem dX7_statement_432 : decode cX7_statement 432 = .ok (.iconst 0, 1) := by decide +kernel
theorem dX7_statement_433 : decode cX7_statement 433 = .ok (.iaload, 1) := by decide +kernel
theorem dX7_statement_434 : decode cX7_statement 434 = .ok (.putfield 103, 3) := by decide +kernel
theorem dX7_statement_437 : decode cX7_statement 437 = .ok (.iconst 1, 1) := by decide +kernel
theorem dX7_statement_438 : decode cX7_statement 438 = .ok (.ireturn, 1) := by decide +kernel
theorem dX7_statement_439 : decode cX7_statement 439 = .ok (.iload_n 2, 1) := by decide +kernel
theorem dX7_statement_440 : decode cX7_statement 440 = .ok (.iconst 1, 1) := by decide +kernel
theorem dX7_statement_441 : decode cX7_statement 441 = .ok (.if_icmp .ne 15, 3) := by decide +kernel
theorem dX7_statement_444 : decode cX7_statement 444 = .ok (.aload_n 0, 1) := by decide +kernel
theorem dX7_statement_445 : decode cX7_statement 445 = .ok (.aload_n 0, 1) := by decide +kernel
theorem dX7_statement_446 : decode cX7_statement 446 = .ok (.getfield 28, 3) := by decide +kernel
theorem dX7_statement_449 : decode cX7_statement 449 = .ok (.iconst 0, 1) := by decide +kernel
theorem dX7_statement_450 : decode cX7_statement 450 = .ok (.iaload, 1) := by decide +kernel
theorem dX7_statement_451 : decode cX7_statement 451 = .ok (.putfield 55, 3) := by decide +kernel
theorem dX7_statement_454 : decode cX7_statement 454 = .ok (.iconst 1, 1) := by decide +kernel
theorem dX7_statement_455 : decode cX7_statement 455 = .ok (.ireturn, 1) := by decide +kernel
theorem dX7_statement_456 : decode cX7_statement 456 = .ok (.aload_n 0, 1) := by decide +kernel
theorem dX7_statement_457 : decode cX7_statement 457 = .ok (.aload_n 0, 1) := by decide +kernel
theorem dX7_statement_458 : decode cX7_statement 458 = .ok (.getfield 28, 3) := by decide +kernel
theorem dX7_statement_461 : decode cX7_statement 461 = .ok (.iconst 0, 1) := by decide +kernel
theorem dX7_statement_462 : decode cX7_statement 462 = .ok (.iaload, 1) := by decide +kernel
theorem dX7_statement_463 : decode cX7_statement 463 = .ok (.invokevirtual 96, 3) := by decide +kernel
theorem dX7_statement_466 : decode cX7_statement 466 = .ok (.ifCond .ne 5, 3) := by decide +kernel
theorem dX7_statement_469 : decode cX7_statement 469 = .ok (.iconst 0, 1) := by decide +kernel
theorem dX7_statement_470 : decode cX7_statement 470 = .ok (.ireturn, 1) := by decide +kernel
theorem dX7_statement_471 : decode cX7_statement 471 = .ok (.iload_n 2, 1) := by decide +kernel
theorem dX7_statement_472 : decode cX7_statement 472 = .ok (.iconst 2, 1) := by decide +kernel
theorem dX7_statement_473 : decode cX7_statement 473 = .ok (.if_icmp .ne 17, 3) := by decide +kernel
theorem dX7_statement_476 : decode cX7_statement 476 = .ok (.aload_n 0, 1) := by decide +kernel
theorem dX7_statement_477 : decode cX7_statement 477 = .ok (.aload_n 0, 1) := by decide +kernel
theorem dX7_statement_478 : decode cX7_statement 478 = .ok (.getfield 28, 3) := by decide +kernel
theorem dX7_statement_481 : decode cX7_statement 481 = .ok (.iconst 0, 1) := by decide +kernel
theorem dX7_statement_482 : decode cX7_statement 482 = .ok (.iaload, 1) := by decide +kernel
theorem dX7_statement_483 : decode cX7_statement 483 = .ok (.invokevirtual 106, 3) := by decide +kernel
theorem dX7_statement_486 : decode cX7_statement 486 = .ok (.pop, 1) := by decide +kernel
theorem dX7_statement_487 : decode cX7_statement 487 = .ok (.goto 14, 3) := by decide +kernel
theorem dX7_statement_490 : decode cX7_statement 490 = .ok (.aload_n 0, 1) := by decide +kernel
theorem dX7_statement_491 : decode cX7_statement 491 = .ok (.aload_n 0, 1) := by decide +kernel
theorem dX7_statement_492 : decode cX7_statement 492 = .ok (.getfield 28, 3) := by decide +kernel
theorem dX7_statement_495 : decode cX7_statement 495 = .ok (.iconst 0, 1) := by decide +kernel
theorem dX7_statement_496 : decode cX7_statement 496 = .ok (.iaload, 1) := by decide +kernel
theorem dX7_statement_497 : decode cX7_statement 497 = .ok (.invokevirtual 109, 3) := by decide +kernel
theorem dX7_statement_500 : decode cX7_statement 500 = .ok (.pop, 1) := by decide +kernel
theorem dX7_statement_501 : decode cX7_statement 501 = .ok (.iconst 1, 1) := by decide +kernel
theorem dX7_statement_502 : decode cX7_statement 502 = .ok (.ireturn, 1) := by decide +kernel
theorem dX7_road_0 : decode cX7_road 0 = .ok (.aload_n 0, 1) := by decide +kernel
theorem dX7_road_1 : decode cX7_road 1 = .ok (.iconst 0, 1) := by decide +kernel
theorem dX7_road_2 : decode cX7_road 2 = .ok (.putfield 73, 3) := by decide +kernel
theorem dX7_road_5 : decode cX7_road 5 = .ok (.iconst 1, 1) := by decide +kernel
theorem dX7_road_6 : decode cX7_road 6 = .ok (.istore_n 1, 1) := by decide +kernel
theorem dX7_road_7 : decode cX7_road 7 = .ok (.iload_n 1, 1) := by decide +kernel
theorem dX7_road_8 : decode cX7_road 8 = .ok (.ifCond .eq 45, 3) := by decide +kernel
theorem dX7_road_11 : decode cX7_road 11 = .ok (.aload_n 0, 1) := by decide +kernel
theorem dX7_road_12 : decode cX7_road 12 = .ok (.iconst 0, 1) := by decide +kernel
theorem dX7_road_13 : decode cX7_road 13 = .ok (.invokevirtual 112, 3) := by decide +kernel
theorem dX7_road_16 : decode cX7_road 16 = .ok (.iconst 1, 1) := by decide +kernel
theorem dX7_road_17 : decode cX7_road 17 = .ok (.if_icmp .ne 16, 3) := by decide +kernel
theorem dX7_road_20 : decode cX7_road 20 = .ok (.aload_n 0, 1) := by decide +kernel
theorem dX7_road_21 : decode cX7_road 21 = .ok (.bipush 59, 2) := by decide +kernel
theorem dX7_road_23 : decode cX7_road 23 = .ok (.invokevirtual 76, 3) := by decide +kernel
theorem dX7_road_26 : decode cX7_road 26 = .ok (.ifCond .eq 7, 3) := by decide +kernel
theorem dX7_road_29 : decode cX7_road 29 = .ok (.iconst 1, 1) := by decide +kernel
theorem dX7_road_30 : decode cX7_road 30 = .ok (.goto 4, 3) := by decide +kernel
theorem dX7_road_33 : decode cX7_road 33 = .ok (.iconst 0, 1) := by decide +kernel
theorem dX7_road_34 : decode cX7_road 34 = .ok (.istore_n 1, 1) := by decide +kernel
theorem dX7_road_35 : decode cX7_road 35 = .ok (.iload_n 1, 1) := by decide +kernel
theorem dX7_road_36 : decode cX7_road 36 = .ok (.ifCond .eq (-29), 3) := by decide +kernel
theorem dX7_road_39 : decode cX7_road 39 = .ok (.aload_n 0, 1) := by decide +kernel
theorem dX7_road_40 : decode cX7_road 40 = .ok (.getfield 73, 3) := by decide +kernel
theorem dX7_road_43 : decode cX7_road 43 = .ok (.aload_n 0, 1) := by decide +kernel
theorem dX7_road_44 : decode cX7_road 44 = .ok (.getfield 70, 3) := by decide +kernel
theorem dX7_road_47 : decode cX7_road 47 = .ok (.if_icmp .ne (-40), 3) := by decide +kernel
theorem dX7_road_50 : decode cX7_road 50 = .ok (.goto 3, 3) := by decide +kernel
theorem dX7_road_53 : decode cX7_road 53 = .ok (.iload_n 1, 1) := by decide +kernel
theorem dX7_road_54 : decode cX7_road 54 = .ok (.ifCond .ne 17, 3) := by decide +kernel
theorem dX7_road_57 : decode cX7_road 57 = .ok (.aload_n 0, 1) := by decide +kernel
theorem dX7_road_58 : decode cX7_road 58 = .ok (.iconst 0, 1) := by decide +kernel
theorem dX7_road_59 : decode cX7_road 59 = .ok (.putfield 70, 3) := by decide +kernel
theorem dX7_road_62 : decode cX7_road 62 = .ok (.sipush (-1000), 3) := by decide +kernel
theorem dX7_road_65 : decode cX7_road 65 = .ok (.aload_n 0, 1) := by decide +kernel
theorem dX7_road_66 : decode cX7_road 66 = .ok (.getfield 73, 3) := by decide +kernel
theorem dX7_road_69 : decode cX7_road 69 = .ok (.isub, 1) := by decide +kernel
theorem dX7_road_70 : decode cX7_road 70 = .ok (.ireturn, 1) := by decide +kernel
theorem dX7_road_71 : decode cX7_road 71 = .ok (.aload_n 0, 1) := by decide +kernel
theorem dX7_road_72 : decode cX7_road 72 = .ok (.aload_n 0, 1) := by decide +kernel
theorem dX7_road_73 : decode cX7_road 73 = .ok (.getfield 40, 3) := by decide +kernel
theorem dX7_road_76 : decode cX7_road 76 = .ok (.invokevirtual 116, 3) := by decide +kernel
theorem dX7_road_79 : decode cX7_road 79 = .ok (.aload_n 0, 1) := by decide +kernel
theorem dX7_road_80 : decode cX7_road 80 = .ok (.iconst 0, 1) := by decide +kernel
theorem dX7_road_81 : decode cX7_road 81 = .ok (.putfield 73, 3) := by decide +kernel
theorem dX7_road_84 : decode cX7_road 84 = .ok (.iconst 0, 1) := by decide +kernel
theorem dX7_road_85 : decode cX7_road 85 = .ok (.istore_n 2, 1) := by decide +kernel
theorem dX7_road_86 : decode cX7_road 86 = .ok (.aload_n 0, 1) := by decide +kernel
theorem dX7_road_87 : decode cX7_road 87 = .ok (.getfield 73, 3) := by decide +kernel
theorem dX7_road_90 : decode cX7_road 90 = .ok (.aload_n 0, 1) := by decide +kernel
theorem dX7_road_91 : decode cX7_road 91 = .ok (.getfield 70, 3) := by decide +kernel
theorem dX7_road_94 : decode cX7_road 94 = .ok (.if_icmp .ge 48, 3) := by decide +kernel
theorem dX7_road_97 : decode cX7_road 97 = .ok (.aload_n 0, 1) := by decide +kernel
theorem dX7_road_98 : decode cX7_road 98 = .ok (.getfield 73, 3) := by decide +kernel
theorem dX7_road_101 : decode cX7_road 101 = .ok (.istore_n 3, 1) := by decide +kernel
theorem dX7_road_102 : decode cX7_road 102 = .ok (.aload_n 0, 1) := by decide +kernel
theorem dX7_road_103 : decode cX7_road 103 = .ok (.iconst 1, 1) := by decide +kernel
theorem dX7_road_104 : decode cX7_road 104 = .ok (.invokevirtual 112, 3) := by decide +kernel
theorem dX7_road_107 : decode cX7_road 107 = .ok (.ifCond .ne 22, 3) := by decide +kernel
theorem dX7_road_110 : decode cX7_road 110 = .ok (.aload_n 0, 1) := by decide +kernel
theorem dX7_road_111 : decode cX7_road 111 = .ok (.aload_n 0, 1) := by decide +kernel
theorem dX7_road_112 : decode cX7_road 112 = .ok (.getfield 40, 3) := by decide +kernel
theorem dX7_road_115 : decode cX7_road 115 = .ok (.invokevirtual 120, 3) := by decide +kernel
theorem dX7_road_118 : decode cX7_road 118 = .ok (.aload_n 0, 1) := by decide +kernel
theorem dX7_road_119 : decode cX7_road 119 = .ok (.iconst 0, 1) := by decide +kernel
theorem dX7_road_120 : decode cX7_road 120 = .ok (.putfield 70, 3) := by decide +kernel
theorem dX7_road_123 : decode cX7_road 123 = .ok (.sipush (-2000), 3) := by decide +kernel
theorem dX7_road_126 : decode cX7_road 126 = .ok (.iload_n 3, 1) := by decide +kernel
theorem dX7_road_127 : decode cX7_road 127 = .ok (.isub, 1) := by decide +kernel
theorem dX7_road_128 : decode cX7_road 128 = .ok (.ireturn, 1) := by decide +kernel
theorem dX7_road_129 : decode cX7_road 129 = .ok (.aload_n 0, 1) := by decide +kernel
theorem dX7_road_130 : decode cX7_road 130 = .ok (.bipush 59, 2) := by decide +kernel
theorem dX7_road_132 : decode cX7_road 132 = .ok (.invokevirtual 76, 3) := by decide +kernel
theorem dX7_road_135 : decode cX7_road 135 = .ok (.pop, 1) := by decide +kernel
theorem dX7_road_136 : decode cX7_road 136 = .ok (.iinc 2 1, 3) := by decide +kernel
theorem dX7_road_139 : decode cX7_road 139 = .ok (.goto (-53), 3) := by decide +kernel
theorem dX7_road_142 : decode cX7_road 142 = .ok (.aload_n 0, 1) := by decide +kernel
theorem dX7_road_143 : decode cX7_road 143 = .ok (.iconst 0, 1) := by decide +kernel
theorem dX7_road_144 : decode cX7_road 144 = .ok (.putfield 70, 3) := by decide +kernel
theorem dX7_road_147 : decode cX7_road 147 = .ok (.iload_n 2, 1) := by decide +kernel
theorem dX7_road_148 : decode cX7_road 148 = .ok (.ireturn, 1) := by decide +kernel
theorem dX7_becomes_0 : decode cX7_becomes 0 = .ok (.aload_n 0, 1) := by decide +kernel
theorem dX7_becomes_1 : decode cX7_becomes 1 = .ok (.getfield 7, 3) := by decide +kernel
theorem dX7_becomes_4 : decode cX7_becomes 4 = .ok (.iload_n 1, 1) := by decide +kernel
theorem dX7_becomes_5 : decode cX7_becomes 5 = .ok (.iload_n 2, 1) := by decide +kernel
theorem dX7_becomes_6 : decode cX7_becomes 6 = .ok (.iastore, 1) := by decide +kernel
theorem dX7_becomes_7 : decode cX7_becomes 7 = .ok (.aload_n 0, 1) := by decide +kernel
theorem dX7_becomes_8 : decode cX7_becomes 8 = .ok (.getfield 13, 3) := by decide +kernel
theorem dX7_becomes_11 : decode cX7_becomes 11 = .ok (.iload_n 1, 1) := by decide +kernel
theorem dX7_becomes_12 : decode cX7_becomes 12 = .ok (.iload_n 3, 1) := by decide +kernel
theorem dX7_becomes_13 : decode cX7_becomes 13 = .ok (.iastore, 1) := by decide +kernel
theorem dX7_becomes_14 : decode cX7_becomes 14 = .ok (.return_, 1) := by decide +kernel
theorem dX7_inLane_0 : decode cX7_inLane 0 = .ok (.iconst 0, 1) := by decide +kernel
theorem dX7_inLane_1 : decode cX7_inLane 1 = .ok (.istore_n 2, 1) := by decide +kernel
theorem dX7_inLane_2 : decode cX7_inLane 2 = .ok (.iconst 0, 1) := by decide +kernel
theorem dX7_inLane_3 : decode cX7_inLane 3 = .ok (.istore_n 3, 1) := by decide +kernel
theorem dX7_inLane_4 : decode cX7_inLane 4 = .ok (.iload_n 3, 1) := by decide +kernel
theorem dX7_inLane_5 : decode cX7_inLane 5 = .ok (.aload_n 0, 1) := by decide +kernel
theorem dX7_inLane_6 : decode cX7_inLane 6 = .ok (.getfield 59, 3) := by decide +kernel
theorem dX7_inLane_9 : decode cX7_inLane 9 = .ok (.if_icmp .ge 22, 3) := by decide +kernel
theorem dX7_inLane_12 : decode cX7_inLane 12 = .ok (.aload_n 0, 1) := by decide +kernel
theorem dX7_inLane_13 : decode cX7_inLane 13 = .ok (.getfield 19, 3) := by decide +kernel
theorem dX7_inLane_16 : decode cX7_inLane 16 = .ok (.iload_n 3, 1) := by decide +kernel
theorem dX7_inLane_17 : decode cX7_inLane 17 = .ok (.iaload, 1) := by decide +kernel
theorem dX7_inLane_18 : decode cX7_inLane 18 = .ok (.iload_n 1, 1) := by decide +kernel
theorem dX7_inLane_19 : decode cX7_inLane 19 = .ok (.if_icmp .ne 6, 3) := by decide +kernel
theorem dX7_inLane_22 : decode cX7_inLane 22 = .ok (.iinc 2 1, 3) := by decide +kernel
theorem dX7_inLane_25 : decode cX7_inLane 25 = .ok (.iinc 3 1, 3) := by decide +kernel
theorem dX7_inLane_28 : decode cX7_inLane 28 = .ok (.goto (-24), 3) := by decide +kernel
theorem dX7_inLane_31 : decode cX7_inLane 31 = .ok (.iload_n 2, 1) := by decide +kernel
theorem dX7_inLane_32 : decode cX7_inLane 32 = .ok (.ireturn, 1) := by decide +kernel
theorem dX7_closes_0 : decode cX7_closes 0 = .ok (.iconst 0, 1) := by decide +kernel
theorem dX7_closes_1 : decode cX7_closes 1 = .ok (.istore_n 3, 1) := by decide +kernel
theorem dX7_closes_2 : decode cX7_closes 2 = .ok (.iload_n 3, 1) := by decide +kernel
theorem dX7_closes_3 : decode cX7_closes 3 = .ok (.aload_n 0, 1) := by decide +kernel
theorem dX7_closes_4 : decode cX7_closes 4 = .ok (.getfield 59, 3) := by decide +kernel
theorem dX7_closes_7 : decode cX7_closes 7 = .ok (.if_icmp .ge 39, 3) := by decide +kernel
theorem dX7_closes_10 : decode cX7_closes 10 = .ok (.aload_n 0, 1) := by decide +kernel
theorem dX7_closes_11 : decode cX7_closes 11 = .ok (.getfield 19, 3) := by decide +kernel
theorem dX7_closes_14 : decode cX7_closes 14 = .ok (.iload_n 3, 1) := by decide +kernel
theorem dX7_closes_15 : decode cX7_closes 15 = .ok (.iaload, 1) := by decide +kernel
theorem dX7_closes_16 : decode cX7_closes 16 = .ok (.iload_n 1, 1) := by decide +kernel
theorem dX7_closes_17 : decode cX7_closes 17 = .ok (.if_icmp .ne 23, 3) := by decide +kernel
theorem dX7_closes_20 : decode cX7_closes 20 = .ok (.aload_n 0, 1) := by decide +kernel
theorem dX7_closes_21 : decode cX7_closes 21 = .ok (.getfield 22, 3) := by decide +kernel
theorem dX7_closes_24 : decode cX7_closes 24 = .ok (.iload_n 3, 1) := by decide +kernel
theorem dX7_closes_25 : decode cX7_closes 25 = .ok (.iaload, 1) := by decide +kernel
theorem dX7_closes_26 : decode cX7_closes 26 = .ok (.iload_n 2, 1) := by decide +kernel
theorem dX7_closes_27 : decode cX7_closes 27 = .ok (.if_icmp .le 13, 3) := by decide +kernel
theorem dX7_closes_30 : decode cX7_closes 30 = .ok (.aload_n 0, 1) := by decide +kernel
theorem dX7_closes_31 : decode cX7_closes 31 = .ok (.getfield 22, 3) := by decide +kernel
theorem dX7_closes_34 : decode cX7_closes 34 = .ok (.iload_n 3, 1) := by decide +kernel
theorem dX7_closes_35 : decode cX7_closes 35 = .ok (.dup2, 1) := by decide +kernel
theorem dX7_closes_36 : decode cX7_closes 36 = .ok (.iaload, 1) := by decide +kernel
theorem dX7_closes_37 : decode cX7_closes 37 = .ok (.iconst 1, 1) := by decide +kernel
theorem dX7_closes_38 : decode cX7_closes 38 = .ok (.isub, 1) := by decide +kernel
theorem dX7_closes_39 : decode cX7_closes 39 = .ok (.iastore, 1) := by decide +kernel
theorem dX7_closes_40 : decode cX7_closes 40 = .ok (.iinc 3 1, 3) := by decide +kernel
theorem dX7_closes_43 : decode cX7_closes 43 = .ok (.goto (-41), 3) := by decide +kernel
theorem dX7_closes_46 : decode cX7_closes 46 = .ok (.return_, 1) := by decide +kernel
theorem dX7_comes_0 : decode cX7_comes 0 = .ok (.aload_n 0, 1) := by decide +kernel
theorem dX7_comes_1 : decode cX7_comes 1 = .ok (.aload_n 0, 1) := by decide +kernel
theorem dX7_comes_2 : decode cX7_comes 2 = .ok (.getfield 19, 3) := by decide +kernel
theorem dX7_comes_5 : decode cX7_comes 5 = .ok (.iload_n 1, 1) := by decide +kernel
theorem dX7_comes_6 : decode cX7_comes 6 = .ok (.iaload, 1) := by decide +kernel
theorem dX7_comes_7 : decode cX7_comes 7 = .ok (.aload_n 0, 1) := by decide +kernel
theorem dX7_comes_8 : decode cX7_comes 8 = .ok (.getfield 22, 3) := by decide +kernel
theorem dX7_comes_11 : decode cX7_comes 11 = .ok (.iload_n 1, 1) := by decide +kernel
theorem dX7_comes_12 : decode cX7_comes 12 = .ok (.iaload, 1) := by decide +kernel
theorem dX7_comes_13 : decode cX7_comes 13 = .ok (.invokevirtual 123, 3) := by decide +kernel
theorem dX7_comes_16 : decode cX7_comes 16 = .ok (.aload_n 0, 1) := by decide +kernel
theorem dX7_comes_17 : decode cX7_comes 17 = .ok (.getfield 19, 3) := by decide +kernel
theorem dX7_comes_20 : decode cX7_comes 20 = .ok (.iload_n 1, 1) := by decide +kernel
theorem dX7_comes_21 : decode cX7_comes 21 = .ok (.bipush (-9), 2) := by decide +kernel
theorem dX7_comes_23 : decode cX7_comes 23 = .ok (.iastore, 1) := by decide +kernel
theorem dX7_comes_24 : decode cX7_comes 24 = .ok (.aload_n 0, 1) := by decide +kernel
theorem dX7_comes_25 : decode cX7_comes 25 = .ok (.getfield 22, 3) := by decide +kernel
theorem dX7_comes_28 : decode cX7_comes 28 = .ok (.iload_n 1, 1) := by decide +kernel
theorem dX7_comes_29 : decode cX7_comes 29 = .ok (.aload_n 0, 1) := by decide +kernel
theorem dX7_comes_30 : decode cX7_comes 30 = .ok (.iload_n 2, 1) := by decide +kernel
theorem dX7_comes_31 : decode cX7_comes 31 = .ok (.invokevirtual 93, 3) := by decide +kernel
theorem dX7_comes_34 : decode cX7_comes 34 = .ok (.iastore, 1) := by decide +kernel
theorem dX7_comes_35 : decode cX7_comes 35 = .ok (.aload_n 0, 1) := by decide +kernel
theorem dX7_comes_36 : decode cX7_comes 36 = .ok (.getfield 19, 3) := by decide +kernel
theorem dX7_comes_39 : decode cX7_comes 39 = .ok (.iload_n 1, 1) := by decide +kernel
theorem dX7_comes_40 : decode cX7_comes 40 = .ok (.iload_n 2, 1) := by decide +kernel
theorem dX7_comes_41 : decode cX7_comes 41 = .ok (.iastore, 1) := by decide +kernel
theorem dX7_comes_42 : decode cX7_comes 42 = .ok (.aload_n 0, 1) := by decide +kernel
theorem dX7_comes_43 : decode cX7_comes 43 = .ok (.getfield 22, 3) := by decide +kernel
theorem dX7_comes_46 : decode cX7_comes 46 = .ok (.iload_n 1, 1) := by decide +kernel
theorem dX7_comes_47 : decode cX7_comes 47 = .ok (.iaload, 1) := by decide +kernel
theorem dX7_comes_48 : decode cX7_comes 48 = .ok (.ireturn, 1) := by decide +kernel
theorem dX7_overGoes_0 : decode cX7_overGoes 0 = .ok (.aload_n 0, 1) := by decide +kernel
theorem dX7_overGoes_1 : decode cX7_overGoes 1 = .ok (.iload_n 1, 1) := by decide +kernel
theorem dX7_overGoes_2 : decode cX7_overGoes 2 = .ok (.iconst 1, 1) := by decide +kernel
theorem dX7_overGoes_3 : decode cX7_overGoes 3 = .ok (.aload_n 0, 1) := by decide +kernel
theorem dX7_overGoes_4 : decode cX7_overGoes 4 = .ok (.getfield 19, 3) := by decide +kernel
theorem dX7_overGoes_7 : decode cX7_overGoes 7 = .ok (.iload_n 1, 1) := by decide +kernel
theorem dX7_overGoes_8 : decode cX7_overGoes 8 = .ok (.iaload, 1) := by decide +kernel
theorem dX7_overGoes_9 : decode cX7_overGoes 9 = .ok (.isub, 1) := by decide +kernel
theorem dX7_overGoes_10 : decode cX7_overGoes 10 = .ok (.invokevirtual 127, 3) := by decide +kernel
theorem dX7_overGoes_13 : decode cX7_overGoes 13 = .ok (.ireturn, 1) := by decide +kernel
theorem dX7_firstStands_0 : decode cX7_firstStands 0 = .ok (.aload_n 0, 1) := by decide +kernel
theorem dX7_firstStands_1 : decode cX7_firstStands 1 = .ok (.getfield 22, 3) := by decide +kernel
theorem dX7_firstStands_4 : decode cX7_firstStands 4 = .ok (.iload_n 1, 1) := by decide +kernel
theorem dX7_firstStands_5 : decode cX7_firstStands 5 = .ok (.iaload, 1) := by decide +kernel
theorem dX7_firstStands_6 : decode cX7_firstStands 6 = .ok (.istore_n 2, 1) := by decide +kernel
theorem dX7_firstStands_7 : decode cX7_firstStands 7 = .ok (.iconst 0, 1) := by decide +kernel
theorem dX7_firstStands_8 : decode cX7_firstStands 8 = .ok (.istore_n 3, 1) := by decide +kernel
theorem dX7_firstStands_9 : decode cX7_firstStands 9 = .ok (.iload_n 3, 1) := by decide +kernel
theorem dX7_firstStands_10 : decode cX7_firstStands 10 = .ok (.aload_n 0, 1) := by decide +kernel
theorem dX7_firstStands_11 : decode cX7_firstStands 11 = .ok (.getfield 59, 3) := by decide +kernel
theorem dX7_firstStands_14 : decode cX7_firstStands 14 = .ok (.if_icmp .ge 44, 3) := by decide +kernel
theorem dX7_firstStands_17 : decode cX7_firstStands 17 = .ok (.aload_n 0, 1) := by decide +kernel
theorem dX7_firstStands_18 : decode cX7_firstStands 18 = .ok (.getfield 19, 3) := by decide +kernel
theorem dX7_firstStands_21 : decode cX7_firstStands 21 = .ok (.iload_n 3, 1) := by decide +kernel
theorem dX7_firstStands_22 : decode cX7_firstStands 22 = .ok (.iaload, 1) := by decide +kernel
theorem dX7_firstStands_23 : decode cX7_firstStands 23 = .ok (.aload_n 0, 1) := by decide +kernel
theorem dX7_firstStands_24 : decode cX7_firstStands 24 = .ok (.getfield 19, 3) := by decide +kernel
theorem dX7_firstStands_27 : decode cX7_firstStands 27 = .ok (.iload_n 1, 1) := by decide +kernel
theorem dX7_firstStands_28 : decode cX7_firstStands 28 = .ok (.iaload, 1) := by decide +kernel
theorem dX7_firstStands_29 : decode cX7_firstStands 29 = .ok (.if_icmp .ne 23, 3) := by decide +kernel
theorem dX7_firstStands_32 : decode cX7_firstStands 32 = .ok (.aload_n 0, 1) := by decide +kernel
theorem dX7_firstStands_33 : decode cX7_firstStands 33 = .ok (.getfield 22, 3) := by decide +kernel
theorem dX7_firstStands_36 : decode cX7_firstStands 36 = .ok (.iload_n 3, 1) := by decide +kernel
theorem dX7_firstStands_37 : decode cX7_firstStands 37 = .ok (.iaload, 1) := by decide +kernel
theorem dX7_firstStands_38 : decode cX7_firstStands 38 = .ok (.iload_n 2, 1) := by decide +kernel
theorem dX7_firstStands_39 : decode cX7_firstStands 39 = .ok (.if_icmp .ge 13, 3) := by decide +kernel
theorem dX7_firstStands_42 : decode cX7_firstStands 42 = .ok (.aload_n 0, 1) := by decide +kernel
theorem dX7_firstStands_43 : decode cX7_firstStands 43 = .ok (.getfield 22, 3) := by decide +kernel
theorem dX7_firstStands_46 : decode cX7_firstStands 46 = .ok (.iload_n 3, 1) := by decide +kernel
theorem dX7_firstStands_47 : decode cX7_firstStands 47 = .ok (.dup2, 1) := by decide +kernel
theorem dX7_firstStands_48 : decode cX7_firstStands 48 = .ok (.iaload, 1) := by decide +kernel
theorem dX7_firstStands_49 : decode cX7_firstStands 49 = .ok (.iconst 1, 1) := by decide +kernel
theorem dX7_firstStands_50 : decode cX7_firstStands 50 = .ok (.iadd, 1) := by decide +kernel
theorem dX7_firstStands_51 : decode cX7_firstStands 51 = .ok (.iastore, 1) := by decide +kernel
theorem dX7_firstStands_52 : decode cX7_firstStands 52 = .ok (.iinc 3 1, 3) := by decide +kernel
theorem dX7_firstStands_55 : decode cX7_firstStands 55 = .ok (.goto (-46), 3) := by decide +kernel
theorem dX7_firstStands_58 : decode cX7_firstStands 58 = .ok (.aload_n 0, 1) := by decide +kernel
theorem dX7_firstStands_59 : decode cX7_firstStands 59 = .ok (.getfield 22, 3) := by decide +kernel
theorem dX7_firstStands_62 : decode cX7_firstStands 62 = .ok (.iload_n 1, 1) := by decide +kernel
theorem dX7_firstStands_63 : decode cX7_firstStands 63 = .ok (.iconst 0, 1) := by decide +kernel
theorem dX7_firstStands_64 : decode cX7_firstStands 64 = .ok (.iastore, 1) := by decide +kernel
theorem dX7_firstStands_65 : decode cX7_firstStands 65 = .ok (.iload_n 2, 1) := by decide +kernel
theorem dX7_firstStands_66 : decode cX7_firstStands 66 = .ok (.ireturn, 1) := by decide +kernel
theorem dX7_leaves_0 : decode cX7_leaves 0 = .ok (.aload_n 0, 1) := by decide +kernel
theorem dX7_leaves_1 : decode cX7_leaves 1 = .ok (.aload_n 0, 1) := by decide +kernel
theorem dX7_leaves_2 : decode cX7_leaves 2 = .ok (.getfield 19, 3) := by decide +kernel
theorem dX7_leaves_5 : decode cX7_leaves 5 = .ok (.iload_n 1, 1) := by decide +kernel
theorem dX7_leaves_6 : decode cX7_leaves 6 = .ok (.iaload, 1) := by decide +kernel
theorem dX7_leaves_7 : decode cX7_leaves 7 = .ok (.aload_n 0, 1) := by decide +kernel
theorem dX7_leaves_8 : decode cX7_leaves 8 = .ok (.getfield 22, 3) := by decide +kernel
theorem dX7_leaves_11 : decode cX7_leaves 11 = .ok (.iload_n 1, 1) := by decide +kernel
theorem dX7_leaves_12 : decode cX7_leaves 12 = .ok (.iaload, 1) := by decide +kernel
theorem dX7_leaves_13 : decode cX7_leaves 13 = .ok (.invokevirtual 123, 3) := by decide +kernel
theorem dX7_leaves_16 : decode cX7_leaves 16 = .ok (.aload_n 0, 1) := by decide +kernel
theorem dX7_leaves_17 : decode cX7_leaves 17 = .ok (.getfield 19, 3) := by decide +kernel
theorem dX7_leaves_20 : decode cX7_leaves 20 = .ok (.iload_n 1, 1) := by decide +kernel
theorem dX7_leaves_21 : decode cX7_leaves 21 = .ok (.bipush (-9), 2) := by decide +kernel
theorem dX7_leaves_23 : decode cX7_leaves 23 = .ok (.iastore, 1) := by decide +kernel
theorem dX7_leaves_24 : decode cX7_leaves 24 = .ok (.return_, 1) := by decide +kernel
theorem dX7_letsOf_0 : decode cX7_letsOf 0 = .ok (.aload_n 0, 1) := by decide +kernel
theorem dX7_letsOf_1 : decode cX7_letsOf 1 = .ok (.getfield 7, 3) := by decide +kernel
theorem dX7_letsOf_4 : decode cX7_letsOf 4 = .ok (.iload_n 1, 1) := by decide +kernel
theorem dX7_letsOf_5 : decode cX7_letsOf 5 = .ok (.iaload, 1) := by decide +kernel
theorem dX7_letsOf_6 : decode cX7_letsOf 6 = .ok (.tableswitch 56 1 5 #[34, 41, 52, 56, 54], 34) := by decide +kernel
theorem dX7_letsOf_40 : decode cX7_letsOf 40 = .ok (.aload_n 0, 1) := by decide +kernel
theorem dX7_letsOf_41 : decode cX7_letsOf 41 = .ok (.getfield 13, 3) := by decide +kernel
theorem dX7_letsOf_44 : decode cX7_letsOf 44 = .ok (.iload_n 1, 1) := by decide +kernel
theorem dX7_letsOf_45 : decode cX7_letsOf 45 = .ok (.iaload, 1) := by decide +kernel
theorem dX7_letsOf_46 : decode cX7_letsOf 46 = .ok (.ireturn, 1) := by decide +kernel
theorem dX7_letsOf_47 : decode cX7_letsOf 47 = .ok (.iconst 0, 1) := by decide +kernel
theorem dX7_letsOf_48 : decode cX7_letsOf 48 = .ok (.aload_n 0, 1) := by decide +kernel
theorem dX7_letsOf_49 : decode cX7_letsOf 49 = .ok (.getfield 103, 3) := by decide +kernel
theorem dX7_letsOf_52 : decode cX7_letsOf 52 = .ok (.iconst 1, 1) := by decide +kernel
theorem dX7_letsOf_53 : decode cX7_letsOf 53 = .ok (.isub, 1) := by decide +kernel
theorem dX7_letsOf_54 : decode cX7_letsOf 54 = .ok (.invokestatic 131, 3) := by decide +kernel
theorem dX7_letsOf_57 : decode cX7_letsOf 57 = .ok (.ireturn, 1) := by decide +kernel
theorem dX7_letsOf_58 : decode cX7_letsOf 58 = .ok (.iconst 0, 1) := by decide +kernel
theorem dX7_letsOf_59 : decode cX7_letsOf 59 = .ok (.ireturn, 1) := by decide +kernel
theorem dX7_letsOf_60 : decode cX7_letsOf 60 = .ok (.iconst 1, 1) := by decide +kernel
theorem dX7_letsOf_61 : decode cX7_letsOf 61 = .ok (.ireturn, 1) := by decide +kernel
theorem dX7_letsOf_62 : decode cX7_letsOf 62 = .ok (.aload_n 0, 1) := by decide +kernel
theorem dX7_letsOf_63 : decode cX7_letsOf 63 = .ok (.getfield 103, 3) := by decide +kernel
theorem dX7_letsOf_66 : decode cX7_letsOf 66 = .ok (.ireturn, 1) := by decide +kernel
theorem dX7_secondsOf_0 : decode cX7_secondsOf 0 = .ok (.aload_n 0, 1) := by decide +kernel
theorem dX7_secondsOf_1 : decode cX7_secondsOf 1 = .ok (.getfield 7, 3) := by decide +kernel
theorem dX7_secondsOf_4 : decode cX7_secondsOf 4 = .ok (.iload_n 1, 1) := by decide +kernel
theorem dX7_secondsOf_5 : decode cX7_secondsOf 5 = .ok (.iaload, 1) := by decide +kernel
theorem dX7_secondsOf_6 : decode cX7_secondsOf 6 = .ok (.iconst 2, 1) := by decide +kernel
theorem dX7_secondsOf_7 : decode cX7_secondsOf 7 = .ok (.if_icmp .ne 7, 3) := by decide +kernel
theorem dX7_secondsOf_10 : decode cX7_secondsOf 10 = .ok (.iconst 1, 1) := by decide +kernel
theorem dX7_secondsOf_11 : decode cX7_secondsOf 11 = .ok (.goto 32, 3) := by decide +kernel
theorem dX7_secondsOf_14 : decode cX7_secondsOf 14 = .ok (.aload_n 0, 1) := by decide +kernel
theorem dX7_secondsOf_15 : decode cX7_secondsOf 15 = .ok (.getfield 7, 3) := by decide +kernel
theorem dX7_secondsOf_18 : decode cX7_secondsOf 18 = .ok (.iload_n 1, 1) := by decide +kernel
theorem dX7_secondsOf_19 : decode cX7_secondsOf 19 = .ok (.iaload, 1) := by decide +kernel
theorem dX7_secondsOf_20 : decode cX7_secondsOf 20 = .ok (.iconst 3, 1) := by decide +kernel
theorem dX7_secondsOf_21 : decode cX7_secondsOf 21 = .ok (.if_icmp .ne 7, 3) := by decide +kernel
theorem dX7_secondsOf_24 : decode cX7_secondsOf 24 = .ok (.iconst 3, 1) := by decide +kernel
theorem dX7_secondsOf_25 : decode cX7_secondsOf 25 = .ok (.goto 18, 3) := by decide +kernel
theorem dX7_secondsOf_28 : decode cX7_secondsOf 28 = .ok (.aload_n 0, 1) := by decide +kernel
theorem dX7_secondsOf_29 : decode cX7_secondsOf 29 = .ok (.getfield 7, 3) := by decide +kernel
theorem dX7_secondsOf_32 : decode cX7_secondsOf 32 = .ok (.iload_n 1, 1) := by decide +kernel
theorem dX7_secondsOf_33 : decode cX7_secondsOf 33 = .ok (.iaload, 1) := by decide +kernel
theorem dX7_secondsOf_34 : decode cX7_secondsOf 34 = .ok (.iconst 4, 1) := by decide +kernel
theorem dX7_secondsOf_35 : decode cX7_secondsOf 35 = .ok (.if_icmp .ne 7, 3) := by decide +kernel
theorem dX7_secondsOf_38 : decode cX7_secondsOf 38 = .ok (.iconst 4, 1) := by decide +kernel
theorem dX7_secondsOf_39 : decode cX7_secondsOf 39 = .ok (.goto 4, 3) := by decide +kernel
theorem dX7_secondsOf_42 : decode cX7_secondsOf 42 = .ok (.iconst 2, 1) := by decide +kernel
theorem dX7_secondsOf_43 : decode cX7_secondsOf 43 = .ok (.istore_n 2, 1) := by decide +kernel
theorem dX7_secondsOf_44 : decode cX7_secondsOf 44 = .ok (.aload_n 0, 1) := by decide +kernel
theorem dX7_secondsOf_45 : decode cX7_secondsOf 45 = .ok (.getfield 136, 3) := by decide +kernel
theorem dX7_secondsOf_48 : decode cX7_secondsOf 48 = .ok (.ifCond .eq 13, 3) := by decide +kernel
theorem dX7_secondsOf_51 : decode cX7_secondsOf 51 = .ok (.iconst 1, 1) := by decide +kernel
theorem dX7_secondsOf_52 : decode cX7_secondsOf 52 = .ok (.iload_n 2, 1) := by decide +kernel
theorem dX7_secondsOf_53 : decode cX7_secondsOf 53 = .ok (.iconst 1, 1) := by decide +kernel
theorem dX7_secondsOf_54 : decode cX7_secondsOf 54 = .ok (.isub, 1) := by decide +kernel
theorem dX7_secondsOf_55 : decode cX7_secondsOf 55 = .ok (.invokestatic 131, 3) := by decide +kernel
theorem dX7_secondsOf_58 : decode cX7_secondsOf 58 = .ok (.goto 4, 3) := by decide +kernel
theorem dX7_secondsOf_61 : decode cX7_secondsOf 61 = .ok (.iload_n 2, 1) := by decide +kernel
theorem dX7_secondsOf_62 : decode cX7_secondsOf 62 = .ok (.ireturn, 1) := by decide +kernel
theorem dX7_car_0 : decode cX7_car 0 = .ok (.aload_n 0, 1) := by decide +kernel
theorem dX7_car_1 : decode cX7_car 1 = .ok (.iload_n 1, 1) := by decide +kernel
theorem dX7_car_2 : decode cX7_car 2 = .ok (.invokevirtual 96, 3) := by decide +kernel
theorem dX7_car_5 : decode cX7_car 5 = .ok (.ifCond .ne 9, 3) := by decide +kernel
theorem dX7_car_8 : decode cX7_car 8 = .ok (.aload_n 0, 1) := by decide +kernel
theorem dX7_car_9 : decode cX7_car 9 = .ok (.iconst (-1), 1) := by decide +kernel
theorem dX7_car_10 : decode cX7_car 10 = .ok (.invokevirtual 66, 3) := by decide +kernel
theorem dX7_car_13 : decode cX7_car 13 = .ok (.ireturn, 1) := by decide +kernel
theorem dX7_car_14 : decode cX7_car 14 = .ok (.iload_n 2, 1) := by decide +kernel
theorem dX7_car_15 : decode cX7_car 15 = .ok (.tableswitch 88 0 6 #[41, 48, 55, 62, 69, 76, 82], 41) := by decide +kernel
theorem dX7_car_56 : decode cX7_car 56 = .ok (.aload_n 0, 1) := by decide +kernel
theorem dX7_car_57 : decode cX7_car 57 = .ok (.getfield 7, 3) := by decide +kernel
theorem dX7_car_60 : decode cX7_car 60 = .ok (.iload_n 1, 1) := by decide +kernel
theorem dX7_car_61 : decode cX7_car 61 = .ok (.iaload, 1) := by decide +kernel
theorem dX7_car_62 : decode cX7_car 62 = .ok (.ireturn, 1) := by decide +kernel
theorem dX7_car_63 : decode cX7_car 63 = .ok (.aload_n 0, 1) := by decide +kernel
theorem dX7_car_64 : decode cX7_car 64 = .ok (.getfield 13, 3) := by decide +kernel
theorem dX7_car_67 : decode cX7_car 67 = .ok (.iload_n 1, 1) := by decide +kernel
theorem dX7_car_68 : decode cX7_car 68 = .ok (.iaload, 1) := by decide +kernel
theorem dX7_car_69 : decode cX7_car 69 = .ok (.ireturn, 1) := by decide +kernel
theorem dX7_car_70 : decode cX7_car 70 = .ok (.aload_n 0, 1) := by decide +kernel
theorem dX7_car_71 : decode cX7_car 71 = .ok (.getfield 19, 3) := by decide +kernel
theorem dX7_car_74 : decode cX7_car 74 = .ok (.iload_n 1, 1) := by decide +kernel
theorem dX7_car_75 : decode cX7_car 75 = .ok (.iaload, 1) := by decide +kernel
theorem dX7_car_76 : decode cX7_car 76 = .ok (.ireturn, 1) := by decide +kernel
theorem dX7_car_77 : decode cX7_car 77 = .ok (.aload_n 0, 1) := by decide +kernel
theorem dX7_car_78 : decode cX7_car 78 = .ok (.getfield 16, 3) := by decide +kernel
theorem dX7_car_81 : decode cX7_car 81 = .ok (.iload_n 1, 1) := by decide +kernel
theorem dX7_car_82 : decode cX7_car 82 = .ok (.iaload, 1) := by decide +kernel
theorem dX7_car_83 : decode cX7_car 83 = .ok (.ireturn, 1) := by decide +kernel
theorem dX7_car_84 : decode cX7_car 84 = .ok (.aload_n 0, 1) := by decide +kernel
theorem dX7_car_85 : decode cX7_car 85 = .ok (.getfield 22, 3) := by decide +kernel
theorem dX7_car_88 : decode cX7_car 88 = .ok (.iload_n 1, 1) := by decide +kernel
theorem dX7_car_89 : decode cX7_car 89 = .ok (.iaload, 1) := by decide +kernel
theorem dX7_car_90 : decode cX7_car 90 = .ok (.ireturn, 1) := by decide +kernel
theorem dX7_car_91 : decode cX7_car 91 = .ok (.aload_n 0, 1) := by decide +kernel
theorem dX7_car_92 : decode cX7_car 92 = .ok (.iload_n 1, 1) := by decide +kernel
theorem dX7_car_93 : decode cX7_car 93 = .ok (.invokevirtual 140, 3) := by decide +kernel
theorem dX7_car_96 : decode cX7_car 96 = .ok (.ireturn, 1) := by decide +kernel
theorem dX7_car_97 : decode cX7_car 97 = .ok (.aload_n 0, 1) := by decide +kernel
theorem dX7_car_98 : decode cX7_car 98 = .ok (.iload_n 1, 1) := by decide +kernel
theorem dX7_car_99 : decode cX7_car 99 = .ok (.invokevirtual 143, 3) := by decide +kernel
theorem dX7_car_102 : decode cX7_car 102 = .ok (.ireturn, 1) := by decide +kernel
theorem dX7_car_103 : decode cX7_car 103 = .ok (.aload_n 0, 1) := by decide +kernel
theorem dX7_car_104 : decode cX7_car 104 = .ok (.bipush (-2), 2) := by decide +kernel
theorem dX7_car_106 : decode cX7_car 106 = .ok (.invokevirtual 66, 3) := by decide +kernel
theorem dX7_car_109 : decode cX7_car 109 = .ok (.ireturn, 1) := by decide +kernel
theorem dX7_hurry_0 : decode cX7_hurry 0 = .ok (.aload_n 0, 1) := by decide +kernel
theorem dX7_hurry_1 : decode cX7_hurry 1 = .ok (.iload_n 1, 1) := by decide +kernel
theorem dX7_hurry_2 : decode cX7_hurry 2 = .ok (.invokevirtual 96, 3) := by decide +kernel
theorem dX7_hurry_5 : decode cX7_hurry 5 = .ok (.ifCond .ne 9, 3) := by decide +kernel
theorem dX7_hurry_8 : decode cX7_hurry 8 = .ok (.aload_n 0, 1) := by decide +kernel
theorem dX7_hurry_9 : decode cX7_hurry 9 = .ok (.iconst (-1), 1) := by decide +kernel
theorem dX7_hurry_10 : decode cX7_hurry 10 = .ok (.invokevirtual 66, 3) := by decide +kernel
theorem dX7_hurry_13 : decode cX7_hurry 13 = .ok (.ireturn, 1) := by decide +kernel
theorem dX7_hurry_14 : decode cX7_hurry 14 = .ok (.iload_n 2, 1) := by decide +kernel
theorem dX7_hurry_15 : decode cX7_hurry 15 = .ok (.ifCond .ge 10, 3) := by decide +kernel
theorem dX7_hurry_18 : decode cX7_hurry 18 = .ok (.aload_n 0, 1) := by decide +kernel
theorem dX7_hurry_19 : decode cX7_hurry 19 = .ok (.bipush (-4), 2) := by decide +kernel
theorem dX7_hurry_21 : decode cX7_hurry 21 = .ok (.invokevirtual 66, 3) := by decide +kernel
theorem dX7_hurry_24 : decode cX7_hurry 24 = .ok (.ireturn, 1) := by decide +kernel
theorem dX7_hurry_25 : decode cX7_hurry 25 = .ok (.iload_n 2, 1) := by decide +kernel
theorem dX7_hurry_26 : decode cX7_hurry 26 = .ok (.bipush 20, 2) := by decide +kernel
theorem dX7_hurry_28 : decode cX7_hurry 28 = .ok (.if_icmp .le 10, 3) := by decide +kernel
theorem dX7_hurry_31 : decode cX7_hurry 31 = .ok (.aload_n 0, 1) := by decide +kernel
theorem dX7_hurry_32 : decode cX7_hurry 32 = .ok (.bipush (-6), 2) := by decide +kernel
theorem dX7_hurry_34 : decode cX7_hurry 34 = .ok (.invokevirtual 66, 3) := by decide +kernel
theorem dX7_hurry_37 : decode cX7_hurry 37 = .ok (.ireturn, 1) := by decide +kernel
theorem dX7_hurry_38 : decode cX7_hurry 38 = .ok (.aload_n 0, 1) := by decide +kernel
theorem dX7_hurry_39 : decode cX7_hurry 39 = .ok (.getfield 16, 3) := by decide +kernel
theorem dX7_hurry_42 : decode cX7_hurry 42 = .ok (.iload_n 1, 1) := by decide +kernel
theorem dX7_hurry_43 : decode cX7_hurry 43 = .ok (.iaload, 1) := by decide +kernel
theorem dX7_hurry_44 : decode cX7_hurry 44 = .ok (.istore_n 3, 1) := by decide +kernel
theorem dX7_hurry_45 : decode cX7_hurry 45 = .ok (.aload_n 0, 1) := by decide +kernel
theorem dX7_hurry_46 : decode cX7_hurry 46 = .ok (.getfield 16, 3) := by decide +kernel
theorem dX7_hurry_49 : decode cX7_hurry 49 = .ok (.iload_n 1, 1) := by decide +kernel
theorem dX7_hurry_50 : decode cX7_hurry 50 = .ok (.iload_n 2, 1) := by decide +kernel
theorem dX7_hurry_51 : decode cX7_hurry 51 = .ok (.iastore, 1) := by decide +kernel
theorem dX7_hurry_52 : decode cX7_hurry 52 = .ok (.iload_n 3, 1) := by decide +kernel
theorem dX7_hurry_53 : decode cX7_hurry 53 = .ok (.ireturn, 1) := by decide +kernel
theorem dX7_goOver_0 : decode cX7_goOver 0 = .ok (.aload_n 0, 1) := by decide +kernel
theorem dX7_goOver_1 : decode cX7_goOver 1 = .ok (.iload_n 1, 1) := by decide +kernel
theorem dX7_goOver_2 : decode cX7_goOver 2 = .ok (.invokevirtual 96, 3) := by decide +kernel
theorem dX7_goOver_5 : decode cX7_goOver 5 = .ok (.ifCond .eq 11, 3) := by decide +kernel
theorem dX7_goOver_8 : decode cX7_goOver 8 = .ok (.aload_n 0, 1) := by decide +kernel
theorem dX7_goOver_9 : decode cX7_goOver 9 = .ok (.iload_n 1, 1) := by decide +kernel
theorem dX7_goOver_10 : decode cX7_goOver 10 = .ok (.invokevirtual 106, 3) := by decide +kernel
theorem dX7_goOver_13 : decode cX7_goOver 13 = .ok (.goto 8, 3) := by decide +kernel
theorem dX7_goOver_16 : decode cX7_goOver 16 = .ok (.aload_n 0, 1) := by decide +kernel
theorem dX7_goOver_17 : decode cX7_goOver 17 = .ok (.iconst (-1), 1) := by decide +kernel
theorem dX7_goOver_18 : decode cX7_goOver 18 = .ok (.invokevirtual 66, 3) := by decide +kernel
theorem dX7_goOver_21 : decode cX7_goOver 21 = .ok (.ireturn, 1) := by decide +kernel
theorem dX7_standFirst_0 : decode cX7_standFirst 0 = .ok (.aload_n 0, 1) := by decide +kernel
theorem dX7_standFirst_1 : decode cX7_standFirst 1 = .ok (.iload_n 1, 1) := by decide +kernel
theorem dX7_standFirst_2 : decode cX7_standFirst 2 = .ok (.invokevirtual 96, 3) := by decide +kernel
theorem dX7_standFirst_5 : decode cX7_standFirst 5 = .ok (.ifCond .eq 11, 3) := by decide +kernel
theorem dX7_standFirst_8 : decode cX7_standFirst 8 = .ok (.aload_n 0, 1) := by decide +kernel
theorem dX7_standFirst_9 : decode cX7_standFirst 9 = .ok (.iload_n 1, 1) := by decide +kernel
theorem dX7_standFirst_10 : decode cX7_standFirst 10 = .ok (.invokevirtual 109, 3) := by decide +kernel
theorem dX7_standFirst_13 : decode cX7_standFirst 13 = .ok (.goto 8, 3) := by decide +kernel
theorem dX7_standFirst_16 : decode cX7_standFirst 16 = .ok (.aload_n 0, 1) := by decide +kernel
theorem dX7_standFirst_17 : decode cX7_standFirst 17 = .ok (.iconst (-1), 1) := by decide +kernel
theorem dX7_standFirst_18 : decode cX7_standFirst 18 = .ok (.invokevirtual 66, 3) := by decide +kernel
theorem dX7_standFirst_21 : decode cX7_standFirst 21 = .ok (.ireturn, 1) := by decide +kernel
theorem dX7_set_0 : decode cX7_set 0 = .ok (.iload_n 1, 1) := by decide +kernel
theorem dX7_set_1 : decode cX7_set 1 = .ok (.iconst 0, 1) := by decide +kernel
theorem dX7_set_2 : decode cX7_set 2 = .ok (.iconst 1, 1) := by decide +kernel
theorem dX7_set_3 : decode cX7_set 3 = .ok (.invokestatic 62, 3) := by decide +kernel
theorem dX7_set_6 : decode cX7_set 6 = .ok (.ifCond .ne 10, 3) := by decide +kernel
theorem dX7_set_9 : decode cX7_set 9 = .ok (.aload_n 0, 1) := by decide +kernel
theorem dX7_set_10 : decode cX7_set 10 = .ok (.bipush (-2), 2) := by decide +kernel
theorem dX7_set_12 : decode cX7_set 12 = .ok (.invokevirtual 66, 3) := by decide +kernel
theorem dX7_set_15 : decode cX7_set 15 = .ok (.ireturn, 1) := by decide +kernel
theorem dX7_set_16 : decode cX7_set 16 = .ok (.iload_n 2, 1) := by decide +kernel
theorem dX7_set_17 : decode cX7_set 17 = .ok (.ifCond .ge 10, 3) := by decide +kernel
theorem dX7_set_20 : decode cX7_set 20 = .ok (.aload_n 0, 1) := by decide +kernel
theorem dX7_set_21 : decode cX7_set 21 = .ok (.bipush (-4), 2) := by decide +kernel
theorem dX7_set_23 : decode cX7_set 23 = .ok (.invokevirtual 66, 3) := by decide +kernel
theorem dX7_set_26 : decode cX7_set 26 = .ok (.ireturn, 1) := by decide +kernel
theorem dX7_set_27 : decode cX7_set 27 = .ok (.iload_n 2, 1) := by decide +kernel
theorem dX7_set_28 : decode cX7_set 28 = .ok (.iload_n 1, 1) := by decide +kernel
theorem dX7_set_29 : decode cX7_set 29 = .ok (.ifCond .ne 7, 3) := by decide +kernel
theorem dX7_set_32 : decode cX7_set 32 = .ok (.iconst 2, 1) := by decide +kernel
theorem dX7_set_33 : decode cX7_set 33 = .ok (.goto 5, 3) := by decide +kernel
theorem dX7_set_36 : decode cX7_set 36 = .ok (.bipush 9, 2) := by decide +kernel
theorem dX7_set_38 : decode cX7_set 38 = .ok (.if_icmp .le 10, 3) := by decide +kernel
theorem dX7_set_41 : decode cX7_set 41 = .ok (.aload_n 0, 1) := by decide +kernel
theorem dX7_set_42 : decode cX7_set 42 = .ok (.bipush (-6), 2) := by decide +kernel
theorem dX7_set_44 : decode cX7_set 44 = .ok (.invokevirtual 66, 3) := by decide +kernel
theorem dX7_set_47 : decode cX7_set 47 = .ok (.ireturn, 1) := by decide +kernel
theorem dX7_set_48 : decode cX7_set 48 = .ok (.iload_n 1, 1) := by decide +kernel
theorem dX7_set_49 : decode cX7_set 49 = .ok (.ifCond .ne 10, 3) := by decide +kernel
theorem dX7_set_52 : decode cX7_set 52 = .ok (.aload_n 0, 1) := by decide +kernel
theorem dX7_set_53 : decode cX7_set 53 = .ok (.getfield 103, 3) := by decide +kernel
theorem dX7_set_56 : decode cX7_set 56 = .ok (.goto 7, 3) := by decide +kernel
theorem dX7_set_59 : decode cX7_set 59 = .ok (.aload_n 0, 1) := by decide +kernel
theorem dX7_set_60 : decode cX7_set 60 = .ok (.getfield 55, 3) := by decide +kernel
theorem dX7_set_63 : decode cX7_set 63 = .ok (.istore_n 3, 1) := by decide +kernel
theorem dX7_set_64 : decode cX7_set 64 = .ok (.iload_n 1, 1) := by decide +kernel
theorem dX7_set_65 : decode cX7_set 65 = .ok (.ifCond .ne 11, 3) := by decide +kernel
theorem dX7_set_68 : decode cX7_set 68 = .ok (.aload_n 0, 1) := by decide +kernel
theorem dX7_set_69 : decode cX7_set 69 = .ok (.iload_n 2, 1) := by decide +kernel
theorem dX7_set_70 : decode cX7_set 70 = .ok (.putfield 103, 3) := by decide +kernel
theorem dX7_set_73 : decode cX7_set 73 = .ok (.goto 8, 3) := by decide +kernel
theorem dX7_set_76 : decode cX7_set 76 = .ok (.aload_n 0, 1) := by decide +kernel
theorem dX7_set_77 : decode cX7_set 77 = .ok (.iload_n 2, 1) := by decide +kernel
theorem dX7_set_78 : decode cX7_set 78 = .ok (.putfield 55, 3) := by decide +kernel
theorem dX7_set_81 : decode cX7_set 81 = .ok (.iload_n 3, 1) := by decide +kernel
theorem dX7_set_82 : decode cX7_set 82 = .ok (.ireturn, 1) := by decide +kernel
theorem dX7_standsAt_0 : decode cX7_standsAt 0 = .ok (.iconst 0, 1) := by decide +kernel
theorem dX7_standsAt_1 : decode cX7_standsAt 1 = .ok (.istore_n 3, 1) := by decide +kernel
theorem dX7_standsAt_2 : decode cX7_standsAt 2 = .ok (.iload_n 3, 1) := by decide +kernel
theorem dX7_standsAt_3 : decode cX7_standsAt 3 = .ok (.aload_n 0, 1) := by decide +kernel
theorem dX7_standsAt_4 : decode cX7_standsAt 4 = .ok (.getfield 59, 3) := by decide +kernel
theorem dX7_standsAt_7 : decode cX7_standsAt 7 = .ok (.if_icmp .ge 31, 3) := by decide +kernel
theorem dX7_standsAt_10 : decode cX7_standsAt 10 = .ok (.aload_n 0, 1) := by decide +kernel
theorem dX7_standsAt_11 : decode cX7_standsAt 11 = .ok (.getfield 19, 3) := by decide +kernel
theorem dX7_standsAt_14 : decode cX7_standsAt 14 = .ok (.iload_n 3, 1) := by decide +kernel
theorem dX7_standsAt_15 : decode cX7_standsAt 15 = .ok (.iaload, 1) := by decide +kernel
theorem dX7_standsAt_16 : decode cX7_standsAt 16 = .ok (.iload_n 1, 1) := by decide +kernel
theorem dX7_standsAt_17 : decode cX7_standsAt 17 = .ok (.if_icmp .ne 15, 3) := by decide +kernel
theorem dX7_standsAt_20 : decode cX7_standsAt 20 = .ok (.aload_n 0, 1) := by decide +kernel
theorem dX7_standsAt_21 : decode cX7_standsAt 21 = .ok (.getfield 22, 3) := by decide +kernel
theorem dX7_standsAt_24 : decode cX7_standsAt 24 = .ok (.iload_n 3, 1) := by decide +kernel
theorem dX7_standsAt_25 : decode cX7_standsAt 25 = .ok (.iaload, 1) := by decide +kernel
theorem dX7_standsAt_26 : decode cX7_standsAt 26 = .ok (.iload_n 2, 1) := by decide +kernel
theorem dX7_standsAt_27 : decode cX7_standsAt 27 = .ok (.if_icmp .ne 5, 3) := by decide +kernel
theorem dX7_standsAt_30 : decode cX7_standsAt 30 = .ok (.iload_n 3, 1) := by decide +kernel
theorem dX7_standsAt_31 : decode cX7_standsAt 31 = .ok (.ireturn, 1) := by decide +kernel
theorem dX7_standsAt_32 : decode cX7_standsAt 32 = .ok (.iinc 3 1, 3) := by decide +kernel
theorem dX7_standsAt_35 : decode cX7_standsAt 35 = .ok (.goto (-33), 3) := by decide +kernel
theorem dX7_standsAt_38 : decode cX7_standsAt 38 = .ok (.bipush (-9), 2) := by decide +kernel
theorem dX7_standsAt_40 : decode cX7_standsAt 40 = .ok (.ireturn, 1) := by decide +kernel
theorem dX7_run_0 : decode cX7_run 0 = .ok (.iconst 0, 1) := by decide +kernel
theorem dX7_run_1 : decode cX7_run 1 = .ok (.istore_n 1, 1) := by decide +kernel
theorem dX7_run_2 : decode cX7_run 2 = .ok (.iconst 0, 1) := by decide +kernel
theorem dX7_run_3 : decode cX7_run 3 = .ok (.istore_n 2, 1) := by decide +kernel
theorem dX7_run_4 : decode cX7_run 4 = .ok (.iconst 0, 1) := by decide +kernel
theorem dX7_run_5 : decode cX7_run 5 = .ok (.istore_n 3, 1) := by decide +kernel
theorem dX7_run_6 : decode cX7_run 6 = .ok (.bipush (-9), 2) := by decide +kernel
theorem dX7_run_8 : decode cX7_run 8 = .ok (.istore 4, 2) := by decide +kernel
theorem dX7_run_10 : decode cX7_run 10 = .ok (.iconst 0, 1) := by decide +kernel
theorem dX7_run_11 : decode cX7_run 11 = .ok (.istore 5, 2) := by decide +kernel
theorem dX7_run_13 : decode cX7_run 13 = .ok (.iconst 0, 1) := by decide +kernel
theorem dX7_run_14 : decode cX7_run 14 = .ok (.istore 6, 2) := by decide +kernel
theorem dX7_run_16 : decode cX7_run 16 = .ok (.aload_n 0, 1) := by decide +kernel
theorem dX7_run_17 : decode cX7_run 17 = .ok (.iconst 0, 1) := by decide +kernel
theorem dX7_run_18 : decode cX7_run 18 = .ok (.putfield 146, 3) := by decide +kernel
theorem dX7_run_21 : decode cX7_run 21 = .ok (.aload_n 0, 1) := by decide +kernel
theorem dX7_run_22 : decode cX7_run 22 = .ok (.iconst 0, 1) := by decide +kernel
theorem dX7_run_23 : decode cX7_run 23 = .ok (.putfield 149, 3) := by decide +kernel
theorem dX7_run_26 : decode cX7_run 26 = .ok (.aload_n 0, 1) := by decide +kernel
theorem dX7_run_27 : decode cX7_run 27 = .ok (.iconst 0, 1) := by decide +kernel
theorem dX7_run_28 : decode cX7_run 28 = .ok (.putfield 152, 3) := by decide +kernel
theorem dX7_run_31 : decode cX7_run 31 = .ok (.aload_n 0, 1) := by decide +kernel
theorem dX7_run_32 : decode cX7_run 32 = .ok (.iconst 0, 1) := by decide +kernel
theorem dX7_run_33 : decode cX7_run 33 = .ok (.putfield 155, 3) := by decide +kernel
theorem dX7_run_36 : decode cX7_run 36 = .ok (.aload_n 0, 1) := by decide +kernel
theorem dX7_run_37 : decode cX7_run 37 = .ok (.iconst 0, 1) := by decide +kernel
theorem dX7_run_38 : decode cX7_run 38 = .ok (.iload_n 1, 1) := by decide +kernel
theorem dX7_run_39 : decode cX7_run 39 = .ok (.invokevirtual 158, 3) := by decide +kernel
theorem dX7_run_42 : decode cX7_run 42 = .ok (.istore 7, 2) := by decide +kernel
theorem dX7_run_44 : decode cX7_run 44 = .ok (.aload_n 0, 1) := by decide +kernel
theorem dX7_run_45 : decode cX7_run 45 = .ok (.iconst 1, 1) := by decide +kernel
theorem dX7_run_46 : decode cX7_run 46 = .ok (.iload_n 2, 1) := by decide +kernel
theorem dX7_run_47 : decode cX7_run 47 = .ok (.invokevirtual 158, 3) := by decide +kernel
theorem dX7_run_50 : decode cX7_run 50 = .ok (.istore 8, 2) := by decide +kernel
theorem dX7_run_52 : decode cX7_run 52 = .ok (.iload 7, 2) := by decide +kernel
theorem dX7_run_54 : decode cX7_run 54 = .ok (.bipush (-9), 2) := by decide +kernel
theorem dX7_run_56 : decode cX7_run 56 = .ok (.if_icmp .ne 10, 3) := by decide +kernel
theorem dX7_run_59 : decode cX7_run 59 = .ok (.iload 8, 2) := by decide +kernel
theorem dX7_run_61 : decode cX7_run 61 = .ok (.bipush (-9), 2) := by decide +kernel
theorem dX7_run_63 : decode cX7_run 63 = .ok (.if_icmp .eq 287, 3) := by decide +kernel
theorem dX7_run_66 : decode cX7_run 66 = .ok (.iconst 0, 1) := by decide +kernel
theorem dX7_run_67 : decode cX7_run 67 = .ok (.istore 9, 2) := by decide +kernel
theorem dX7_run_69 : decode cX7_run 69 = .ok (.iload 7, 2) := by decide +kernel
theorem dX7_run_71 : decode cX7_run 71 = .ok (.bipush (-9), 2) := by decide +kernel
theorem dX7_run_73 : decode cX7_run 73 = .ok (.if_icmp .ne 7, 3) := by decide +kernel
theorem dX7_run_76 : decode cX7_run 76 = .ok (.iconst 1, 1) := by decide +kernel
theorem dX7_run_77 : decode cX7_run 77 = .ok (.goto 4, 3) := by decide +kernel
theorem dX7_run_80 : decode cX7_run 80 = .ok (.iconst 0, 1) := by decide +kernel
theorem dX7_run_81 : decode cX7_run 81 = .ok (.istore 10, 2) := by decide +kernel
theorem dX7_run_83 : decode cX7_run 83 = .ok (.iload 7, 2) := by decide +kernel
theorem dX7_run_85 : decode cX7_run 85 = .ok (.bipush (-9), 2) := by decide +kernel
theorem dX7_run_87 : decode cX7_run 87 = .ok (.if_icmp .eq 62, 3) := by decide +kernel
theorem dX7_run_90 : decode cX7_run 90 = .ok (.iload 8, 2) := by decide +kernel
theorem dX7_run_92 : decode cX7_run 92 = .ok (.bipush (-9), 2) := by decide +kernel
theorem dX7_run_94 : decode cX7_run 94 = .ok (.if_icmp .eq 55, 3) := by decide +kernel
theorem dX7_run_97 : decode cX7_run 97 = .ok (.iload_n 3, 1) := by decide +kernel
theorem dX7_run_98 : decode cX7_run 98 = .ok (.aload_n 0, 1) := by decide +kernel
theorem dX7_run_99 : decode cX7_run 99 = .ok (.iload 7, 2) := by decide +kernel
theorem dX7_run_101 : decode cX7_run 101 = .ok (.invokevirtual 140, 3) := by decide +kernel
theorem dX7_run_104 : decode cX7_run 104 = .ok (.if_icmp .ge 12, 3) := by decide +kernel
theorem dX7_run_107 : decode cX7_run 107 = .ok (.iinc 3 1, 3) := by decide +kernel
theorem dX7_run_110 : decode cX7_run 110 = .ok (.iconst 1, 1) := by decide +kernel
theorem dX7_run_111 : decode cX7_run 111 = .ok (.istore 10, 2) := by decide +kernel
theorem dX7_run_113 : decode cX7_run 113 = .ok (.goto 36, 3) := by decide +kernel
theorem dX7_run_116 : decode cX7_run 116 = .ok (.aload_n 0, 1) := by decide +kernel
theorem dX7_run_117 : decode cX7_run 117 = .ok (.getfield 7, 3) := by decide +kernel
theorem dX7_run_120 : decode cX7_run 120 = .ok (.iload 8, 2) := by decide +kernel
theorem dX7_run_122 : decode cX7_run 122 = .ok (.iaload, 1) := by decide +kernel
theorem dX7_run_123 : decode cX7_run 123 = .ok (.iconst 2, 1) := by decide +kernel
theorem dX7_run_124 : decode cX7_run 124 = .ok (.if_icmp .ne 18, 3) := by decide +kernel
theorem dX7_run_127 : decode cX7_run 127 = .ok (.iload 4, 2) := by decide +kernel
theorem dX7_run_129 : decode cX7_run 129 = .ok (.iconst 1, 1) := by decide +kernel
theorem dX7_run_130 : decode cX7_run 130 = .ok (.if_icmp .ne 12, 3) := by decide +kernel
theorem dX7_run_133 : decode cX7_run 133 = .ok (.iload 5, 2) := by decide +kernel
theorem dX7_run_135 : decode cX7_run 135 = .ok (.ifCond .ne 7, 3) := by decide +kernel
theorem dX7_run_138 : decode cX7_run 138 = .ok (.iconst 1, 1) := by decide +kernel
theorem dX7_run_139 : decode cX7_run 139 = .ok (.goto 4, 3) := by decide +kernel
theorem dX7_run_142 : decode cX7_run 142 = .ok (.iconst 0, 1) := by decide +kernel
theorem dX7_run_143 : decode cX7_run 143 = .ok (.istore 9, 2) := by decide +kernel
theorem dX7_run_145 : decode cX7_run 145 = .ok (.iload 9, 2) := by decide +kernel
theorem dX7_run_147 : decode cX7_run 147 = .ok (.istore 10, 2) := by decide +kernel
theorem dX7_run_149 : decode cX7_run 149 = .ok (.iload 10, 2) := by decide +kernel
theorem dX7_run_151 : decode cX7_run 151 = .ok (.ifCond .eq 8, 3) := by decide +kernel
theorem dX7_run_154 : decode cX7_run 154 = .ok (.iload 8, 2) := by decide +kernel
theorem dX7_run_156 : decode cX7_run 156 = .ok (.goto 5, 3) := by decide +kernel
theorem dX7_run_159 : decode cX7_run 159 = .ok (.iload 7, 2) := by decide +kernel
theorem dX7_run_161 : decode cX7_run 161 = .ok (.istore 11, 2) := by decide +kernel
theorem dX7_run_163 : decode cX7_run 163 = .ok (.iload 10, 2) := by decide +kernel
theorem dX7_run_165 : decode cX7_run 165 = .ok (.ifCond .eq 7, 3) := by decide +kernel
theorem dX7_run_168 : decode cX7_run 168 = .ok (.iconst 1, 1) := by decide +kernel
theorem dX7_run_169 : decode cX7_run 169 = .ok (.goto 4, 3) := by decide +kernel
theorem dX7_run_172 : decode cX7_run 172 = .ok (.iconst 0, 1) := by decide +kernel
theorem dX7_run_173 : decode cX7_run 173 = .ok (.istore 12, 2) := by decide +kernel
theorem dX7_run_175 : decode cX7_run 175 = .ok (.aload_n 0, 1) := by decide +kernel
theorem dX7_run_176 : decode cX7_run 176 = .ok (.dup, 1) := by decide +kernel
theorem dX7_run_177 : decode cX7_run 177 = .ok (.getfield 149, 3) := by decide +kernel
theorem dX7_run_180 : decode cX7_run 180 = .ok (.aload_n 0, 1) := by decide +kernel
theorem dX7_run_181 : decode cX7_run 181 = .ok (.iload 11, 2) := by decide +kernel
theorem dX7_run_183 : decode cX7_run 183 = .ok (.invokevirtual 143, 3) := by decide +kernel
theorem dX7_run_186 : decode cX7_run 186 = .ok (.iload 4, 2) := by decide +kernel
theorem dX7_run_188 : decode cX7_run 188 = .ok (.bipush (-9), 2) := by decide +kernel
theorem dX7_run_190 : decode cX7_run 190 = .ok (.if_icmp .eq 17, 3) := by decide +kernel
theorem dX7_run_193 : decode cX7_run 193 = .ok (.iload 4, 2) := by decide +kernel
theorem dX7_run_195 : decode cX7_run 195 = .ok (.iload 12, 2) := by decide +kernel
theorem dX7_run_197 : decode cX7_run 197 = .ok (.if_icmp .eq 10, 3) := by decide +kernel
theorem dX7_run_200 : decode cX7_run 200 = .ok (.aload_n 0, 1) := by decide +kernel
theorem dX7_run_201 : decode cX7_run 201 = .ok (.getfield 55, 3) := by decide +kernel
theorem dX7_run_204 : decode cX7_run 204 = .ok (.goto 4, 3) := by decide +kernel
theorem dX7_run_207 : decode cX7_run 207 = .ok (.iconst 0, 1) := by decide +kernel
theorem dX7_run_208 : decode cX7_run 208 = .ok (.iadd, 1) := by decide +kernel
theorem dX7_run_209 : decode cX7_run 209 = .ok (.iadd, 1) := by decide +kernel
theorem dX7_run_210 : decode cX7_run 210 = .ok (.putfield 149, 3) := by decide +kernel
theorem dX7_run_213 : decode cX7_run 213 = .ok (.iload 4, 2) := by decide +kernel
theorem dX7_run_215 : decode cX7_run 215 = .ok (.bipush (-9), 2) := by decide +kernel
theorem dX7_run_217 : decode cX7_run 217 = .ok (.if_icmp .eq 20, 3) := by decide +kernel
theorem dX7_run_220 : decode cX7_run 220 = .ok (.iload 4, 2) := by decide +kernel
theorem dX7_run_222 : decode cX7_run 222 = .ok (.iload 12, 2) := by decide +kernel
theorem dX7_run_224 : decode cX7_run 224 = .ok (.if_icmp .eq 13, 3) := by decide +kernel
theorem dX7_run_227 : decode cX7_run 227 = .ok (.aload_n 0, 1) := by decide +kernel
theorem dX7_run_228 : decode cX7_run 228 = .ok (.dup, 1) := by decide +kernel
theorem dX7_run_229 : decode cX7_run 229 = .ok (.getfield 152, 3) := by decide +kernel
theorem dX7_run_232 : decode cX7_run 232 = .ok (.iconst 1, 1) := by decide +kernel
theorem dX7_run_233 : decode cX7_run 233 = .ok (.iadd, 1) := by decide +kernel
theorem dX7_run_234 : decode cX7_run 234 = .ok (.putfield 152, 3) := by decide +kernel
theorem dX7_run_237 : decode cX7_run 237 = .ok (.iload 4, 2) := by decide +kernel
theorem dX7_run_239 : decode cX7_run 239 = .ok (.iload 12, 2) := by decide +kernel
theorem dX7_run_241 : decode cX7_run 241 = .ok (.if_icmp .ne 10, 3) := by decide +kernel
theorem dX7_run_244 : decode cX7_run 244 = .ok (.iload 6, 2) := by decide +kernel
theorem dX7_run_246 : decode cX7_run 246 = .ok (.iconst 1, 1) := by decide +kernel
theorem dX7_run_247 : decode cX7_run 247 = .ok (.iadd, 1) := by decide +kernel
theorem dX7_run_248 : decode cX7_run 248 = .ok (.goto 4, 3) := by decide +kernel
theorem dX7_run_251 : decode cX7_run 251 = .ok (.iconst 1, 1) := by decide +kernel
theorem dX7_run_252 : decode cX7_run 252 = .ok (.istore 6, 2) := by decide +kernel
theorem dX7_run_254 : decode cX7_run 254 = .ok (.aload_n 0, 1) := by decide +kernel
theorem dX7_run_255 : decode cX7_run 255 = .ok (.aload_n 0, 1) := by decide +kernel
theorem dX7_run_256 : decode cX7_run 256 = .ok (.getfield 155, 3) := by decide +kernel
theorem dX7_run_259 : decode cX7_run 259 = .ok (.iload 6, 2) := by decide +kernel
theorem dX7_run_261 : decode cX7_run 261 = .ok (.invokestatic 131, 3) := by decide +kernel
theorem dX7_run_264 : decode cX7_run 264 = .ok (.putfield 155, 3) := by decide +kernel
theorem dX7_run_267 : decode cX7_run 267 = .ok (.aload_n 0, 1) := by decide +kernel
theorem dX7_run_268 : decode cX7_run 268 = .ok (.getfield 49, 3) := by decide +kernel
theorem dX7_run_271 : decode cX7_run 271 = .ok (.iload 11, 2) := by decide +kernel
theorem dX7_run_273 : decode cX7_run 273 = .ok (.aload_n 0, 1) := by decide +kernel
theorem dX7_run_274 : decode cX7_run 274 = .ok (.getfield 149, 3) := by decide +kernel
theorem dX7_run_277 : decode cX7_run 277 = .ok (.iastore, 1) := by decide +kernel
theorem dX7_run_278 : decode cX7_run 278 = .ok (.aload_n 0, 1) := by decide +kernel
theorem dX7_run_279 : decode cX7_run 279 = .ok (.getfield 52, 3) := by decide +kernel
theorem dX7_run_282 : decode cX7_run 282 = .ok (.iload 11, 2) := by decide +kernel
theorem dX7_run_284 : decode cX7_run 284 = .ok (.aload_n 0, 1) := by decide +kernel
theorem dX7_run_285 : decode cX7_run 285 = .ok (.getfield 146, 3) := by decide +kernel
theorem dX7_run_288 : decode cX7_run 288 = .ok (.iastore, 1) := by decide +kernel
theorem dX7_run_289 : decode cX7_run 289 = .ok (.aload_n 0, 1) := by decide +kernel
theorem dX7_run_290 : decode cX7_run 290 = .ok (.getfield 46, 3) := by decide +kernel
theorem dX7_run_293 : decode cX7_run 293 = .ok (.aload_n 0, 1) := by decide +kernel
theorem dX7_run_294 : decode cX7_run 294 = .ok (.dup, 1) := by decide +kernel
theorem dX7_run_295 : decode cX7_run 295 = .ok (.getfield 146, 3) := by decide +kernel
theorem dX7_run_298 : decode cX7_run 298 = .ok (.dup_x1, 1) := by decide +kernel
theorem dX7_run_299 : decode cX7_run 299 = .ok (.iconst 1, 1) := by decide +kernel
theorem dX7_run_300 : decode cX7_run 300 = .ok (.iadd, 1) := by decide +kernel
theorem dX7_run_301 : decode cX7_run 301 = .ok (.putfield 146, 3) := by decide +kernel
theorem dX7_run_304 : decode cX7_run 304 = .ok (.iload 11, 2) := by decide +kernel
theorem dX7_run_306 : decode cX7_run 306 = .ok (.iastore, 1) := by decide +kernel
theorem dX7_run_307 : decode cX7_run 307 = .ok (.iload 12, 2) := by decide +kernel
theorem dX7_run_309 : decode cX7_run 309 = .ok (.istore 4, 2) := by decide +kernel
theorem dX7_run_311 : decode cX7_run 311 = .ok (.iload 9, 2) := by decide +kernel
theorem dX7_run_313 : decode cX7_run 313 = .ok (.istore 5, 2) := by decide +kernel
theorem dX7_run_315 : decode cX7_run 315 = .ok (.iload 10, 2) := by decide +kernel
theorem dX7_run_317 : decode cX7_run 317 = .ok (.ifCond .eq 9, 3) := by decide +kernel
theorem dX7_run_320 : decode cX7_run 320 = .ok (.iinc 2 1, 3) := by decide +kernel
theorem dX7_run_323 : decode cX7_run 323 = .ok (.goto 8, 3) := by decide +kernel
theorem dX7_run_326 : decode cX7_run 326 = .ok (.iinc 1 1, 3) := by decide +kernel
theorem dX7_run_329 : decode cX7_run 329 = .ok (.iconst 0, 1) := by decide +kernel
theorem dX7_run_330 : decode cX7_run 330 = .ok (.istore_n 3, 1) := by decide +kernel
theorem dX7_run_331 : decode cX7_run 331 = .ok (.aload_n 0, 1) := by decide +kernel
theorem dX7_run_332 : decode cX7_run 332 = .ok (.iconst 0, 1) := by decide +kernel
theorem dX7_run_333 : decode cX7_run 333 = .ok (.iload_n 1, 1) := by decide +kernel
theorem dX7_run_334 : decode cX7_run 334 = .ok (.invokevirtual 158, 3) := by decide +kernel
theorem dX7_run_337 : decode cX7_run 337 = .ok (.istore 7, 2) := by decide +kernel
theorem dX7_run_339 : decode cX7_run 339 = .ok (.aload_n 0, 1) := by decide +kernel
theorem dX7_run_340 : decode cX7_run 340 = .ok (.iconst 1, 1) := by decide +kernel
theorem dX7_run_341 : decode cX7_run 341 = .ok (.iload_n 2, 1) := by decide +kernel
theorem dX7_run_342 : decode cX7_run 342 = .ok (.invokevirtual 158, 3) := by decide +kernel
theorem dX7_run_345 : decode cX7_run 345 = .ok (.istore 8, 2) := by decide +kernel
theorem dX7_run_347 : decode cX7_run 347 = .ok (.goto (-295), 3) := by decide +kernel
theorem dX7_run_350 : decode cX7_run 350 = .ok (.return_, 1) := by decide +kernel
theorem dX7_cost_0 : decode cX7_cost 0 = .ok (.aload_n 0, 1) := by decide +kernel
theorem dX7_cost_1 : decode cX7_cost 1 = .ok (.invokevirtual 161, 3) := by decide +kernel
theorem dX7_cost_4 : decode cX7_cost 4 = .ok (.iconst 0, 1) := by decide +kernel
theorem dX7_cost_5 : decode cX7_cost 5 = .ok (.istore_n 1, 1) := by decide +kernel
theorem dX7_cost_6 : decode cX7_cost 6 = .ok (.iconst 0, 1) := by decide +kernel
theorem dX7_cost_7 : decode cX7_cost 7 = .ok (.istore_n 2, 1) := by decide +kernel
theorem dX7_cost_8 : decode cX7_cost 8 = .ok (.iload_n 2, 1) := by decide +kernel
theorem dX7_cost_9 : decode cX7_cost 9 = .ok (.aload_n 0, 1) := by decide +kernel
theorem dX7_cost_10 : decode cX7_cost 10 = .ok (.getfield 146, 3) := by decide +kernel
theorem dX7_cost_13 : decode cX7_cost 13 = .ok (.if_icmp .ge 35, 3) := by decide +kernel
theorem dX7_cost_16 : decode cX7_cost 16 = .ok (.iload_n 1, 1) := by decide +kernel
theorem dX7_cost_17 : decode cX7_cost 17 = .ok (.aload_n 0, 1) := by decide +kernel
theorem dX7_cost_18 : decode cX7_cost 18 = .ok (.getfield 49, 3) := by decide +kernel
theorem dX7_cost_21 : decode cX7_cost 21 = .ok (.aload_n 0, 1) := by decide +kernel
theorem dX7_cost_22 : decode cX7_cost 22 = .ok (.getfield 46, 3) := by decide +kernel
theorem dX7_cost_25 : decode cX7_cost 25 = .ok (.iload_n 2, 1) := by decide +kernel
theorem dX7_cost_26 : decode cX7_cost 26 = .ok (.iaload, 1) := by decide +kernel
theorem dX7_cost_27 : decode cX7_cost 27 = .ok (.iaload, 1) := by decide +kernel
theorem dX7_cost_28 : decode cX7_cost 28 = .ok (.aload_n 0, 1) := by decide +kernel
theorem dX7_cost_29 : decode cX7_cost 29 = .ok (.getfield 16, 3) := by decide +kernel
theorem dX7_cost_32 : decode cX7_cost 32 = .ok (.aload_n 0, 1) := by decide +kernel
theorem dX7_cost_33 : decode cX7_cost 33 = .ok (.getfield 46, 3) := by decide +kernel
theorem dX7_cost_36 : decode cX7_cost 36 = .ok (.iload_n 2, 1) := by decide +kernel
theorem dX7_cost_37 : decode cX7_cost 37 = .ok (.iaload, 1) := by decide +kernel
theorem dX7_cost_38 : decode cX7_cost 38 = .ok (.iaload, 1) := by decide +kernel
theorem dX7_cost_39 : decode cX7_cost 39 = .ok (.imul, 1) := by decide +kernel
theorem dX7_cost_40 : decode cX7_cost 40 = .ok (.iadd, 1) := by decide +kernel
theorem dX7_cost_41 : decode cX7_cost 41 = .ok (.istore_n 1, 1) := by decide +kernel
theorem dX7_cost_42 : decode cX7_cost 42 = .ok (.iinc 2 1, 3) := by decide +kernel
theorem dX7_cost_45 : decode cX7_cost 45 = .ok (.goto (-37), 3) := by decide +kernel
theorem dX7_cost_48 : decode cX7_cost 48 = .ok (.iload_n 1, 1) := by decide +kernel
theorem dX7_cost_49 : decode cX7_cost 49 = .ok (.ireturn, 1) := by decide +kernel
theorem dX7_seconds_0 : decode cX7_seconds 0 = .ok (.aload_n 0, 1) := by decide +kernel
theorem dX7_seconds_1 : decode cX7_seconds 1 = .ok (.invokevirtual 161, 3) := by decide +kernel
theorem dX7_seconds_4 : decode cX7_seconds 4 = .ok (.aload_n 0, 1) := by decide +kernel
theorem dX7_seconds_5 : decode cX7_seconds 5 = .ok (.getfield 149, 3) := by decide +kernel
theorem dX7_seconds_8 : decode cX7_seconds 8 = .ok (.ireturn, 1) := by decide +kernel
theorem dX7_order_0 : decode cX7_order 0 = .ok (.aload_n 0, 1) := by decide +kernel
theorem dX7_order_1 : decode cX7_order 1 = .ok (.invokevirtual 161, 3) := by decide +kernel
theorem dX7_order_4 : decode cX7_order 4 = .ok (.iload_n 1, 1) := by decide +kernel
theorem dX7_order_5 : decode cX7_order 5 = .ok (.iconst 0, 1) := by decide +kernel
theorem dX7_order_6 : decode cX7_order 6 = .ok (.aload_n 0, 1) := by decide +kernel
theorem dX7_order_7 : decode cX7_order 7 = .ok (.getfield 146, 3) := by decide +kernel
theorem dX7_order_10 : decode cX7_order 10 = .ok (.iconst 1, 1) := by decide +kernel
theorem dX7_order_11 : decode cX7_order 11 = .ok (.isub, 1) := by decide +kernel
theorem dX7_order_12 : decode cX7_order 12 = .ok (.invokestatic 62, 3) := by decide +kernel
theorem dX7_order_15 : decode cX7_order 15 = .ok (.ifCond .eq 12, 3) := by decide +kernel
theorem dX7_order_18 : decode cX7_order 18 = .ok (.aload_n 0, 1) := by decide +kernel
theorem dX7_order_19 : decode cX7_order 19 = .ok (.getfield 46, 3) := by decide +kernel
theorem dX7_order_22 : decode cX7_order 22 = .ok (.iload_n 1, 1) := by decide +kernel
theorem dX7_order_23 : decode cX7_order 23 = .ok (.iaload, 1) := by decide +kernel
theorem dX7_order_24 : decode cX7_order 24 = .ok (.goto 8, 3) := by decide +kernel
theorem dX7_order_27 : decode cX7_order 27 = .ok (.aload_n 0, 1) := by decide +kernel
theorem dX7_order_28 : decode cX7_order 28 = .ok (.iconst (-1), 1) := by decide +kernel
theorem dX7_order_29 : decode cX7_order 29 = .ok (.invokevirtual 66, 3) := by decide +kernel
theorem dX7_order_32 : decode cX7_order 32 = .ok (.ireturn, 1) := by decide +kernel
theorem dX7_of_0 : decode cX7_of 0 = .ok (.aload_n 0, 1) := by decide +kernel
theorem dX7_of_1 : decode cX7_of 1 = .ok (.iload_n 1, 1) := by decide +kernel
theorem dX7_of_2 : decode cX7_of 2 = .ok (.invokevirtual 96, 3) := by decide +kernel
theorem dX7_of_5 : decode cX7_of 5 = .ok (.ifCond .ne 9, 3) := by decide +kernel
theorem dX7_of_8 : decode cX7_of 8 = .ok (.aload_n 0, 1) := by decide +kernel
theorem dX7_of_9 : decode cX7_of 9 = .ok (.iconst (-1), 1) := by decide +kernel
theorem dX7_of_10 : decode cX7_of 10 = .ok (.invokevirtual 66, 3) := by decide +kernel
theorem dX7_of_13 : decode cX7_of 13 = .ok (.ireturn, 1) := by decide +kernel
theorem dX7_of_14 : decode cX7_of 14 = .ok (.iload_n 2, 1) := by decide +kernel
theorem dX7_of_15 : decode cX7_of 15 = .ok (.iconst 0, 1) := by decide +kernel
theorem dX7_of_16 : decode cX7_of 16 = .ok (.iconst 1, 1) := by decide +kernel
theorem dX7_of_17 : decode cX7_of 17 = .ok (.invokestatic 62, 3) := by decide +kernel
theorem dX7_of_20 : decode cX7_of 20 = .ok (.ifCond .ne 10, 3) := by decide +kernel
theorem dX7_of_23 : decode cX7_of 23 = .ok (.aload_n 0, 1) := by decide +kernel
theorem dX7_of_24 : decode cX7_of 24 = .ok (.bipush (-2), 2) := by decide +kernel
theorem dX7_of_26 : decode cX7_of 26 = .ok (.invokevirtual 66, 3) := by decide +kernel
theorem dX7_of_29 : decode cX7_of 29 = .ok (.ireturn, 1) := by decide +kernel
theorem dX7_of_30 : decode cX7_of 30 = .ok (.aload_n 0, 1) := by decide +kernel
theorem dX7_of_31 : decode cX7_of 31 = .ok (.invokevirtual 161, 3) := by decide +kernel
theorem dX7_of_34 : decode cX7_of 34 = .ok (.iload_n 2, 1) := by decide +kernel
theorem dX7_of_35 : decode cX7_of 35 = .ok (.ifCond .ne 12, 3) := by decide +kernel
theorem dX7_of_38 : decode cX7_of 38 = .ok (.aload_n 0, 1) := by decide +kernel
theorem dX7_of_39 : decode cX7_of 39 = .ok (.getfield 49, 3) := by decide +kernel
theorem dX7_of_42 : decode cX7_of 42 = .ok (.iload_n 1, 1) := by decide +kernel
theorem dX7_of_43 : decode cX7_of 43 = .ok (.iaload, 1) := by decide +kernel
theorem dX7_of_44 : decode cX7_of 44 = .ok (.goto 9, 3) := by decide +kernel
theorem dX7_of_47 : decode cX7_of 47 = .ok (.aload_n 0, 1) := by decide +kernel
theorem dX7_of_48 : decode cX7_of 48 = .ok (.getfield 52, 3) := by decide +kernel
theorem dX7_of_51 : decode cX7_of 51 = .ok (.iload_n 1, 1) := by decide +kernel
theorem dX7_of_52 : decode cX7_of 52 = .ok (.iaload, 1) := by decide +kernel
theorem dX7_of_53 : decode cX7_of 53 = .ok (.ireturn, 1) := by decide +kernel
theorem dX7_sums_0 : decode cX7_sums 0 = .ok (.iconst 0, 1) := by decide +kernel
theorem dX7_sums_1 : decode cX7_sums 1 = .ok (.istore_n 2, 1) := by decide +kernel
theorem dX7_sums_2 : decode cX7_sums 2 = .ok (.iload_n 1, 1) := by decide +kernel
theorem dX7_sums_3 : decode cX7_sums 3 = .ok (.tableswitch 97 0 4 #[33, 38, 74, 79, 88], 33) := by decide +kernel
theorem dX7_sums_36 : decode cX7_sums 36 = .ok (.aload_n 0, 1) := by decide +kernel
theorem dX7_sums_37 : decode cX7_sums 37 = .ok (.invokevirtual 164, 3) := by decide +kernel
theorem dX7_sums_40 : decode cX7_sums 40 = .ok (.ireturn, 1) := by decide +kernel
theorem dX7_sums_41 : decode cX7_sums 41 = .ok (.aload_n 0, 1) := by decide +kernel
theorem dX7_sums_42 : decode cX7_sums 42 = .ok (.invokevirtual 161, 3) := by decide +kernel
theorem dX7_sums_45 : decode cX7_sums 45 = .ok (.iconst 0, 1) := by decide +kernel
theorem dX7_sums_46 : decode cX7_sums 46 = .ok (.istore_n 3, 1) := by decide +kernel
theorem dX7_sums_47 : decode cX7_sums 47 = .ok (.iload_n 3, 1) := by decide +kernel
theorem dX7_sums_48 : decode cX7_sums 48 = .ok (.aload_n 0, 1) := by decide +kernel
theorem dX7_sums_49 : decode cX7_sums 49 = .ok (.getfield 146, 3) := by decide +kernel
theorem dX7_sums_52 : decode cX7_sums 52 = .ok (.if_icmp .ge 23, 3) := by decide +kernel
theorem dX7_sums_55 : decode cX7_sums 55 = .ok (.iload_n 2, 1) := by decide +kernel
theorem dX7_sums_56 : decode cX7_sums 56 = .ok (.aload_n 0, 1) := by decide +kernel
theorem dX7_sums_57 : decode cX7_sums 57 = .ok (.getfield 49, 3) := by decide +kernel
theorem dX7_sums_60 : decode cX7_sums 60 = .ok (.aload_n 0, 1) := by decide +kernel
theorem dX7_sums_61 : decode cX7_sums 61 = .ok (.getfield 46, 3) := by decide +kernel
theorem dX7_sums_64 : decode cX7_sums 64 = .ok (.iload_n 3, 1) := by decide +kernel
theorem dX7_sums_65 : decode cX7_sums 65 = .ok (.iaload, 1) := by decide +kernel
theorem dX7_sums_66 : decode cX7_sums 66 = .ok (.iaload, 1) := by decide +kernel
theorem dX7_sums_67 : decode cX7_sums 67 = .ok (.iadd, 1) := by decide +kernel
theorem dX7_sums_68 : decode cX7_sums 68 = .ok (.istore_n 2, 1) := by decide +kernel
theorem dX7_sums_69 : decode cX7_sums 69 = .ok (.iinc 3 1, 3) := by decide +kernel
theorem dX7_sums_72 : decode cX7_sums 72 = .ok (.goto (-25), 3) := by decide +kernel
theorem dX7_sums_75 : decode cX7_sums 75 = .ok (.iload_n 2, 1) := by decide +kernel
theorem dX7_sums_76 : decode cX7_sums 76 = .ok (.ireturn, 1) := by decide +kernel
theorem dX7_sums_77 : decode cX7_sums 77 = .ok (.aload_n 0, 1) := by decide +kernel
theorem dX7_sums_78 : decode cX7_sums 78 = .ok (.invokevirtual 168, 3) := by decide +kernel
theorem dX7_sums_81 : decode cX7_sums 81 = .ok (.ireturn, 1) := by decide +kernel
theorem dX7_sums_82 : decode cX7_sums 82 = .ok (.aload_n 0, 1) := by decide +kernel
theorem dX7_sums_83 : decode cX7_sums 83 = .ok (.invokevirtual 161, 3) := by decide +kernel
theorem dX7_sums_86 : decode cX7_sums 86 = .ok (.aload_n 0, 1) := by decide +kernel
theorem dX7_sums_87 : decode cX7_sums 87 = .ok (.getfield 152, 3) := by decide +kernel
theorem dX7_sums_90 : decode cX7_sums 90 = .ok (.ireturn, 1) := by decide +kernel
theorem dX7_sums_91 : decode cX7_sums 91 = .ok (.aload_n 0, 1) := by decide +kernel
theorem dX7_sums_92 : decode cX7_sums 92 = .ok (.invokevirtual 161, 3) := by decide +kernel
theorem dX7_sums_95 : decode cX7_sums 95 = .ok (.aload_n 0, 1) := by decide +kernel
theorem dX7_sums_96 : decode cX7_sums 96 = .ok (.getfield 155, 3) := by decide +kernel
theorem dX7_sums_99 : decode cX7_sums 99 = .ok (.ireturn, 1) := by decide +kernel
theorem dX7_sums_100 : decode cX7_sums 100 = .ok (.aload_n 0, 1) := by decide +kernel
theorem dX7_sums_101 : decode cX7_sums 101 = .ok (.bipush (-2), 2) := by decide +kernel
theorem dX7_sums_103 : decode cX7_sums 103 = .ok (.invokevirtual 66, 3) := by decide +kernel
theorem dX7_sums_106 : decode cX7_sums 106 = .ok (.ireturn, 1) := by decide +kernel
theorem dX7_queue_0 : decode cX7_queue 0 = .ok (.iload_n 1, 1) := by decide +kernel
theorem dX7_queue_1 : decode cX7_queue 1 = .ok (.iconst 0, 1) := by decide +kernel
theorem dX7_queue_2 : decode cX7_queue 2 = .ok (.iconst 1, 1) := by decide +kernel
theorem dX7_queue_3 : decode cX7_queue 3 = .ok (.invokestatic 62, 3) := by decide +kernel
theorem dX7_queue_6 : decode cX7_queue 6 = .ok (.ifCond .ne 9, 3) := by decide +kernel
theorem dX7_queue_9 : decode cX7_queue 9 = .ok (.aload_n 0, 1) := by decide +kernel
theorem dX7_queue_10 : decode cX7_queue 10 = .ok (.iconst (-1), 1) := by decide +kernel
theorem dX7_queue_11 : decode cX7_queue 11 = .ok (.invokevirtual 66, 3) := by decide +kernel
theorem dX7_queue_14 : decode cX7_queue 14 = .ok (.ireturn, 1) := by decide +kernel
theorem dX7_queue_15 : decode cX7_queue 15 = .ok (.iload_n 2, 1) := by decide +kernel
theorem dX7_queue_16 : decode cX7_queue 16 = .ok (.ifCond .ge 10, 3) := by decide +kernel
theorem dX7_queue_19 : decode cX7_queue 19 = .ok (.aload_n 0, 1) := by decide +kernel
theorem dX7_queue_20 : decode cX7_queue 20 = .ok (.bipush (-4), 2) := by decide +kernel
theorem dX7_queue_22 : decode cX7_queue 22 = .ok (.invokevirtual 66, 3) := by decide +kernel
theorem dX7_queue_25 : decode cX7_queue 25 = .ok (.ireturn, 1) := by decide +kernel
theorem dX7_queue_26 : decode cX7_queue 26 = .ok (.iload_n 2, 1) := by decide +kernel
theorem dX7_queue_27 : decode cX7_queue 27 = .ok (.aload_n 0, 1) := by decide +kernel
theorem dX7_queue_28 : decode cX7_queue 28 = .ok (.getfield 59, 3) := by decide +kernel
theorem dX7_queue_31 : decode cX7_queue 31 = .ok (.if_icmp .le 10, 3) := by decide +kernel
theorem dX7_queue_34 : decode cX7_queue 34 = .ok (.aload_n 0, 1) := by decide +kernel
theorem dX7_queue_35 : decode cX7_queue 35 = .ok (.bipush (-6), 2) := by decide +kernel
theorem dX7_queue_37 : decode cX7_queue 37 = .ok (.invokevirtual 66, 3) := by decide +kernel
theorem dX7_queue_40 : decode cX7_queue 40 = .ok (.ireturn, 1) := by decide +kernel
theorem dX7_queue_41 : decode cX7_queue 41 = .ok (.aload_n 0, 1) := by decide +kernel
theorem dX7_queue_42 : decode cX7_queue 42 = .ok (.invokevirtual 161, 3) := by decide +kernel
theorem dX7_queue_45 : decode cX7_queue 45 = .ok (.aload_n 0, 1) := by decide +kernel
theorem dX7_queue_46 : decode cX7_queue 46 = .ok (.iload_n 1, 1) := by decide +kernel
theorem dX7_queue_47 : decode cX7_queue 47 = .ok (.invokevirtual 93, 3) := by decide +kernel
theorem dX7_queue_50 : decode cX7_queue 50 = .ok (.istore_n 3, 1) := by decide +kernel
theorem dX7_queue_51 : decode cX7_queue 51 = .ok (.iconst 0, 1) := by decide +kernel
theorem dX7_queue_52 : decode cX7_queue 52 = .ok (.istore 4, 2) := by decide +kernel
theorem dX7_queue_54 : decode cX7_queue 54 = .ok (.iload 4, 2) := by decide +kernel
theorem dX7_queue_56 : decode cX7_queue 56 = .ok (.iload_n 2, 1) := by decide +kernel
theorem dX7_queue_57 : decode cX7_queue 57 = .ok (.if_icmp .ge 28, 3) := by decide +kernel
theorem dX7_queue_60 : decode cX7_queue 60 = .ok (.aload_n 0, 1) := by decide +kernel
theorem dX7_queue_61 : decode cX7_queue 61 = .ok (.getfield 19, 3) := by decide +kernel
theorem dX7_queue_64 : decode cX7_queue 64 = .ok (.aload_n 0, 1) := by decide +kernel
theorem dX7_queue_65 : decode cX7_queue 65 = .ok (.getfield 46, 3) := by decide +kernel
theorem dX7_queue_68 : decode cX7_queue 68 = .ok (.iload 4, 2) := by decide +kernel
theorem dX7_queue_70 : decode cX7_queue 70 = .ok (.iaload, 1) := by decide +kernel
theorem dX7_queue_71 : decode cX7_queue 71 = .ok (.iaload, 1) := by decide +kernel
theorem dX7_queue_72 : decode cX7_queue 72 = .ok (.iload_n 1, 1) := by decide +kernel
theorem dX7_queue_73 : decode cX7_queue 73 = .ok (.if_icmp .ne 6, 3) := by decide +kernel
theorem dX7_queue_76 : decode cX7_queue 76 = .ok (.iinc 3 (-1), 3) := by decide +kernel
theorem dX7_queue_79 : decode cX7_queue 79 = .ok (.iinc 4 1, 3) := by decide +kernel
theorem dX7_queue_82 : decode cX7_queue 82 = .ok (.goto (-28), 3) := by decide +kernel
theorem dX7_queue_85 : decode cX7_queue 85 = .ok (.iload_n 3, 1) := by decide +kernel
theorem dX7_queue_86 : decode cX7_queue 86 = .ok (.ireturn, 1) := by decide +kernel
theorem dX7_bestBoard_0 : decode cX7_bestBoard 0 = .ok (.aload_n 0, 1) := by decide +kernel
theorem dX7_bestBoard_1 : decode cX7_bestBoard 1 = .ok (.getfield 103, 3) := by decide +kernel
theorem dX7_bestBoard_4 : decode cX7_bestBoard 4 = .ok (.istore_n 1, 1) := by decide +kernel
theorem dX7_bestBoard_5 : decode cX7_bestBoard 5 = .ok (.iconst 0, 1) := by decide +kernel
theorem dX7_bestBoard_6 : decode cX7_bestBoard 6 = .ok (.istore_n 2, 1) := by decide +kernel
theorem dX7_bestBoard_7 : decode cX7_bestBoard 7 = .ok (.iconst (-1), 1) := by decide +kernel
theorem dX7_bestBoard_8 : decode cX7_bestBoard 8 = .ok (.istore_n 3, 1) := by decide +kernel
theorem dX7_bestBoard_9 : decode cX7_bestBoard 9 = .ok (.iconst 0, 1) := by decide +kernel
theorem dX7_bestBoard_10 : decode cX7_bestBoard 10 = .ok (.istore 4, 2) := by decide +kernel
theorem dX7_bestBoard_12 : decode cX7_bestBoard 12 = .ok (.iload 4, 2) := by decide +kernel
theorem dX7_bestBoard_14 : decode cX7_bestBoard 14 = .ok (.iconst 3, 1) := by decide +kernel
theorem dX7_bestBoard_15 : decode cX7_bestBoard 15 = .ok (.if_icmp .ge 40, 3) := by decide +kernel
theorem dX7_bestBoard_18 : decode cX7_bestBoard 18 = .ok (.aload_n 0, 1) := by decide +kernel
theorem dX7_bestBoard_19 : decode cX7_bestBoard 19 = .ok (.iload 4, 2) := by decide +kernel
theorem dX7_bestBoard_21 : decode cX7_bestBoard 21 = .ok (.putfield 103, 3) := by decide +kernel
theorem dX7_bestBoard_24 : decode cX7_bestBoard 24 = .ok (.aload_n 0, 1) := by decide +kernel
theorem dX7_bestBoard_25 : decode cX7_bestBoard 25 = .ok (.invokevirtual 168, 3) := by decide +kernel
theorem dX7_bestBoard_28 : decode cX7_bestBoard 28 = .ok (.istore 5, 2) := by decide +kernel
theorem dX7_bestBoard_30 : decode cX7_bestBoard 30 = .ok (.iload_n 3, 1) := by decide +kernel
theorem dX7_bestBoard_31 : decode cX7_bestBoard 31 = .ok (.ifCond .lt 12, 3) := by decide +kernel
theorem dX7_bestBoard_34 : decode cX7_bestBoard 34 = .ok (.iload 5, 2) := by decide +kernel
theorem dX7_bestBoard_36 : decode cX7_bestBoard 36 = .ok (.iload_n 3, 1) := by decide +kernel
theorem dX7_bestBoard_37 : decode cX7_bestBoard 37 = .ok (.if_icmp .lt 6, 3) := by decide +kernel
theorem dX7_bestBoard_40 : decode cX7_bestBoard 40 = .ok (.goto 9, 3) := by decide +kernel
theorem dX7_bestBoard_43 : decode cX7_bestBoard 43 = .ok (.iload 5, 2) := by decide +kernel
theorem dX7_bestBoard_45 : decode cX7_bestBoard 45 = .ok (.istore_n 3, 1) := by decide +kernel
theorem dX7_bestBoard_46 : decode cX7_bestBoard 46 = .ok (.iload 4, 2) := by decide +kernel
theorem dX7_bestBoard_48 : decode cX7_bestBoard 48 = .ok (.istore_n 2, 1) := by decide +kernel
theorem dX7_bestBoard_49 : decode cX7_bestBoard 49 = .ok (.iinc 4 1, 3) := by decide +kernel
theorem dX7_bestBoard_52 : decode cX7_bestBoard 52 = .ok (.goto (-40), 3) := by decide +kernel
theorem dX7_bestBoard_55 : decode cX7_bestBoard 55 = .ok (.aload_n 0, 1) := by decide +kernel
theorem dX7_bestBoard_56 : decode cX7_bestBoard 56 = .ok (.iload_n 1, 1) := by decide +kernel
theorem dX7_bestBoard_57 : decode cX7_bestBoard 57 = .ok (.putfield 103, 3) := by decide +kernel
theorem dX7_bestBoard_60 : decode cX7_bestBoard 60 = .ok (.iload_n 2, 1) := by decide +kernel
theorem dX7_bestBoard_61 : decode cX7_bestBoard 61 = .ok (.ireturn, 1) := by decide +kernel
theorem dX7_mover_0 : decode cX7_mover 0 = .ok (.aload_n 0, 1) := by decide +kernel
theorem dX7_mover_1 : decode cX7_mover 1 = .ok (.invokevirtual 168, 3) := by decide +kernel
theorem dX7_mover_4 : decode cX7_mover 4 = .ok (.istore_n 3, 1) := by decide +kernel
theorem dX7_mover_5 : decode cX7_mover 5 = .ok (.bipush (-9), 2) := by decide +kernel
theorem dX7_mover_7 : decode cX7_mover 7 = .ok (.istore 4, 2) := by decide +kernel
theorem dX7_mover_9 : decode cX7_mover 9 = .ok (.aload_n 0, 1) := by decide +kernel
theorem dX7_mover_10 : decode cX7_mover 10 = .ok (.aload_n 0, 1) := by decide +kernel
theorem dX7_mover_11 : decode cX7_mover 11 = .ok (.getfield 43, 3) := by decide +kernel
theorem dX7_mover_14 : decode cX7_mover 14 = .ok (.invokevirtual 116, 3) := by decide +kernel
theorem dX7_mover_17 : decode cX7_mover 17 = .ok (.iconst 0, 1) := by decide +kernel
theorem dX7_mover_18 : decode cX7_mover 18 = .ok (.istore 5, 2) := by decide +kernel
theorem dX7_mover_20 : decode cX7_mover 20 = .ok (.iload 5, 2) := by decide +kernel
theorem dX7_mover_22 : decode cX7_mover 22 = .ok (.aload_n 0, 1) := by decide +kernel
theorem dX7_mover_23 : decode cX7_mover 23 = .ok (.getfield 59, 3) := by decide +kernel
theorem dX7_mover_26 : decode cX7_mover 26 = .ok (.if_icmp .ge 60, 3) := by decide +kernel
theorem dX7_mover_29 : decode cX7_mover 29 = .ok (.iload_n 1, 1) := by decide +kernel
theorem dX7_mover_30 : decode cX7_mover 30 = .ok (.ifCond .eq 13, 3) := by decide +kernel
theorem dX7_mover_33 : decode cX7_mover 33 = .ok (.aload_n 0, 1) := by decide +kernel
theorem dX7_mover_34 : decode cX7_mover 34 = .ok (.iload 5, 2) := by decide +kernel
theorem dX7_mover_36 : decode cX7_mover 36 = .ok (.invokevirtual 106, 3) := by decide +kernel
theorem dX7_mover_39 : decode cX7_mover 39 = .ok (.pop, 1) := by decide +kernel
theorem dX7_mover_40 : decode cX7_mover 40 = .ok (.goto 10, 3) := by decide +kernel
theorem dX7_mover_43 : decode cX7_mover 43 = .ok (.aload_n 0, 1) := by decide +kernel
theorem dX7_mover_44 : decode cX7_mover 44 = .ok (.iload 5, 2) := by decide +kernel
theorem dX7_mover_46 : decode cX7_mover 46 = .ok (.invokevirtual 109, 3) := by decide +kernel
theorem dX7_mover_49 : decode cX7_mover 49 = .ok (.pop, 1) := by decide +kernel
theorem dX7_mover_50 : decode cX7_mover 50 = .ok (.aload_n 0, 1) := by decide +kernel
theorem dX7_mover_51 : decode cX7_mover 51 = .ok (.invokevirtual 168, 3) := by decide +kernel
theorem dX7_mover_54 : decode cX7_mover 54 = .ok (.istore 6, 2) := by decide +kernel
theorem dX7_mover_56 : decode cX7_mover 56 = .ok (.aload_n 0, 1) := by decide +kernel
theorem dX7_mover_57 : decode cX7_mover 57 = .ok (.aload_n 0, 1) := by decide +kernel
theorem dX7_mover_58 : decode cX7_mover 58 = .ok (.getfield 43, 3) := by decide +kernel
theorem dX7_mover_61 : decode cX7_mover 61 = .ok (.invokevirtual 120, 3) := by decide +kernel
theorem dX7_mover_64 : decode cX7_mover 64 = .ok (.iload 6, 2) := by decide +kernel
theorem dX7_mover_66 : decode cX7_mover 66 = .ok (.iload_n 3, 1) := by decide +kernel
theorem dX7_mover_67 : decode cX7_mover 67 = .ok (.if_icmp .lt 6, 3) := by decide +kernel
theorem dX7_mover_70 : decode cX7_mover 70 = .ok (.goto 10, 3) := by decide +kernel
theorem dX7_mover_73 : decode cX7_mover 73 = .ok (.iload 6, 2) := by decide +kernel
theorem dX7_mover_75 : decode cX7_mover 75 = .ok (.istore_n 3, 1) := by decide +kernel
theorem dX7_mover_76 : decode cX7_mover 76 = .ok (.iload 5, 2) := by decide +kernel
theorem dX7_mover_78 : decode cX7_mover 78 = .ok (.istore 4, 2) := by decide +kernel
theorem dX7_mover_80 : decode cX7_mover 80 = .ok (.iinc 5 1, 3) := by decide +kernel
theorem dX7_mover_83 : decode cX7_mover 83 = .ok (.goto (-63), 3) := by decide +kernel
theorem dX7_mover_86 : decode cX7_mover 86 = .ok (.iload 4, 2) := by decide +kernel
theorem dX7_mover_88 : decode cX7_mover 88 = .ok (.bipush (-9), 2) := by decide +kernel
theorem dX7_mover_90 : decode cX7_mover 90 = .ok (.if_icmp .eq 7, 3) := by decide +kernel
theorem dX7_mover_93 : decode cX7_mover 93 = .ok (.iload_n 2, 1) := by decide +kernel
theorem dX7_mover_94 : decode cX7_mover 94 = .ok (.ifCond .ne 8, 3) := by decide +kernel
theorem dX7_mover_97 : decode cX7_mover 97 = .ok (.iload 4, 2) := by decide +kernel
theorem dX7_mover_99 : decode cX7_mover 99 = .ok (.goto 4, 3) := by decide +kernel
theorem dX7_mover_102 : decode cX7_mover 102 = .ok (.iload_n 3, 1) := by decide +kernel
theorem dX7_mover_103 : decode cX7_mover 103 = .ok (.ireturn, 1) := by decide +kernel
theorem dX7_over_0 : decode cX7_over 0 = .ok (.iload_n 1, 1) := by decide +kernel
theorem dX7_over_1 : decode cX7_over 1 = .ok (.iconst 0, 1) := by decide +kernel
theorem dX7_over_2 : decode cX7_over 2 = .ok (.iconst 1, 1) := by decide +kernel
theorem dX7_over_3 : decode cX7_over 3 = .ok (.invokestatic 62, 3) := by decide +kernel
theorem dX7_over_6 : decode cX7_over 6 = .ok (.ifCond .eq 12, 3) := by decide +kernel
theorem dX7_over_9 : decode cX7_over 9 = .ok (.aload_n 0, 1) := by decide +kernel
theorem dX7_over_10 : decode cX7_over 10 = .ok (.iconst 1, 1) := by decide +kernel
theorem dX7_over_11 : decode cX7_over 11 = .ok (.iload_n 1, 1) := by decide +kernel
theorem dX7_over_12 : decode cX7_over 12 = .ok (.invokevirtual 171, 3) := by decide +kernel
theorem dX7_over_15 : decode cX7_over 15 = .ok (.goto 9, 3) := by decide +kernel
theorem dX7_over_18 : decode cX7_over 18 = .ok (.aload_n 0, 1) := by decide +kernel
theorem dX7_over_19 : decode cX7_over 19 = .ok (.bipush (-2), 2) := by decide +kernel
theorem dX7_over_21 : decode cX7_over 21 = .ok (.invokevirtual 66, 3) := by decide +kernel
theorem dX7_over_24 : decode cX7_over 24 = .ok (.ireturn, 1) := by decide +kernel
theorem dX7_first_0 : decode cX7_first 0 = .ok (.iload_n 1, 1) := by decide +kernel
theorem dX7_first_1 : decode cX7_first 1 = .ok (.iconst 0, 1) := by decide +kernel
theorem dX7_first_2 : decode cX7_first 2 = .ok (.iconst 1, 1) := by decide +kernel
theorem dX7_first_3 : decode cX7_first 3 = .ok (.invokestatic 62, 3) := by decide +kernel
theorem dX7_first_6 : decode cX7_first 6 = .ok (.ifCond .eq 12, 3) := by decide +kernel
theorem dX7_first_9 : decode cX7_first 9 = .ok (.aload_n 0, 1) := by decide +kernel
theorem dX7_first_10 : decode cX7_first 10 = .ok (.iconst 0, 1) := by decide +kernel
theorem dX7_first_11 : decode cX7_first 11 = .ok (.iload_n 1, 1) := by decide +kernel
theorem dX7_first_12 : decode cX7_first 12 = .ok (.invokevirtual 171, 3) := by decide +kernel
theorem dX7_first_15 : decode cX7_first 15 = .ok (.goto 9, 3) := by decide +kernel
theorem dX7_first_18 : decode cX7_first 18 = .ok (.aload_n 0, 1) := by decide +kernel
theorem dX7_first_19 : decode cX7_first 19 = .ok (.bipush (-2), 2) := by decide +kernel
theorem dX7_first_21 : decode cX7_first 21 = .ok (.invokevirtual 66, 3) := by decide +kernel
theorem dX7_first_24 : decode cX7_first 24 = .ok (.ireturn, 1) := by decide +kernel
theorem dX7_lets_0 : decode cX7_lets 0 = .ok (.aload_n 0, 1) := by decide +kernel
theorem dX7_lets_1 : decode cX7_lets 1 = .ok (.invokevirtual 168, 3) := by decide +kernel
theorem dX7_lets_4 : decode cX7_lets 4 = .ok (.istore_n 1, 1) := by decide +kernel
theorem dX7_lets_5 : decode cX7_lets 5 = .ok (.bipush (-9), 2) := by decide +kernel
theorem dX7_lets_7 : decode cX7_lets 7 = .ok (.istore_n 2, 1) := by decide +kernel
theorem dX7_lets_8 : decode cX7_lets 8 = .ok (.iconst 0, 1) := by decide +kernel
theorem dX7_lets_9 : decode cX7_lets 9 = .ok (.istore_n 3, 1) := by decide +kernel
theorem dX7_lets_10 : decode cX7_lets 10 = .ok (.iload_n 3, 1) := by decide +kernel
theorem dX7_lets_11 : decode cX7_lets 11 = .ok (.aload_n 0, 1) := by decide +kernel
theorem dX7_lets_12 : decode cX7_lets 12 = .ok (.getfield 59, 3) := by decide +kernel
theorem dX7_lets_15 : decode cX7_lets 15 = .ok (.if_icmp .ge 84, 3) := by decide +kernel
theorem dX7_lets_18 : decode cX7_lets 18 = .ok (.aload_n 0, 1) := by decide +kernel
theorem dX7_lets_19 : decode cX7_lets 19 = .ok (.getfield 7, 3) := by decide +kernel
theorem dX7_lets_22 : decode cX7_lets 22 = .ok (.iload_n 3, 1) := by decide +kernel
theorem dX7_lets_23 : decode cX7_lets 23 = .ok (.iaload, 1) := by decide +kernel
theorem dX7_lets_24 : decode cX7_lets 24 = .ok (.istore 4, 2) := by decide +kernel
theorem dX7_lets_26 : decode cX7_lets 26 = .ok (.aload_n 0, 1) := by decide +kernel
theorem dX7_lets_27 : decode cX7_lets 27 = .ok (.getfield 13, 3) := by decide +kernel
theorem dX7_lets_30 : decode cX7_lets 30 = .ok (.iload_n 3, 1) := by decide +kernel
theorem dX7_lets_31 : decode cX7_lets 31 = .ok (.iaload, 1) := by decide +kernel
theorem dX7_lets_32 : decode cX7_lets 32 = .ok (.istore 5, 2) := by decide +kernel
theorem dX7_lets_34 : decode cX7_lets 34 = .ok (.iconst 0, 1) := by decide +kernel
theorem dX7_lets_35 : decode cX7_lets 35 = .ok (.istore 6, 2) := by decide +kernel
theorem dX7_lets_37 : decode cX7_lets 37 = .ok (.iload 6, 2) := by decide +kernel
theorem dX7_lets_39 : decode cX7_lets 39 = .ok (.bipush 10, 2) := by decide +kernel
theorem dX7_lets_41 : decode cX7_lets 41 = .ok (.if_icmp .ge 43, 3) := by decide +kernel
theorem dX7_lets_44 : decode cX7_lets 44 = .ok (.aload_n 0, 1) := by decide +kernel
theorem dX7_lets_45 : decode cX7_lets 45 = .ok (.iload_n 3, 1) := by decide +kernel
theorem dX7_lets_46 : decode cX7_lets 46 = .ok (.iconst 1, 1) := by decide +kernel
theorem dX7_lets_47 : decode cX7_lets 47 = .ok (.iload 6, 2) := by decide +kernel
theorem dX7_lets_49 : decode cX7_lets 49 = .ok (.invokevirtual 99, 3) := by decide +kernel
theorem dX7_lets_52 : decode cX7_lets 52 = .ok (.aload_n 0, 1) := by decide +kernel
theorem dX7_lets_53 : decode cX7_lets 53 = .ok (.invokevirtual 168, 3) := by decide +kernel
theorem dX7_lets_56 : decode cX7_lets 56 = .ok (.istore 7, 2) := by decide +kernel
theorem dX7_lets_58 : decode cX7_lets 58 = .ok (.iload 7, 2) := by decide +kernel
theorem dX7_lets_60 : decode cX7_lets 60 = .ok (.iload_n 1, 1) := by decide +kernel
theorem dX7_lets_61 : decode cX7_lets 61 = .ok (.if_icmp .lt 6, 3) := by decide +kernel
theorem dX7_lets_64 : decode cX7_lets 64 = .ok (.goto 14, 3) := by decide +kernel
theorem dX7_lets_67 : decode cX7_lets 67 = .ok (.iload 7, 2) := by decide +kernel
theorem dX7_lets_69 : decode cX7_lets 69 = .ok (.istore_n 1, 1) := by decide +kernel
theorem dX7_lets_70 : decode cX7_lets 70 = .ok (.bipush 10, 2) := by decide +kernel
theorem dX7_lets_72 : decode cX7_lets 72 = .ok (.iload_n 3, 1) := by decide +kernel
theorem dX7_lets_73 : decode cX7_lets 73 = .ok (.imul, 1) := by decide +kernel
theorem dX7_lets_74 : decode cX7_lets 74 = .ok (.iload 6, 2) := by decide +kernel
theorem dX7_lets_76 : decode cX7_lets 76 = .ok (.iadd, 1) := by decide +kernel
theorem dX7_lets_77 : decode cX7_lets 77 = .ok (.istore_n 2, 1) := by decide +kernel
theorem dX7_lets_78 : decode cX7_lets 78 = .ok (.iinc 6 1, 3) := by decide +kernel
theorem dX7_lets_81 : decode cX7_lets 81 = .ok (.goto (-44), 3) := by decide +kernel
theorem dX7_lets_84 : decode cX7_lets 84 = .ok (.aload_n 0, 1) := by decide +kernel
theorem dX7_lets_85 : decode cX7_lets 85 = .ok (.iload_n 3, 1) := by decide +kernel
theorem dX7_lets_86 : decode cX7_lets 86 = .ok (.iload 4, 2) := by decide +kernel
theorem dX7_lets_88 : decode cX7_lets 88 = .ok (.iload 5, 2) := by decide +kernel
theorem dX7_lets_90 : decode cX7_lets 90 = .ok (.invokevirtual 99, 3) := by decide +kernel
theorem dX7_lets_93 : decode cX7_lets 93 = .ok (.iinc 3 1, 3) := by decide +kernel
theorem dX7_lets_96 : decode cX7_lets 96 = .ok (.goto (-86), 3) := by decide +kernel
theorem dX7_lets_99 : decode cX7_lets 99 = .ok (.iload_n 2, 1) := by decide +kernel
theorem dX7_lets_100 : decode cX7_lets 100 = .ok (.ireturn, 1) := by decide +kernel
theorem dX7_fewest_0 : decode cX7_fewest 0 = .ok (.iload_n 1, 1) := by decide +kernel
theorem dX7_fewest_1 : decode cX7_fewest 1 = .ok (.iconst 2, 1) := by decide +kernel
theorem dX7_fewest_2 : decode cX7_fewest 2 = .ok (.if_icmp .ne 10, 3) := by decide +kernel
theorem dX7_fewest_5 : decode cX7_fewest 5 = .ok (.aload_n 0, 1) := by decide +kernel
theorem dX7_fewest_6 : decode cX7_fewest 6 = .ok (.invokevirtual 164, 3) := by decide +kernel
theorem dX7_fewest_9 : decode cX7_fewest 9 = .ok (.goto 7, 3) := by decide +kernel
theorem dX7_fewest_12 : decode cX7_fewest 12 = .ok (.aload_n 0, 1) := by decide +kernel
theorem dX7_fewest_13 : decode cX7_fewest 13 = .ok (.invokevirtual 168, 3) := by decide +kernel
theorem dX7_fewest_16 : decode cX7_fewest 16 = .ok (.istore_n 3, 1) := by decide +kernel
theorem dX7_fewest_17 : decode cX7_fewest 17 = .ok (.bipush (-9), 2) := by decide +kernel
theorem dX7_fewest_19 : decode cX7_fewest 19 = .ok (.istore 4, 2) := by decide +kernel
theorem dX7_fewest_21 : decode cX7_fewest 21 = .ok (.aload_n 0, 1) := by decide +kernel
theorem dX7_fewest_22 : decode cX7_fewest 22 = .ok (.aload_n 0, 1) := by decide +kernel
theorem dX7_fewest_23 : decode cX7_fewest 23 = .ok (.getfield 43, 3) := by decide +kernel
theorem dX7_fewest_26 : decode cX7_fewest 26 = .ok (.invokevirtual 116, 3) := by decide +kernel
theorem dX7_fewest_29 : decode cX7_fewest 29 = .ok (.iconst 0, 1) := by decide +kernel
theorem dX7_fewest_30 : decode cX7_fewest 30 = .ok (.istore 5, 2) := by decide +kernel
theorem dX7_fewest_32 : decode cX7_fewest 32 = .ok (.iload 5, 2) := by decide +kernel
theorem dX7_fewest_34 : decode cX7_fewest 34 = .ok (.iconst 1, 1) := by decide +kernel
theorem dX7_fewest_35 : decode cX7_fewest 35 = .ok (.aload_n 0, 1) := by decide +kernel
theorem dX7_fewest_36 : decode cX7_fewest 36 = .ok (.getfield 59, 3) := by decide +kernel
theorem dX7_fewest_39 : decode cX7_fewest 39 = .ok (.ishl, 1) := by decide +kernel
theorem dX7_fewest_40 : decode cX7_fewest 40 = .ok (.if_icmp .ge 122, 3) := by decide +kernel
theorem dX7_fewest_43 : decode cX7_fewest 43 = .ok (.iload 4, 2) := by decide +kernel
theorem dX7_fewest_45 : decode cX7_fewest 45 = .ok (.bipush (-9), 2) := by decide +kernel
theorem dX7_fewest_47 : decode cX7_fewest 47 = .ok (.if_icmp .eq 19, 3) := by decide +kernel
theorem dX7_fewest_50 : decode cX7_fewest 50 = .ok (.iload 5, 2) := by decide +kernel
theorem dX7_fewest_52 : decode cX7_fewest 52 = .ok (.invokestatic 175, 3) := by decide +kernel
theorem dX7_fewest_55 : decode cX7_fewest 55 = .ok (.iload 4, 2) := by decide +kernel
theorem dX7_fewest_57 : decode cX7_fewest 57 = .ok (.invokestatic 175, 3) := by decide +kernel
theorem dX7_fewest_60 : decode cX7_fewest 60 = .ok (.if_icmp .lt 6, 3) := by decide +kernel
theorem dX7_fewest_63 : decode cX7_fewest 63 = .ok (.goto 93, 3) := by decide +kernel
theorem dX7_fewest_66 : decode cX7_fewest 66 = .ok (.iconst 0, 1) := by decide +kernel
theorem dX7_fewest_67 : decode cX7_fewest 67 = .ok (.istore 6, 2) := by decide +kernel
theorem dX7_fewest_69 : decode cX7_fewest 69 = .ok (.iload 6, 2) := by decide +kernel
theorem dX7_fewest_71 : decode cX7_fewest 71 = .ok (.aload_n 0, 1) := by decide +kernel
theorem dX7_fewest_72 : decode cX7_fewest 72 = .ok (.getfield 59, 3) := by decide +kernel
theorem dX7_fewest_75 : decode cX7_fewest 75 = .ok (.if_icmp .ge 28, 3) := by decide +kernel
theorem dX7_fewest_78 : decode cX7_fewest 78 = .ok (.iload 5, 2) := by decide +kernel
theorem dX7_fewest_80 : decode cX7_fewest 80 = .ok (.iload 6, 2) := by decide +kernel
theorem dX7_fewest_82 : decode cX7_fewest 82 = .ok (.ishr, 1) := by decide +kernel
theorem dX7_fewest_83 : decode cX7_fewest 83 = .ok (.iconst 1, 1) := by decide +kernel
theorem dX7_fewest_84 : decode cX7_fewest 84 = .ok (.iand, 1) := by decide +kernel
theorem dX7_fewest_85 : decode cX7_fewest 85 = .ok (.iconst 1, 1) := by decide +kernel
theorem dX7_fewest_86 : decode cX7_fewest 86 = .ok (.if_icmp .ne 11, 3) := by decide +kernel
theorem dX7_fewest_89 : decode cX7_fewest 89 = .ok (.aload_n 0, 1) := by decide +kernel
theorem dX7_fewest_90 : decode cX7_fewest 90 = .ok (.getfield 7, 3) := by decide +kernel
theorem dX7_fewest_93 : decode cX7_fewest 93 = .ok (.iload 6, 2) := by decide +kernel
theorem dX7_fewest_95 : decode cX7_fewest 95 = .ok (.iload_n 1, 1) := by decide +kernel
theorem dX7_fewest_96 : decode cX7_fewest 96 = .ok (.iastore, 1) := by decide +kernel
theorem dX7_fewest_97 : decode cX7_fewest 97 = .ok (.iinc 6 1, 3) := by decide +kernel
theorem dX7_fewest_100 : decode cX7_fewest 100 = .ok (.goto (-31), 3) := by decide +kernel
theorem dX7_fewest_103 : decode cX7_fewest 103 = .ok (.iload_n 1, 1) := by decide +kernel
theorem dX7_fewest_104 : decode cX7_fewest 104 = .ok (.iconst 2, 1) := by decide +kernel
theorem dX7_fewest_105 : decode cX7_fewest 105 = .ok (.if_icmp .ne 19, 3) := by decide +kernel
theorem dX7_fewest_108 : decode cX7_fewest 108 = .ok (.aload_n 0, 1) := by decide +kernel
theorem dX7_fewest_109 : decode cX7_fewest 109 = .ok (.invokevirtual 164, 3) := by decide +kernel
theorem dX7_fewest_112 : decode cX7_fewest 112 = .ok (.iload_n 3, 1) := by decide +kernel
theorem dX7_fewest_113 : decode cX7_fewest 113 = .ok (.if_icmp .le 7, 3) := by decide +kernel
theorem dX7_fewest_116 : decode cX7_fewest 116 = .ok (.iconst 1, 1) := by decide +kernel
theorem dX7_fewest_117 : decode cX7_fewest 117 = .ok (.goto 20, 3) := by decide +kernel
theorem dX7_fewest_120 : decode cX7_fewest 120 = .ok (.iconst 0, 1) := by decide +kernel
theorem dX7_fewest_121 : decode cX7_fewest 121 = .ok (.goto 16, 3) := by decide +kernel
theorem dX7_fewest_124 : decode cX7_fewest 124 = .ok (.aload_n 0, 1) := by decide +kernel
theorem dX7_fewest_125 : decode cX7_fewest 125 = .ok (.invokevirtual 168, 3) := by decide +kernel
theorem dX7_fewest_128 : decode cX7_fewest 128 = .ok (.iload_n 3, 1) := by decide +kernel
theorem dX7_fewest_129 : decode cX7_fewest 129 = .ok (.if_icmp .ge 7, 3) := by decide +kernel
theorem dX7_fewest_132 : decode cX7_fewest 132 = .ok (.iconst 1, 1) := by decide +kernel
theorem dX7_fewest_133 : decode cX7_fewest 133 = .ok (.goto 4, 3) := by decide +kernel
theorem dX7_fewest_136 : decode cX7_fewest 136 = .ok (.iconst 0, 1) := by decide +kernel
theorem dX7_fewest_137 : decode cX7_fewest 137 = .ok (.istore 6, 2) := by decide +kernel
theorem dX7_fewest_139 : decode cX7_fewest 139 = .ok (.aload_n 0, 1) := by decide +kernel
theorem dX7_fewest_140 : decode cX7_fewest 140 = .ok (.aload_n 0, 1) := by decide +kernel
theorem dX7_fewest_141 : decode cX7_fewest 141 = .ok (.getfield 43, 3) := by decide +kernel
theorem dX7_fewest_144 : decode cX7_fewest 144 = .ok (.invokevirtual 120, 3) := by decide +kernel
theorem dX7_fewest_147 : decode cX7_fewest 147 = .ok (.iload 6, 2) := by decide +kernel
theorem dX7_fewest_149 : decode cX7_fewest 149 = .ok (.ifCond .eq 7, 3) := by decide +kernel
theorem dX7_fewest_152 : decode cX7_fewest 152 = .ok (.iload 5, 2) := by decide +kernel
theorem dX7_fewest_154 : decode cX7_fewest 154 = .ok (.istore 4, 2) := by decide +kernel
theorem dX7_fewest_156 : decode cX7_fewest 156 = .ok (.iinc 5 1, 3) := by decide +kernel
theorem dX7_fewest_159 : decode cX7_fewest 159 = .ok (.goto (-127), 3) := by decide +kernel
theorem dX7_fewest_162 : decode cX7_fewest 162 = .ok (.iload 4, 2) := by decide +kernel
theorem dX7_fewest_164 : decode cX7_fewest 164 = .ok (.bipush (-9), 2) := by decide +kernel
theorem dX7_fewest_166 : decode cX7_fewest 166 = .ok (.if_icmp .eq 7, 3) := by decide +kernel
theorem dX7_fewest_169 : decode cX7_fewest 169 = .ok (.iload_n 2, 1) := by decide +kernel
theorem dX7_fewest_170 : decode cX7_fewest 170 = .ok (.ifCond .ne 8, 3) := by decide +kernel
theorem dX7_fewest_173 : decode cX7_fewest 173 = .ok (.iload 4, 2) := by decide +kernel
theorem dX7_fewest_175 : decode cX7_fewest 175 = .ok (.goto 8, 3) := by decide +kernel
theorem dX7_fewest_178 : decode cX7_fewest 178 = .ok (.iload 4, 2) := by decide +kernel
theorem dX7_fewest_180 : decode cX7_fewest 180 = .ok (.invokestatic 175, 3) := by decide +kernel
theorem dX7_fewest_183 : decode cX7_fewest 183 = .ok (.ireturn, 1) := by decide +kernel
theorem dX7_spoil_0 : decode cX7_spoil 0 = .ok (.iload_n 1, 1) := by decide +kernel
theorem dX7_spoil_1 : decode cX7_spoil 1 = .ok (.iconst 0, 1) := by decide +kernel
theorem dX7_spoil_2 : decode cX7_spoil 2 = .ok (.iconst 1, 1) := by decide +kernel
theorem dX7_spoil_3 : decode cX7_spoil 3 = .ok (.invokestatic 62, 3) := by decide +kernel
theorem dX7_spoil_6 : decode cX7_spoil 6 = .ok (.ifCond .eq 12, 3) := by decide +kernel
theorem dX7_spoil_9 : decode cX7_spoil 9 = .ok (.aload_n 0, 1) := by decide +kernel
theorem dX7_spoil_10 : decode cX7_spoil 10 = .ok (.iconst 2, 1) := by decide +kernel
theorem dX7_spoil_11 : decode cX7_spoil 11 = .ok (.iload_n 1, 1) := by decide +kernel
theorem dX7_spoil_12 : decode cX7_spoil 12 = .ok (.invokevirtual 180, 3) := by decide +kernel
theorem dX7_spoil_15 : decode cX7_spoil 15 = .ok (.goto 9, 3) := by decide +kernel
theorem dX7_spoil_18 : decode cX7_spoil 18 = .ok (.aload_n 0, 1) := by decide +kernel
theorem dX7_spoil_19 : decode cX7_spoil 19 = .ok (.bipush (-2), 2) := by decide +kernel
theorem dX7_spoil_21 : decode cX7_spoil 21 = .ok (.invokevirtual 66, 3) := by decide +kernel
theorem dX7_spoil_24 : decode cX7_spoil 24 = .ok (.ireturn, 1) := by decide +kernel
theorem dX7_mend_0 : decode cX7_mend 0 = .ok (.iload_n 1, 1) := by decide +kernel
theorem dX7_mend_1 : decode cX7_mend 1 = .ok (.iconst 0, 1) := by decide +kernel
theorem dX7_mend_2 : decode cX7_mend 2 = .ok (.iconst 1, 1) := by decide +kernel
theorem dX7_mend_3 : decode cX7_mend 3 = .ok (.invokestatic 62, 3) := by decide +kernel
theorem dX7_mend_6 : decode cX7_mend 6 = .ok (.ifCond .eq 12, 3) := by decide +kernel
theorem dX7_mend_9 : decode cX7_mend 9 = .ok (.aload_n 0, 1) := by decide +kernel
theorem dX7_mend_10 : decode cX7_mend 10 = .ok (.iconst 5, 1) := by decide +kernel
theorem dX7_mend_11 : decode cX7_mend 11 = .ok (.iload_n 1, 1) := by decide +kernel
theorem dX7_mend_12 : decode cX7_mend 12 = .ok (.invokevirtual 180, 3) := by decide +kernel
theorem dX7_mend_15 : decode cX7_mend 15 = .ok (.goto 9, 3) := by decide +kernel
theorem dX7_mend_18 : decode cX7_mend 18 = .ok (.aload_n 0, 1) := by decide +kernel
theorem dX7_mend_19 : decode cX7_mend 19 = .ok (.bipush (-2), 2) := by decide +kernel
theorem dX7_mend_21 : decode cX7_mend 21 = .ok (.invokevirtual 66, 3) := by decide +kernel
theorem dX7_mend_24 : decode cX7_mend 24 = .ok (.ireturn, 1) := by decide +kernel
theorem dX7_losesBy_0 : decode cX7_losesBy 0 = .ok (.aload_n 0, 1) := by decide +kernel
theorem dX7_losesBy_1 : decode cX7_losesBy 1 = .ok (.invokevirtual 161, 3) := by decide +kernel
theorem dX7_losesBy_4 : decode cX7_losesBy 4 = .ok (.aload_n 0, 1) := by decide +kernel
theorem dX7_losesBy_5 : decode cX7_losesBy 5 = .ok (.getfield 49, 3) := by decide +kernel
theorem dX7_losesBy_8 : decode cX7_losesBy 8 = .ok (.iload_n 1, 1) := by decide +kernel
theorem dX7_losesBy_9 : decode cX7_losesBy 9 = .ok (.iaload, 1) := by decide +kernel
theorem dX7_losesBy_10 : decode cX7_losesBy 10 = .ok (.istore_n 3, 1) := by decide +kernel
theorem dX7_losesBy_11 : decode cX7_losesBy 11 = .ok (.aload_n 0, 1) := by decide +kernel
theorem dX7_losesBy_12 : decode cX7_losesBy 12 = .ok (.aload_n 0, 1) := by decide +kernel
theorem dX7_losesBy_13 : decode cX7_losesBy 13 = .ok (.getfield 43, 3) := by decide +kernel
theorem dX7_losesBy_16 : decode cX7_losesBy 16 = .ok (.invokevirtual 116, 3) := by decide +kernel
theorem dX7_losesBy_19 : decode cX7_losesBy 19 = .ok (.aload_n 0, 1) := by decide +kernel
theorem dX7_losesBy_20 : decode cX7_losesBy 20 = .ok (.iload_n 2, 1) := by decide +kernel
theorem dX7_losesBy_21 : decode cX7_losesBy 21 = .ok (.invokevirtual 183, 3) := by decide +kernel
theorem dX7_losesBy_24 : decode cX7_losesBy 24 = .ok (.aload_n 0, 1) := by decide +kernel
theorem dX7_losesBy_25 : decode cX7_losesBy 25 = .ok (.invokevirtual 161, 3) := by decide +kernel
theorem dX7_losesBy_28 : decode cX7_losesBy 28 = .ok (.aload_n 0, 1) := by decide +kernel
theorem dX7_losesBy_29 : decode cX7_losesBy 29 = .ok (.aload_n 0, 1) := by decide +kernel
theorem dX7_losesBy_30 : decode cX7_losesBy 30 = .ok (.getfield 43, 3) := by decide +kernel
theorem dX7_losesBy_33 : decode cX7_losesBy 33 = .ok (.invokevirtual 120, 3) := by decide +kernel
theorem dX7_losesBy_36 : decode cX7_losesBy 36 = .ok (.iload_n 3, 1) := by decide +kernel
theorem dX7_losesBy_37 : decode cX7_losesBy 37 = .ok (.aload_n 0, 1) := by decide +kernel
theorem dX7_losesBy_38 : decode cX7_losesBy 38 = .ok (.getfield 49, 3) := by decide +kernel
theorem dX7_losesBy_41 : decode cX7_losesBy 41 = .ok (.iload_n 1, 1) := by decide +kernel
theorem dX7_losesBy_42 : decode cX7_losesBy 42 = .ok (.iaload, 1) := by decide +kernel
theorem dX7_losesBy_43 : decode cX7_losesBy 43 = .ok (.isub, 1) := by decide +kernel
theorem dX7_losesBy_44 : decode cX7_losesBy 44 = .ok (.ireturn, 1) := by decide +kernel
theorem dX7_loses_0 : decode cX7_loses 0 = .ok (.aload_n 0, 1) := by decide +kernel
theorem dX7_loses_1 : decode cX7_loses 1 = .ok (.iload_n 1, 1) := by decide +kernel
theorem dX7_loses_2 : decode cX7_loses 2 = .ok (.invokevirtual 96, 3) := by decide +kernel
theorem dX7_loses_5 : decode cX7_loses 5 = .ok (.ifCond .eq 25, 3) := by decide +kernel
theorem dX7_loses_8 : decode cX7_loses 8 = .ok (.aload_n 0, 1) := by decide +kernel
theorem dX7_loses_9 : decode cX7_loses 9 = .ok (.iload_n 2, 1) := by decide +kernel
theorem dX7_loses_10 : decode cX7_loses 10 = .ok (.invokevirtual 96, 3) := by decide +kernel
theorem dX7_loses_13 : decode cX7_loses 13 = .ok (.ifCond .eq 17, 3) := by decide +kernel
theorem dX7_loses_16 : decode cX7_loses 16 = .ok (.iload_n 1, 1) := by decide +kernel
theorem dX7_loses_17 : decode cX7_loses 17 = .ok (.iload_n 2, 1) := by decide +kernel
theorem dX7_loses_18 : decode cX7_loses 18 = .ok (.if_icmp .eq 12, 3) := by decide +kernel
theorem dX7_loses_21 : decode cX7_loses 21 = .ok (.aload_n 0, 1) := by decide +kernel
theorem dX7_loses_22 : decode cX7_loses 22 = .ok (.iload_n 1, 1) := by decide +kernel
theorem dX7_loses_23 : decode cX7_loses 23 = .ok (.iload_n 2, 1) := by decide +kernel
theorem dX7_loses_24 : decode cX7_loses 24 = .ok (.invokevirtual 187, 3) := by decide +kernel
theorem dX7_loses_27 : decode cX7_loses 27 = .ok (.goto 11, 3) := by decide +kernel
theorem dX7_loses_30 : decode cX7_loses 30 = .ok (.ldc 190, 2) := by decide +kernel
theorem dX7_loses_32 : decode cX7_loses 32 = .ok (.aload_n 0, 1) := by decide +kernel
theorem dX7_loses_33 : decode cX7_loses 33 = .ok (.iconst (-1), 1) := by decide +kernel
theorem dX7_loses_34 : decode cX7_loses 34 = .ok (.invokevirtual 66, 3) := by decide +kernel
theorem dX7_loses_37 : decode cX7_loses 37 = .ok (.isub, 1) := by decide +kernel
theorem dX7_loses_38 : decode cX7_loses 38 = .ok (.ireturn, 1) := by decide +kernel
theorem dX7_byWhom_0 : decode cX7_byWhom 0 = .ok (.aload_n 0, 1) := by decide +kernel
theorem dX7_byWhom_1 : decode cX7_byWhom 1 = .ok (.iload_n 1, 1) := by decide +kernel
theorem dX7_byWhom_2 : decode cX7_byWhom 2 = .ok (.invokevirtual 96, 3) := by decide +kernel
theorem dX7_byWhom_5 : decode cX7_byWhom 5 = .ok (.ifCond .ne 9, 3) := by decide +kernel
theorem dX7_byWhom_8 : decode cX7_byWhom 8 = .ok (.aload_n 0, 1) := by decide +kernel
theorem dX7_byWhom_9 : decode cX7_byWhom 9 = .ok (.iconst (-1), 1) := by decide +kernel
theorem dX7_byWhom_10 : decode cX7_byWhom 10 = .ok (.invokevirtual 66, 3) := by decide +kernel
theorem dX7_byWhom_13 : decode cX7_byWhom 13 = .ok (.ireturn, 1) := by decide +kernel
theorem dX7_byWhom_14 : decode cX7_byWhom 14 = .ok (.bipush (-9), 2) := by decide +kernel
theorem dX7_byWhom_16 : decode cX7_byWhom 16 = .ok (.istore_n 2, 1) := by decide +kernel
theorem dX7_byWhom_17 : decode cX7_byWhom 17 = .ok (.iconst 0, 1) := by decide +kernel
theorem dX7_byWhom_18 : decode cX7_byWhom 18 = .ok (.istore_n 3, 1) := by decide +kernel
theorem dX7_byWhom_19 : decode cX7_byWhom 19 = .ok (.iload_n 3, 1) := by decide +kernel
theorem dX7_byWhom_20 : decode cX7_byWhom 20 = .ok (.aload_n 0, 1) := by decide +kernel
theorem dX7_byWhom_21 : decode cX7_byWhom 21 = .ok (.getfield 59, 3) := by decide +kernel
theorem dX7_byWhom_24 : decode cX7_byWhom 24 = .ok (.if_icmp .ge 37, 3) := by decide +kernel
theorem dX7_byWhom_27 : decode cX7_byWhom 27 = .ok (.iload_n 3, 1) := by decide +kernel
theorem dX7_byWhom_28 : decode cX7_byWhom 28 = .ok (.iload_n 1, 1) := by decide +kernel
theorem dX7_byWhom_29 : decode cX7_byWhom 29 = .ok (.if_icmp .eq 26, 3) := by decide +kernel
theorem dX7_byWhom_32 : decode cX7_byWhom 32 = .ok (.iload_n 2, 1) := by decide +kernel
theorem dX7_byWhom_33 : decode cX7_byWhom 33 = .ok (.bipush (-9), 2) := by decide +kernel
theorem dX7_byWhom_35 : decode cX7_byWhom 35 = .ok (.if_icmp .eq 18, 3) := by decide +kernel
theorem dX7_byWhom_38 : decode cX7_byWhom 38 = .ok (.aload_n 0, 1) := by decide +kernel
theorem dX7_byWhom_39 : decode cX7_byWhom 39 = .ok (.iload_n 1, 1) := by decide +kernel
theorem dX7_byWhom_40 : decode cX7_byWhom 40 = .ok (.iload_n 3, 1) := by decide +kernel
theorem dX7_byWhom_41 : decode cX7_byWhom 41 = .ok (.invokevirtual 187, 3) := by decide +kernel
theorem dX7_byWhom_44 : decode cX7_byWhom 44 = .ok (.aload_n 0, 1) := by decide +kernel
theorem dX7_byWhom_45 : decode cX7_byWhom 45 = .ok (.iload_n 1, 1) := by decide +kernel
theorem dX7_byWhom_46 : decode cX7_byWhom 46 = .ok (.iload_n 2, 1) := by decide +kernel
theorem dX7_byWhom_47 : decode cX7_byWhom 47 = .ok (.invokevirtual 187, 3) := by decide +kernel
theorem dX7_byWhom_50 : decode cX7_byWhom 50 = .ok (.if_icmp .le 5, 3) := by decide +kernel
theorem dX7_byWhom_53 : decode cX7_byWhom 53 = .ok (.iload_n 3, 1) := by decide +kernel
theorem dX7_byWhom_54 : decode cX7_byWhom 54 = .ok (.istore_n 2, 1) := by decide +kernel
theorem dX7_byWhom_55 : decode cX7_byWhom 55 = .ok (.iinc 3 1, 3) := by decide +kernel
theorem dX7_byWhom_58 : decode cX7_byWhom 58 = .ok (.goto (-39), 3) := by decide +kernel
theorem dX7_byWhom_61 : decode cX7_byWhom 61 = .ok (.iload_n 2, 1) := by decide +kernel
theorem dX7_byWhom_62 : decode cX7_byWhom 62 = .ok (.ireturn, 1) := by decide +kernel
theorem dX7_waits_0 : decode cX7_waits 0 = .ok (.aload_n 0, 1) := by decide +kernel
theorem dX7_waits_1 : decode cX7_waits 1 = .ok (.aload_n 0, 1) := by decide +kernel
theorem dX7_waits_2 : decode cX7_waits 2 = .ok (.getfield 43, 3) := by decide +kernel
theorem dX7_waits_5 : decode cX7_waits 5 = .ok (.invokevirtual 116, 3) := by decide +kernel
theorem dX7_waits_8 : decode cX7_waits 8 = .ok (.aload_n 0, 1) := by decide +kernel
theorem dX7_waits_9 : decode cX7_waits 9 = .ok (.iload_n 1, 1) := by decide +kernel
theorem dX7_waits_10 : decode cX7_waits 10 = .ok (.invokevirtual 183, 3) := by decide +kernel
theorem dX7_waits_13 : decode cX7_waits 13 = .ok (.aload_n 0, 1) := by decide +kernel
theorem dX7_waits_14 : decode cX7_waits 14 = .ok (.iload_n 2, 1) := by decide +kernel
theorem dX7_waits_15 : decode cX7_waits 15 = .ok (.invokevirtual 183, 3) := by decide +kernel
theorem dX7_waits_18 : decode cX7_waits 18 = .ok (.aload_n 0, 1) := by decide +kernel
theorem dX7_waits_19 : decode cX7_waits 19 = .ok (.getfield 22, 3) := by decide +kernel
theorem dX7_waits_22 : decode cX7_waits 22 = .ok (.iload_n 1, 1) := by decide +kernel
theorem dX7_waits_23 : decode cX7_waits 23 = .ok (.aload_n 0, 1) := by decide +kernel
theorem dX7_waits_24 : decode cX7_waits 24 = .ok (.iload_n 3, 1) := by decide +kernel
theorem dX7_waits_25 : decode cX7_waits 25 = .ok (.invokevirtual 93, 3) := by decide +kernel
theorem dX7_waits_28 : decode cX7_waits 28 = .ok (.iastore, 1) := by decide +kernel
theorem dX7_waits_29 : decode cX7_waits 29 = .ok (.aload_n 0, 1) := by decide +kernel
theorem dX7_waits_30 : decode cX7_waits 30 = .ok (.getfield 19, 3) := by decide +kernel
theorem dX7_waits_33 : decode cX7_waits 33 = .ok (.iload_n 1, 1) := by decide +kernel
theorem dX7_waits_34 : decode cX7_waits 34 = .ok (.iload_n 3, 1) := by decide +kernel
theorem dX7_waits_35 : decode cX7_waits 35 = .ok (.iastore, 1) := by decide +kernel
theorem dX7_waits_36 : decode cX7_waits 36 = .ok (.aload_n 0, 1) := by decide +kernel
theorem dX7_waits_37 : decode cX7_waits 37 = .ok (.getfield 22, 3) := by decide +kernel
theorem dX7_waits_40 : decode cX7_waits 40 = .ok (.iload_n 2, 1) := by decide +kernel
theorem dX7_waits_41 : decode cX7_waits 41 = .ok (.aload_n 0, 1) := by decide +kernel
theorem dX7_waits_42 : decode cX7_waits 42 = .ok (.iload 4, 2) := by decide +kernel
theorem dX7_waits_44 : decode cX7_waits 44 = .ok (.invokevirtual 93, 3) := by decide +kernel
theorem dX7_waits_47 : decode cX7_waits 47 = .ok (.iastore, 1) := by decide +kernel
theorem dX7_waits_48 : decode cX7_waits 48 = .ok (.aload_n 0, 1) := by decide +kernel
theorem dX7_waits_49 : decode cX7_waits 49 = .ok (.getfield 19, 3) := by decide +kernel
theorem dX7_waits_52 : decode cX7_waits 52 = .ok (.iload_n 2, 1) := by decide +kernel
theorem dX7_waits_53 : decode cX7_waits 53 = .ok (.iload 4, 2) := by decide +kernel
theorem dX7_waits_55 : decode cX7_waits 55 = .ok (.iastore, 1) := by decide +kernel
theorem dX7_waits_56 : decode cX7_waits 56 = .ok (.aload_n 0, 1) := by decide +kernel
theorem dX7_waits_57 : decode cX7_waits 57 = .ok (.invokevirtual 161, 3) := by decide +kernel
theorem dX7_waits_60 : decode cX7_waits 60 = .ok (.aload_n 0, 1) := by decide +kernel
theorem dX7_waits_61 : decode cX7_waits 61 = .ok (.aload_n 0, 1) := by decide +kernel
theorem dX7_waits_62 : decode cX7_waits 62 = .ok (.getfield 43, 3) := by decide +kernel
theorem dX7_waits_65 : decode cX7_waits 65 = .ok (.invokevirtual 120, 3) := by decide +kernel
theorem dX7_waits_68 : decode cX7_waits 68 = .ok (.iload 5, 2) := by decide +kernel
theorem dX7_waits_70 : decode cX7_waits 70 = .ok (.ifCond .eq 12, 3) := by decide +kernel
theorem dX7_waits_73 : decode cX7_waits 73 = .ok (.aload_n 0, 1) := by decide +kernel
theorem dX7_waits_74 : decode cX7_waits 74 = .ok (.getfield 49, 3) := by decide +kernel
theorem dX7_waits_77 : decode cX7_waits 77 = .ok (.iload_n 1, 1) := by decide +kernel
theorem dX7_waits_78 : decode cX7_waits 78 = .ok (.iaload, 1) := by decide +kernel
theorem dX7_waits_79 : decode cX7_waits 79 = .ok (.goto 9, 3) := by decide +kernel
theorem dX7_waits_82 : decode cX7_waits 82 = .ok (.aload_n 0, 1) := by decide +kernel
theorem dX7_waits_83 : decode cX7_waits 83 = .ok (.getfield 49, 3) := by decide +kernel
theorem dX7_waits_86 : decode cX7_waits 86 = .ok (.iload_n 2, 1) := by decide +kernel
theorem dX7_waits_87 : decode cX7_waits 87 = .ok (.iaload, 1) := by decide +kernel
theorem dX7_waits_88 : decode cX7_waits 88 = .ok (.ireturn, 1) := by decide +kernel
theorem dX7_two__0 : decode cX7_two_ 0 = .ok (.aload_n 0, 1) := by decide +kernel
theorem dX7_two__1 : decode cX7_two_ 1 = .ok (.iload_n 1, 1) := by decide +kernel
theorem dX7_two__2 : decode cX7_two_ 2 = .ok (.invokevirtual 96, 3) := by decide +kernel
theorem dX7_two__5 : decode cX7_two_ 5 = .ok (.ifCond .eq 16, 3) := by decide +kernel
theorem dX7_two__8 : decode cX7_two_ 8 = .ok (.aload_n 0, 1) := by decide +kernel
theorem dX7_two__9 : decode cX7_two_ 9 = .ok (.iload_n 2, 1) := by decide +kernel
theorem dX7_two__10 : decode cX7_two_ 10 = .ok (.invokevirtual 96, 3) := by decide +kernel
theorem dX7_two__13 : decode cX7_two_ 13 = .ok (.ifCond .eq 8, 3) := by decide +kernel
theorem dX7_two__16 : decode cX7_two_ 16 = .ok (.iload_n 1, 1) := by decide +kernel
theorem dX7_two__17 : decode cX7_two_ 17 = .ok (.iload_n 2, 1) := by decide +kernel
theorem dX7_two__18 : decode cX7_two_ 18 = .ok (.if_icmp .ne 9, 3) := by decide +kernel
theorem dX7_two__21 : decode cX7_two_ 21 = .ok (.aload_n 0, 1) := by decide +kernel
theorem dX7_two__22 : decode cX7_two_ 22 = .ok (.iconst (-1), 1) := by decide +kernel
theorem dX7_two__23 : decode cX7_two_ 23 = .ok (.invokevirtual 66, 3) := by decide +kernel
theorem dX7_two__26 : decode cX7_two_ 26 = .ok (.ireturn, 1) := by decide +kernel
theorem dX7_two__27 : decode cX7_two_ 27 = .ok (.iconst 0, 1) := by decide +kernel
theorem dX7_two__28 : decode cX7_two_ 28 = .ok (.istore_n 3, 1) := by decide +kernel
theorem dX7_two__29 : decode cX7_two_ 29 = .ok (.iload_n 3, 1) := by decide +kernel
theorem dX7_two__30 : decode cX7_two_ 30 = .ok (.iconst 2, 1) := by decide +kernel
theorem dX7_two__31 : decode cX7_two_ 31 = .ok (.if_icmp .ge 82, 3) := by decide +kernel
theorem dX7_two__34 : decode cX7_two_ 34 = .ok (.iconst 0, 1) := by decide +kernel
theorem dX7_two__35 : decode cX7_two_ 35 = .ok (.istore 4, 2) := by decide +kernel
theorem dX7_two__37 : decode cX7_two_ 37 = .ok (.iload 4, 2) := by decide +kernel
theorem dX7_two__39 : decode cX7_two_ 39 = .ok (.iconst 2, 1) := by decide +kernel
theorem dX7_two__40 : decode cX7_two_ 40 = .ok (.if_icmp .ge 67, 3) := by decide +kernel
theorem dX7_two__43 : decode cX7_two_ 43 = .ok (.aload_n 0, 1) := by decide +kernel
theorem dX7_two__44 : decode cX7_two_ 44 = .ok (.iload_n 1, 1) := by decide +kernel
theorem dX7_two__45 : decode cX7_two_ 45 = .ok (.iload_n 2, 1) := by decide +kernel
theorem dX7_two__46 : decode cX7_two_ 46 = .ok (.iload_n 3, 1) := by decide +kernel
theorem dX7_two__47 : decode cX7_two_ 47 = .ok (.iload 4, 2) := by decide +kernel
theorem dX7_two__49 : decode cX7_two_ 49 = .ok (.iconst 1, 1) := by decide +kernel
theorem dX7_two__50 : decode cX7_two_ 50 = .ok (.invokevirtual 191, 3) := by decide +kernel
theorem dX7_two__53 : decode cX7_two_ 53 = .ok (.aload_n 0, 1) := by decide +kernel
theorem dX7_two__54 : decode cX7_two_ 54 = .ok (.iload_n 1, 1) := by decide +kernel
theorem dX7_two__55 : decode cX7_two_ 55 = .ok (.iload_n 2, 1) := by decide +kernel
theorem dX7_two__56 : decode cX7_two_ 56 = .ok (.iconst 1, 1) := by decide +kernel
theorem dX7_two__57 : decode cX7_two_ 57 = .ok (.iload_n 3, 1) := by decide +kernel
theorem dX7_two__58 : decode cX7_two_ 58 = .ok (.isub, 1) := by decide +kernel
theorem dX7_two__59 : decode cX7_two_ 59 = .ok (.iload 4, 2) := by decide +kernel
theorem dX7_two__61 : decode cX7_two_ 61 = .ok (.iconst 1, 1) := by decide +kernel
theorem dX7_two__62 : decode cX7_two_ 62 = .ok (.invokevirtual 191, 3) := by decide +kernel
theorem dX7_two__65 : decode cX7_two_ 65 = .ok (.if_icmp .gt 36, 3) := by decide +kernel
theorem dX7_two__68 : decode cX7_two_ 68 = .ok (.aload_n 0, 1) := by decide +kernel
theorem dX7_two__69 : decode cX7_two_ 69 = .ok (.iload_n 1, 1) := by decide +kernel
theorem dX7_two__70 : decode cX7_two_ 70 = .ok (.iload_n 2, 1) := by decide +kernel
theorem dX7_two__71 : decode cX7_two_ 71 = .ok (.iload_n 3, 1) := by decide +kernel
theorem dX7_two__72 : decode cX7_two_ 72 = .ok (.iload 4, 2) := by decide +kernel
theorem dX7_two__74 : decode cX7_two_ 74 = .ok (.iconst 0, 1) := by decide +kernel
theorem dX7_two__75 : decode cX7_two_ 75 = .ok (.invokevirtual 191, 3) := by decide +kernel
theorem dX7_two__78 : decode cX7_two_ 78 = .ok (.aload_n 0, 1) := by decide +kernel
theorem dX7_two__79 : decode cX7_two_ 79 = .ok (.iload_n 1, 1) := by decide +kernel
theorem dX7_two__80 : decode cX7_two_ 80 = .ok (.iload_n 2, 1) := by decide +kernel
theorem dX7_two__81 : decode cX7_two_ 81 = .ok (.iload_n 3, 1) := by decide +kernel
theorem dX7_two__82 : decode cX7_two_ 82 = .ok (.iconst 1, 1) := by decide +kernel
theorem dX7_two__83 : decode cX7_two_ 83 = .ok (.iload 4, 2) := by decide +kernel
theorem dX7_two__85 : decode cX7_two_ 85 = .ok (.isub, 1) := by decide +kernel
theorem dX7_two__86 : decode cX7_two_ 86 = .ok (.iconst 0, 1) := by decide +kernel
theorem dX7_two__87 : decode cX7_two_ 87 = .ok (.invokevirtual 191, 3) := by decide +kernel
theorem dX7_two__90 : decode cX7_two_ 90 = .ok (.if_icmp .gt 11, 3) := by decide +kernel
theorem dX7_two__93 : decode cX7_two_ 93 = .ok (.bipush 10, 2) := by decide +kernel
theorem dX7_two__95 : decode cX7_two_ 95 = .ok (.iload_n 3, 1) := by decide +kernel
theorem dX7_two__96 : decode cX7_two_ 96 = .ok (.imul, 1) := by decide +kernel
theorem dX7_two__97 : decode cX7_two_ 97 = .ok (.iload 4, 2) := by decide +kernel
theorem dX7_two__99 : decode cX7_two_ 99 = .ok (.iadd, 1) := by decide +kernel
theorem dX7_two__100 : decode cX7_two_ 100 = .ok (.ireturn, 1) := by decide +kernel
theorem dX7_two__101 : decode cX7_two_ 101 = .ok (.iinc 4 1, 3) := by decide +kernel
theorem dX7_two__104 : decode cX7_two_ 104 = .ok (.goto (-67), 3) := by decide +kernel
theorem dX7_two__107 : decode cX7_two_ 107 = .ok (.iinc 3 1, 3) := by decide +kernel
theorem dX7_two__110 : decode cX7_two_ 110 = .ok (.goto (-81), 3) := by decide +kernel
theorem dX7_two__113 : decode cX7_two_ 113 = .ok (.bipush (-9), 2) := by decide +kernel
theorem dX7_two__115 : decode cX7_two_ 115 = .ok (.ireturn, 1) := by decide +kernel
theorem dX7_lucks_0 : decode cX7_lucks 0 = .ok (.iconst 0, 1) := by decide +kernel
theorem dX7_lucks_1 : decode cX7_lucks 1 = .ok (.istore_n 2, 1) := by decide +kernel
theorem dX7_lucks_2 : decode cX7_lucks 2 = .ok (.iconst 0, 1) := by decide +kernel
theorem dX7_lucks_3 : decode cX7_lucks 3 = .ok (.istore_n 3, 1) := by decide +kernel
theorem dX7_lucks_4 : decode cX7_lucks 4 = .ok (.iload_n 3, 1) := by decide +kernel
theorem dX7_lucks_5 : decode cX7_lucks 5 = .ok (.iload_n 1, 1) := by decide +kernel
theorem dX7_lucks_6 : decode cX7_lucks 6 = .ok (.if_icmp .ge 27, 3) := by decide +kernel
theorem dX7_lucks_9 : decode cX7_lucks 9 = .ok (.aload_n 0, 1) := by decide +kernel
theorem dX7_lucks_10 : decode cX7_lucks 10 = .ok (.getfield 52, 3) := by decide +kernel
theorem dX7_lucks_13 : decode cX7_lucks 13 = .ok (.iload_n 3, 1) := by decide +kernel
theorem dX7_lucks_14 : decode cX7_lucks 14 = .ok (.iaload, 1) := by decide +kernel
theorem dX7_lucks_15 : decode cX7_lucks 15 = .ok (.aload_n 0, 1) := by decide +kernel
theorem dX7_lucks_16 : decode cX7_lucks 16 = .ok (.getfield 52, 3) := by decide +kernel
theorem dX7_lucks_19 : decode cX7_lucks 19 = .ok (.iload_n 1, 1) := by decide +kernel
theorem dX7_lucks_20 : decode cX7_lucks 20 = .ok (.iaload, 1) := by decide +kernel
theorem dX7_lucks_21 : decode cX7_lucks 21 = .ok (.if_icmp .le 6, 3) := by decide +kernel
theorem dX7_lucks_24 : decode cX7_lucks 24 = .ok (.iinc 2 1, 3) := by decide +kernel
theorem dX7_lucks_27 : decode cX7_lucks 27 = .ok (.iinc 3 1, 3) := by decide +kernel
theorem dX7_lucks_30 : decode cX7_lucks 30 = .ok (.goto (-26), 3) := by decide +kernel
theorem dX7_lucks_33 : decode cX7_lucks 33 = .ok (.iload_n 2, 1) := by decide +kernel
theorem dX7_lucks_34 : decode cX7_lucks 34 = .ok (.ireturn, 1) := by decide +kernel
theorem dX7_fair_0 : decode cX7_fair 0 = .ok (.aload_n 0, 1) := by decide +kernel
theorem dX7_fair_1 : decode cX7_fair 1 = .ok (.invokevirtual 161, 3) := by decide +kernel
theorem dX7_fair_4 : decode cX7_fair 4 = .ok (.iconst 0, 1) := by decide +kernel
theorem dX7_fair_5 : decode cX7_fair 5 = .ok (.istore_n 1, 1) := by decide +kernel
theorem dX7_fair_6 : decode cX7_fair 6 = .ok (.iconst 0, 1) := by decide +kernel
theorem dX7_fair_7 : decode cX7_fair 7 = .ok (.istore_n 2, 1) := by decide +kernel
theorem dX7_fair_8 : decode cX7_fair 8 = .ok (.iload_n 2, 1) := by decide +kernel
theorem dX7_fair_9 : decode cX7_fair 9 = .ok (.aload_n 0, 1) := by decide +kernel
theorem dX7_fair_10 : decode cX7_fair 10 = .ok (.getfield 59, 3) := by decide +kernel
theorem dX7_fair_13 : decode cX7_fair 13 = .ok (.if_icmp .ge 17, 3) := by decide +kernel
theorem dX7_fair_16 : decode cX7_fair 16 = .ok (.iload_n 1, 1) := by decide +kernel
theorem dX7_fair_17 : decode cX7_fair 17 = .ok (.aload_n 0, 1) := by decide +kernel
theorem dX7_fair_18 : decode cX7_fair 18 = .ok (.iload_n 2, 1) := by decide +kernel
theorem dX7_fair_19 : decode cX7_fair 19 = .ok (.invokevirtual 195, 3) := by decide +kernel
theorem dX7_fair_22 : decode cX7_fair 22 = .ok (.iadd, 1) := by decide +kernel
theorem dX7_fair_23 : decode cX7_fair 23 = .ok (.istore_n 1, 1) := by decide +kernel
theorem dX7_fair_24 : decode cX7_fair 24 = .ok (.iinc 2 1, 3) := by decide +kernel
theorem dX7_fair_27 : decode cX7_fair 27 = .ok (.goto (-19), 3) := by decide +kernel
theorem dX7_fair_30 : decode cX7_fair 30 = .ok (.iload_n 1, 1) := by decide +kernel
theorem dX7_fair_31 : decode cX7_fair 31 = .ok (.ireturn, 1) := by decide +kernel
theorem dX7_lucky_0 : decode cX7_lucky 0 = .ok (.aload_n 0, 1) := by decide +kernel
theorem dX7_lucky_1 : decode cX7_lucky 1 = .ok (.invokevirtual 161, 3) := by decide +kernel
theorem dX7_lucky_4 : decode cX7_lucky 4 = .ok (.bipush (-9), 2) := by decide +kernel
theorem dX7_lucky_6 : decode cX7_lucky 6 = .ok (.istore_n 1, 1) := by decide +kernel
theorem dX7_lucky_7 : decode cX7_lucky 7 = .ok (.iconst 0, 1) := by decide +kernel
theorem dX7_lucky_8 : decode cX7_lucky 8 = .ok (.istore_n 2, 1) := by decide +kernel
theorem dX7_lucky_9 : decode cX7_lucky 9 = .ok (.iload_n 2, 1) := by decide +kernel
theorem dX7_lucky_10 : decode cX7_lucky 10 = .ok (.aload_n 0, 1) := by decide +kernel
theorem dX7_lucky_11 : decode cX7_lucky 11 = .ok (.getfield 59, 3) := by decide +kernel
theorem dX7_lucky_14 : decode cX7_lucky 14 = .ok (.if_icmp .ge 34, 3) := by decide +kernel
theorem dX7_lucky_17 : decode cX7_lucky 17 = .ok (.aload_n 0, 1) := by decide +kernel
theorem dX7_lucky_18 : decode cX7_lucky 18 = .ok (.iload_n 2, 1) := by decide +kernel
theorem dX7_lucky_19 : decode cX7_lucky 19 = .ok (.invokevirtual 195, 3) := by decide +kernel
theorem dX7_lucky_22 : decode cX7_lucky 22 = .ok (.iload_n 1, 1) := by decide +kernel
theorem dX7_lucky_23 : decode cX7_lucky 23 = .ok (.bipush (-9), 2) := by decide +kernel
theorem dX7_lucky_25 : decode cX7_lucky 25 = .ok (.if_icmp .ne 7, 3) := by decide +kernel
theorem dX7_lucky_28 : decode cX7_lucky 28 = .ok (.iconst 0, 1) := by decide +kernel
theorem dX7_lucky_29 : decode cX7_lucky 29 = .ok (.goto 8, 3) := by decide +kernel
theorem dX7_lucky_32 : decode cX7_lucky 32 = .ok (.aload_n 0, 1) := by decide +kernel
theorem dX7_lucky_33 : decode cX7_lucky 33 = .ok (.iload_n 1, 1) := by decide +kernel
theorem dX7_lucky_34 : decode cX7_lucky 34 = .ok (.invokevirtual 195, 3) := by decide +kernel
theorem dX7_lucky_37 : decode cX7_lucky 37 = .ok (.if_icmp .le 5, 3) := by decide +kernel
theorem dX7_lucky_40 : decode cX7_lucky 40 = .ok (.iload_n 2, 1) := by decide +kernel
theorem dX7_lucky_41 : decode cX7_lucky 41 = .ok (.istore_n 1, 1) := by decide +kernel
theorem dX7_lucky_42 : decode cX7_lucky 42 = .ok (.iinc 2 1, 3) := by decide +kernel
theorem dX7_lucky_45 : decode cX7_lucky 45 = .ok (.goto (-36), 3) := by decide +kernel
theorem dX7_lucky_48 : decode cX7_lucky 48 = .ok (.iload_n 1, 1) := by decide +kernel
theorem dX7_lucky_49 : decode cX7_lucky 49 = .ok (.ireturn, 1) := by decide +kernel
theorem dX7_away_0 : decode cX7_away 0 = .ok (.bipush (-9), 2) := by decide +kernel
theorem dX7_away_2 : decode cX7_away 2 = .ok (.istore_n 1, 1) := by decide +kernel
theorem dX7_away_3 : decode cX7_away 3 = .ok (.iconst 0, 1) := by decide +kernel
theorem dX7_away_4 : decode cX7_away 4 = .ok (.istore_n 2, 1) := by decide +kernel
theorem dX7_away_5 : decode cX7_away 5 = .ok (.aload_n 0, 1) := by decide +kernel
theorem dX7_away_6 : decode cX7_away 6 = .ok (.aload_n 0, 1) := by decide +kernel
theorem dX7_away_7 : decode cX7_away 7 = .ok (.getfield 43, 3) := by decide +kernel
theorem dX7_away_10 : decode cX7_away 10 = .ok (.invokevirtual 116, 3) := by decide +kernel
theorem dX7_away_13 : decode cX7_away 13 = .ok (.iconst 0, 1) := by decide +kernel
theorem dX7_away_14 : decode cX7_away 14 = .ok (.istore_n 3, 1) := by decide +kernel
theorem dX7_away_15 : decode cX7_away 15 = .ok (.iload_n 3, 1) := by decide +kernel
theorem dX7_away_16 : decode cX7_away 16 = .ok (.aload_n 0, 1) := by decide +kernel
theorem dX7_away_17 : decode cX7_away 17 = .ok (.getfield 59, 3) := by decide +kernel
theorem dX7_away_20 : decode cX7_away 20 = .ok (.if_icmp .ge 48, 3) := by decide +kernel
theorem dX7_away_23 : decode cX7_away 23 = .ok (.aload_n 0, 1) := by decide +kernel
theorem dX7_away_24 : decode cX7_away 24 = .ok (.iload_n 3, 1) := by decide +kernel
theorem dX7_away_25 : decode cX7_away 25 = .ok (.invokevirtual 183, 3) := by decide +kernel
theorem dX7_away_28 : decode cX7_away 28 = .ok (.aload_n 0, 1) := by decide +kernel
theorem dX7_away_29 : decode cX7_away 29 = .ok (.invokevirtual 168, 3) := by decide +kernel
theorem dX7_away_32 : decode cX7_away 32 = .ok (.istore 4, 2) := by decide +kernel
theorem dX7_away_34 : decode cX7_away 34 = .ok (.aload_n 0, 1) := by decide +kernel
theorem dX7_away_35 : decode cX7_away 35 = .ok (.aload_n 0, 1) := by decide +kernel
theorem dX7_away_36 : decode cX7_away 36 = .ok (.getfield 43, 3) := by decide +kernel
theorem dX7_away_39 : decode cX7_away 39 = .ok (.invokevirtual 120, 3) := by decide +kernel
theorem dX7_away_42 : decode cX7_away 42 = .ok (.iload_n 1, 1) := by decide +kernel
theorem dX7_away_43 : decode cX7_away 43 = .ok (.bipush (-9), 2) := by decide +kernel
theorem dX7_away_45 : decode cX7_away 45 = .ok (.if_icmp .eq 12, 3) := by decide +kernel
theorem dX7_away_48 : decode cX7_away 48 = .ok (.iload 4, 2) := by decide +kernel
theorem dX7_away_50 : decode cX7_away 50 = .ok (.iload_n 2, 1) := by decide +kernel
theorem dX7_away_51 : decode cX7_away 51 = .ok (.if_icmp .lt 6, 3) := by decide +kernel
theorem dX7_away_54 : decode cX7_away 54 = .ok (.goto 8, 3) := by decide +kernel
theorem dX7_away_57 : decode cX7_away 57 = .ok (.iload 4, 2) := by decide +kernel
theorem dX7_away_59 : decode cX7_away 59 = .ok (.istore_n 2, 1) := by decide +kernel
theorem dX7_away_60 : decode cX7_away 60 = .ok (.iload_n 3, 1) := by decide +kernel
theorem dX7_away_61 : decode cX7_away 61 = .ok (.istore_n 1, 1) := by decide +kernel
theorem dX7_away_62 : decode cX7_away 62 = .ok (.iinc 3 1, 3) := by decide +kernel
theorem dX7_away_65 : decode cX7_away 65 = .ok (.goto (-50), 3) := by decide +kernel
theorem dX7_away_68 : decode cX7_away 68 = .ok (.iload_n 1, 1) := by decide +kernel
theorem dX7_away_69 : decode cX7_away 69 = .ok (.ireturn, 1) := by decide +kernel
theorem dX7_wider_0 : decode cX7_wider 0 = .ok (.aload_n 0, 1) := by decide +kernel
theorem dX7_wider_1 : decode cX7_wider 1 = .ok (.invokevirtual 164, 3) := by decide +kernel
theorem dX7_wider_4 : decode cX7_wider 4 = .ok (.istore_n 1, 1) := by decide +kernel
theorem dX7_wider_5 : decode cX7_wider 5 = .ok (.aload_n 0, 1) := by decide +kernel
theorem dX7_wider_6 : decode cX7_wider 6 = .ok (.iconst 1, 1) := by decide +kernel
theorem dX7_wider_7 : decode cX7_wider 7 = .ok (.putfield 136, 3) := by decide +kernel
theorem dX7_wider_10 : decode cX7_wider 10 = .ok (.aload_n 0, 1) := by decide +kernel
theorem dX7_wider_11 : decode cX7_wider 11 = .ok (.invokevirtual 164, 3) := by decide +kernel
theorem dX7_wider_14 : decode cX7_wider 14 = .ok (.istore_n 2, 1) := by decide +kernel
theorem dX7_wider_15 : decode cX7_wider 15 = .ok (.aload_n 0, 1) := by decide +kernel
theorem dX7_wider_16 : decode cX7_wider 16 = .ok (.iconst 0, 1) := by decide +kernel
theorem dX7_wider_17 : decode cX7_wider 17 = .ok (.putfield 136, 3) := by decide +kernel
theorem dX7_wider_20 : decode cX7_wider 20 = .ok (.iload_n 1, 1) := by decide +kernel
theorem dX7_wider_21 : decode cX7_wider 21 = .ok (.iload_n 2, 1) := by decide +kernel
theorem dX7_wider_22 : decode cX7_wider 22 = .ok (.isub, 1) := by decide +kernel
theorem dX7_wider_23 : decode cX7_wider 23 = .ok (.ireturn, 1) := by decide +kernel
theorem dX7_gap_0 : decode cX7_gap 0 = .ok (.iload_n 1, 1) := by decide +kernel
theorem dX7_gap_1 : decode cX7_gap 1 = .ok (.iconst 0, 1) := by decide +kernel
theorem dX7_gap_2 : decode cX7_gap 2 = .ok (.iconst 1, 1) := by decide +kernel
theorem dX7_gap_3 : decode cX7_gap 3 = .ok (.invokestatic 62, 3) := by decide +kernel
theorem dX7_gap_6 : decode cX7_gap 6 = .ok (.ifCond .ne 10, 3) := by decide +kernel
theorem dX7_gap_9 : decode cX7_gap 9 = .ok (.aload_n 0, 1) := by decide +kernel
theorem dX7_gap_10 : decode cX7_gap 10 = .ok (.bipush (-2), 2) := by decide +kernel
theorem dX7_gap_12 : decode cX7_gap 12 = .ok (.invokevirtual 66, 3) := by decide +kernel
theorem dX7_gap_15 : decode cX7_gap 15 = .ok (.ireturn, 1) := by decide +kernel
theorem dX7_gap_16 : decode cX7_gap 16 = .ok (.aload_n 0, 1) := by decide +kernel
theorem dX7_gap_17 : decode cX7_gap 17 = .ok (.invokevirtual 161, 3) := by decide +kernel
theorem dX7_gap_20 : decode cX7_gap 20 = .ok (.iconst 0, 1) := by decide +kernel
theorem dX7_gap_21 : decode cX7_gap 21 = .ok (.istore_n 2, 1) := by decide +kernel
theorem dX7_gap_22 : decode cX7_gap 22 = .ok (.bipush (-9), 2) := by decide +kernel
theorem dX7_gap_24 : decode cX7_gap 24 = .ok (.istore_n 3, 1) := by decide +kernel
theorem dX7_gap_25 : decode cX7_gap 25 = .ok (.iconst 0, 1) := by decide +kernel
theorem dX7_gap_26 : decode cX7_gap 26 = .ok (.istore 4, 2) := by decide +kernel
theorem dX7_gap_28 : decode cX7_gap 28 = .ok (.iload 4, 2) := by decide +kernel
theorem dX7_gap_30 : decode cX7_gap 30 = .ok (.iconst 1, 1) := by decide +kernel
theorem dX7_gap_31 : decode cX7_gap 31 = .ok (.iadd, 1) := by decide +kernel
theorem dX7_gap_32 : decode cX7_gap 32 = .ok (.aload_n 0, 1) := by decide +kernel
theorem dX7_gap_33 : decode cX7_gap 33 = .ok (.getfield 146, 3) := by decide +kernel
theorem dX7_gap_36 : decode cX7_gap 36 = .ok (.if_icmp .ge 53, 3) := by decide +kernel
theorem dX7_gap_39 : decode cX7_gap 39 = .ok (.aload_n 0, 1) := by decide +kernel
theorem dX7_gap_40 : decode cX7_gap 40 = .ok (.getfield 49, 3) := by decide +kernel
theorem dX7_gap_43 : decode cX7_gap 43 = .ok (.aload_n 0, 1) := by decide +kernel
theorem dX7_gap_44 : decode cX7_gap 44 = .ok (.getfield 46, 3) := by decide +kernel
theorem dX7_gap_47 : decode cX7_gap 47 = .ok (.iload 4, 2) := by decide +kernel
theorem dX7_gap_49 : decode cX7_gap 49 = .ok (.iconst 1, 1) := by decide +kernel
theorem dX7_gap_50 : decode cX7_gap 50 = .ok (.iadd, 1) := by decide +kernel
theorem dX7_gap_51 : decode cX7_gap 51 = .ok (.iaload, 1) := by decide +kernel
theorem dX7_gap_52 : decode cX7_gap 52 = .ok (.iaload, 1) := by decide +kernel
theorem dX7_gap_53 : decode cX7_gap 53 = .ok (.aload_n 0, 1) := by decide +kernel
theorem dX7_gap_54 : decode cX7_gap 54 = .ok (.getfield 49, 3) := by decide +kernel
theorem dX7_gap_57 : decode cX7_gap 57 = .ok (.aload_n 0, 1) := by decide +kernel
theorem dX7_gap_58 : decode cX7_gap 58 = .ok (.getfield 46, 3) := by decide +kernel
theorem dX7_gap_61 : decode cX7_gap 61 = .ok (.iload 4, 2) := by decide +kernel
theorem dX7_gap_63 : decode cX7_gap 63 = .ok (.iaload, 1) := by decide +kernel
theorem dX7_gap_64 : decode cX7_gap 64 = .ok (.iaload, 1) := by decide +kernel
theorem dX7_gap_65 : decode cX7_gap 65 = .ok (.isub, 1) := by decide +kernel
theorem dX7_gap_66 : decode cX7_gap 66 = .ok (.istore 5, 2) := by decide +kernel
theorem dX7_gap_68 : decode cX7_gap 68 = .ok (.iload 5, 2) := by decide +kernel
theorem dX7_gap_70 : decode cX7_gap 70 = .ok (.iload_n 2, 1) := by decide +kernel
theorem dX7_gap_71 : decode cX7_gap 71 = .ok (.if_icmp .gt 6, 3) := by decide +kernel
theorem dX7_gap_74 : decode cX7_gap 74 = .ok (.goto 9, 3) := by decide +kernel
theorem dX7_gap_77 : decode cX7_gap 77 = .ok (.iload 5, 2) := by decide +kernel
theorem dX7_gap_79 : decode cX7_gap 79 = .ok (.istore_n 2, 1) := by decide +kernel
theorem dX7_gap_80 : decode cX7_gap 80 = .ok (.iload 4, 2) := by decide +kernel
theorem dX7_gap_82 : decode cX7_gap 82 = .ok (.istore_n 3, 1) := by decide +kernel
theorem dX7_gap_83 : decode cX7_gap 83 = .ok (.iinc 4 1, 3) := by decide +kernel
theorem dX7_gap_86 : decode cX7_gap 86 = .ok (.goto (-58), 3) := by decide +kernel
theorem dX7_gap_89 : decode cX7_gap 89 = .ok (.iload_n 1, 1) := by decide +kernel
theorem dX7_gap_90 : decode cX7_gap 90 = .ok (.ifCond .ne 7, 3) := by decide +kernel
theorem dX7_gap_93 : decode cX7_gap 93 = .ok (.iload_n 2, 1) := by decide +kernel
theorem dX7_gap_94 : decode cX7_gap 94 = .ok (.goto 4, 3) := by decide +kernel
theorem dX7_gap_97 : decode cX7_gap 97 = .ok (.iload_n 3, 1) := by decide +kernel
theorem dX7_gap_98 : decode cX7_gap 98 = .ok (.ireturn, 1) := by decide +kernel
theorem dX7_even_0 : decode cX7_even 0 = .ok (.iload_n 1, 1) := by decide +kernel
theorem dX7_even_1 : decode cX7_even 1 = .ok (.ifCond .ge 10, 3) := by decide +kernel
theorem dX7_even_4 : decode cX7_even 4 = .ok (.aload_n 0, 1) := by decide +kernel
theorem dX7_even_5 : decode cX7_even 5 = .ok (.bipush (-4), 2) := by decide +kernel
theorem dX7_even_7 : decode cX7_even 7 = .ok (.invokevirtual 66, 3) := by decide +kernel
theorem dX7_even_10 : decode cX7_even 10 = .ok (.ireturn, 1) := by decide +kernel
theorem dX7_even_11 : decode cX7_even 11 = .ok (.iload_n 1, 1) := by decide +kernel
theorem dX7_even_12 : decode cX7_even 12 = .ok (.bipush 99, 2) := by decide +kernel
theorem dX7_even_14 : decode cX7_even 14 = .ok (.if_icmp .le 10, 3) := by decide +kernel
theorem dX7_even_17 : decode cX7_even 17 = .ok (.aload_n 0, 1) := by decide +kernel
theorem dX7_even_18 : decode cX7_even 18 = .ok (.bipush (-6), 2) := by decide +kernel
theorem dX7_even_20 : decode cX7_even 20 = .ok (.invokevirtual 66, 3) := by decide +kernel
theorem dX7_even_23 : decode cX7_even 23 = .ok (.ireturn, 1) := by decide +kernel
theorem dX7_even_24 : decode cX7_even 24 = .ok (.aload_n 0, 1) := by decide +kernel
theorem dX7_even_25 : decode cX7_even 25 = .ok (.getfield 55, 3) := by decide +kernel
theorem dX7_even_28 : decode cX7_even 28 = .ok (.istore_n 2, 1) := by decide +kernel
theorem dX7_even_29 : decode cX7_even 29 = .ok (.bipush (-9), 2) := by decide +kernel
theorem dX7_even_31 : decode cX7_even 31 = .ok (.istore_n 3, 1) := by decide +kernel
theorem dX7_even_32 : decode cX7_even 32 = .ok (.bipush 9, 2) := by decide +kernel
theorem dX7_even_34 : decode cX7_even 34 = .ok (.istore 4, 2) := by decide +kernel
theorem dX7_even_36 : decode cX7_even 36 = .ok (.iload 4, 2) := by decide +kernel
theorem dX7_even_38 : decode cX7_even 38 = .ok (.ifCond .lt 26, 3) := by decide +kernel
theorem dX7_even_41 : decode cX7_even 41 = .ok (.aload_n 0, 1) := by decide +kernel
theorem dX7_even_42 : decode cX7_even 42 = .ok (.iload 4, 2) := by decide +kernel
theorem dX7_even_44 : decode cX7_even 44 = .ok (.putfield 55, 3) := by decide +kernel
theorem dX7_even_47 : decode cX7_even 47 = .ok (.aload_n 0, 1) := by decide +kernel
theorem dX7_even_48 : decode cX7_even 48 = .ok (.invokevirtual 164, 3) := by decide +kernel
theorem dX7_even_51 : decode cX7_even 51 = .ok (.iload_n 1, 1) := by decide +kernel
theorem dX7_even_52 : decode cX7_even 52 = .ok (.if_icmp .lt 6, 3) := by decide +kernel
theorem dX7_even_55 : decode cX7_even 55 = .ok (.iload 4, 2) := by decide +kernel
theorem dX7_even_57 : decode cX7_even 57 = .ok (.istore_n 3, 1) := by decide +kernel
theorem dX7_even_58 : decode cX7_even 58 = .ok (.iinc 4 (-1), 3) := by decide +kernel
theorem dX7_even_61 : decode cX7_even 61 = .ok (.goto (-25), 3) := by decide +kernel
theorem dX7_even_64 : decode cX7_even 64 = .ok (.aload_n 0, 1) := by decide +kernel
theorem dX7_even_65 : decode cX7_even 65 = .ok (.iload_n 2, 1) := by decide +kernel
theorem dX7_even_66 : decode cX7_even 66 = .ok (.putfield 55, 3) := by decide +kernel
theorem dX7_even_69 : decode cX7_even 69 = .ok (.iload_n 3, 1) := by decide +kernel
theorem dX7_even_70 : decode cX7_even 70 = .ok (.ireturn, 1) := by decide +kernel
theorem dX7_keep_0 : decode cX7_keep 0 = .ok (.iload_n 1, 1) := by decide +kernel
theorem dX7_keep_1 : decode cX7_keep 1 = .ok (.ifCond .ge 10, 3) := by decide +kernel
theorem dX7_keep_4 : decode cX7_keep 4 = .ok (.aload_n 0, 1) := by decide +kernel
theorem dX7_keep_5 : decode cX7_keep 5 = .ok (.bipush (-4), 2) := by decide +kernel
theorem dX7_keep_7 : decode cX7_keep 7 = .ok (.invokevirtual 66, 3) := by decide +kernel
theorem dX7_keep_10 : decode cX7_keep 10 = .ok (.ireturn, 1) := by decide +kernel
theorem dX7_keep_11 : decode cX7_keep 11 = .ok (.iload_n 1, 1) := by decide +kernel
theorem dX7_keep_12 : decode cX7_keep 12 = .ok (.bipush 99, 2) := by decide +kernel
theorem dX7_keep_14 : decode cX7_keep 14 = .ok (.if_icmp .le 10, 3) := by decide +kernel
theorem dX7_keep_17 : decode cX7_keep 17 = .ok (.aload_n 0, 1) := by decide +kernel
theorem dX7_keep_18 : decode cX7_keep 18 = .ok (.bipush (-6), 2) := by decide +kernel
theorem dX7_keep_20 : decode cX7_keep 20 = .ok (.invokevirtual 66, 3) := by decide +kernel
theorem dX7_keep_23 : decode cX7_keep 23 = .ok (.ireturn, 1) := by decide +kernel
theorem dX7_keep_24 : decode cX7_keep 24 = .ok (.iload_n 2, 1) := by decide +kernel
theorem dX7_keep_25 : decode cX7_keep 25 = .ok (.iconst 0, 1) := by decide +kernel
theorem dX7_keep_26 : decode cX7_keep 26 = .ok (.iconst 1, 1) := by decide +kernel
theorem dX7_keep_27 : decode cX7_keep 27 = .ok (.invokestatic 62, 3) := by decide +kernel
theorem dX7_keep_30 : decode cX7_keep 30 = .ok (.ifCond .ne 10, 3) := by decide +kernel
theorem dX7_keep_33 : decode cX7_keep 33 = .ok (.aload_n 0, 1) := by decide +kernel
theorem dX7_keep_34 : decode cX7_keep 34 = .ok (.bipush (-2), 2) := by decide +kernel
theorem dX7_keep_36 : decode cX7_keep 36 = .ok (.invokevirtual 66, 3) := by decide +kernel
theorem dX7_keep_39 : decode cX7_keep 39 = .ok (.ireturn, 1) := by decide +kernel
theorem dX7_keep_40 : decode cX7_keep 40 = .ok (.iconst 1, 1) := by decide +kernel
theorem dX7_keep_41 : decode cX7_keep 41 = .ok (.aload_n 0, 1) := by decide +kernel
theorem dX7_keep_42 : decode cX7_keep 42 = .ok (.getfield 59, 3) := by decide +kernel
theorem dX7_keep_45 : decode cX7_keep 45 = .ok (.ishl, 1) := by decide +kernel
theorem dX7_keep_46 : decode cX7_keep 46 = .ok (.iconst 1, 1) := by decide +kernel
theorem dX7_keep_47 : decode cX7_keep 47 = .ok (.isub, 1) := by decide +kernel
theorem dX7_keep_48 : decode cX7_keep 48 = .ok (.istore_n 3, 1) := by decide +kernel
theorem dX7_keep_49 : decode cX7_keep 49 = .ok (.aload_n 0, 1) := by decide +kernel
theorem dX7_keep_50 : decode cX7_keep 50 = .ok (.aload_n 0, 1) := by decide +kernel
theorem dX7_keep_51 : decode cX7_keep 51 = .ok (.getfield 43, 3) := by decide +kernel
theorem dX7_keep_54 : decode cX7_keep 54 = .ok (.invokevirtual 116, 3) := by decide +kernel
theorem dX7_keep_57 : decode cX7_keep 57 = .ok (.iconst 0, 1) := by decide +kernel
theorem dX7_keep_58 : decode cX7_keep 58 = .ok (.istore 4, 2) := by decide +kernel
theorem dX7_keep_60 : decode cX7_keep 60 = .ok (.iload 4, 2) := by decide +kernel
theorem dX7_keep_62 : decode cX7_keep 62 = .ok (.iconst 1, 1) := by decide +kernel
theorem dX7_keep_63 : decode cX7_keep 63 = .ok (.aload_n 0, 1) := by decide +kernel
theorem dX7_keep_64 : decode cX7_keep 64 = .ok (.getfield 59, 3) := by decide +kernel
theorem dX7_keep_67 : decode cX7_keep 67 = .ok (.ishl, 1) := by decide +kernel
theorem dX7_keep_68 : decode cX7_keep 68 = .ok (.if_icmp .ge 90, 3) := by decide +kernel
theorem dX7_keep_71 : decode cX7_keep 71 = .ok (.iload 4, 2) := by decide +kernel
theorem dX7_keep_73 : decode cX7_keep 73 = .ok (.invokestatic 175, 3) := by decide +kernel
theorem dX7_keep_76 : decode cX7_keep 76 = .ok (.iload_n 3, 1) := by decide +kernel
theorem dX7_keep_77 : decode cX7_keep 77 = .ok (.invokestatic 175, 3) := by decide +kernel
theorem dX7_keep_80 : decode cX7_keep 80 = .ok (.if_icmp .lt 6, 3) := by decide +kernel
theorem dX7_keep_83 : decode cX7_keep 83 = .ok (.goto 69, 3) := by decide +kernel
theorem dX7_keep_86 : decode cX7_keep 86 = .ok (.iconst 0, 1) := by decide +kernel
theorem dX7_keep_87 : decode cX7_keep 87 = .ok (.istore 5, 2) := by decide +kernel
theorem dX7_keep_89 : decode cX7_keep 89 = .ok (.iload 5, 2) := by decide +kernel
theorem dX7_keep_91 : decode cX7_keep 91 = .ok (.aload_n 0, 1) := by decide +kernel
theorem dX7_keep_92 : decode cX7_keep 92 = .ok (.getfield 59, 3) := by decide +kernel
theorem dX7_keep_95 : decode cX7_keep 95 = .ok (.if_icmp .ge 26, 3) := by decide +kernel
theorem dX7_keep_98 : decode cX7_keep 98 = .ok (.iload 4, 2) := by decide +kernel
theorem dX7_keep_100 : decode cX7_keep 100 = .ok (.iload 5, 2) := by decide +kernel
theorem dX7_keep_102 : decode cX7_keep 102 = .ok (.ishr, 1) := by decide +kernel
theorem dX7_keep_103 : decode cX7_keep 103 = .ok (.iconst 1, 1) := by decide +kernel
theorem dX7_keep_104 : decode cX7_keep 104 = .ok (.iand, 1) := by decide +kernel
theorem dX7_keep_105 : decode cX7_keep 105 = .ok (.iconst 1, 1) := by decide +kernel
theorem dX7_keep_106 : decode cX7_keep 106 = .ok (.if_icmp .ne 9, 3) := by decide +kernel
theorem dX7_keep_109 : decode cX7_keep 109 = .ok (.aload_n 0, 1) := by decide +kernel
theorem dX7_keep_110 : decode cX7_keep 110 = .ok (.iload 5, 2) := by decide +kernel
theorem dX7_keep_112 : decode cX7_keep 112 = .ok (.invokevirtual 183, 3) := by decide +kernel
theorem dX7_keep_115 : decode cX7_keep 115 = .ok (.iinc 5 1, 3) := by decide +kernel
theorem dX7_keep_118 : decode cX7_keep 118 = .ok (.goto (-29), 3) := by decide +kernel
theorem dX7_keep_121 : decode cX7_keep 121 = .ok (.aload_n 0, 1) := by decide +kernel
theorem dX7_keep_122 : decode cX7_keep 122 = .ok (.invokevirtual 164, 3) := by decide +kernel
theorem dX7_keep_125 : decode cX7_keep 125 = .ok (.iload_n 1, 1) := by decide +kernel
theorem dX7_keep_126 : decode cX7_keep 126 = .ok (.if_icmp .gt 7, 3) := by decide +kernel
theorem dX7_keep_129 : decode cX7_keep 129 = .ok (.iconst 1, 1) := by decide +kernel
theorem dX7_keep_130 : decode cX7_keep 130 = .ok (.goto 4, 3) := by decide +kernel
theorem dX7_keep_133 : decode cX7_keep 133 = .ok (.iconst 0, 1) := by decide +kernel
theorem dX7_keep_134 : decode cX7_keep 134 = .ok (.istore 5, 2) := by decide +kernel
theorem dX7_keep_136 : decode cX7_keep 136 = .ok (.aload_n 0, 1) := by decide +kernel
theorem dX7_keep_137 : decode cX7_keep 137 = .ok (.aload_n 0, 1) := by decide +kernel
theorem dX7_keep_138 : decode cX7_keep 138 = .ok (.getfield 43, 3) := by decide +kernel
theorem dX7_keep_141 : decode cX7_keep 141 = .ok (.invokevirtual 120, 3) := by decide +kernel
theorem dX7_keep_144 : decode cX7_keep 144 = .ok (.iload 5, 2) := by decide +kernel
theorem dX7_keep_146 : decode cX7_keep 146 = .ok (.ifCond .eq 6, 3) := by decide +kernel
theorem dX7_keep_149 : decode cX7_keep 149 = .ok (.iload 4, 2) := by decide +kernel
theorem dX7_keep_151 : decode cX7_keep 151 = .ok (.istore_n 3, 1) := by decide +kernel
theorem dX7_keep_152 : decode cX7_keep 152 = .ok (.iinc 4 1, 3) := by decide +kernel
theorem dX7_keep_155 : decode cX7_keep 155 = .ok (.goto (-95), 3) := by decide +kernel
theorem dX7_keep_158 : decode cX7_keep 158 = .ok (.iload_n 2, 1) := by decide +kernel
theorem dX7_keep_159 : decode cX7_keep 159 = .ok (.ifCond .ne 7, 3) := by decide +kernel
theorem dX7_keep_162 : decode cX7_keep 162 = .ok (.iload_n 3, 1) := by decide +kernel
theorem dX7_keep_163 : decode cX7_keep 163 = .ok (.goto 7, 3) := by decide +kernel
theorem dX7_keep_166 : decode cX7_keep 166 = .ok (.iload_n 3, 1) := by decide +kernel
theorem dX7_keep_167 : decode cX7_keep 167 = .ok (.invokestatic 175, 3) := by decide +kernel
theorem dX7_keep_170 : decode cX7_keep 170 = .ok (.ireturn, 1) := by decide +kernel
theorem dX7_wrong_0 : decode cX7_wrong 0 = .ok (.aload_n 0, 1) := by decide +kernel
theorem dX7_wrong_1 : decode cX7_wrong 1 = .ok (.invokevirtual 161, 3) := by decide +kernel
theorem dX7_wrong_4 : decode cX7_wrong 4 = .ok (.iconst 0, 1) := by decide +kernel
theorem dX7_wrong_5 : decode cX7_wrong 5 = .ok (.istore_n 1, 1) := by decide +kernel
theorem dX7_wrong_6 : decode cX7_wrong 6 = .ok (.iload_n 1, 1) := by decide +kernel
theorem dX7_wrong_7 : decode cX7_wrong 7 = .ok (.aload_n 0, 1) := by decide +kernel
theorem dX7_wrong_8 : decode cX7_wrong 8 = .ok (.getfield 198, 3) := by decide +kernel
theorem dX7_wrong_11 : decode cX7_wrong 11 = .ok (.if_icmp .ge 34, 3) := by decide +kernel
theorem dX7_wrong_14 : decode cX7_wrong 14 = .ok (.iload_n 1, 1) := by decide +kernel
theorem dX7_wrong_15 : decode cX7_wrong 15 = .ok (.aload_n 0, 1) := by decide +kernel
theorem dX7_wrong_16 : decode cX7_wrong 16 = .ok (.getfield 146, 3) := by decide +kernel
theorem dX7_wrong_19 : decode cX7_wrong 19 = .ok (.if_icmp .ge 18, 3) := by decide +kernel
theorem dX7_wrong_22 : decode cX7_wrong 22 = .ok (.aload_n 0, 1) := by decide +kernel
theorem dX7_wrong_23 : decode cX7_wrong 23 = .ok (.getfield 31, 3) := by decide +kernel
theorem dX7_wrong_26 : decode cX7_wrong 26 = .ok (.iload_n 1, 1) := by decide +kernel
theorem dX7_wrong_27 : decode cX7_wrong 27 = .ok (.iaload, 1) := by decide +kernel
theorem dX7_wrong_28 : decode cX7_wrong 28 = .ok (.aload_n 0, 1) := by decide +kernel
theorem dX7_wrong_29 : decode cX7_wrong 29 = .ok (.getfield 46, 3) := by decide +kernel
theorem dX7_wrong_32 : decode cX7_wrong 32 = .ok (.iload_n 1, 1) := by decide +kernel
theorem dX7_wrong_33 : decode cX7_wrong 33 = .ok (.iaload, 1) := by decide +kernel
theorem dX7_wrong_34 : decode cX7_wrong 34 = .ok (.if_icmp .eq 5, 3) := by decide +kernel
theorem dX7_wrong_37 : decode cX7_wrong 37 = .ok (.iload_n 1, 1) := by decide +kernel
theorem dX7_wrong_38 : decode cX7_wrong 38 = .ok (.ireturn, 1) := by decide +kernel
theorem dX7_wrong_39 : decode cX7_wrong 39 = .ok (.iinc 1 1, 3) := by decide +kernel
theorem dX7_wrong_42 : decode cX7_wrong 42 = .ok (.goto (-36), 3) := by decide +kernel
theorem dX7_wrong_45 : decode cX7_wrong 45 = .ok (.bipush (-9), 2) := by decide +kernel
theorem dX7_wrong_47 : decode cX7_wrong 47 = .ok (.ireturn, 1) := by decide +kernel
theorem dX7_who_0 : decode cX7_who 0 = .ok (.aload_n 0, 1) := by decide +kernel
theorem dX7_who_1 : decode cX7_who 1 = .ok (.iload_n 1, 1) := by decide +kernel
theorem dX7_who_2 : decode cX7_who 2 = .ok (.invokevirtual 96, 3) := by decide +kernel
theorem dX7_who_5 : decode cX7_who 5 = .ok (.ifCond .ne 9, 3) := by decide +kernel
theorem dX7_who_8 : decode cX7_who 8 = .ok (.aload_n 0, 1) := by decide +kernel
theorem dX7_who_9 : decode cX7_who 9 = .ok (.iconst (-1), 1) := by decide +kernel
theorem dX7_who_10 : decode cX7_who 10 = .ok (.invokevirtual 66, 3) := by decide +kernel
theorem dX7_who_13 : decode cX7_who 13 = .ok (.ireturn, 1) := by decide +kernel
theorem dX7_who_14 : decode cX7_who 14 = .ok (.iload_n 2, 1) := by decide +kernel
theorem dX7_who_15 : decode cX7_who 15 = .ok (.iconst 0, 1) := by decide +kernel
theorem dX7_who_16 : decode cX7_who 16 = .ok (.iconst 1, 1) := by decide +kernel
theorem dX7_who_17 : decode cX7_who 17 = .ok (.invokestatic 62, 3) := by decide +kernel
theorem dX7_who_20 : decode cX7_who 20 = .ok (.ifCond .ne 10, 3) := by decide +kernel
theorem dX7_who_23 : decode cX7_who 23 = .ok (.aload_n 0, 1) := by decide +kernel
theorem dX7_who_24 : decode cX7_who 24 = .ok (.bipush (-2), 2) := by decide +kernel
theorem dX7_who_26 : decode cX7_who 26 = .ok (.invokevirtual 66, 3) := by decide +kernel
theorem dX7_who_29 : decode cX7_who 29 = .ok (.ireturn, 1) := by decide +kernel
theorem dX7_who_30 : decode cX7_who 30 = .ok (.aload_n 0, 1) := by decide +kernel
theorem dX7_who_31 : decode cX7_who 31 = .ok (.getfield 7, 3) := by decide +kernel
theorem dX7_who_34 : decode cX7_who 34 = .ok (.iload_n 1, 1) := by decide +kernel
theorem dX7_who_35 : decode cX7_who 35 = .ok (.iaload, 1) := by decide +kernel
theorem dX7_who_36 : decode cX7_who 36 = .ok (.istore_n 3, 1) := by decide +kernel
theorem dX7_who_37 : decode cX7_who 37 = .ok (.aload_n 0, 1) := by decide +kernel
theorem dX7_who_38 : decode cX7_who 38 = .ok (.getfield 13, 3) := by decide +kernel
theorem dX7_who_41 : decode cX7_who 41 = .ok (.iload_n 1, 1) := by decide +kernel
theorem dX7_who_42 : decode cX7_who 42 = .ok (.iaload, 1) := by decide +kernel
theorem dX7_who_43 : decode cX7_who 43 = .ok (.istore 4, 2) := by decide +kernel
theorem dX7_who_45 : decode cX7_who 45 = .ok (.iconst 0, 1) := by decide +kernel
theorem dX7_who_46 : decode cX7_who 46 = .ok (.istore 5, 2) := by decide +kernel
theorem dX7_who_48 : decode cX7_who 48 = .ok (.iconst 0, 1) := by decide +kernel
theorem dX7_who_49 : decode cX7_who 49 = .ok (.istore 6, 2) := by decide +kernel
theorem dX7_who_51 : decode cX7_who 51 = .ok (.iload 6, 2) := by decide +kernel
theorem dX7_who_53 : decode cX7_who 53 = .ok (.iload_n 2, 1) := by decide +kernel
theorem dX7_who_54 : decode cX7_who 54 = .ok (.ifCond .ne 8, 3) := by decide +kernel
theorem dX7_who_57 : decode cX7_who 57 = .ok (.bipush 6, 2) := by decide +kernel
theorem dX7_who_59 : decode cX7_who 59 = .ok (.goto 5, 3) := by decide +kernel
theorem dX7_who_62 : decode cX7_who 62 = .ok (.bipush 10, 2) := by decide +kernel
theorem dX7_who_64 : decode cX7_who 64 = .ok (.if_icmp .ge 53, 3) := by decide +kernel
theorem dX7_who_67 : decode cX7_who 67 = .ok (.aload_n 0, 1) := by decide +kernel
theorem dX7_who_68 : decode cX7_who 68 = .ok (.iload_n 1, 1) := by decide +kernel
theorem dX7_who_69 : decode cX7_who 69 = .ok (.iload_n 2, 1) := by decide +kernel
theorem dX7_who_70 : decode cX7_who 70 = .ok (.ifCond .ne 8, 3) := by decide +kernel
theorem dX7_who_73 : decode cX7_who 73 = .ok (.iload 6, 2) := by decide +kernel
theorem dX7_who_75 : decode cX7_who 75 = .ok (.goto 4, 3) := by decide +kernel
theorem dX7_who_78 : decode cX7_who 78 = .ok (.iload_n 3, 1) := by decide +kernel
theorem dX7_who_79 : decode cX7_who 79 = .ok (.iload_n 2, 1) := by decide +kernel
theorem dX7_who_80 : decode cX7_who 80 = .ok (.ifCond .ne 8, 3) := by decide +kernel
theorem dX7_who_83 : decode cX7_who 83 = .ok (.iload 4, 2) := by decide +kernel
theorem dX7_who_85 : decode cX7_who 85 = .ok (.goto 5, 3) := by decide +kernel
theorem dX7_who_88 : decode cX7_who 88 = .ok (.iload 6, 2) := by decide +kernel
theorem dX7_who_90 : decode cX7_who 90 = .ok (.invokevirtual 99, 3) := by decide +kernel
theorem dX7_who_93 : decode cX7_who 93 = .ok (.aload_n 0, 1) := by decide +kernel
theorem dX7_who_94 : decode cX7_who 94 = .ok (.invokevirtual 201, 3) := by decide +kernel
theorem dX7_who_97 : decode cX7_who 97 = .ok (.bipush (-9), 2) := by decide +kernel
theorem dX7_who_99 : decode cX7_who 99 = .ok (.if_icmp .ne 12, 3) := by decide +kernel
theorem dX7_who_102 : decode cX7_who 102 = .ok (.iload 5, 2) := by decide +kernel
theorem dX7_who_104 : decode cX7_who 104 = .ok (.iconst 1, 1) := by decide +kernel
theorem dX7_who_105 : decode cX7_who 105 = .ok (.iload 6, 2) := by decide +kernel
theorem dX7_who_107 : decode cX7_who 107 = .ok (.ishl, 1) := by decide +kernel
theorem dX7_who_108 : decode cX7_who 108 = .ok (.ior, 1) := by decide +kernel
theorem dX7_who_109 : decode cX7_who 109 = .ok (.istore 5, 2) := by decide +kernel
theorem dX7_who_111 : decode cX7_who 111 = .ok (.iinc 6 1, 3) := by decide +kernel
theorem dX7_who_114 : decode cX7_who 114 = .ok (.goto (-63), 3) := by decide +kernel
theorem dX7_who_117 : decode cX7_who 117 = .ok (.aload_n 0, 1) := by decide +kernel
theorem dX7_who_118 : decode cX7_who 118 = .ok (.iload_n 1, 1) := by decide +kernel
theorem dX7_who_119 : decode cX7_who 119 = .ok (.iload_n 3, 1) := by decide +kernel
theorem dX7_who_120 : decode cX7_who 120 = .ok (.iload 4, 2) := by decide +kernel
theorem dX7_who_122 : decode cX7_who 122 = .ok (.invokevirtual 99, 3) := by decide +kernel
theorem dX7_who_125 : decode cX7_who 125 = .ok (.iload 5, 2) := by decide +kernel
theorem dX7_who_127 : decode cX7_who 127 = .ok (.ireturn, 1) := by decide +kernel
theorem dX7_row_0 : decode cX7_row 0 = .ok (.iload_n 1, 1) := by decide +kernel
theorem dX7_row_1 : decode cX7_row 1 = .ok (.ifCond .ge 10, 3) := by decide +kernel
theorem dX7_row_4 : decode cX7_row 4 = .ok (.aload_n 0, 1) := by decide +kernel
theorem dX7_row_5 : decode cX7_row 5 = .ok (.bipush (-4), 2) := by decide +kernel
theorem dX7_row_7 : decode cX7_row 7 = .ok (.invokevirtual 66, 3) := by decide +kernel
theorem dX7_row_10 : decode cX7_row 10 = .ok (.ireturn, 1) := by decide +kernel
theorem dX7_row_11 : decode cX7_row 11 = .ok (.iload_n 1, 1) := by decide +kernel
theorem dX7_row_12 : decode cX7_row 12 = .ok (.bipush 99, 2) := by decide +kernel
theorem dX7_row_14 : decode cX7_row 14 = .ok (.if_icmp .gt 12, 3) := by decide +kernel
theorem dX7_row_17 : decode cX7_row 17 = .ok (.aload_n 0, 1) := by decide +kernel
theorem dX7_row_18 : decode cX7_row 18 = .ok (.getfield 198, 3) := by decide +kernel
theorem dX7_row_21 : decode cX7_row 21 = .ok (.bipush 12, 2) := by decide +kernel
theorem dX7_row_23 : decode cX7_row 23 = .ok (.if_icmp .ne 10, 3) := by decide +kernel
theorem dX7_row_26 : decode cX7_row 26 = .ok (.aload_n 0, 1) := by decide +kernel
theorem dX7_row_27 : decode cX7_row 27 = .ok (.bipush (-6), 2) := by decide +kernel
theorem dX7_row_29 : decode cX7_row 29 = .ok (.invokevirtual 66, 3) := by decide +kernel
theorem dX7_row_32 : decode cX7_row 32 = .ok (.ireturn, 1) := by decide +kernel
theorem dX7_row_33 : decode cX7_row 33 = .ok (.aload_n 0, 1) := by decide +kernel
theorem dX7_row_34 : decode cX7_row 34 = .ok (.getfield 31, 3) := by decide +kernel
theorem dX7_row_37 : decode cX7_row 37 = .ok (.aload_n 0, 1) := by decide +kernel
theorem dX7_row_38 : decode cX7_row 38 = .ok (.dup, 1) := by decide +kernel
theorem dX7_row_39 : decode cX7_row 39 = .ok (.getfield 198, 3) := by decide +kernel
theorem dX7_row_42 : decode cX7_row 42 = .ok (.dup_x1, 1) := by decide +kernel
theorem dX7_row_43 : decode cX7_row 43 = .ok (.iconst 1, 1) := by decide +kernel
theorem dX7_row_44 : decode cX7_row 44 = .ok (.iadd, 1) := by decide +kernel
theorem dX7_row_45 : decode cX7_row 45 = .ok (.putfield 198, 3) := by decide +kernel
theorem dX7_row_48 : decode cX7_row 48 = .ok (.iload_n 1, 1) := by decide +kernel
theorem dX7_row_49 : decode cX7_row 49 = .ok (.iastore, 1) := by decide +kernel
theorem dX7_row_50 : decode cX7_row 50 = .ok (.aload_n 0, 1) := by decide +kernel
theorem dX7_row_51 : decode cX7_row 51 = .ok (.getfield 198, 3) := by decide +kernel
theorem dX7_row_54 : decode cX7_row 54 = .ok (.ireturn, 1) := by decide +kernel
theorem dX7_judge_0 : decode cX7_judge 0 = .ok (.aload_n 0, 1) := by decide +kernel
theorem dX7_judge_1 : decode cX7_judge 1 = .ok (.invokevirtual 201, 3) := by decide +kernel
theorem dX7_judge_4 : decode cX7_judge 4 = .ok (.istore_n 1, 1) := by decide +kernel
theorem dX7_judge_5 : decode cX7_judge 5 = .ok (.aload_n 0, 1) := by decide +kernel
theorem dX7_judge_6 : decode cX7_judge 6 = .ok (.iconst 0, 1) := by decide +kernel
theorem dX7_judge_7 : decode cX7_judge 7 = .ok (.putfield 198, 3) := by decide +kernel
theorem dX7_judge_10 : decode cX7_judge 10 = .ok (.iload_n 1, 1) := by decide +kernel
theorem dX7_judge_11 : decode cX7_judge 11 = .ok (.ireturn, 1) := by decide +kernel
theorem dX7_clear_0 : decode cX7_clear 0 = .ok (.aload_n 0, 1) := by decide +kernel
theorem dX7_clear_1 : decode cX7_clear 1 = .ok (.getfield 198, 3) := by decide +kernel
theorem dX7_clear_4 : decode cX7_clear 4 = .ok (.istore_n 1, 1) := by decide +kernel
theorem dX7_clear_5 : decode cX7_clear 5 = .ok (.aload_n 0, 1) := by decide +kernel
theorem dX7_clear_6 : decode cX7_clear 6 = .ok (.iconst 0, 1) := by decide +kernel
theorem dX7_clear_7 : decode cX7_clear 7 = .ok (.putfield 198, 3) := by decide +kernel
theorem dX7_clear_10 : decode cX7_clear 10 = .ok (.iload_n 1, 1) := by decide +kernel
theorem dX7_clear_11 : decode cX7_clear 11 = .ok (.ireturn, 1) := by decide +kernel
theorem dX7_lots_0 : decode cX7_lots 0 = .ok (.iload_n 1, 1) := by decide +kernel
theorem dX7_lots_1 : decode cX7_lots 1 = .ok (.iconst 1, 1) := by decide +kernel
theorem dX7_lots_2 : decode cX7_lots 2 = .ok (.if_icmp .ge 10, 3) := by decide +kernel
theorem dX7_lots_5 : decode cX7_lots 5 = .ok (.aload_n 0, 1) := by decide +kernel
theorem dX7_lots_6 : decode cX7_lots 6 = .ok (.bipush (-4), 2) := by decide +kernel
theorem dX7_lots_8 : decode cX7_lots 8 = .ok (.invokevirtual 66, 3) := by decide +kernel
theorem dX7_lots_11 : decode cX7_lots 11 = .ok (.ireturn, 1) := by decide +kernel
theorem dX7_lots_12 : decode cX7_lots 12 = .ok (.iload_n 1, 1) := by decide +kernel
theorem dX7_lots_13 : decode cX7_lots 13 = .ok (.bipush 20, 2) := by decide +kernel
theorem dX7_lots_15 : decode cX7_lots 15 = .ok (.if_icmp .le 10, 3) := by decide +kernel
theorem dX7_lots_18 : decode cX7_lots 18 = .ok (.aload_n 0, 1) := by decide +kernel
theorem dX7_lots_19 : decode cX7_lots 19 = .ok (.bipush (-6), 2) := by decide +kernel
theorem dX7_lots_21 : decode cX7_lots 21 = .ok (.invokevirtual 66, 3) := by decide +kernel
theorem dX7_lots_24 : decode cX7_lots 24 = .ok (.ireturn, 1) := by decide +kernel
theorem dX7_lots_25 : decode cX7_lots 25 = .ok (.iload_n 3, 1) := by decide +kernel
theorem dX7_lots_26 : decode cX7_lots 26 = .ok (.iconst 0, 1) := by decide +kernel
theorem dX7_lots_27 : decode cX7_lots 27 = .ok (.iconst 1, 1) := by decide +kernel
theorem dX7_lots_28 : decode cX7_lots 28 = .ok (.invokestatic 62, 3) := by decide +kernel
theorem dX7_lots_31 : decode cX7_lots 31 = .ok (.ifCond .ne 10, 3) := by decide +kernel
theorem dX7_lots_34 : decode cX7_lots 34 = .ok (.aload_n 0, 1) := by decide +kernel
theorem dX7_lots_35 : decode cX7_lots 35 = .ok (.bipush (-2), 2) := by decide +kernel
theorem dX7_lots_37 : decode cX7_lots 37 = .ok (.invokevirtual 66, 3) := by decide +kernel
theorem dX7_lots_40 : decode cX7_lots 40 = .ok (.ireturn, 1) := by decide +kernel
theorem dX7_lots_41 : decode cX7_lots 41 = .ok (.aload_n 0, 1) := by decide +kernel
theorem dX7_lots_42 : decode cX7_lots 42 = .ok (.aload_n 0, 1) := by decide +kernel
theorem dX7_lots_43 : decode cX7_lots 43 = .ok (.getfield 43, 3) := by decide +kernel
theorem dX7_lots_46 : decode cX7_lots 46 = .ok (.invokevirtual 116, 3) := by decide +kernel
theorem dX7_lots_49 : decode cX7_lots 49 = .ok (.iload_n 2, 1) := by decide +kernel
theorem dX7_lots_50 : decode cX7_lots 50 = .ok (.istore 4, 2) := by decide +kernel
theorem dX7_lots_52 : decode cX7_lots 52 = .ok (.iconst 0, 1) := by decide +kernel
theorem dX7_lots_53 : decode cX7_lots 53 = .ok (.istore 5, 2) := by decide +kernel
theorem dX7_lots_55 : decode cX7_lots 55 = .ok (.iconst 0, 1) := by decide +kernel
theorem dX7_lots_56 : decode cX7_lots 56 = .ok (.istore 6, 2) := by decide +kernel
theorem dX7_lots_58 : decode cX7_lots 58 = .ok (.iload 6, 2) := by decide +kernel
theorem dX7_lots_60 : decode cX7_lots 60 = .ok (.iload_n 1, 1) := by decide +kernel
theorem dX7_lots_61 : decode cX7_lots 61 = .ok (.if_icmp .ge 119, 3) := by decide +kernel
theorem dX7_lots_64 : decode cX7_lots 64 = .ok (.iconst 0, 1) := by decide +kernel
theorem dX7_lots_65 : decode cX7_lots 65 = .ok (.istore 7, 2) := by decide +kernel
theorem dX7_lots_67 : decode cX7_lots 67 = .ok (.iload 7, 2) := by decide +kernel
theorem dX7_lots_69 : decode cX7_lots 69 = .ok (.aload_n 0, 1) := by decide +kernel
theorem dX7_lots_70 : decode cX7_lots 70 = .ok (.getfield 59, 3) := by decide +kernel
theorem dX7_lots_73 : decode cX7_lots 73 = .ok (.if_icmp .ge 18, 3) := by decide +kernel
theorem dX7_lots_76 : decode cX7_lots 76 = .ok (.aload_n 0, 1) := by decide +kernel
theorem dX7_lots_77 : decode cX7_lots 77 = .ok (.getfield 19, 3) := by decide +kernel
theorem dX7_lots_80 : decode cX7_lots 80 = .ok (.iload 7, 2) := by decide +kernel
theorem dX7_lots_82 : decode cX7_lots 82 = .ok (.bipush (-9), 2) := by decide +kernel
theorem dX7_lots_84 : decode cX7_lots 84 = .ok (.iastore, 1) := by decide +kernel
theorem dX7_lots_85 : decode cX7_lots 85 = .ok (.iinc 7 1, 3) := by decide +kernel
theorem dX7_lots_88 : decode cX7_lots 88 = .ok (.goto (-21), 3) := by decide +kernel
theorem dX7_lots_91 : decode cX7_lots 91 = .ok (.iconst 0, 1) := by decide +kernel
theorem dX7_lots_92 : decode cX7_lots 92 = .ok (.istore 7, 2) := by decide +kernel
theorem dX7_lots_94 : decode cX7_lots 94 = .ok (.iload 7, 2) := by decide +kernel
theorem dX7_lots_96 : decode cX7_lots 96 = .ok (.aload_n 0, 1) := by decide +kernel
theorem dX7_lots_97 : decode cX7_lots 97 = .ok (.getfield 59, 3) := by decide +kernel
theorem dX7_lots_100 : decode cX7_lots 100 = .ok (.if_icmp .ge 54, 3) := by decide +kernel
theorem dX7_lots_103 : decode cX7_lots 103 = .ok (.iload 4, 2) := by decide +kernel
theorem dX7_lots_105 : decode cX7_lots 105 = .ok (.ldc 204, 2) := by decide +kernel
theorem dX7_lots_107 : decode cX7_lots 107 = .ok (.imul, 1) := by decide +kernel
theorem dX7_lots_108 : decode cX7_lots 108 = .ok (.ldc 205, 2) := by decide +kernel
theorem dX7_lots_110 : decode cX7_lots 110 = .ok (.iadd, 1) := by decide +kernel
theorem dX7_lots_111 : decode cX7_lots 111 = .ok (.istore 4, 2) := by decide +kernel
theorem dX7_lots_113 : decode cX7_lots 113 = .ok (.iload 4, 2) := by decide +kernel
theorem dX7_lots_115 : decode cX7_lots 115 = .ok (.ldc 206, 2) := by decide +kernel
theorem dX7_lots_117 : decode cX7_lots 117 = .ok (.iand, 1) := by decide +kernel
theorem dX7_lots_118 : decode cX7_lots 118 = .ok (.sipush 256, 3) := by decide +kernel
theorem dX7_lots_121 : decode cX7_lots 121 = .ok (.idiv, 1) := by decide +kernel
theorem dX7_lots_122 : decode cX7_lots 122 = .ok (.iconst 2, 1) := by decide +kernel
theorem dX7_lots_123 : decode cX7_lots 123 = .ok (.irem, 1) := by decide +kernel
theorem dX7_lots_124 : decode cX7_lots 124 = .ok (.istore 8, 2) := by decide +kernel
theorem dX7_lots_126 : decode cX7_lots 126 = .ok (.aload_n 0, 1) := by decide +kernel
theorem dX7_lots_127 : decode cX7_lots 127 = .ok (.getfield 22, 3) := by decide +kernel
theorem dX7_lots_130 : decode cX7_lots 130 = .ok (.iload 7, 2) := by decide +kernel
theorem dX7_lots_132 : decode cX7_lots 132 = .ok (.aload_n 0, 1) := by decide +kernel
theorem dX7_lots_133 : decode cX7_lots 133 = .ok (.iload 8, 2) := by decide +kernel
theorem dX7_lots_135 : decode cX7_lots 135 = .ok (.invokevirtual 93, 3) := by decide +kernel
theorem dX7_lots_138 : decode cX7_lots 138 = .ok (.iastore, 1) := by decide +kernel
theorem dX7_lots_139 : decode cX7_lots 139 = .ok (.aload_n 0, 1) := by decide +kernel
theorem dX7_lots_140 : decode cX7_lots 140 = .ok (.getfield 19, 3) := by decide +kernel
theorem dX7_lots_143 : decode cX7_lots 143 = .ok (.iload 7, 2) := by decide +kernel
theorem dX7_lots_145 : decode cX7_lots 145 = .ok (.iload 8, 2) := by decide +kernel
theorem dX7_lots_147 : decode cX7_lots 147 = .ok (.iastore, 1) := by decide +kernel
theorem dX7_lots_148 : decode cX7_lots 148 = .ok (.iinc 7 1, 3) := by decide +kernel
theorem dX7_lots_151 : decode cX7_lots 151 = .ok (.goto (-57), 3) := by decide +kernel
theorem dX7_lots_154 : decode cX7_lots 154 = .ok (.iload 5, 2) := by decide +kernel
theorem dX7_lots_156 : decode cX7_lots 156 = .ok (.iload_n 3, 1) := by decide +kernel
theorem dX7_lots_157 : decode cX7_lots 157 = .ok (.ifCond .ne 10, 3) := by decide +kernel
theorem dX7_lots_160 : decode cX7_lots 160 = .ok (.aload_n 0, 1) := by decide +kernel
theorem dX7_lots_161 : decode cX7_lots 161 = .ok (.invokevirtual 164, 3) := by decide +kernel
theorem dX7_lots_164 : decode cX7_lots 164 = .ok (.goto 7, 3) := by decide +kernel
theorem dX7_lots_167 : decode cX7_lots 167 = .ok (.aload_n 0, 1) := by decide +kernel
theorem dX7_lots_168 : decode cX7_lots 168 = .ok (.invokevirtual 168, 3) := by decide +kernel
theorem dX7_lots_171 : decode cX7_lots 171 = .ok (.iadd, 1) := by decide +kernel
theorem dX7_lots_172 : decode cX7_lots 172 = .ok (.istore 5, 2) := by decide +kernel
theorem dX7_lots_174 : decode cX7_lots 174 = .ok (.iinc 6 1, 3) := by decide +kernel
theorem dX7_lots_177 : decode cX7_lots 177 = .ok (.goto (-119), 3) := by decide +kernel
theorem dX7_lots_180 : decode cX7_lots 180 = .ok (.aload_n 0, 1) := by decide +kernel
theorem dX7_lots_181 : decode cX7_lots 181 = .ok (.aload_n 0, 1) := by decide +kernel
theorem dX7_lots_182 : decode cX7_lots 182 = .ok (.getfield 43, 3) := by decide +kernel
theorem dX7_lots_185 : decode cX7_lots 185 = .ok (.invokevirtual 120, 3) := by decide +kernel
theorem dX7_lots_188 : decode cX7_lots 188 = .ok (.iload 5, 2) := by decide +kernel
theorem dX7_lots_190 : decode cX7_lots 190 = .ok (.ireturn, 1) := by decide +kernel
theorem dX7_keep__0 : decode cX7_keep_ 0 = .ok (.iconst 0, 1) := by decide +kernel
theorem dX7_keep__1 : decode cX7_keep_ 1 = .ok (.istore_n 2, 1) := by decide +kernel
theorem dX7_keep__2 : decode cX7_keep_ 2 = .ok (.iload_n 2, 1) := by decide +kernel
theorem dX7_keep__3 : decode cX7_keep_ 3 = .ok (.bipush 9, 2) := by decide +kernel
theorem dX7_keep__5 : decode cX7_keep_ 5 = .ok (.if_icmp .ge 66, 3) := by decide +kernel
theorem dX7_keep__8 : decode cX7_keep_ 8 = .ok (.aload_n 1, 1) := by decide +kernel
theorem dX7_keep__9 : decode cX7_keep_ 9 = .ok (.iload_n 2, 1) := by decide +kernel
theorem dX7_keep__10 : decode cX7_keep_ 10 = .ok (.aload_n 0, 1) := by decide +kernel
theorem dX7_keep__11 : decode cX7_keep_ 11 = .ok (.getfield 7, 3) := by decide +kernel
theorem dX7_keep__14 : decode cX7_keep_ 14 = .ok (.iload_n 2, 1) := by decide +kernel
theorem dX7_keep__15 : decode cX7_keep_ 15 = .ok (.iaload, 1) := by decide +kernel
theorem dX7_keep__16 : decode cX7_keep_ 16 = .ok (.iastore, 1) := by decide +kernel
theorem dX7_keep__17 : decode cX7_keep_ 17 = .ok (.aload_n 1, 1) := by decide +kernel
theorem dX7_keep__18 : decode cX7_keep_ 18 = .ok (.bipush 9, 2) := by decide +kernel
theorem dX7_keep__20 : decode cX7_keep_ 20 = .ok (.iload_n 2, 1) := by decide +kernel
theorem dX7_keep__21 : decode cX7_keep_ 21 = .ok (.iadd, 1) := by decide +kernel
theorem dX7_keep__22 : decode cX7_keep_ 22 = .ok (.aload_n 0, 1) := by decide +kernel
theorem dX7_keep__23 : decode cX7_keep_ 23 = .ok (.getfield 13, 3) := by decide +kernel
theorem dX7_keep__26 : decode cX7_keep_ 26 = .ok (.iload_n 2, 1) := by decide +kernel
theorem dX7_keep__27 : decode cX7_keep_ 27 = .ok (.iaload, 1) := by decide +kernel
theorem dX7_keep__28 : decode cX7_keep_ 28 = .ok (.iastore, 1) := by decide +kernel
theorem dX7_keep__29 : decode cX7_keep_ 29 = .ok (.aload_n 1, 1) := by decide +kernel
theorem dX7_keep__30 : decode cX7_keep_ 30 = .ok (.bipush 18, 2) := by decide +kernel
theorem dX7_keep__32 : decode cX7_keep_ 32 = .ok (.iload_n 2, 1) := by decide +kernel
theorem dX7_keep__33 : decode cX7_keep_ 33 = .ok (.iadd, 1) := by decide +kernel
theorem dX7_keep__34 : decode cX7_keep_ 34 = .ok (.aload_n 0, 1) := by decide +kernel
theorem dX7_keep__35 : decode cX7_keep_ 35 = .ok (.getfield 16, 3) := by decide +kernel
theorem dX7_keep__38 : decode cX7_keep_ 38 = .ok (.iload_n 2, 1) := by decide +kernel
theorem dX7_keep__39 : decode cX7_keep_ 39 = .ok (.iaload, 1) := by decide +kernel
theorem dX7_keep__40 : decode cX7_keep_ 40 = .ok (.iastore, 1) := by decide +kernel
theorem dX7_keep__41 : decode cX7_keep_ 41 = .ok (.aload_n 1, 1) := by decide +kernel
theorem dX7_keep__42 : decode cX7_keep_ 42 = .ok (.bipush 27, 2) := by decide +kernel
theorem dX7_keep__44 : decode cX7_keep_ 44 = .ok (.iload_n 2, 1) := by decide +kernel
theorem dX7_keep__45 : decode cX7_keep_ 45 = .ok (.iadd, 1) := by decide +kernel
theorem dX7_keep__46 : decode cX7_keep_ 46 = .ok (.aload_n 0, 1) := by decide +kernel
theorem dX7_keep__47 : decode cX7_keep_ 47 = .ok (.getfield 19, 3) := by decide +kernel
theorem dX7_keep__50 : decode cX7_keep_ 50 = .ok (.iload_n 2, 1) := by decide +kernel
theorem dX7_keep__51 : decode cX7_keep_ 51 = .ok (.iaload, 1) := by decide +kernel
theorem dX7_keep__52 : decode cX7_keep_ 52 = .ok (.iastore, 1) := by decide +kernel
theorem dX7_keep__53 : decode cX7_keep_ 53 = .ok (.aload_n 1, 1) := by decide +kernel
theorem dX7_keep__54 : decode cX7_keep_ 54 = .ok (.bipush 36, 2) := by decide +kernel
theorem dX7_keep__56 : decode cX7_keep_ 56 = .ok (.iload_n 2, 1) := by decide +kernel
theorem dX7_keep__57 : decode cX7_keep_ 57 = .ok (.iadd, 1) := by decide +kernel
theorem dX7_keep__58 : decode cX7_keep_ 58 = .ok (.aload_n 0, 1) := by decide +kernel
theorem dX7_keep__59 : decode cX7_keep_ 59 = .ok (.getfield 22, 3) := by decide +kernel
theorem dX7_keep__62 : decode cX7_keep_ 62 = .ok (.iload_n 2, 1) := by decide +kernel
theorem dX7_keep__63 : decode cX7_keep_ 63 = .ok (.iaload, 1) := by decide +kernel
theorem dX7_keep__64 : decode cX7_keep_ 64 = .ok (.iastore, 1) := by decide +kernel
theorem dX7_keep__65 : decode cX7_keep_ 65 = .ok (.iinc 2 1, 3) := by decide +kernel
theorem dX7_keep__68 : decode cX7_keep_ 68 = .ok (.goto (-66), 3) := by decide +kernel
theorem dX7_keep__71 : decode cX7_keep_ 71 = .ok (.aload_n 1, 1) := by decide +kernel
theorem dX7_keep__72 : decode cX7_keep_ 72 = .ok (.bipush 45, 2) := by decide +kernel
theorem dX7_keep__74 : decode cX7_keep_ 74 = .ok (.aload_n 0, 1) := by decide +kernel
theorem dX7_keep__75 : decode cX7_keep_ 75 = .ok (.getfield 59, 3) := by decide +kernel
theorem dX7_keep__78 : decode cX7_keep_ 78 = .ok (.iastore, 1) := by decide +kernel
theorem dX7_keep__79 : decode cX7_keep_ 79 = .ok (.aload_n 1, 1) := by decide +kernel
theorem dX7_keep__80 : decode cX7_keep_ 80 = .ok (.bipush 46, 2) := by decide +kernel
theorem dX7_keep__82 : decode cX7_keep_ 82 = .ok (.aload_n 0, 1) := by decide +kernel
theorem dX7_keep__83 : decode cX7_keep_ 83 = .ok (.getfield 103, 3) := by decide +kernel
theorem dX7_keep__86 : decode cX7_keep_ 86 = .ok (.iastore, 1) := by decide +kernel
theorem dX7_keep__87 : decode cX7_keep_ 87 = .ok (.aload_n 1, 1) := by decide +kernel
theorem dX7_keep__88 : decode cX7_keep_ 88 = .ok (.bipush 47, 2) := by decide +kernel
theorem dX7_keep__90 : decode cX7_keep_ 90 = .ok (.aload_n 0, 1) := by decide +kernel
theorem dX7_keep__91 : decode cX7_keep_ 91 = .ok (.getfield 55, 3) := by decide +kernel
theorem dX7_keep__94 : decode cX7_keep_ 94 = .ok (.iastore, 1) := by decide +kernel
theorem dX7_keep__95 : decode cX7_keep_ 95 = .ok (.return_, 1) := by decide +kernel
theorem dX7_again_0 : decode cX7_again 0 = .ok (.iconst 0, 1) := by decide +kernel
theorem dX7_again_1 : decode cX7_again 1 = .ok (.istore_n 2, 1) := by decide +kernel
theorem dX7_again_2 : decode cX7_again 2 = .ok (.iload_n 2, 1) := by decide +kernel
theorem dX7_again_3 : decode cX7_again 3 = .ok (.bipush 9, 2) := by decide +kernel
theorem dX7_again_5 : decode cX7_again 5 = .ok (.if_icmp .ge 66, 3) := by decide +kernel
theorem dX7_again_8 : decode cX7_again 8 = .ok (.aload_n 0, 1) := by decide +kernel
theorem dX7_again_9 : decode cX7_again 9 = .ok (.getfield 7, 3) := by decide +kernel
theorem dX7_again_12 : decode cX7_again 12 = .ok (.iload_n 2, 1) := by decide +kernel
theorem dX7_again_13 : decode cX7_again 13 = .ok (.aload_n 1, 1) := by decide +kernel
theorem dX7_again_14 : decode cX7_again 14 = .ok (.iload_n 2, 1) := by decide +kernel
theorem dX7_again_15 : decode cX7_again 15 = .ok (.iaload, 1) := by decide +kernel
theorem dX7_again_16 : decode cX7_again 16 = .ok (.iastore, 1) := by decide +kernel
theorem dX7_again_17 : decode cX7_again 17 = .ok (.aload_n 0, 1) := by decide +kernel
theorem dX7_again_18 : decode cX7_again 18 = .ok (.getfield 13, 3) := by decide +kernel
theorem dX7_again_21 : decode cX7_again 21 = .ok (.iload_n 2, 1) := by decide +kernel
theorem dX7_again_22 : decode cX7_again 22 = .ok (.aload_n 1, 1) := by decide +kernel
theorem dX7_again_23 : decode cX7_again 23 = .ok (.bipush 9, 2) := by decide +kernel
theorem dX7_again_25 : decode cX7_again 25 = .ok (.iload_n 2, 1) := by decide +kernel
theorem dX7_again_26 : decode cX7_again 26 = .ok (.iadd, 1) := by decide +kernel
theorem dX7_again_27 : decode cX7_again 27 = .ok (.iaload, 1) := by decide +kernel
theorem dX7_again_28 : decode cX7_again 28 = .ok (.iastore, 1) := by decide +kernel
theorem dX7_again_29 : decode cX7_again 29 = .ok (.aload_n 0, 1) := by decide +kernel
theorem dX7_again_30 : decode cX7_again 30 = .ok (.getfield 16, 3) := by decide +kernel
theorem dX7_again_33 : decode cX7_again 33 = .ok (.iload_n 2, 1) := by decide +kernel
theorem dX7_again_34 : decode cX7_again 34 = .ok (.aload_n 1, 1) := by decide +kernel
theorem dX7_again_35 : decode cX7_again 35 = .ok (.bipush 18, 2) := by decide +kernel
theorem dX7_again_37 : decode cX7_again 37 = .ok (.iload_n 2, 1) := by decide +kernel
theorem dX7_again_38 : decode cX7_again 38 = .ok (.iadd, 1) := by decide +kernel
theorem dX7_again_39 : decode cX7_again 39 = .ok (.iaload, 1) := by decide +kernel
theorem dX7_again_40 : decode cX7_again 40 = .ok (.iastore, 1) := by decide +kernel
theorem dX7_again_41 : decode cX7_again 41 = .ok (.aload_n 0, 1) := by decide +kernel
theorem dX7_again_42 : decode cX7_again 42 = .ok (.getfield 19, 3) := by decide +kernel
theorem dX7_again_45 : decode cX7_again 45 = .ok (.iload_n 2, 1) := by decide +kernel
theorem dX7_again_46 : decode cX7_again 46 = .ok (.aload_n 1, 1) := by decide +kernel
theorem dX7_again_47 : decode cX7_again 47 = .ok (.bipush 27, 2) := by decide +kernel
theorem dX7_again_49 : decode cX7_again 49 = .ok (.iload_n 2, 1) := by decide +kernel
theorem dX7_again_50 : decode cX7_again 50 = .ok (.iadd, 1) := by decide +kernel
theorem dX7_again_51 : decode cX7_again 51 = .ok (.iaload, 1) := by decide +kernel
theorem dX7_again_52 : decode cX7_again 52 = .ok (.iastore, 1) := by decide +kernel
theorem dX7_again_53 : decode cX7_again 53 = .ok (.aload_n 0, 1) := by decide +kernel
theorem dX7_again_54 : decode cX7_again 54 = .ok (.getfield 22, 3) := by decide +kernel
theorem dX7_again_57 : decode cX7_again 57 = .ok (.iload_n 2, 1) := by decide +kernel
theorem dX7_again_58 : decode cX7_again 58 = .ok (.aload_n 1, 1) := by decide +kernel
theorem dX7_again_59 : decode cX7_again 59 = .ok (.bipush 36, 2) := by decide +kernel
theorem dX7_again_61 : decode cX7_again 61 = .ok (.iload_n 2, 1) := by decide +kernel
theorem dX7_again_62 : decode cX7_again 62 = .ok (.iadd, 1) := by decide +kernel
theorem dX7_again_63 : decode cX7_again 63 = .ok (.iaload, 1) := by decide +kernel
theorem dX7_again_64 : decode cX7_again 64 = .ok (.iastore, 1) := by decide +kernel
theorem dX7_again_65 : decode cX7_again 65 = .ok (.iinc 2 1, 3) := by decide +kernel
theorem dX7_again_68 : decode cX7_again 68 = .ok (.goto (-66), 3) := by decide +kernel
theorem dX7_again_71 : decode cX7_again 71 = .ok (.aload_n 0, 1) := by decide +kernel
theorem dX7_again_72 : decode cX7_again 72 = .ok (.aload_n 1, 1) := by decide +kernel
theorem dX7_again_73 : decode cX7_again 73 = .ok (.bipush 45, 2) := by decide +kernel
theorem dX7_again_75 : decode cX7_again 75 = .ok (.iaload, 1) := by decide +kernel
theorem dX7_again_76 : decode cX7_again 76 = .ok (.putfield 59, 3) := by decide +kernel
theorem dX7_again_79 : decode cX7_again 79 = .ok (.aload_n 0, 1) := by decide +kernel
theorem dX7_again_80 : decode cX7_again 80 = .ok (.aload_n 1, 1) := by decide +kernel
theorem dX7_again_81 : decode cX7_again 81 = .ok (.bipush 46, 2) := by decide +kernel
theorem dX7_again_83 : decode cX7_again 83 = .ok (.iaload, 1) := by decide +kernel
theorem dX7_again_84 : decode cX7_again 84 = .ok (.putfield 103, 3) := by decide +kernel
theorem dX7_again_87 : decode cX7_again 87 = .ok (.aload_n 0, 1) := by decide +kernel
theorem dX7_again_88 : decode cX7_again 88 = .ok (.aload_n 1, 1) := by decide +kernel
theorem dX7_again_89 : decode cX7_again 89 = .ok (.bipush 47, 2) := by decide +kernel
theorem dX7_again_91 : decode cX7_again 91 = .ok (.iaload, 1) := by decide +kernel
theorem dX7_again_92 : decode cX7_again 92 = .ok (.putfield 55, 3) := by decide +kernel
theorem dX7_again_95 : decode cX7_again 95 = .ok (.return_, 1) := by decide +kernel
theorem dX7_image_0 : decode cX7_image 0 = .ok (.aload_n 0, 1) := by decide +kernel
theorem dX7_image_1 : decode cX7_image 1 = .ok (.iconst 1, 1) := by decide +kernel
theorem dX7_image_2 : decode cX7_image 2 = .ok (.putfield 207, 3) := by decide +kernel
theorem dX7_image_5 : decode cX7_image 5 = .ok (.aload_n 0, 1) := by decide +kernel
theorem dX7_image_6 : decode cX7_image 6 = .ok (.aload_n 0, 1) := by decide +kernel
theorem dX7_image_7 : decode cX7_image 7 = .ok (.getfield 37, 3) := by decide +kernel
theorem dX7_image_10 : decode cX7_image 10 = .ok (.invokevirtual 116, 3) := by decide +kernel
theorem dX7_image_13 : decode cX7_image 13 = .ok (.aload_n 0, 1) := by decide +kernel
theorem dX7_image_14 : decode cX7_image 14 = .ok (.getfield 59, 3) := by decide +kernel
theorem dX7_image_17 : decode cX7_image 17 = .ok (.ireturn, 1) := by decide +kernel
theorem dX7_on_0 : decode cX7_on 0 = .ok (.aload_n 0, 1) := by decide +kernel
theorem dX7_on_1 : decode cX7_on 1 = .ok (.getfield 207, 3) := by decide +kernel
theorem dX7_on_4 : decode cX7_on 4 = .ok (.ifCond .ne 10, 3) := by decide +kernel
theorem dX7_on_7 : decode cX7_on 7 = .ok (.aload_n 0, 1) := by decide +kernel
theorem dX7_on_8 : decode cX7_on 8 = .ok (.bipush (-3), 2) := by decide +kernel
theorem dX7_on_10 : decode cX7_on 10 = .ok (.invokevirtual 66, 3) := by decide +kernel
theorem dX7_on_13 : decode cX7_on 13 = .ok (.ireturn, 1) := by decide +kernel
theorem dX7_on_14 : decode cX7_on 14 = .ok (.aload_n 0, 1) := by decide +kernel
theorem dX7_on_15 : decode cX7_on 15 = .ok (.aload_n 0, 1) := by decide +kernel
theorem dX7_on_16 : decode cX7_on 16 = .ok (.getfield 37, 3) := by decide +kernel
theorem dX7_on_19 : decode cX7_on 19 = .ok (.invokevirtual 120, 3) := by decide +kernel
theorem dX7_on_22 : decode cX7_on 22 = .ok (.aload_n 0, 1) := by decide +kernel
theorem dX7_on_23 : decode cX7_on 23 = .ok (.getfield 59, 3) := by decide +kernel
theorem dX7_on_26 : decode cX7_on 26 = .ok (.ireturn, 1) := by decide +kernel
theorem dX7_count_0 : decode cX7_count 0 = .ok (.iconst 0, 1) := by decide +kernel
theorem dX7_count_1 : decode cX7_count 1 = .ok (.istore_n 2, 1) := by decide +kernel
theorem dX7_count_2 : decode cX7_count 2 = .ok (.iload_n 1, 1) := by decide +kernel
theorem dX7_count_3 : decode cX7_count 3 = .ok (.tableswitch 139 0 8 #[49, 54, 60, 66, 71, 76, 103, 129, 134], 49) := by decide +kernel
theorem dX7_count_52 : decode cX7_count 52 = .ok (.aload_n 0, 1) := by decide +kernel
theorem dX7_count_53 : decode cX7_count 53 = .ok (.getfield 59, 3) := by decide +kernel
theorem dX7_count_56 : decode cX7_count 56 = .ok (.ireturn, 1) := by decide +kernel
theorem dX7_count_57 : decode cX7_count 57 = .ok (.aload_n 0, 1) := by decide +kernel
theorem dX7_count_58 : decode cX7_count 58 = .ok (.iconst 0, 1) := by decide +kernel
theorem dX7_count_59 : decode cX7_count 59 = .ok (.invokevirtual 93, 3) := by decide +kernel
theorem dX7_count_62 : decode cX7_count 62 = .ok (.ireturn, 1) := by decide +kernel
theorem dX7_count_63 : decode cX7_count 63 = .ok (.aload_n 0, 1) := by decide +kernel
theorem dX7_count_64 : decode cX7_count 64 = .ok (.iconst 1, 1) := by decide +kernel
theorem dX7_count_65 : decode cX7_count 65 = .ok (.invokevirtual 93, 3) := by decide +kernel
theorem dX7_count_68 : decode cX7_count 68 = .ok (.ireturn, 1) := by decide +kernel
theorem dX7_count_69 : decode cX7_count 69 = .ok (.aload_n 0, 1) := by decide +kernel
theorem dX7_count_70 : decode cX7_count 70 = .ok (.getfield 103, 3) := by decide +kernel
theorem dX7_count_73 : decode cX7_count 73 = .ok (.ireturn, 1) := by decide +kernel
theorem dX7_count_74 : decode cX7_count 74 = .ok (.aload_n 0, 1) := by decide +kernel
theorem dX7_count_75 : decode cX7_count 75 = .ok (.getfield 55, 3) := by decide +kernel
theorem dX7_count_78 : decode cX7_count 78 = .ok (.ireturn, 1) := by decide +kernel
theorem dX7_count_79 : decode cX7_count 79 = .ok (.iconst 0, 1) := by decide +kernel
theorem dX7_count_80 : decode cX7_count 80 = .ok (.istore_n 3, 1) := by decide +kernel
theorem dX7_count_81 : decode cX7_count 81 = .ok (.iload_n 3, 1) := by decide +kernel
theorem dX7_count_82 : decode cX7_count 82 = .ok (.aload_n 0, 1) := by decide +kernel
theorem dX7_count_83 : decode cX7_count 83 = .ok (.getfield 59, 3) := by decide +kernel
theorem dX7_count_86 : decode cX7_count 86 = .ok (.if_icmp .ge 18, 3) := by decide +kernel
theorem dX7_count_89 : decode cX7_count 89 = .ok (.iload_n 2, 1) := by decide +kernel
theorem dX7_count_90 : decode cX7_count 90 = .ok (.aload_n 0, 1) := by decide +kernel
theorem dX7_count_91 : decode cX7_count 91 = .ok (.getfield 16, 3) := by decide +kernel
theorem dX7_count_94 : decode cX7_count 94 = .ok (.iload_n 3, 1) := by decide +kernel
theorem dX7_count_95 : decode cX7_count 95 = .ok (.iaload, 1) := by decide +kernel
theorem dX7_count_96 : decode cX7_count 96 = .ok (.iadd, 1) := by decide +kernel
theorem dX7_count_97 : decode cX7_count 97 = .ok (.istore_n 2, 1) := by decide +kernel
theorem dX7_count_98 : decode cX7_count 98 = .ok (.iinc 3 1, 3) := by decide +kernel
theorem dX7_count_101 : decode cX7_count 101 = .ok (.goto (-20), 3) := by decide +kernel
theorem dX7_count_104 : decode cX7_count 104 = .ok (.iload_n 2, 1) := by decide +kernel
theorem dX7_count_105 : decode cX7_count 105 = .ok (.ireturn, 1) := by decide +kernel
theorem dX7_count_106 : decode cX7_count 106 = .ok (.iconst 0, 1) := by decide +kernel
theorem dX7_count_107 : decode cX7_count 107 = .ok (.istore_n 3, 1) := by decide +kernel
theorem dX7_count_108 : decode cX7_count 108 = .ok (.iload_n 3, 1) := by decide +kernel
theorem dX7_count_109 : decode cX7_count 109 = .ok (.aload_n 0, 1) := by decide +kernel
theorem dX7_count_110 : decode cX7_count 110 = .ok (.getfield 59, 3) := by decide +kernel
theorem dX7_count_113 : decode cX7_count 113 = .ok (.if_icmp .ge 17, 3) := by decide +kernel
theorem dX7_count_116 : decode cX7_count 116 = .ok (.iload_n 2, 1) := by decide +kernel
theorem dX7_count_117 : decode cX7_count 117 = .ok (.aload_n 0, 1) := by decide +kernel
theorem dX7_count_118 : decode cX7_count 118 = .ok (.iload_n 3, 1) := by decide +kernel
theorem dX7_count_119 : decode cX7_count 119 = .ok (.invokevirtual 143, 3) := by decide +kernel
theorem dX7_count_122 : decode cX7_count 122 = .ok (.iadd, 1) := by decide +kernel
theorem dX7_count_123 : decode cX7_count 123 = .ok (.istore_n 2, 1) := by decide +kernel
theorem dX7_count_124 : decode cX7_count 124 = .ok (.iinc 3 1, 3) := by decide +kernel
theorem dX7_count_127 : decode cX7_count 127 = .ok (.goto (-19), 3) := by decide +kernel
theorem dX7_count_130 : decode cX7_count 130 = .ok (.iload_n 2, 1) := by decide +kernel
theorem dX7_count_131 : decode cX7_count 131 = .ok (.ireturn, 1) := by decide +kernel
theorem dX7_count_132 : decode cX7_count 132 = .ok (.aload_n 0, 1) := by decide +kernel
theorem dX7_count_133 : decode cX7_count 133 = .ok (.getfield 198, 3) := by decide +kernel
theorem dX7_count_136 : decode cX7_count 136 = .ok (.ireturn, 1) := by decide +kernel
theorem dX7_count_137 : decode cX7_count 137 = .ok (.aload_n 0, 1) := by decide +kernel
theorem dX7_count_138 : decode cX7_count 138 = .ok (.getfield 70, 3) := by decide +kernel
theorem dX7_count_141 : decode cX7_count 141 = .ok (.ireturn, 1) := by decide +kernel
theorem dX7_count_142 : decode cX7_count 142 = .ok (.iload_n 1, 1) := by decide +kernel
theorem dX7_count_143 : decode cX7_count 143 = .ok (.bipush 11, 2) := by decide +kernel
theorem dX7_count_145 : decode cX7_count 145 = .ok (.bipush 16, 2) := by decide +kernel
theorem dX7_count_147 : decode cX7_count 147 = .ok (.invokestatic 62, 3) := by decide +kernel
theorem dX7_count_150 : decode cX7_count 150 = .ok (.ifCond .eq 15, 3) := by decide +kernel
theorem dX7_count_153 : decode cX7_count 153 = .ok (.aload_n 0, 1) := by decide +kernel
theorem dX7_count_154 : decode cX7_count 154 = .ok (.getfield 34, 3) := by decide +kernel
theorem dX7_count_157 : decode cX7_count 157 = .ok (.iload_n 1, 1) := by decide +kernel
theorem dX7_count_158 : decode cX7_count 158 = .ok (.bipush 10, 2) := by decide +kernel
theorem dX7_count_160 : decode cX7_count 160 = .ok (.isub, 1) := by decide +kernel
theorem dX7_count_161 : decode cX7_count 161 = .ok (.iaload, 1) := by decide +kernel
theorem dX7_count_162 : decode cX7_count 162 = .ok (.goto 5, 3) := by decide +kernel
theorem dX7_count_165 : decode cX7_count 165 = .ok (.bipush (-9), 2) := by decide +kernel
theorem dX7_count_167 : decode cX7_count 167 = .ok (.ireturn, 1) := by decide +kernel
