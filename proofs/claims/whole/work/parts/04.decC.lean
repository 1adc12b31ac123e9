theorem dX4_init_0 : decode cX4_init 0 = .ok (.aload_n 0, 1) := by decide +kernel
theorem dX4_init_1 : decode cX4_init 1 = .ok (.invokespecial 1, 3) := by decide +kernel
theorem dX4_init_4 : decode cX4_init 4 = .ok (.aload_n 0, 1) := by decide +kernel
theorem dX4_init_5 : decode cX4_init 5 = .ok (.bipush 7, 2) := by decide +kernel
theorem dX4_init_7 : decode cX4_init 7 = .ok (.newarray .int, 2) := by decide +kernel
theorem dX4_init_9 : decode cX4_init 9 = .ok (.putfield 7, 3) := by decide +kernel
theorem dX4_init_12 : decode cX4_init 12 = .ok (.aload_n 0, 1) := by decide +kernel
theorem dX4_init_13 : decode cX4_init 13 = .ok (.bipush 6, 2) := by decide +kernel
theorem dX4_init_15 : decode cX4_init 15 = .ok (.newarray .int, 2) := by decide +kernel
theorem dX4_init_17 : decode cX4_init 17 = .ok (.putfield 13, 3) := by decide +kernel
theorem dX4_init_20 : decode cX4_init 20 = .ok (.aload_n 0, 1) := by decide +kernel
theorem dX4_init_21 : decode cX4_init 21 = .ok (.bipush 6, 2) := by decide +kernel
theorem dX4_init_23 : decode cX4_init 23 = .ok (.newarray .int, 2) := by decide +kernel
theorem dX4_init_25 : decode cX4_init 25 = .ok (.putfield 16, 3) := by decide +kernel
theorem dX4_init_28 : decode cX4_init 28 = .ok (.aload_n 0, 1) := by decide +kernel
theorem dX4_init_29 : decode cX4_init 29 = .ok (.bipush 6, 2) := by decide +kernel
theorem dX4_init_31 : decode cX4_init 31 = .ok (.newarray .int, 2) := by decide +kernel
theorem dX4_init_33 : decode cX4_init 33 = .ok (.putfield 19, 3) := by decide +kernel
theorem dX4_init_36 : decode cX4_init 36 = .ok (.aload_n 0, 1) := by decide +kernel
theorem dX4_init_37 : decode cX4_init 37 = .ok (.iconst 5, 1) := by decide +kernel
theorem dX4_init_38 : decode cX4_init 38 = .ok (.newarray .int, 2) := by decide +kernel
theorem dX4_init_40 : decode cX4_init 40 = .ok (.putfield 22, 3) := by decide +kernel
theorem dX4_init_43 : decode cX4_init 43 = .ok (.aload_n 0, 1) := by decide +kernel
theorem dX4_init_44 : decode cX4_init 44 = .ok (.iconst 5, 1) := by decide +kernel
theorem dX4_init_45 : decode cX4_init 45 = .ok (.newarray .int, 2) := by decide +kernel
theorem dX4_init_47 : decode cX4_init 47 = .ok (.putfield 25, 3) := by decide +kernel
theorem dX4_init_50 : decode cX4_init 50 = .ok (.aload_n 0, 1) := by decide +kernel
theorem dX4_init_51 : decode cX4_init 51 = .ok (.iconst 5, 1) := by decide +kernel
theorem dX4_init_52 : decode cX4_init 52 = .ok (.newarray .int, 2) := by decide +kernel
theorem dX4_init_54 : decode cX4_init 54 = .ok (.putfield 28, 3) := by decide +kernel
theorem dX4_init_57 : decode cX4_init 57 = .ok (.aload_n 0, 1) := by decide +kernel
theorem dX4_init_58 : decode cX4_init 58 = .ok (.iconst 5, 1) := by decide +kernel
theorem dX4_init_59 : decode cX4_init 59 = .ok (.newarray .int, 2) := by decide +kernel
theorem dX4_init_61 : decode cX4_init 61 = .ok (.putfield 31, 3) := by decide +kernel
theorem dX4_init_64 : decode cX4_init 64 = .ok (.aload_n 0, 1) := by decide +kernel
theorem dX4_init_65 : decode cX4_init 65 = .ok (.bipush 96, 2) := by decide +kernel
theorem dX4_init_67 : decode cX4_init 67 = .ok (.newarray .int, 2) := by decide +kernel
theorem dX4_init_69 : decode cX4_init 69 = .ok (.putfield 34, 3) := by decide +kernel
theorem dX4_init_72 : decode cX4_init 72 = .ok (.aload_n 0, 1) := by decide +kernel
theorem dX4_init_73 : decode cX4_init 73 = .ok (.bipush 48, 2) := by decide +kernel
theorem dX4_init_75 : decode cX4_init 75 = .ok (.newarray .int, 2) := by decide +kernel
theorem dX4_init_77 : decode cX4_init 77 = .ok (.putfield 37, 3) := by decide +kernel
theorem dX4_init_80 : decode cX4_init 80 = .ok (.aload_n 0, 1) := by decide +kernel
theorem dX4_init_81 : decode cX4_init 81 = .ok (.bipush 48, 2) := by decide +kernel
theorem dX4_init_83 : decode cX4_init 83 = .ok (.newarray .int, 2) := by decide +kernel
theorem dX4_init_85 : decode cX4_init 85 = .ok (.putfield 40, 3) := by decide +kernel
theorem dX4_init_88 : decode cX4_init 88 = .ok (.aload_n 0, 1) := by decide +kernel
theorem dX4_init_89 : decode cX4_init 89 = .ok (.bipush 96, 2) := by decide +kernel
theorem dX4_init_91 : decode cX4_init 91 = .ok (.newarray .int, 2) := by decide +kernel
theorem dX4_init_93 : decode cX4_init 93 = .ok (.putfield 43, 3) := by decide +kernel
theorem dX4_init_96 : decode cX4_init 96 = .ok (.aload_n 0, 1) := by decide +kernel
theorem dX4_init_97 : decode cX4_init 97 = .ok (.bipush 126, 2) := by decide +kernel
theorem dX4_init_99 : decode cX4_init 99 = .ok (.newarray .int, 2) := by decide +kernel
theorem dX4_init_101 : decode cX4_init 101 = .ok (.putfield 46, 3) := by decide +kernel
theorem dX4_init_104 : decode cX4_init 104 = .ok (.aload_n 0, 1) := by decide +kernel
theorem dX4_init_105 : decode cX4_init 105 = .ok (.bipush 6, 2) := by decide +kernel
theorem dX4_init_107 : decode cX4_init 107 = .ok (.bipush 64, 2) := by decide +kernel
theorem dX4_init_109 : decode cX4_init 109 = .ok (.multianewarray 49 2, 4) := by decide +kernel
theorem dX4_init_113 : decode cX4_init 113 = .ok (.putfield 51, 3) := by decide +kernel
theorem dX4_init_116 : decode cX4_init 116 = .ok (.aload_n 0, 1) := by decide +kernel
theorem dX4_init_117 : decode cX4_init 117 = .ok (.bipush 8, 2) := by decide +kernel
theorem dX4_init_119 : decode cX4_init 119 = .ok (.newarray .int, 2) := by decide +kernel
theorem dX4_init_121 : decode cX4_init 121 = .ok (.putfield 54, 3) := by decide +kernel
theorem dX4_init_124 : decode cX4_init 124 = .ok (.aload_n 0, 1) := by decide +kernel
theorem dX4_init_125 : decode cX4_init 125 = .ok (.bipush 16, 2) := by decide +kernel
theorem dX4_init_127 : decode cX4_init 127 = .ok (.newarray .int, 2) := by decide +kernel
theorem dX4_init_129 : decode cX4_init 129 = .ok (.putfield 57, 3) := by decide +kernel
theorem dX4_init_132 : decode cX4_init 132 = .ok (.aload_n 0, 1) := by decide +kernel
theorem dX4_init_133 : decode cX4_init 133 = .ok (.iconst 0, 1) := by decide +kernel
theorem dX4_init_134 : decode cX4_init 134 = .ok (.putfield 60, 3) := by decide +kernel
theorem dX4_init_137 : decode cX4_init 137 = .ok (.return_, 1) := by decide +kernel
theorem dX4_no_0 : decode cX4_no 0 = .ok (.aload_n 0, 1) := by decide +kernel
theorem dX4_no_1 : decode cX4_no 1 = .ok (.getfield 7, 3) := by decide +kernel
theorem dX4_no_4 : decode cX4_no 4 = .ok (.iload_n 1, 1) := by decide +kernel
theorem dX4_no_5 : decode cX4_no 5 = .ok (.ineg, 1) := by decide +kernel
theorem dX4_no_6 : decode cX4_no 6 = .ok (.dup2, 1) := by decide +kernel
theorem dX4_no_7 : decode cX4_no 7 = .ok (.iaload, 1) := by decide +kernel
theorem dX4_no_8 : decode cX4_no 8 = .ok (.iconst 1, 1) := by decide +kernel
theorem dX4_no_9 : decode cX4_no 9 = .ok (.iadd, 1) := by decide +kernel
theorem dX4_no_10 : decode cX4_no 10 = .ok (.iastore, 1) := by decide +kernel
theorem dX4_no_11 : decode cX4_no 11 = .ok (.iload_n 1, 1) := by decide +kernel
theorem dX4_no_12 : decode cX4_no 12 = .ok (.ireturn, 1) := by decide +kernel
theorem dX4_lower_0 : decode cX4_lower 0 = .ok (.aload_n 0, 1) := by decide +kernel
theorem dX4_lower_1 : decode cX4_lower 1 = .ok (.getfield 7, 3) := by decide +kernel
theorem dX4_lower_4 : decode cX4_lower 4 = .ok (.iload_n 1, 1) := by decide +kernel
theorem dX4_lower_5 : decode cX4_lower 5 = .ok (.ineg, 1) := by decide +kernel
theorem dX4_lower_6 : decode cX4_lower 6 = .ok (.dup2, 1) := by decide +kernel
theorem dX4_lower_7 : decode cX4_lower 7 = .ok (.iaload, 1) := by decide +kernel
theorem dX4_lower_8 : decode cX4_lower 8 = .ok (.iconst 1, 1) := by decide +kernel
theorem dX4_lower_9 : decode cX4_lower 9 = .ok (.iadd, 1) := by decide +kernel
theorem dX4_lower_10 : decode cX4_lower 10 = .ok (.iastore, 1) := by decide +kernel
theorem dX4_lower_11 : decode cX4_lower 11 = .ok (.ldc 64, 2) := by decide +kernel
theorem dX4_lower_13 : decode cX4_lower 13 = .ok (.iload_n 1, 1) := by decide +kernel
theorem dX4_lower_14 : decode cX4_lower 14 = .ok (.isub, 1) := by decide +kernel
theorem dX4_lower_15 : decode cX4_lower 15 = .ok (.ireturn, 1) := by decide +kernel
theorem dX4_lowestOf_0 : decode cX4_lowestOf 0 = .ok (.aload_n 0, 1) := by decide +kernel
theorem dX4_lowestOf_1 : decode cX4_lowestOf 1 = .ok (.getfield 7, 3) := by decide +kernel
theorem dX4_lowestOf_4 : decode cX4_lowestOf 4 = .ok (.iload_n 1, 1) := by decide +kernel
theorem dX4_lowestOf_5 : decode cX4_lowestOf 5 = .ok (.ineg, 1) := by decide +kernel
theorem dX4_lowestOf_6 : decode cX4_lowestOf 6 = .ok (.dup2, 1) := by decide +kernel
theorem dX4_lowestOf_7 : decode cX4_lowestOf 7 = .ok (.iaload, 1) := by decide +kernel
theorem dX4_lowestOf_8 : decode cX4_lowestOf 8 = .ok (.iconst 1, 1) := by decide +kernel
theorem dX4_lowestOf_9 : decode cX4_lowestOf 9 = .ok (.iadd, 1) := by decide +kernel
theorem dX4_lowestOf_10 : decode cX4_lowestOf 10 = .ok (.iastore, 1) := by decide +kernel
theorem dX4_lowestOf_11 : decode cX4_lowestOf 11 = .ok (.ldc2_w 65, 3) := by decide +kernel
theorem dX4_lowestOf_14 : decode cX4_lowestOf 14 = .ok (.iload_n 1, 1) := by decide +kernel
theorem dX4_lowestOf_15 : decode cX4_lowestOf 15 = .ok (.i2l, 1) := by decide +kernel
theorem dX4_lowestOf_16 : decode cX4_lowestOf 16 = .ok (.lsub, 1) := by decide +kernel
theorem dX4_lowestOf_17 : decode cX4_lowestOf 17 = .ok (.lreturn, 1) := by decide +kernel
theorem dX4_isIn_0 : decode cX4_isIn 0 = .ok (.iload_n 0, 1) := by decide +kernel
theorem dX4_isIn_1 : decode cX4_isIn 1 = .ok (.iload_n 1, 1) := by decide +kernel
theorem dX4_isIn_2 : decode cX4_isIn 2 = .ok (.if_icmp .lt 12, 3) := by decide +kernel
theorem dX4_isIn_5 : decode cX4_isIn 5 = .ok (.iload_n 0, 1) := by decide +kernel
theorem dX4_isIn_6 : decode cX4_isIn 6 = .ok (.iload_n 2, 1) := by decide +kernel
theorem dX4_isIn_7 : decode cX4_isIn 7 = .ok (.if_icmp .gt 7, 3) := by decide +kernel
theorem dX4_isIn_10 : decode cX4_isIn 10 = .ok (.iconst 1, 1) := by decide +kernel
theorem dX4_isIn_11 : decode cX4_isIn 11 = .ok (.goto 4, 3) := by decide +kernel
theorem dX4_isIn_14 : decode cX4_isIn 14 = .ok (.iconst 0, 1) := by decide +kernel
theorem dX4_isIn_15 : decode cX4_isIn 15 = .ok (.ireturn, 1) := by decide +kernel
theorem dX4_bound_0 : decode cX4_bound 0 = .ok (.iload_n 0, 1) := by decide +kernel
theorem dX4_bound_1 : decode cX4_bound 1 = .ok (.iload_n 1, 1) := by decide +kernel
theorem dX4_bound_2 : decode cX4_bound 2 = .ok (.if_icmp .ge 8, 3) := by decide +kernel
theorem dX4_bound_5 : decode cX4_bound 5 = .ok (.bipush (-4), 2) := by decide +kernel
theorem dX4_bound_7 : decode cX4_bound 7 = .ok (.goto 14, 3) := by decide +kernel
theorem dX4_bound_10 : decode cX4_bound 10 = .ok (.iload_n 0, 1) := by decide +kernel
theorem dX4_bound_11 : decode cX4_bound 11 = .ok (.iload_n 2, 1) := by decide +kernel
theorem dX4_bound_12 : decode cX4_bound 12 = .ok (.if_icmp .le 8, 3) := by decide +kernel
theorem dX4_bound_15 : decode cX4_bound 15 = .ok (.bipush (-6), 2) := by decide +kernel
theorem dX4_bound_17 : decode cX4_bound 17 = .ok (.goto 4, 3) := by decide +kernel
theorem dX4_bound_20 : decode cX4_bound 20 = .ok (.iconst 0, 1) := by decide +kernel
theorem dX4_bound_21 : decode cX4_bound 21 = .ok (.ireturn, 1) := by decide +kernel
theorem dX4_held_0 : decode cX4_held 0 = .ok (.iload_n 0, 1) := by decide +kernel
theorem dX4_held_1 : decode cX4_held 1 = .ok (.ifCond .ge 7, 3) := by decide +kernel
theorem dX4_held_4 : decode cX4_held 4 = .ok (.iconst 0, 1) := by decide +kernel
theorem dX4_held_5 : decode cX4_held 5 = .ok (.goto 13, 3) := by decide +kernel
theorem dX4_held_8 : decode cX4_held 8 = .ok (.iload_n 0, 1) := by decide +kernel
theorem dX4_held_9 : decode cX4_held 9 = .ok (.iload_n 1, 1) := by decide +kernel
theorem dX4_held_10 : decode cX4_held 10 = .ok (.if_icmp .le 7, 3) := by decide +kernel
theorem dX4_held_13 : decode cX4_held 13 = .ok (.iload_n 1, 1) := by decide +kernel
theorem dX4_held_14 : decode cX4_held 14 = .ok (.goto 4, 3) := by decide +kernel
theorem dX4_held_17 : decode cX4_held 17 = .ok (.iload_n 0, 1) := by decide +kernel
theorem dX4_held_18 : decode cX4_held 18 = .ok (.ireturn, 1) := by decide +kernel
theorem dX4_has_0 : decode cX4_has 0 = .ok (.iload_n 0, 1) := by decide +kernel
theorem dX4_has_1 : decode cX4_has 1 = .ok (.iload_n 1, 1) := by decide +kernel
theorem dX4_has_2 : decode cX4_has 2 = .ok (.ishr, 1) := by decide +kernel
theorem dX4_has_3 : decode cX4_has 3 = .ok (.iconst 1, 1) := by decide +kernel
theorem dX4_has_4 : decode cX4_has 4 = .ok (.iand, 1) := by decide +kernel
theorem dX4_has_5 : decode cX4_has 5 = .ok (.iconst 1, 1) := by decide +kernel
theorem dX4_has_6 : decode cX4_has 6 = .ok (.if_icmp .ne 7, 3) := by decide +kernel
theorem dX4_has_9 : decode cX4_has 9 = .ok (.iconst 1, 1) := by decide +kernel
theorem dX4_has_10 : decode cX4_has 10 = .ok (.goto 4, 3) := by decide +kernel
theorem dX4_has_13 : decode cX4_has 13 = .ok (.iconst 0, 1) := by decide +kernel
theorem dX4_has_14 : decode cX4_has 14 = .ok (.ireturn, 1) := by decide +kernel
theorem dX4_bits_0 : decode cX4_bits 0 = .ok (.iconst 0, 1) := by decide +kernel
theorem dX4_bits_1 : decode cX4_bits 1 = .ok (.istore_n 1, 1) := by decide +kernel
theorem dX4_bits_2 : decode cX4_bits 2 = .ok (.iconst 0, 1) := by decide +kernel
theorem dX4_bits_3 : decode cX4_bits 3 = .ok (.istore_n 2, 1) := by decide +kernel
theorem dX4_bits_4 : decode cX4_bits 4 = .ok (.iload_n 2, 1) := by decide +kernel
theorem dX4_bits_5 : decode cX4_bits 5 = .ok (.bipush 31, 2) := by decide +kernel
theorem dX4_bits_7 : decode cX4_bits 7 = .ok (.if_icmp .ge 17, 3) := by decide +kernel
theorem dX4_bits_10 : decode cX4_bits 10 = .ok (.iload_n 1, 1) := by decide +kernel
theorem dX4_bits_11 : decode cX4_bits 11 = .ok (.iload_n 0, 1) := by decide +kernel
theorem dX4_bits_12 : decode cX4_bits 12 = .ok (.iload_n 2, 1) := by decide +kernel
theorem dX4_bits_13 : decode cX4_bits 13 = .ok (.ishr, 1) := by decide +kernel
theorem dX4_bits_14 : decode cX4_bits 14 = .ok (.iconst 1, 1) := by decide +kernel
theorem dX4_bits_15 : decode cX4_bits 15 = .ok (.iand, 1) := by decide +kernel
theorem dX4_bits_16 : decode cX4_bits 16 = .ok (.iadd, 1) := by decide +kernel
theorem dX4_bits_17 : decode cX4_bits 17 = .ok (.istore_n 1, 1) := by decide +kernel
theorem dX4_bits_18 : decode cX4_bits 18 = .ok (.iinc 2 1, 3) := by decide +kernel
theorem dX4_bits_21 : decode cX4_bits 21 = .ok (.goto (-17), 3) := by decide +kernel
theorem dX4_bits_24 : decode cX4_bits 24 = .ok (.iload_n 1, 1) := by decide +kernel
theorem dX4_bits_25 : decode cX4_bits 25 = .ok (.ireturn, 1) := by decide +kernel
theorem dX4_isSuit_0 : decode cX4_isSuit 0 = .ok (.iload_n 1, 1) := by decide +kernel
theorem dX4_isSuit_1 : decode cX4_isSuit 1 = .ok (.ifCond .lt 15, 3) := by decide +kernel
theorem dX4_isSuit_4 : decode cX4_isSuit 4 = .ok (.iload_n 1, 1) := by decide +kernel
theorem dX4_isSuit_5 : decode cX4_isSuit 5 = .ok (.aload_n 0, 1) := by decide +kernel
theorem dX4_isSuit_6 : decode cX4_isSuit 6 = .ok (.getfield 60, 3) := by decide +kernel
theorem dX4_isSuit_9 : decode cX4_isSuit 9 = .ok (.if_icmp .ge 7, 3) := by decide +kernel
theorem dX4_isSuit_12 : decode cX4_isSuit 12 = .ok (.iconst 1, 1) := by decide +kernel
theorem dX4_isSuit_13 : decode cX4_isSuit 13 = .ok (.goto 4, 3) := by decide +kernel
theorem dX4_isSuit_16 : decode cX4_isSuit 16 = .ok (.iconst 0, 1) := by decide +kernel
theorem dX4_isSuit_17 : decode cX4_isSuit 17 = .ok (.ireturn, 1) := by decide +kernel
theorem dX4_isCaller_0 : decode cX4_isCaller 0 = .ok (.iload_n 1, 1) := by decide +kernel
theorem dX4_isCaller_1 : decode cX4_isCaller 1 = .ok (.ifCond .lt 15, 3) := by decide +kernel
theorem dX4_isCaller_4 : decode cX4_isCaller 4 = .ok (.iload_n 1, 1) := by decide +kernel
theorem dX4_isCaller_5 : decode cX4_isCaller 5 = .ok (.aload_n 0, 1) := by decide +kernel
theorem dX4_isCaller_6 : decode cX4_isCaller 6 = .ok (.getfield 67, 3) := by decide +kernel
theorem dX4_isCaller_9 : decode cX4_isCaller 9 = .ok (.if_icmp .ge 7, 3) := by decide +kernel
theorem dX4_isCaller_12 : decode cX4_isCaller 12 = .ok (.iconst 1, 1) := by decide +kernel
theorem dX4_isCaller_13 : decode cX4_isCaller 13 = .ok (.goto 4, 3) := by decide +kernel
theorem dX4_isCaller_16 : decode cX4_isCaller 16 = .ok (.iconst 0, 1) := by decide +kernel
theorem dX4_isCaller_17 : decode cX4_isCaller 17 = .ok (.ireturn, 1) := by decide +kernel
theorem dX4_letter_0 : decode cX4_letter 0 = .ok (.iload_n 1, 1) := by decide +kernel
theorem dX4_letter_1 : decode cX4_letter 1 = .ok (.iconst 0, 1) := by decide +kernel
theorem dX4_letter_2 : decode cX4_letter 2 = .ok (.sipush 255, 3) := by decide +kernel
theorem dX4_letter_5 : decode cX4_letter 5 = .ok (.invokestatic 70, 3) := by decide +kernel
theorem dX4_letter_8 : decode cX4_letter 8 = .ok (.istore_n 2, 1) := by decide +kernel
theorem dX4_letter_9 : decode cX4_letter 9 = .ok (.iload_n 2, 1) := by decide +kernel
theorem dX4_letter_10 : decode cX4_letter 10 = .ok (.ifCond .ne 15, 3) := by decide +kernel
theorem dX4_letter_13 : decode cX4_letter 13 = .ok (.aload_n 0, 1) := by decide +kernel
theorem dX4_letter_14 : decode cX4_letter 14 = .ok (.getfield 74, 3) := by decide +kernel
theorem dX4_letter_17 : decode cX4_letter 17 = .ok (.bipush 96, 2) := by decide +kernel
theorem dX4_letter_19 : decode cX4_letter 19 = .ok (.if_icmp .ne 6, 3) := by decide +kernel
theorem dX4_letter_22 : decode cX4_letter 22 = .ok (.bipush (-6), 2) := by decide +kernel
theorem dX4_letter_24 : decode cX4_letter 24 = .ok (.istore_n 2, 1) := by decide +kernel
theorem dX4_letter_25 : decode cX4_letter 25 = .ok (.iload_n 2, 1) := by decide +kernel
theorem dX4_letter_26 : decode cX4_letter 26 = .ok (.ifCond .eq 9, 3) := by decide +kernel
theorem dX4_letter_29 : decode cX4_letter 29 = .ok (.aload_n 0, 1) := by decide +kernel
theorem dX4_letter_30 : decode cX4_letter 30 = .ok (.iload_n 2, 1) := by decide +kernel
theorem dX4_letter_31 : decode cX4_letter 31 = .ok (.invokevirtual 77, 3) := by decide +kernel
theorem dX4_letter_34 : decode cX4_letter 34 = .ok (.ireturn, 1) := by decide +kernel
theorem dX4_letter_35 : decode cX4_letter 35 = .ok (.aload_n 0, 1) := by decide +kernel
theorem dX4_letter_36 : decode cX4_letter 36 = .ok (.getfield 34, 3) := by decide +kernel
theorem dX4_letter_39 : decode cX4_letter 39 = .ok (.aload_n 0, 1) := by decide +kernel
theorem dX4_letter_40 : decode cX4_letter 40 = .ok (.getfield 74, 3) := by decide +kernel
theorem dX4_letter_43 : decode cX4_letter 43 = .ok (.iload_n 1, 1) := by decide +kernel
theorem dX4_letter_44 : decode cX4_letter 44 = .ok (.iastore, 1) := by decide +kernel
theorem dX4_letter_45 : decode cX4_letter 45 = .ok (.aload_n 0, 1) := by decide +kernel
theorem dX4_letter_46 : decode cX4_letter 46 = .ok (.dup, 1) := by decide +kernel
theorem dX4_letter_47 : decode cX4_letter 47 = .ok (.getfield 74, 3) := by decide +kernel
theorem dX4_letter_50 : decode cX4_letter 50 = .ok (.iconst 1, 1) := by decide +kernel
theorem dX4_letter_51 : decode cX4_letter 51 = .ok (.iadd, 1) := by decide +kernel
theorem dX4_letter_52 : decode cX4_letter 52 = .ok (.putfield 74, 3) := by decide +kernel
theorem dX4_letter_55 : decode cX4_letter 55 = .ok (.aload_n 0, 1) := by decide +kernel
theorem dX4_letter_56 : decode cX4_letter 56 = .ok (.getfield 74, 3) := by decide +kernel
theorem dX4_letter_59 : decode cX4_letter 59 = .ok (.ireturn, 1) := by decide +kernel
theorem dX4_letterNow_0 : decode cX4_letterNow 0 = .ok (.aload_n 0, 1) := by decide +kernel
theorem dX4_letterNow_1 : decode cX4_letterNow 1 = .ok (.getfield 81, 3) := by decide +kernel
theorem dX4_letterNow_4 : decode cX4_letterNow 4 = .ok (.aload_n 0, 1) := by decide +kernel
theorem dX4_letterNow_5 : decode cX4_letterNow 5 = .ok (.getfield 74, 3) := by decide +kernel
theorem dX4_letterNow_8 : decode cX4_letterNow 8 = .ok (.if_icmp .ge 15, 3) := by decide +kernel
theorem dX4_letterNow_11 : decode cX4_letterNow 11 = .ok (.aload_n 0, 1) := by decide +kernel
theorem dX4_letterNow_12 : decode cX4_letterNow 12 = .ok (.getfield 34, 3) := by decide +kernel
theorem dX4_letterNow_15 : decode cX4_letterNow 15 = .ok (.aload_n 0, 1) := by decide +kernel
theorem dX4_letterNow_16 : decode cX4_letterNow 16 = .ok (.getfield 81, 3) := by decide +kernel
theorem dX4_letterNow_19 : decode cX4_letterNow 19 = .ok (.iaload, 1) := by decide +kernel
theorem dX4_letterNow_20 : decode cX4_letterNow 20 = .ok (.goto 4, 3) := by decide +kernel
theorem dX4_letterNow_23 : decode cX4_letterNow 23 = .ok (.iconst (-1), 1) := by decide +kernel
theorem dX4_letterNow_24 : decode cX4_letterNow 24 = .ok (.ireturn, 1) := by decide +kernel
theorem dX4_readsDigits_0 : decode cX4_readsDigits 0 = .ok (.iconst 0, 1) := by decide +kernel
theorem dX4_readsDigits_1 : decode cX4_readsDigits 1 = .ok (.istore_n 3, 1) := by decide +kernel
theorem dX4_readsDigits_2 : decode cX4_readsDigits 2 = .ok (.iconst 0, 1) := by decide +kernel
theorem dX4_readsDigits_3 : decode cX4_readsDigits 3 = .ok (.istore 4, 2) := by decide +kernel
theorem dX4_readsDigits_5 : decode cX4_readsDigits 5 = .ok (.iload 4, 2) := by decide +kernel
theorem dX4_readsDigits_7 : decode cX4_readsDigits 7 = .ok (.iload_n 2, 1) := by decide +kernel
theorem dX4_readsDigits_8 : decode cX4_readsDigits 8 = .ok (.if_icmp .ge 48, 3) := by decide +kernel
theorem dX4_readsDigits_11 : decode cX4_readsDigits 11 = .ok (.aload_n 0, 1) := by decide +kernel
theorem dX4_readsDigits_12 : decode cX4_readsDigits 12 = .ok (.invokevirtual 84, 3) := by decide +kernel
theorem dX4_readsDigits_15 : decode cX4_readsDigits 15 = .ok (.bipush 48, 2) := by decide +kernel
theorem dX4_readsDigits_17 : decode cX4_readsDigits 17 = .ok (.bipush 57, 2) := by decide +kernel
theorem dX4_readsDigits_19 : decode cX4_readsDigits 19 = .ok (.invokestatic 88, 3) := by decide +kernel
theorem dX4_readsDigits_22 : decode cX4_readsDigits 22 = .ok (.ifCond .ne 5, 3) := by decide +kernel
theorem dX4_readsDigits_25 : decode cX4_readsDigits 25 = .ok (.iconst 0, 1) := by decide +kernel
theorem dX4_readsDigits_26 : decode cX4_readsDigits 26 = .ok (.ireturn, 1) := by decide +kernel
theorem dX4_readsDigits_27 : decode cX4_readsDigits 27 = .ok (.bipush 10, 2) := by decide +kernel
theorem dX4_readsDigits_29 : decode cX4_readsDigits 29 = .ok (.iload_n 3, 1) := by decide +kernel
theorem dX4_readsDigits_30 : decode cX4_readsDigits 30 = .ok (.imul, 1) := by decide +kernel
theorem dX4_readsDigits_31 : decode cX4_readsDigits 31 = .ok (.aload_n 0, 1) := by decide +kernel
theorem dX4_readsDigits_32 : decode cX4_readsDigits 32 = .ok (.invokevirtual 84, 3) := by decide +kernel
theorem dX4_readsDigits_35 : decode cX4_readsDigits 35 = .ok (.iadd, 1) := by decide +kernel
theorem dX4_readsDigits_36 : decode cX4_readsDigits 36 = .ok (.bipush 48, 2) := by decide +kernel
theorem dX4_readsDigits_38 : decode cX4_readsDigits 38 = .ok (.isub, 1) := by decide +kernel
theorem dX4_readsDigits_39 : decode cX4_readsDigits 39 = .ok (.istore_n 3, 1) := by decide +kernel
theorem dX4_readsDigits_40 : decode cX4_readsDigits 40 = .ok (.aload_n 0, 1) := by decide +kernel
theorem dX4_readsDigits_41 : decode cX4_readsDigits 41 = .ok (.dup, 1) := by decide +kernel
theorem dX4_readsDigits_42 : decode cX4_readsDigits 42 = .ok (.getfield 81, 3) := by decide +kernel
theorem dX4_readsDigits_45 : decode cX4_readsDigits 45 = .ok (.iconst 1, 1) := by decide +kernel
theorem dX4_readsDigits_46 : decode cX4_readsDigits 46 = .ok (.iadd, 1) := by decide +kernel
theorem dX4_readsDigits_47 : decode cX4_readsDigits 47 = .ok (.putfield 81, 3) := by decide +kernel
theorem dX4_readsDigits_50 : decode cX4_readsDigits 50 = .ok (.iinc 4 1, 3) := by decide +kernel
theorem dX4_readsDigits_53 : decode cX4_readsDigits 53 = .ok (.goto (-48), 3) := by decide +kernel
theorem dX4_readsDigits_56 : decode cX4_readsDigits 56 = .ok (.aload_n 0, 1) := by decide +kernel
theorem dX4_readsDigits_57 : decode cX4_readsDigits 57 = .ok (.getfield 43, 3) := by decide +kernel
theorem dX4_readsDigits_60 : decode cX4_readsDigits 60 = .ok (.iload_n 1, 1) := by decide +kernel
theorem dX4_readsDigits_61 : decode cX4_readsDigits 61 = .ok (.iload_n 3, 1) := by decide +kernel
theorem dX4_readsDigits_62 : decode cX4_readsDigits 62 = .ok (.iastore, 1) := by decide +kernel
theorem dX4_readsDigits_63 : decode cX4_readsDigits 63 = .ok (.iconst 1, 1) := by decide +kernel
theorem dX4_readsDigits_64 : decode cX4_readsDigits 64 = .ok (.ireturn, 1) := by decide +kernel
theorem dX4_kindOf_0 : decode cX4_kindOf 0 = .ok (.iload_n 0, 1) := by decide +kernel
theorem dX4_kindOf_1 : decode cX4_kindOf 1 = .ok (.bipush 112, 2) := by decide +kernel
theorem dX4_kindOf_3 : decode cX4_kindOf 3 = .ok (.if_icmp .ne 7, 3) := by decide +kernel
theorem dX4_kindOf_6 : decode cX4_kindOf 6 = .ok (.iconst 0, 1) := by decide +kernel
theorem dX4_kindOf_7 : decode cX4_kindOf 7 = .ok (.goto 54, 3) := by decide +kernel
theorem dX4_kindOf_10 : decode cX4_kindOf 10 = .ok (.iload_n 0, 1) := by decide +kernel
theorem dX4_kindOf_11 : decode cX4_kindOf 11 = .ok (.bipush 109, 2) := by decide +kernel
theorem dX4_kindOf_13 : decode cX4_kindOf 13 = .ok (.if_icmp .ne 7, 3) := by decide +kernel
theorem dX4_kindOf_16 : decode cX4_kindOf 16 = .ok (.iconst 1, 1) := by decide +kernel
theorem dX4_kindOf_17 : decode cX4_kindOf 17 = .ok (.goto 44, 3) := by decide +kernel
theorem dX4_kindOf_20 : decode cX4_kindOf 20 = .ok (.iload_n 0, 1) := by decide +kernel
theorem dX4_kindOf_21 : decode cX4_kindOf 21 = .ok (.bipush 103, 2) := by decide +kernel
theorem dX4_kindOf_23 : decode cX4_kindOf 23 = .ok (.if_icmp .ne 7, 3) := by decide +kernel
theorem dX4_kindOf_26 : decode cX4_kindOf 26 = .ok (.iconst 2, 1) := by decide +kernel
theorem dX4_kindOf_27 : decode cX4_kindOf 27 = .ok (.goto 34, 3) := by decide +kernel
theorem dX4_kindOf_30 : decode cX4_kindOf 30 = .ok (.iload_n 0, 1) := by decide +kernel
theorem dX4_kindOf_31 : decode cX4_kindOf 31 = .ok (.bipush 102, 2) := by decide +kernel
theorem dX4_kindOf_33 : decode cX4_kindOf 33 = .ok (.if_icmp .ne 7, 3) := by decide +kernel
theorem dX4_kindOf_36 : decode cX4_kindOf 36 = .ok (.iconst 3, 1) := by decide +kernel
theorem dX4_kindOf_37 : decode cX4_kindOf 37 = .ok (.goto 24, 3) := by decide +kernel
theorem dX4_kindOf_40 : decode cX4_kindOf 40 = .ok (.iload_n 0, 1) := by decide +kernel
theorem dX4_kindOf_41 : decode cX4_kindOf 41 = .ok (.bipush 98, 2) := by decide +kernel
theorem dX4_kindOf_43 : decode cX4_kindOf 43 = .ok (.if_icmp .ne 7, 3) := by decide +kernel
theorem dX4_kindOf_46 : decode cX4_kindOf 46 = .ok (.iconst 4, 1) := by decide +kernel
theorem dX4_kindOf_47 : decode cX4_kindOf 47 = .ok (.goto 14, 3) := by decide +kernel
theorem dX4_kindOf_50 : decode cX4_kindOf 50 = .ok (.iload_n 0, 1) := by decide +kernel
theorem dX4_kindOf_51 : decode cX4_kindOf 51 = .ok (.bipush 111, 2) := by decide +kernel
theorem dX4_kindOf_53 : decode cX4_kindOf 53 = .ok (.if_icmp .ne 7, 3) := by decide +kernel
theorem dX4_kindOf_56 : decode cX4_kindOf 56 = .ok (.iconst 5, 1) := by decide +kernel
theorem dX4_kindOf_57 : decode cX4_kindOf 57 = .ok (.goto 4, 3) := by decide +kernel
theorem dX4_kindOf_60 : decode cX4_kindOf 60 = .ok (.iconst (-1), 1) := by decide +kernel
theorem dX4_kindOf_61 : decode cX4_kindOf 61 = .ok (.ireturn, 1) := by decide +kernel
theorem dX4_readsSuit_0 : decode cX4_readsSuit 0 = .ok (.aload_n 0, 1) := by decide +kernel
theorem dX4_readsSuit_1 : decode cX4_readsSuit 1 = .ok (.getfield 43, 3) := by decide +kernel
theorem dX4_readsSuit_4 : decode cX4_readsSuit 4 = .ok (.iload_n 1, 1) := by decide +kernel
theorem dX4_readsSuit_5 : decode cX4_readsSuit 5 = .ok (.aload_n 0, 1) := by decide +kernel
theorem dX4_readsSuit_6 : decode cX4_readsSuit 6 = .ok (.invokevirtual 84, 3) := by decide +kernel
theorem dX4_readsSuit_9 : decode cX4_readsSuit 9 = .ok (.invokestatic 92, 3) := by decide +kernel
theorem dX4_readsSuit_12 : decode cX4_readsSuit 12 = .ok (.iastore, 1) := by decide +kernel
theorem dX4_readsSuit_13 : decode cX4_readsSuit 13 = .ok (.aload_n 0, 1) := by decide +kernel
theorem dX4_readsSuit_14 : decode cX4_readsSuit 14 = .ok (.getfield 43, 3) := by decide +kernel
theorem dX4_readsSuit_17 : decode cX4_readsSuit 17 = .ok (.iload_n 1, 1) := by decide +kernel
theorem dX4_readsSuit_18 : decode cX4_readsSuit 18 = .ok (.iaload, 1) := by decide +kernel
theorem dX4_readsSuit_19 : decode cX4_readsSuit 19 = .ok (.ifCond .ge 5, 3) := by decide +kernel
theorem dX4_readsSuit_22 : decode cX4_readsSuit 22 = .ok (.iconst 0, 1) := by decide +kernel
theorem dX4_readsSuit_23 : decode cX4_readsSuit 23 = .ok (.ireturn, 1) := by decide +kernel
theorem dX4_readsSuit_24 : decode cX4_readsSuit 24 = .ok (.aload_n 0, 1) := by decide +kernel
theorem dX4_readsSuit_25 : decode cX4_readsSuit 25 = .ok (.dup, 1) := by decide +kernel
theorem dX4_readsSuit_26 : decode cX4_readsSuit 26 = .ok (.getfield 81, 3) := by decide +kernel
theorem dX4_readsSuit_29 : decode cX4_readsSuit 29 = .ok (.iconst 1, 1) := by decide +kernel
theorem dX4_readsSuit_30 : decode cX4_readsSuit 30 = .ok (.iadd, 1) := by decide +kernel
theorem dX4_readsSuit_31 : decode cX4_readsSuit 31 = .ok (.putfield 81, 3) := by decide +kernel
theorem dX4_readsSuit_34 : decode cX4_readsSuit 34 = .ok (.aload_n 0, 1) := by decide +kernel
theorem dX4_readsSuit_35 : decode cX4_readsSuit 35 = .ok (.iload_n 1, 1) := by decide +kernel
theorem dX4_readsSuit_36 : decode cX4_readsSuit 36 = .ok (.iconst 1, 1) := by decide +kernel
theorem dX4_readsSuit_37 : decode cX4_readsSuit 37 = .ok (.iadd, 1) := by decide +kernel
theorem dX4_readsSuit_38 : decode cX4_readsSuit 38 = .ok (.iconst 1, 1) := by decide +kernel
theorem dX4_readsSuit_39 : decode cX4_readsSuit 39 = .ok (.invokevirtual 95, 3) := by decide +kernel
theorem dX4_readsSuit_42 : decode cX4_readsSuit 42 = .ok (.ireturn, 1) := by decide +kernel
theorem dX4_readsAll_0 : decode cX4_readsAll 0 = .ok (.iload_n 1, 1) := by decide +kernel
theorem dX4_readsAll_1 : decode cX4_readsAll 1 = .ok (.lookupswitch 116 #[(102, 83), (111, 109), (114, 57), (115, 51), (119, 57)], 51) := by decide +kernel
theorem dX4_readsAll_52 : decode cX4_readsAll 52 = .ok (.aload_n 0, 1) := by decide +kernel
theorem dX4_readsAll_53 : decode cX4_readsAll 53 = .ok (.iload_n 2, 1) := by decide +kernel
theorem dX4_readsAll_54 : decode cX4_readsAll 54 = .ok (.invokevirtual 99, 3) := by decide +kernel
theorem dX4_readsAll_57 : decode cX4_readsAll 57 = .ok (.ireturn, 1) := by decide +kernel
theorem dX4_readsAll_58 : decode cX4_readsAll 58 = .ok (.aload_n 0, 1) := by decide +kernel
theorem dX4_readsAll_59 : decode cX4_readsAll 59 = .ok (.iload_n 2, 1) := by decide +kernel
theorem dX4_readsAll_60 : decode cX4_readsAll 60 = .ok (.iconst 1, 1) := by decide +kernel
theorem dX4_readsAll_61 : decode cX4_readsAll 61 = .ok (.invokevirtual 95, 3) := by decide +kernel
theorem dX4_readsAll_64 : decode cX4_readsAll 64 = .ok (.ifCond .eq 18, 3) := by decide +kernel
theorem dX4_readsAll_67 : decode cX4_readsAll 67 = .ok (.aload_n 0, 1) := by decide +kernel
theorem dX4_readsAll_68 : decode cX4_readsAll 68 = .ok (.iload_n 2, 1) := by decide +kernel
theorem dX4_readsAll_69 : decode cX4_readsAll 69 = .ok (.iconst 1, 1) := by decide +kernel
theorem dX4_readsAll_70 : decode cX4_readsAll 70 = .ok (.iadd, 1) := by decide +kernel
theorem dX4_readsAll_71 : decode cX4_readsAll 71 = .ok (.iconst 1, 1) := by decide +kernel
theorem dX4_readsAll_72 : decode cX4_readsAll 72 = .ok (.invokevirtual 95, 3) := by decide +kernel
theorem dX4_readsAll_75 : decode cX4_readsAll 75 = .ok (.ifCond .eq 7, 3) := by decide +kernel
theorem dX4_readsAll_78 : decode cX4_readsAll 78 = .ok (.iconst 1, 1) := by decide +kernel
theorem dX4_readsAll_79 : decode cX4_readsAll 79 = .ok (.goto 4, 3) := by decide +kernel
theorem dX4_readsAll_82 : decode cX4_readsAll 82 = .ok (.iconst 0, 1) := by decide +kernel
theorem dX4_readsAll_83 : decode cX4_readsAll 83 = .ok (.ireturn, 1) := by decide +kernel
theorem dX4_readsAll_84 : decode cX4_readsAll 84 = .ok (.aload_n 0, 1) := by decide +kernel
theorem dX4_readsAll_85 : decode cX4_readsAll 85 = .ok (.iload_n 2, 1) := by decide +kernel
theorem dX4_readsAll_86 : decode cX4_readsAll 86 = .ok (.iconst 1, 1) := by decide +kernel
theorem dX4_readsAll_87 : decode cX4_readsAll 87 = .ok (.invokevirtual 95, 3) := by decide +kernel
theorem dX4_readsAll_90 : decode cX4_readsAll 90 = .ok (.ifCond .eq 18, 3) := by decide +kernel
theorem dX4_readsAll_93 : decode cX4_readsAll 93 = .ok (.aload_n 0, 1) := by decide +kernel
theorem dX4_readsAll_94 : decode cX4_readsAll 94 = .ok (.iload_n 2, 1) := by decide +kernel
theorem dX4_readsAll_95 : decode cX4_readsAll 95 = .ok (.iconst 1, 1) := by decide +kernel
theorem dX4_readsAll_96 : decode cX4_readsAll 96 = .ok (.iadd, 1) := by decide +kernel
theorem dX4_readsAll_97 : decode cX4_readsAll 97 = .ok (.iconst 2, 1) := by decide +kernel
theorem dX4_readsAll_98 : decode cX4_readsAll 98 = .ok (.invokevirtual 95, 3) := by decide +kernel
theorem dX4_readsAll_101 : decode cX4_readsAll 101 = .ok (.ifCond .eq 7, 3) := by decide +kernel
theorem dX4_readsAll_104 : decode cX4_readsAll 104 = .ok (.iconst 1, 1) := by decide +kernel
theorem dX4_readsAll_105 : decode cX4_readsAll 105 = .ok (.goto 4, 3) := by decide +kernel
theorem dX4_readsAll_108 : decode cX4_readsAll 108 = .ok (.iconst 0, 1) := by decide +kernel
theorem dX4_readsAll_109 : decode cX4_readsAll 109 = .ok (.ireturn, 1) := by decide +kernel
theorem dX4_readsAll_110 : decode cX4_readsAll 110 = .ok (.aload_n 0, 1) := by decide +kernel
theorem dX4_readsAll_111 : decode cX4_readsAll 111 = .ok (.iload_n 2, 1) := by decide +kernel
theorem dX4_readsAll_112 : decode cX4_readsAll 112 = .ok (.iconst 1, 1) := by decide +kernel
theorem dX4_readsAll_113 : decode cX4_readsAll 113 = .ok (.invokevirtual 95, 3) := by decide +kernel
theorem dX4_readsAll_116 : decode cX4_readsAll 116 = .ok (.ireturn, 1) := by decide +kernel
theorem dX4_readsAll_117 : decode cX4_readsAll 117 = .ok (.aload_n 0, 1) := by decide +kernel
theorem dX4_readsAll_118 : decode cX4_readsAll 118 = .ok (.iload_n 2, 1) := by decide +kernel
theorem dX4_readsAll_119 : decode cX4_readsAll 119 = .ok (.iconst 2, 1) := by decide +kernel
theorem dX4_readsAll_120 : decode cX4_readsAll 120 = .ok (.invokevirtual 95, 3) := by decide +kernel
theorem dX4_readsAll_123 : decode cX4_readsAll 123 = .ok (.ireturn, 1) := by decide +kernel
theorem dX4_statement_0 : decode cX4_statement 0 = .ok (.aload_n 0, 1) := by decide +kernel
theorem dX4_statement_1 : decode cX4_statement 1 = .ok (.invokevirtual 84, 3) := by decide +kernel
theorem dX4_statement_4 : decode cX4_statement 4 = .ok (.istore_n 1, 1) := by decide +kernel
theorem dX4_statement_5 : decode cX4_statement 5 = .ok (.iload_n 1, 1) := by decide +kernel
theorem dX4_statement_6 : decode cX4_statement 6 = .ok (.bipush 115, 2) := by decide +kernel
theorem dX4_statement_8 : decode cX4_statement 8 = .ok (.if_icmp .eq 41, 3) := by decide +kernel
theorem dX4_statement_11 : decode cX4_statement 11 = .ok (.iload_n 1, 1) := by decide +kernel
theorem dX4_statement_12 : decode cX4_statement 12 = .ok (.bipush 99, 2) := by decide +kernel
theorem dX4_statement_14 : decode cX4_statement 14 = .ok (.if_icmp .eq 35, 3) := by decide +kernel
theorem dX4_statement_17 : decode cX4_statement 17 = .ok (.iload_n 1, 1) := by decide +kernel
theorem dX4_statement_18 : decode cX4_statement 18 = .ok (.bipush 119, 2) := by decide +kernel
theorem dX4_statement_20 : decode cX4_statement 20 = .ok (.if_icmp .eq 29, 3) := by decide +kernel
theorem dX4_statement_23 : decode cX4_statement 23 = .ok (.iload_n 1, 1) := by decide +kernel
theorem dX4_statement_24 : decode cX4_statement 24 = .ok (.bipush 111, 2) := by decide +kernel
theorem dX4_statement_26 : decode cX4_statement 26 = .ok (.if_icmp .eq 23, 3) := by decide +kernel
theorem dX4_statement_29 : decode cX4_statement 29 = .ok (.iload_n 1, 1) := by decide +kernel
theorem dX4_statement_30 : decode cX4_statement 30 = .ok (.bipush 102, 2) := by decide +kernel
theorem dX4_statement_32 : decode cX4_statement 32 = .ok (.if_icmp .eq 17, 3) := by decide +kernel
theorem dX4_statement_35 : decode cX4_statement 35 = .ok (.iload_n 1, 1) := by decide +kernel
theorem dX4_statement_36 : decode cX4_statement 36 = .ok (.bipush 114, 2) := by decide +kernel
theorem dX4_statement_38 : decode cX4_statement 38 = .ok (.if_icmp .eq 11, 3) := by decide +kernel
theorem dX4_statement_41 : decode cX4_statement 41 = .ok (.iload_n 1, 1) := by decide +kernel
theorem dX4_statement_42 : decode cX4_statement 42 = .ok (.bipush 100, 2) := by decide +kernel
theorem dX4_statement_44 : decode cX4_statement 44 = .ok (.if_icmp .eq 5, 3) := by decide +kernel
theorem dX4_statement_47 : decode cX4_statement 47 = .ok (.iconst 0, 1) := by decide +kernel
theorem dX4_statement_48 : decode cX4_statement 48 = .ok (.ireturn, 1) := by decide +kernel
theorem dX4_statement_49 : decode cX4_statement 49 = .ok (.aload_n 0, 1) := by decide +kernel
theorem dX4_statement_50 : decode cX4_statement 50 = .ok (.getfield 37, 3) := by decide +kernel
theorem dX4_statement_53 : decode cX4_statement 53 = .ok (.aload_n 0, 1) := by decide +kernel
theorem dX4_statement_54 : decode cX4_statement 54 = .ok (.getfield 103, 3) := by decide +kernel
theorem dX4_statement_57 : decode cX4_statement 57 = .ok (.iload_n 1, 1) := by decide +kernel
theorem dX4_statement_58 : decode cX4_statement 58 = .ok (.iastore, 1) := by decide +kernel
theorem dX4_statement_59 : decode cX4_statement 59 = .ok (.aload_n 0, 1) := by decide +kernel
theorem dX4_statement_60 : decode cX4_statement 60 = .ok (.getfield 40, 3) := by decide +kernel
theorem dX4_statement_63 : decode cX4_statement 63 = .ok (.aload_n 0, 1) := by decide +kernel
theorem dX4_statement_64 : decode cX4_statement 64 = .ok (.getfield 103, 3) := by decide +kernel
theorem dX4_statement_67 : decode cX4_statement 67 = .ok (.aload_n 0, 1) := by decide +kernel
theorem dX4_statement_68 : decode cX4_statement 68 = .ok (.getfield 81, 3) := by decide +kernel
theorem dX4_statement_71 : decode cX4_statement 71 = .ok (.iastore, 1) := by decide +kernel
theorem dX4_statement_72 : decode cX4_statement 72 = .ok (.aload_n 0, 1) := by decide +kernel
theorem dX4_statement_73 : decode cX4_statement 73 = .ok (.dup, 1) := by decide +kernel
theorem dX4_statement_74 : decode cX4_statement 74 = .ok (.getfield 81, 3) := by decide +kernel
theorem dX4_statement_77 : decode cX4_statement 77 = .ok (.iconst 1, 1) := by decide +kernel
theorem dX4_statement_78 : decode cX4_statement 78 = .ok (.iadd, 1) := by decide +kernel
theorem dX4_statement_79 : decode cX4_statement 79 = .ok (.putfield 81, 3) := by decide +kernel
theorem dX4_statement_82 : decode cX4_statement 82 = .ok (.aload_n 0, 1) := by decide +kernel
theorem dX4_statement_83 : decode cX4_statement 83 = .ok (.iload_n 1, 1) := by decide +kernel
theorem dX4_statement_84 : decode cX4_statement 84 = .ok (.iconst 2, 1) := by decide +kernel
theorem dX4_statement_85 : decode cX4_statement 85 = .ok (.aload_n 0, 1) := by decide +kernel
theorem dX4_statement_86 : decode cX4_statement 86 = .ok (.getfield 103, 3) := by decide +kernel
theorem dX4_statement_89 : decode cX4_statement 89 = .ok (.imul, 1) := by decide +kernel
theorem dX4_statement_90 : decode cX4_statement 90 = .ok (.invokevirtual 106, 3) := by decide +kernel
theorem dX4_statement_93 : decode cX4_statement 93 = .ok (.ifCond .eq 12, 3) := by decide +kernel
theorem dX4_statement_96 : decode cX4_statement 96 = .ok (.aload_n 0, 1) := by decide +kernel
theorem dX4_statement_97 : decode cX4_statement 97 = .ok (.invokevirtual 84, 3) := by decide +kernel
theorem dX4_statement_100 : decode cX4_statement 100 = .ok (.bipush 59, 2) := by decide +kernel
theorem dX4_statement_102 : decode cX4_statement 102 = .ok (.if_icmp .eq 5, 3) := by decide +kernel
theorem dX4_statement_105 : decode cX4_statement 105 = .ok (.iconst 0, 1) := by decide +kernel
theorem dX4_statement_106 : decode cX4_statement 106 = .ok (.ireturn, 1) := by decide +kernel
theorem dX4_statement_107 : decode cX4_statement 107 = .ok (.aload_n 0, 1) := by decide +kernel
theorem dX4_statement_108 : decode cX4_statement 108 = .ok (.dup, 1) := by decide +kernel
theorem dX4_statement_109 : decode cX4_statement 109 = .ok (.getfield 81, 3) := by decide +kernel
theorem dX4_statement_112 : decode cX4_statement 112 = .ok (.iconst 1, 1) := by decide +kernel
theorem dX4_statement_113 : decode cX4_statement 113 = .ok (.iadd, 1) := by decide +kernel
theorem dX4_statement_114 : decode cX4_statement 114 = .ok (.putfield 81, 3) := by decide +kernel
theorem dX4_statement_117 : decode cX4_statement 117 = .ok (.iconst 1, 1) := by decide +kernel
theorem dX4_statement_118 : decode cX4_statement 118 = .ok (.ireturn, 1) := by decide +kernel
theorem dX4_comesSuit_0 : decode cX4_comesSuit 0 = .ok (.aload_n 0, 1) := by decide +kernel
theorem dX4_comesSuit_1 : decode cX4_comesSuit 1 = .ok (.getfield 60, 3) := by decide +kernel
theorem dX4_comesSuit_4 : decode cX4_comesSuit 4 = .ok (.bipush 6, 2) := by decide +kernel
theorem dX4_comesSuit_6 : decode cX4_comesSuit 6 = .ok (.if_icmp .ne 5, 3) := by decide +kernel
theorem dX4_comesSuit_9 : decode cX4_comesSuit 9 = .ok (.iconst 0, 1) := by decide +kernel
theorem dX4_comesSuit_10 : decode cX4_comesSuit 10 = .ok (.ireturn, 1) := by decide +kernel
theorem dX4_comesSuit_11 : decode cX4_comesSuit 11 = .ok (.aload_n 0, 1) := by decide +kernel
theorem dX4_comesSuit_12 : decode cX4_comesSuit 12 = .ok (.getfield 13, 3) := by decide +kernel
theorem dX4_comesSuit_15 : decode cX4_comesSuit 15 = .ok (.aload_n 0, 1) := by decide +kernel
theorem dX4_comesSuit_16 : decode cX4_comesSuit 16 = .ok (.getfield 60, 3) := by decide +kernel
theorem dX4_comesSuit_19 : decode cX4_comesSuit 19 = .ok (.iload_n 1, 1) := by decide +kernel
theorem dX4_comesSuit_20 : decode cX4_comesSuit 20 = .ok (.iastore, 1) := by decide +kernel
theorem dX4_comesSuit_21 : decode cX4_comesSuit 21 = .ok (.aload_n 0, 1) := by decide +kernel
theorem dX4_comesSuit_22 : decode cX4_comesSuit 22 = .ok (.getfield 16, 3) := by decide +kernel
theorem dX4_comesSuit_25 : decode cX4_comesSuit 25 = .ok (.aload_n 0, 1) := by decide +kernel
theorem dX4_comesSuit_26 : decode cX4_comesSuit 26 = .ok (.getfield 60, 3) := by decide +kernel
theorem dX4_comesSuit_29 : decode cX4_comesSuit 29 = .ok (.iload_n 2, 1) := by decide +kernel
theorem dX4_comesSuit_30 : decode cX4_comesSuit 30 = .ok (.iastore, 1) := by decide +kernel
theorem dX4_comesSuit_31 : decode cX4_comesSuit 31 = .ok (.aload_n 0, 1) := by decide +kernel
theorem dX4_comesSuit_32 : decode cX4_comesSuit 32 = .ok (.getfield 19, 3) := by decide +kernel
theorem dX4_comesSuit_35 : decode cX4_comesSuit 35 = .ok (.aload_n 0, 1) := by decide +kernel
theorem dX4_comesSuit_36 : decode cX4_comesSuit 36 = .ok (.getfield 60, 3) := by decide +kernel
theorem dX4_comesSuit_39 : decode cX4_comesSuit 39 = .ok (.iconst 0, 1) := by decide +kernel
theorem dX4_comesSuit_40 : decode cX4_comesSuit 40 = .ok (.iastore, 1) := by decide +kernel
theorem dX4_comesSuit_41 : decode cX4_comesSuit 41 = .ok (.aload_n 0, 1) := by decide +kernel
theorem dX4_comesSuit_42 : decode cX4_comesSuit 42 = .ok (.dup, 1) := by decide +kernel
theorem dX4_comesSuit_43 : decode cX4_comesSuit 43 = .ok (.getfield 60, 3) := by decide +kernel
theorem dX4_comesSuit_46 : decode cX4_comesSuit 46 = .ok (.iconst 1, 1) := by decide +kernel
theorem dX4_comesSuit_47 : decode cX4_comesSuit 47 = .ok (.iadd, 1) := by decide +kernel
theorem dX4_comesSuit_48 : decode cX4_comesSuit 48 = .ok (.putfield 60, 3) := by decide +kernel
theorem dX4_comesSuit_51 : decode cX4_comesSuit 51 = .ok (.iconst 1, 1) := by decide +kernel
theorem dX4_comesSuit_52 : decode cX4_comesSuit 52 = .ok (.ireturn, 1) := by decide +kernel
theorem dX4_comesCaller_0 : decode cX4_comesCaller 0 = .ok (.iload_n 1, 1) := by decide +kernel
theorem dX4_comesCaller_1 : decode cX4_comesCaller 1 = .ok (.bipush 20, 2) := by decide +kernel
theorem dX4_comesCaller_3 : decode cX4_comesCaller 3 = .ok (.if_icmp .gt 11, 3) := by decide +kernel
theorem dX4_comesCaller_6 : decode cX4_comesCaller 6 = .ok (.aload_n 0, 1) := by decide +kernel
theorem dX4_comesCaller_7 : decode cX4_comesCaller 7 = .ok (.getfield 67, 3) := by decide +kernel
theorem dX4_comesCaller_10 : decode cX4_comesCaller 10 = .ok (.iconst 5, 1) := by decide +kernel
theorem dX4_comesCaller_11 : decode cX4_comesCaller 11 = .ok (.if_icmp .ne 5, 3) := by decide +kernel
theorem dX4_comesCaller_14 : decode cX4_comesCaller 14 = .ok (.iconst 0, 1) := by decide +kernel
theorem dX4_comesCaller_15 : decode cX4_comesCaller 15 = .ok (.ireturn, 1) := by decide +kernel
theorem dX4_comesCaller_16 : decode cX4_comesCaller 16 = .ok (.aload_n 0, 1) := by decide +kernel
theorem dX4_comesCaller_17 : decode cX4_comesCaller 17 = .ok (.getfield 22, 3) := by decide +kernel
theorem dX4_comesCaller_20 : decode cX4_comesCaller 20 = .ok (.aload_n 0, 1) := by decide +kernel
theorem dX4_comesCaller_21 : decode cX4_comesCaller 21 = .ok (.getfield 67, 3) := by decide +kernel
theorem dX4_comesCaller_24 : decode cX4_comesCaller 24 = .ok (.iload_n 1, 1) := by decide +kernel
theorem dX4_comesCaller_25 : decode cX4_comesCaller 25 = .ok (.iastore, 1) := by decide +kernel
theorem dX4_comesCaller_26 : decode cX4_comesCaller 26 = .ok (.aload_n 0, 1) := by decide +kernel
theorem dX4_comesCaller_27 : decode cX4_comesCaller 27 = .ok (.getfield 25, 3) := by decide +kernel
theorem dX4_comesCaller_30 : decode cX4_comesCaller 30 = .ok (.aload_n 0, 1) := by decide +kernel
theorem dX4_comesCaller_31 : decode cX4_comesCaller 31 = .ok (.getfield 67, 3) := by decide +kernel
theorem dX4_comesCaller_34 : decode cX4_comesCaller 34 = .ok (.iconst 0, 1) := by decide +kernel
theorem dX4_comesCaller_35 : decode cX4_comesCaller 35 = .ok (.iastore, 1) := by decide +kernel
theorem dX4_comesCaller_36 : decode cX4_comesCaller 36 = .ok (.aload_n 0, 1) := by decide +kernel
theorem dX4_comesCaller_37 : decode cX4_comesCaller 37 = .ok (.getfield 28, 3) := by decide +kernel
theorem dX4_comesCaller_40 : decode cX4_comesCaller 40 = .ok (.aload_n 0, 1) := by decide +kernel
theorem dX4_comesCaller_41 : decode cX4_comesCaller 41 = .ok (.getfield 67, 3) := by decide +kernel
theorem dX4_comesCaller_44 : decode cX4_comesCaller 44 = .ok (.iconst 0, 1) := by decide +kernel
theorem dX4_comesCaller_45 : decode cX4_comesCaller 45 = .ok (.iastore, 1) := by decide +kernel
theorem dX4_comesCaller_46 : decode cX4_comesCaller 46 = .ok (.aload_n 0, 1) := by decide +kernel
theorem dX4_comesCaller_47 : decode cX4_comesCaller 47 = .ok (.getfield 31, 3) := by decide +kernel
theorem dX4_comesCaller_50 : decode cX4_comesCaller 50 = .ok (.aload_n 0, 1) := by decide +kernel
theorem dX4_comesCaller_51 : decode cX4_comesCaller 51 = .ok (.getfield 67, 3) := by decide +kernel
theorem dX4_comesCaller_54 : decode cX4_comesCaller 54 = .ok (.iconst 0, 1) := by decide +kernel
theorem dX4_comesCaller_55 : decode cX4_comesCaller 55 = .ok (.iastore, 1) := by decide +kernel
theorem dX4_comesCaller_56 : decode cX4_comesCaller 56 = .ok (.aload_n 0, 1) := by decide +kernel
theorem dX4_comesCaller_57 : decode cX4_comesCaller 57 = .ok (.dup, 1) := by decide +kernel
theorem dX4_comesCaller_58 : decode cX4_comesCaller 58 = .ok (.getfield 67, 3) := by decide +kernel
theorem dX4_comesCaller_61 : decode cX4_comesCaller 61 = .ok (.iconst 1, 1) := by decide +kernel
theorem dX4_comesCaller_62 : decode cX4_comesCaller 62 = .ok (.iadd, 1) := by decide +kernel
theorem dX4_comesCaller_63 : decode cX4_comesCaller 63 = .ok (.putfield 67, 3) := by decide +kernel
theorem dX4_comesCaller_66 : decode cX4_comesCaller 66 = .ok (.iconst 1, 1) := by decide +kernel
theorem dX4_comesCaller_67 : decode cX4_comesCaller 67 = .ok (.ireturn, 1) := by decide +kernel
theorem dX4_comesOf_0 : decode cX4_comesOf 0 = .ok (.iload_n 1, 1) := by decide +kernel
theorem dX4_comesOf_1 : decode cX4_comesOf 1 = .ok (.bipush 114, 2) := by decide +kernel
theorem dX4_comesOf_3 : decode cX4_comesOf 3 = .ok (.if_icmp .ne 22, 3) := by decide +kernel
theorem dX4_comesOf_6 : decode cX4_comesOf 6 = .ok (.aload_n 0, 1) := by decide +kernel
theorem dX4_comesOf_7 : decode cX4_comesOf 7 = .ok (.iload_n 2, 1) := by decide +kernel
theorem dX4_comesOf_8 : decode cX4_comesOf 8 = .ok (.invokevirtual 109, 3) := by decide +kernel
theorem dX4_comesOf_11 : decode cX4_comesOf 11 = .ok (.ifCond .ne 5, 3) := by decide +kernel
theorem dX4_comesOf_14 : decode cX4_comesOf 14 = .ok (.iconst 0, 1) := by decide +kernel
theorem dX4_comesOf_15 : decode cX4_comesOf 15 = .ok (.ireturn, 1) := by decide +kernel
theorem dX4_comesOf_16 : decode cX4_comesOf 16 = .ok (.aload_n 0, 1) := by decide +kernel
theorem dX4_comesOf_17 : decode cX4_comesOf 17 = .ok (.getfield 19, 3) := by decide +kernel
theorem dX4_comesOf_20 : decode cX4_comesOf 20 = .ok (.iload_n 2, 1) := by decide +kernel
theorem dX4_comesOf_21 : decode cX4_comesOf 21 = .ok (.iload_n 3, 1) := by decide +kernel
theorem dX4_comesOf_22 : decode cX4_comesOf 22 = .ok (.iastore, 1) := by decide +kernel
theorem dX4_comesOf_23 : decode cX4_comesOf 23 = .ok (.iconst 1, 1) := by decide +kernel
theorem dX4_comesOf_24 : decode cX4_comesOf 24 = .ok (.ireturn, 1) := by decide +kernel
theorem dX4_comesOf_25 : decode cX4_comesOf 25 = .ok (.aload_n 0, 1) := by decide +kernel
theorem dX4_comesOf_26 : decode cX4_comesOf 26 = .ok (.iload_n 2, 1) := by decide +kernel
theorem dX4_comesOf_27 : decode cX4_comesOf 27 = .ok (.invokevirtual 112, 3) := by decide +kernel
theorem dX4_comesOf_30 : decode cX4_comesOf 30 = .ok (.ifCond .ne 5, 3) := by decide +kernel
theorem dX4_comesOf_33 : decode cX4_comesOf 33 = .ok (.iconst 0, 1) := by decide +kernel
theorem dX4_comesOf_34 : decode cX4_comesOf 34 = .ok (.ireturn, 1) := by decide +kernel
theorem dX4_comesOf_35 : decode cX4_comesOf 35 = .ok (.iload_n 1, 1) := by decide +kernel
theorem dX4_comesOf_36 : decode cX4_comesOf 36 = .ok (.bipush 119, 2) := by decide +kernel
theorem dX4_comesOf_38 : decode cX4_comesOf 38 = .ok (.if_icmp .ne 22, 3) := by decide +kernel
theorem dX4_comesOf_41 : decode cX4_comesOf 41 = .ok (.aload_n 0, 1) := by decide +kernel
theorem dX4_comesOf_42 : decode cX4_comesOf 42 = .ok (.iload_n 3, 1) := by decide +kernel
theorem dX4_comesOf_43 : decode cX4_comesOf 43 = .ok (.invokevirtual 109, 3) := by decide +kernel
theorem dX4_comesOf_46 : decode cX4_comesOf 46 = .ok (.ifCond .ne 5, 3) := by decide +kernel
theorem dX4_comesOf_49 : decode cX4_comesOf 49 = .ok (.iconst 0, 1) := by decide +kernel
theorem dX4_comesOf_50 : decode cX4_comesOf 50 = .ok (.ireturn, 1) := by decide +kernel
theorem dX4_comesOf_51 : decode cX4_comesOf 51 = .ok (.aload_n 0, 1) := by decide +kernel
theorem dX4_comesOf_52 : decode cX4_comesOf 52 = .ok (.iload_n 2, 1) := by decide +kernel
theorem dX4_comesOf_53 : decode cX4_comesOf 53 = .ok (.iload_n 3, 1) := by decide +kernel
theorem dX4_comesOf_54 : decode cX4_comesOf 54 = .ok (.invokevirtual 115, 3) := by decide +kernel
theorem dX4_comesOf_57 : decode cX4_comesOf 57 = .ok (.goto 34, 3) := by decide +kernel
theorem dX4_comesOf_60 : decode cX4_comesOf 60 = .ok (.iload_n 1, 1) := by decide +kernel
theorem dX4_comesOf_61 : decode cX4_comesOf 61 = .ok (.bipush 111, 2) := by decide +kernel
theorem dX4_comesOf_63 : decode cX4_comesOf 63 = .ok (.if_icmp .ne 13, 3) := by decide +kernel
theorem dX4_comesOf_66 : decode cX4_comesOf 66 = .ok (.aload_n 0, 1) := by decide +kernel
theorem dX4_comesOf_67 : decode cX4_comesOf 67 = .ok (.getfield 31, 3) := by decide +kernel
theorem dX4_comesOf_70 : decode cX4_comesOf 70 = .ok (.iload_n 2, 1) := by decide +kernel
theorem dX4_comesOf_71 : decode cX4_comesOf 71 = .ok (.iconst 0, 1) := by decide +kernel
theorem dX4_comesOf_72 : decode cX4_comesOf 72 = .ok (.iastore, 1) := by decide +kernel
theorem dX4_comesOf_73 : decode cX4_comesOf 73 = .ok (.goto 18, 3) := by decide +kernel
theorem dX4_comesOf_76 : decode cX4_comesOf 76 = .ok (.iload_n 3, 1) := by decide +kernel
theorem dX4_comesOf_77 : decode cX4_comesOf 77 = .ok (.bipush 20, 2) := by decide +kernel
theorem dX4_comesOf_79 : decode cX4_comesOf 79 = .ok (.if_icmp .le 5, 3) := by decide +kernel
theorem dX4_comesOf_82 : decode cX4_comesOf 82 = .ok (.iconst 0, 1) := by decide +kernel
theorem dX4_comesOf_83 : decode cX4_comesOf 83 = .ok (.ireturn, 1) := by decide +kernel
theorem dX4_comesOf_84 : decode cX4_comesOf 84 = .ok (.aload_n 0, 1) := by decide +kernel
theorem dX4_comesOf_85 : decode cX4_comesOf 85 = .ok (.getfield 22, 3) := by decide +kernel
theorem dX4_comesOf_88 : decode cX4_comesOf 88 = .ok (.iload_n 2, 1) := by decide +kernel
theorem dX4_comesOf_89 : decode cX4_comesOf 89 = .ok (.iload_n 3, 1) := by decide +kernel
theorem dX4_comesOf_90 : decode cX4_comesOf 90 = .ok (.iastore, 1) := by decide +kernel
theorem dX4_comesOf_91 : decode cX4_comesOf 91 = .ok (.iconst 1, 1) := by decide +kernel
theorem dX4_comesOf_92 : decode cX4_comesOf 92 = .ok (.ireturn, 1) := by decide +kernel
theorem dX4_comesDays_0 : decode cX4_comesDays 0 = .ok (.iload_n 1, 1) := by decide +kernel
theorem dX4_comesDays_1 : decode cX4_comesDays 1 = .ok (.iconst 1, 1) := by decide +kernel
theorem dX4_comesDays_2 : decode cX4_comesDays 2 = .ok (.bipush 60, 2) := by decide +kernel
theorem dX4_comesDays_4 : decode cX4_comesDays 4 = .ok (.invokestatic 88, 3) := by decide +kernel
theorem dX4_comesDays_7 : decode cX4_comesDays 7 = .ok (.ifCond .eq 15, 3) := by decide +kernel
theorem dX4_comesDays_10 : decode cX4_comesDays 10 = .ok (.aload_n 0, 1) := by decide +kernel
theorem dX4_comesDays_11 : decode cX4_comesDays 11 = .ok (.getfield 119, 3) := by decide +kernel
theorem dX4_comesDays_14 : decode cX4_comesDays 14 = .ok (.iload_n 1, 1) := by decide +kernel
theorem dX4_comesDays_15 : decode cX4_comesDays 15 = .ok (.iadd, 1) := by decide +kernel
theorem dX4_comesDays_16 : decode cX4_comesDays 16 = .ok (.sipush 999, 3) := by decide +kernel
theorem dX4_comesDays_19 : decode cX4_comesDays 19 = .ok (.if_icmp .le 5, 3) := by decide +kernel
theorem dX4_comesDays_22 : decode cX4_comesDays 22 = .ok (.iconst 0, 1) := by decide +kernel
theorem dX4_comesDays_23 : decode cX4_comesDays 23 = .ok (.ireturn, 1) := by decide +kernel
theorem dX4_comesDays_24 : decode cX4_comesDays 24 = .ok (.aload_n 0, 1) := by decide +kernel
theorem dX4_comesDays_25 : decode cX4_comesDays 25 = .ok (.iload_n 1, 1) := by decide +kernel
theorem dX4_comesDays_26 : decode cX4_comesDays 26 = .ok (.invokevirtual 122, 3) := by decide +kernel
theorem dX4_comesDays_29 : decode cX4_comesDays 29 = .ok (.iconst 1, 1) := by decide +kernel
theorem dX4_comesDays_30 : decode cX4_comesDays 30 = .ok (.ireturn, 1) := by decide +kernel
theorem dX4_comes_0 : decode cX4_comes 0 = .ok (.iconst 2, 1) := by decide +kernel
theorem dX4_comes_1 : decode cX4_comes 1 = .ok (.iload_n 1, 1) := by decide +kernel
theorem dX4_comes_2 : decode cX4_comes 2 = .ok (.imul, 1) := by decide +kernel
theorem dX4_comes_3 : decode cX4_comes 3 = .ok (.istore_n 2, 1) := by decide +kernel
theorem dX4_comes_4 : decode cX4_comes 4 = .ok (.aload_n 0, 1) := by decide +kernel
theorem dX4_comes_5 : decode cX4_comes 5 = .ok (.getfield 37, 3) := by decide +kernel
theorem dX4_comes_8 : decode cX4_comes 8 = .ok (.iload_n 1, 1) := by decide +kernel
theorem dX4_comes_9 : decode cX4_comes 9 = .ok (.iaload, 1) := by decide +kernel
theorem dX4_comes_10 : decode cX4_comes 10 = .ok (.lookupswitch 75 #[(99, 53), (100, 64), (115, 34)], 34) := by decide +kernel
theorem dX4_comes_44 : decode cX4_comes 44 = .ok (.aload_n 0, 1) := by decide +kernel
theorem dX4_comes_45 : decode cX4_comes 45 = .ok (.aload_n 0, 1) := by decide +kernel
theorem dX4_comes_46 : decode cX4_comes 46 = .ok (.getfield 43, 3) := by decide +kernel
theorem dX4_comes_49 : decode cX4_comes 49 = .ok (.iload_n 2, 1) := by decide +kernel
theorem dX4_comes_50 : decode cX4_comes 50 = .ok (.iaload, 1) := by decide +kernel
theorem dX4_comes_51 : decode cX4_comes 51 = .ok (.aload_n 0, 1) := by decide +kernel
theorem dX4_comes_52 : decode cX4_comes 52 = .ok (.getfield 43, 3) := by decide +kernel
theorem dX4_comes_55 : decode cX4_comes 55 = .ok (.iload_n 2, 1) := by decide +kernel
theorem dX4_comes_56 : decode cX4_comes 56 = .ok (.iconst 1, 1) := by decide +kernel
theorem dX4_comes_57 : decode cX4_comes 57 = .ok (.iadd, 1) := by decide +kernel
theorem dX4_comes_58 : decode cX4_comes 58 = .ok (.iaload, 1) := by decide +kernel
theorem dX4_comes_59 : decode cX4_comes 59 = .ok (.invokevirtual 126, 3) := by decide +kernel
theorem dX4_comes_62 : decode cX4_comes 62 = .ok (.ireturn, 1) := by decide +kernel
theorem dX4_comes_63 : decode cX4_comes 63 = .ok (.aload_n 0, 1) := by decide +kernel
theorem dX4_comes_64 : decode cX4_comes 64 = .ok (.aload_n 0, 1) := by decide +kernel
theorem dX4_comes_65 : decode cX4_comes 65 = .ok (.getfield 43, 3) := by decide +kernel
theorem dX4_comes_68 : decode cX4_comes 68 = .ok (.iload_n 2, 1) := by decide +kernel
theorem dX4_comes_69 : decode cX4_comes 69 = .ok (.iaload, 1) := by decide +kernel
theorem dX4_comes_70 : decode cX4_comes 70 = .ok (.invokevirtual 129, 3) := by decide +kernel
theorem dX4_comes_73 : decode cX4_comes 73 = .ok (.ireturn, 1) := by decide +kernel
theorem dX4_comes_74 : decode cX4_comes 74 = .ok (.aload_n 0, 1) := by decide +kernel
theorem dX4_comes_75 : decode cX4_comes 75 = .ok (.aload_n 0, 1) := by decide +kernel
theorem dX4_comes_76 : decode cX4_comes 76 = .ok (.getfield 43, 3) := by decide +kernel
theorem dX4_comes_79 : decode cX4_comes 79 = .ok (.iload_n 2, 1) := by decide +kernel
theorem dX4_comes_80 : decode cX4_comes 80 = .ok (.iaload, 1) := by decide +kernel
theorem dX4_comes_81 : decode cX4_comes 81 = .ok (.invokevirtual 132, 3) := by decide +kernel
theorem dX4_comes_84 : decode cX4_comes 84 = .ok (.ireturn, 1) := by decide +kernel
theorem dX4_comes_85 : decode cX4_comes 85 = .ok (.aload_n 0, 1) := by decide +kernel
theorem dX4_comes_86 : decode cX4_comes 86 = .ok (.aload_n 0, 1) := by decide +kernel
theorem dX4_comes_87 : decode cX4_comes 87 = .ok (.getfield 37, 3) := by decide +kernel
theorem dX4_comes_90 : decode cX4_comes 90 = .ok (.iload_n 1, 1) := by decide +kernel
theorem dX4_comes_91 : decode cX4_comes 91 = .ok (.iaload, 1) := by decide +kernel
theorem dX4_comes_92 : decode cX4_comes 92 = .ok (.aload_n 0, 1) := by decide +kernel
theorem dX4_comes_93 : decode cX4_comes 93 = .ok (.getfield 43, 3) := by decide +kernel
theorem dX4_comes_96 : decode cX4_comes 96 = .ok (.iload_n 2, 1) := by decide +kernel
theorem dX4_comes_97 : decode cX4_comes 97 = .ok (.iaload, 1) := by decide +kernel
theorem dX4_comes_98 : decode cX4_comes 98 = .ok (.aload_n 0, 1) := by decide +kernel
theorem dX4_comes_99 : decode cX4_comes 99 = .ok (.getfield 43, 3) := by decide +kernel
theorem dX4_comes_102 : decode cX4_comes 102 = .ok (.iload_n 2, 1) := by decide +kernel
theorem dX4_comes_103 : decode cX4_comes 103 = .ok (.iconst 1, 1) := by decide +kernel
theorem dX4_comes_104 : decode cX4_comes 104 = .ok (.iadd, 1) := by decide +kernel
theorem dX4_comes_105 : decode cX4_comes 105 = .ok (.iaload, 1) := by decide +kernel
theorem dX4_comes_106 : decode cX4_comes 106 = .ok (.invokevirtual 135, 3) := by decide +kernel
theorem dX4_comes_109 : decode cX4_comes 109 = .ok (.ireturn, 1) := by decide +kernel
theorem dX4_city_0 : decode cX4_city 0 = .ok (.aload_n 0, 1) := by decide +kernel
theorem dX4_city_1 : decode cX4_city 1 = .ok (.iconst 0, 1) := by decide +kernel
theorem dX4_city_2 : decode cX4_city 2 = .ok (.putfield 81, 3) := by decide +kernel
theorem dX4_city_5 : decode cX4_city 5 = .ok (.aload_n 0, 1) := by decide +kernel
theorem dX4_city_6 : decode cX4_city 6 = .ok (.iconst 0, 1) := by decide +kernel
theorem dX4_city_7 : decode cX4_city 7 = .ok (.putfield 103, 3) := by decide +kernel
theorem dX4_city_10 : decode cX4_city 10 = .ok (.iconst 1, 1) := by decide +kernel
theorem dX4_city_11 : decode cX4_city 11 = .ok (.istore_n 1, 1) := by decide +kernel
theorem dX4_city_12 : decode cX4_city 12 = .ok (.iload_n 1, 1) := by decide +kernel
theorem dX4_city_13 : decode cX4_city 13 = .ok (.ifCond .eq 47, 3) := by decide +kernel
theorem dX4_city_16 : decode cX4_city 16 = .ok (.aload_n 0, 1) := by decide +kernel
theorem dX4_city_17 : decode cX4_city 17 = .ok (.getfield 81, 3) := by decide +kernel
theorem dX4_city_20 : decode cX4_city 20 = .ok (.aload_n 0, 1) := by decide +kernel
theorem dX4_city_21 : decode cX4_city 21 = .ok (.getfield 74, 3) := by decide +kernel
theorem dX4_city_24 : decode cX4_city 24 = .ok (.if_icmp .lt 10, 3) := by decide +kernel
theorem dX4_city_27 : decode cX4_city 27 = .ok (.aload_n 0, 1) := by decide +kernel
theorem dX4_city_28 : decode cX4_city 28 = .ok (.getfield 103, 3) := by decide +kernel
theorem dX4_city_31 : decode cX4_city 31 = .ok (.ifCond .ne 29, 3) := by decide +kernel
theorem dX4_city_34 : decode cX4_city 34 = .ok (.aload_n 0, 1) := by decide +kernel
theorem dX4_city_35 : decode cX4_city 35 = .ok (.invokevirtual 138, 3) := by decide +kernel
theorem dX4_city_38 : decode cX4_city 38 = .ok (.istore_n 1, 1) := by decide +kernel
theorem dX4_city_39 : decode cX4_city 39 = .ok (.aload_n 0, 1) := by decide +kernel
theorem dX4_city_40 : decode cX4_city 40 = .ok (.dup, 1) := by decide +kernel
theorem dX4_city_41 : decode cX4_city 41 = .ok (.getfield 103, 3) := by decide +kernel
theorem dX4_city_44 : decode cX4_city 44 = .ok (.iload_n 1, 1) := by decide +kernel
theorem dX4_city_45 : decode cX4_city 45 = .ok (.ifCond .eq 7, 3) := by decide +kernel
theorem dX4_city_48 : decode cX4_city 48 = .ok (.iconst 1, 1) := by decide +kernel
theorem dX4_city_49 : decode cX4_city 49 = .ok (.goto 4, 3) := by decide +kernel
theorem dX4_city_52 : decode cX4_city 52 = .ok (.iconst 0, 1) := by decide +kernel
theorem dX4_city_53 : decode cX4_city 53 = .ok (.iadd, 1) := by decide +kernel
theorem dX4_city_54 : decode cX4_city 54 = .ok (.putfield 103, 3) := by decide +kernel
theorem dX4_city_57 : decode cX4_city 57 = .ok (.goto (-45), 3) := by decide +kernel
theorem dX4_city_60 : decode cX4_city 60 = .ok (.aload_n 0, 1) := by decide +kernel
theorem dX4_city_61 : decode cX4_city 61 = .ok (.iconst 0, 1) := by decide +kernel
theorem dX4_city_62 : decode cX4_city 62 = .ok (.putfield 74, 3) := by decide +kernel
theorem dX4_city_65 : decode cX4_city 65 = .ok (.iload_n 1, 1) := by decide +kernel
theorem dX4_city_66 : decode cX4_city 66 = .ok (.ifCond .ne 12, 3) := by decide +kernel
theorem dX4_city_69 : decode cX4_city 69 = .ok (.sipush (-1000), 3) := by decide +kernel
theorem dX4_city_72 : decode cX4_city 72 = .ok (.aload_n 0, 1) := by decide +kernel
theorem dX4_city_73 : decode cX4_city 73 = .ok (.getfield 81, 3) := by decide +kernel
theorem dX4_city_76 : decode cX4_city 76 = .ok (.isub, 1) := by decide +kernel
theorem dX4_city_77 : decode cX4_city 77 = .ok (.ireturn, 1) := by decide +kernel
theorem dX4_city_78 : decode cX4_city 78 = .ok (.aload_n 0, 1) := by decide +kernel
theorem dX4_city_79 : decode cX4_city 79 = .ok (.iconst 1, 1) := by decide +kernel
theorem dX4_city_80 : decode cX4_city 80 = .ok (.iconst 1, 1) := by decide +kernel
theorem dX4_city_81 : decode cX4_city 81 = .ok (.invokevirtual 142, 3) := by decide +kernel
theorem dX4_city_84 : decode cX4_city 84 = .ok (.iconst 0, 1) := by decide +kernel
theorem dX4_city_85 : decode cX4_city 85 = .ok (.istore_n 2, 1) := by decide +kernel
theorem dX4_city_86 : decode cX4_city 86 = .ok (.iload_n 2, 1) := by decide +kernel
theorem dX4_city_87 : decode cX4_city 87 = .ok (.aload_n 0, 1) := by decide +kernel
theorem dX4_city_88 : decode cX4_city 88 = .ok (.getfield 103, 3) := by decide +kernel
theorem dX4_city_91 : decode cX4_city 91 = .ok (.if_icmp .ge 37, 3) := by decide +kernel
theorem dX4_city_94 : decode cX4_city 94 = .ok (.aload_n 0, 1) := by decide +kernel
theorem dX4_city_95 : decode cX4_city 95 = .ok (.iload_n 2, 1) := by decide +kernel
theorem dX4_city_96 : decode cX4_city 96 = .ok (.invokevirtual 146, 3) := by decide +kernel
theorem dX4_city_99 : decode cX4_city 99 = .ok (.ifCond .eq 6, 3) := by decide +kernel
theorem dX4_city_102 : decode cX4_city 102 = .ok (.goto 20, 3) := by decide +kernel
theorem dX4_city_105 : decode cX4_city 105 = .ok (.aload_n 0, 1) := by decide +kernel
theorem dX4_city_106 : decode cX4_city 106 = .ok (.iconst 1, 1) := by decide +kernel
theorem dX4_city_107 : decode cX4_city 107 = .ok (.iconst 0, 1) := by decide +kernel
theorem dX4_city_108 : decode cX4_city 108 = .ok (.invokevirtual 142, 3) := by decide +kernel
theorem dX4_city_111 : decode cX4_city 111 = .ok (.sipush (-2000), 3) := by decide +kernel
theorem dX4_city_114 : decode cX4_city 114 = .ok (.aload_n 0, 1) := by decide +kernel
theorem dX4_city_115 : decode cX4_city 115 = .ok (.getfield 40, 3) := by decide +kernel
theorem dX4_city_118 : decode cX4_city 118 = .ok (.iload_n 2, 1) := by decide +kernel
theorem dX4_city_119 : decode cX4_city 119 = .ok (.iaload, 1) := by decide +kernel
theorem dX4_city_120 : decode cX4_city 120 = .ok (.isub, 1) := by decide +kernel
theorem dX4_city_121 : decode cX4_city 121 = .ok (.ireturn, 1) := by decide +kernel
theorem dX4_city_122 : decode cX4_city 122 = .ok (.iinc 2 1, 3) := by decide +kernel
theorem dX4_city_125 : decode cX4_city 125 = .ok (.goto (-39), 3) := by decide +kernel
theorem dX4_city_128 : decode cX4_city 128 = .ok (.aload_n 0, 1) := by decide +kernel
theorem dX4_city_129 : decode cX4_city 129 = .ok (.getfield 103, 3) := by decide +kernel
theorem dX4_city_132 : decode cX4_city 132 = .ok (.ireturn, 1) := by decide +kernel
theorem dX4_passes_0 : decode cX4_passes 0 = .ok (.iconst 0, 1) := by decide +kernel
theorem dX4_passes_1 : decode cX4_passes 1 = .ok (.istore_n 2, 1) := by decide +kernel
theorem dX4_passes_2 : decode cX4_passes 2 = .ok (.iload_n 2, 1) := by decide +kernel
theorem dX4_passes_3 : decode cX4_passes 3 = .ok (.aload_n 1, 1) := by decide +kernel
theorem dX4_passes_4 : decode cX4_passes 4 = .ok (.arraylength, 1) := by decide +kernel
theorem dX4_passes_5 : decode cX4_passes 5 = .ok (.if_icmp .ge 53, 3) := by decide +kernel
theorem dX4_passes_8 : decode cX4_passes 8 = .ok (.aload_n 0, 1) := by decide +kernel
theorem dX4_passes_9 : decode cX4_passes 9 = .ok (.getfield 149, 3) := by decide +kernel
theorem dX4_passes_12 : decode cX4_passes 12 = .ok (.ifCond .eq 18, 3) := by decide +kernel
theorem dX4_passes_15 : decode cX4_passes 15 = .ok (.aload_n 0, 1) := by decide +kernel
theorem dX4_passes_16 : decode cX4_passes 16 = .ok (.getfield 46, 3) := by decide +kernel
theorem dX4_passes_19 : decode cX4_passes 19 = .ok (.aload_n 0, 1) := by decide +kernel
theorem dX4_passes_20 : decode cX4_passes 20 = .ok (.getfield 153, 3) := by decide +kernel
theorem dX4_passes_23 : decode cX4_passes 23 = .ok (.aload_n 1, 1) := by decide +kernel
theorem dX4_passes_24 : decode cX4_passes 24 = .ok (.iload_n 2, 1) := by decide +kernel
theorem dX4_passes_25 : decode cX4_passes 25 = .ok (.iaload, 1) := by decide +kernel
theorem dX4_passes_26 : decode cX4_passes 26 = .ok (.iastore, 1) := by decide +kernel
theorem dX4_passes_27 : decode cX4_passes 27 = .ok (.goto 15, 3) := by decide +kernel
theorem dX4_passes_30 : decode cX4_passes 30 = .ok (.aload_n 1, 1) := by decide +kernel
theorem dX4_passes_31 : decode cX4_passes 31 = .ok (.iload_n 2, 1) := by decide +kernel
theorem dX4_passes_32 : decode cX4_passes 32 = .ok (.aload_n 0, 1) := by decide +kernel
theorem dX4_passes_33 : decode cX4_passes 33 = .ok (.getfield 46, 3) := by decide +kernel
theorem dX4_passes_36 : decode cX4_passes 36 = .ok (.aload_n 0, 1) := by decide +kernel
theorem dX4_passes_37 : decode cX4_passes 37 = .ok (.getfield 153, 3) := by decide +kernel
theorem dX4_passes_40 : decode cX4_passes 40 = .ok (.iaload, 1) := by decide +kernel
theorem dX4_passes_41 : decode cX4_passes 41 = .ok (.iastore, 1) := by decide +kernel
theorem dX4_passes_42 : decode cX4_passes 42 = .ok (.aload_n 0, 1) := by decide +kernel
theorem dX4_passes_43 : decode cX4_passes 43 = .ok (.dup, 1) := by decide +kernel
theorem dX4_passes_44 : decode cX4_passes 44 = .ok (.getfield 153, 3) := by decide +kernel
theorem dX4_passes_47 : decode cX4_passes 47 = .ok (.iconst 1, 1) := by decide +kernel
theorem dX4_passes_48 : decode cX4_passes 48 = .ok (.iadd, 1) := by decide +kernel
theorem dX4_passes_49 : decode cX4_passes 49 = .ok (.putfield 153, 3) := by decide +kernel
theorem dX4_passes_52 : decode cX4_passes 52 = .ok (.iinc 2 1, 3) := by decide +kernel
theorem dX4_passes_55 : decode cX4_passes 55 = .ok (.goto (-53), 3) := by decide +kernel
theorem dX4_passes_58 : decode cX4_passes 58 = .ok (.return_, 1) := by decide +kernel
theorem dX4_passOne_0 : decode cX4_passOne 0 = .ok (.aload_n 0, 1) := by decide +kernel
theorem dX4_passOne_1 : decode cX4_passOne 1 = .ok (.getfield 149, 3) := by decide +kernel
theorem dX4_passOne_4 : decode cX4_passOne 4 = .ok (.ifCond .eq 7, 3) := by decide +kernel
theorem dX4_passOne_7 : decode cX4_passOne 7 = .ok (.iload_n 1, 1) := by decide +kernel
theorem dX4_passOne_8 : decode cX4_passOne 8 = .ok (.goto 12, 3) := by decide +kernel
theorem dX4_passOne_11 : decode cX4_passOne 11 = .ok (.aload_n 0, 1) := by decide +kernel
theorem dX4_passOne_12 : decode cX4_passOne 12 = .ok (.getfield 46, 3) := by decide +kernel
theorem dX4_passOne_15 : decode cX4_passOne 15 = .ok (.aload_n 0, 1) := by decide +kernel
theorem dX4_passOne_16 : decode cX4_passOne 16 = .ok (.getfield 153, 3) := by decide +kernel
theorem dX4_passOne_19 : decode cX4_passOne 19 = .ok (.iaload, 1) := by decide +kernel
theorem dX4_passOne_20 : decode cX4_passOne 20 = .ok (.istore_n 2, 1) := by decide +kernel
theorem dX4_passOne_21 : decode cX4_passOne 21 = .ok (.aload_n 0, 1) := by decide +kernel
theorem dX4_passOne_22 : decode cX4_passOne 22 = .ok (.getfield 149, 3) := by decide +kernel
theorem dX4_passOne_25 : decode cX4_passOne 25 = .ok (.ifCond .eq 13, 3) := by decide +kernel
theorem dX4_passOne_28 : decode cX4_passOne 28 = .ok (.aload_n 0, 1) := by decide +kernel
theorem dX4_passOne_29 : decode cX4_passOne 29 = .ok (.getfield 46, 3) := by decide +kernel
theorem dX4_passOne_32 : decode cX4_passOne 32 = .ok (.aload_n 0, 1) := by decide +kernel
theorem dX4_passOne_33 : decode cX4_passOne 33 = .ok (.getfield 153, 3) := by decide +kernel
theorem dX4_passOne_36 : decode cX4_passOne 36 = .ok (.iload_n 1, 1) := by decide +kernel
theorem dX4_passOne_37 : decode cX4_passOne 37 = .ok (.iastore, 1) := by decide +kernel
theorem dX4_passOne_38 : decode cX4_passOne 38 = .ok (.aload_n 0, 1) := by decide +kernel
theorem dX4_passOne_39 : decode cX4_passOne 39 = .ok (.dup, 1) := by decide +kernel
theorem dX4_passOne_40 : decode cX4_passOne 40 = .ok (.getfield 153, 3) := by decide +kernel
theorem dX4_passOne_43 : decode cX4_passOne 43 = .ok (.iconst 1, 1) := by decide +kernel
theorem dX4_passOne_44 : decode cX4_passOne 44 = .ok (.iadd, 1) := by decide +kernel
theorem dX4_passOne_45 : decode cX4_passOne 45 = .ok (.putfield 153, 3) := by decide +kernel
theorem dX4_passOne_48 : decode cX4_passOne 48 = .ok (.iload_n 2, 1) := by decide +kernel
theorem dX4_passOne_49 : decode cX4_passOne 49 = .ok (.ireturn, 1) := by decide +kernel
theorem dX4_passesAll_0 : decode cX4_passesAll 0 = .ok (.aload_n 0, 1) := by decide +kernel
theorem dX4_passesAll_1 : decode cX4_passesAll 1 = .ok (.bipush 42, 2) := by decide +kernel
theorem dX4_passesAll_3 : decode cX4_passesAll 3 = .ok (.iload_n 1, 1) := by decide +kernel
theorem dX4_passesAll_4 : decode cX4_passesAll 4 = .ok (.imul, 1) := by decide +kernel
theorem dX4_passesAll_5 : decode cX4_passesAll 5 = .ok (.putfield 153, 3) := by decide +kernel
theorem dX4_passesAll_8 : decode cX4_passesAll 8 = .ok (.aload_n 0, 1) := by decide +kernel
theorem dX4_passesAll_9 : decode cX4_passesAll 9 = .ok (.iload_n 2, 1) := by decide +kernel
theorem dX4_passesAll_10 : decode cX4_passesAll 10 = .ok (.putfield 149, 3) := by decide +kernel
theorem dX4_passesAll_13 : decode cX4_passesAll 13 = .ok (.aload_n 0, 1) := by decide +kernel
theorem dX4_passesAll_14 : decode cX4_passesAll 14 = .ok (.aload_n 0, 1) := by decide +kernel
theorem dX4_passesAll_15 : decode cX4_passesAll 15 = .ok (.getfield 13, 3) := by decide +kernel
theorem dX4_passesAll_18 : decode cX4_passesAll 18 = .ok (.invokevirtual 156, 3) := by decide +kernel
theorem dX4_passesAll_21 : decode cX4_passesAll 21 = .ok (.aload_n 0, 1) := by decide +kernel
theorem dX4_passesAll_22 : decode cX4_passesAll 22 = .ok (.aload_n 0, 1) := by decide +kernel
theorem dX4_passesAll_23 : decode cX4_passesAll 23 = .ok (.getfield 16, 3) := by decide +kernel
theorem dX4_passesAll_26 : decode cX4_passesAll 26 = .ok (.invokevirtual 156, 3) := by decide +kernel
theorem dX4_passesAll_29 : decode cX4_passesAll 29 = .ok (.aload_n 0, 1) := by decide +kernel
theorem dX4_passesAll_30 : decode cX4_passesAll 30 = .ok (.aload_n 0, 1) := by decide +kernel
theorem dX4_passesAll_31 : decode cX4_passesAll 31 = .ok (.getfield 19, 3) := by decide +kernel
theorem dX4_passesAll_34 : decode cX4_passesAll 34 = .ok (.invokevirtual 156, 3) := by decide +kernel
theorem dX4_passesAll_37 : decode cX4_passesAll 37 = .ok (.aload_n 0, 1) := by decide +kernel
theorem dX4_passesAll_38 : decode cX4_passesAll 38 = .ok (.aload_n 0, 1) := by decide +kernel
theorem dX4_passesAll_39 : decode cX4_passesAll 39 = .ok (.getfield 22, 3) := by decide +kernel
theorem dX4_passesAll_42 : decode cX4_passesAll 42 = .ok (.invokevirtual 156, 3) := by decide +kernel
theorem dX4_passesAll_45 : decode cX4_passesAll 45 = .ok (.aload_n 0, 1) := by decide +kernel
theorem dX4_passesAll_46 : decode cX4_passesAll 46 = .ok (.aload_n 0, 1) := by decide +kernel
theorem dX4_passesAll_47 : decode cX4_passesAll 47 = .ok (.getfield 25, 3) := by decide +kernel
theorem dX4_passesAll_50 : decode cX4_passesAll 50 = .ok (.invokevirtual 156, 3) := by decide +kernel
theorem dX4_passesAll_53 : decode cX4_passesAll 53 = .ok (.aload_n 0, 1) := by decide +kernel
theorem dX4_passesAll_54 : decode cX4_passesAll 54 = .ok (.aload_n 0, 1) := by decide +kernel
theorem dX4_passesAll_55 : decode cX4_passesAll 55 = .ok (.getfield 28, 3) := by decide +kernel
theorem dX4_passesAll_58 : decode cX4_passesAll 58 = .ok (.invokevirtual 156, 3) := by decide +kernel
theorem dX4_passesAll_61 : decode cX4_passesAll 61 = .ok (.aload_n 0, 1) := by decide +kernel
theorem dX4_passesAll_62 : decode cX4_passesAll 62 = .ok (.aload_n 0, 1) := by decide +kernel
theorem dX4_passesAll_63 : decode cX4_passesAll 63 = .ok (.getfield 31, 3) := by decide +kernel
theorem dX4_passesAll_66 : decode cX4_passesAll 66 = .ok (.invokevirtual 156, 3) := by decide +kernel
theorem dX4_passesAll_69 : decode cX4_passesAll 69 = .ok (.aload_n 0, 1) := by decide +kernel
theorem dX4_passesAll_70 : decode cX4_passesAll 70 = .ok (.aload_n 0, 1) := by decide +kernel
theorem dX4_passesAll_71 : decode cX4_passesAll 71 = .ok (.aload_n 0, 1) := by decide +kernel
theorem dX4_passesAll_72 : decode cX4_passesAll 72 = .ok (.getfield 60, 3) := by decide +kernel
theorem dX4_passesAll_75 : decode cX4_passesAll 75 = .ok (.invokevirtual 160, 3) := by decide +kernel
theorem dX4_passesAll_78 : decode cX4_passesAll 78 = .ok (.putfield 60, 3) := by decide +kernel
theorem dX4_passesAll_81 : decode cX4_passesAll 81 = .ok (.aload_n 0, 1) := by decide +kernel
theorem dX4_passesAll_82 : decode cX4_passesAll 82 = .ok (.aload_n 0, 1) := by decide +kernel
theorem dX4_passesAll_83 : decode cX4_passesAll 83 = .ok (.aload_n 0, 1) := by decide +kernel
theorem dX4_passesAll_84 : decode cX4_passesAll 84 = .ok (.getfield 67, 3) := by decide +kernel
theorem dX4_passesAll_87 : decode cX4_passesAll 87 = .ok (.invokevirtual 160, 3) := by decide +kernel
theorem dX4_passesAll_90 : decode cX4_passesAll 90 = .ok (.putfield 67, 3) := by decide +kernel
theorem dX4_passesAll_93 : decode cX4_passesAll 93 = .ok (.aload_n 0, 1) := by decide +kernel
theorem dX4_passesAll_94 : decode cX4_passesAll 94 = .ok (.aload_n 0, 1) := by decide +kernel
theorem dX4_passesAll_95 : decode cX4_passesAll 95 = .ok (.aload_n 0, 1) := by decide +kernel
theorem dX4_passesAll_96 : decode cX4_passesAll 96 = .ok (.getfield 163, 3) := by decide +kernel
theorem dX4_passesAll_99 : decode cX4_passesAll 99 = .ok (.invokevirtual 160, 3) := by decide +kernel
theorem dX4_passesAll_102 : decode cX4_passesAll 102 = .ok (.putfield 163, 3) := by decide +kernel
theorem dX4_passesAll_105 : decode cX4_passesAll 105 = .ok (.aload_n 0, 1) := by decide +kernel
theorem dX4_passesAll_106 : decode cX4_passesAll 106 = .ok (.aload_n 0, 1) := by decide +kernel
theorem dX4_passesAll_107 : decode cX4_passesAll 107 = .ok (.aload_n 0, 1) := by decide +kernel
theorem dX4_passesAll_108 : decode cX4_passesAll 108 = .ok (.getfield 119, 3) := by decide +kernel
theorem dX4_passesAll_111 : decode cX4_passesAll 111 = .ok (.invokevirtual 160, 3) := by decide +kernel
theorem dX4_passesAll_114 : decode cX4_passesAll 114 = .ok (.putfield 119, 3) := by decide +kernel
theorem dX4_passesAll_117 : decode cX4_passesAll 117 = .ok (.return_, 1) := by decide +kernel
theorem dX4_thinks_0 : decode cX4_thinks 0 = .ok (.aload_n 0, 1) := by decide +kernel
theorem dX4_thinks_1 : decode cX4_thinks 1 = .ok (.iconst 2, 1) := by decide +kernel
theorem dX4_thinks_2 : decode cX4_thinks 2 = .ok (.iconst 1, 1) := by decide +kernel
theorem dX4_thinks_3 : decode cX4_thinks 3 = .ok (.invokevirtual 142, 3) := by decide +kernel
theorem dX4_thinks_6 : decode cX4_thinks 6 = .ok (.return_, 1) := by decide +kernel
theorem dX4_forgets_0 : decode cX4_forgets 0 = .ok (.aload_n 0, 1) := by decide +kernel
theorem dX4_forgets_1 : decode cX4_forgets 1 = .ok (.iconst 2, 1) := by decide +kernel
theorem dX4_forgets_2 : decode cX4_forgets 2 = .ok (.iconst 0, 1) := by decide +kernel
theorem dX4_forgets_3 : decode cX4_forgets 3 = .ok (.invokevirtual 142, 3) := by decide +kernel
theorem dX4_forgets_6 : decode cX4_forgets 6 = .ok (.return_, 1) := by decide +kernel
theorem dX4_image_0 : decode cX4_image 0 = .ok (.aload_n 0, 1) := by decide +kernel
theorem dX4_image_1 : decode cX4_image 1 = .ok (.iconst 1, 1) := by decide +kernel
theorem dX4_image_2 : decode cX4_image 2 = .ok (.putfield 166, 3) := by decide +kernel
theorem dX4_image_5 : decode cX4_image 5 = .ok (.aload_n 0, 1) := by decide +kernel
theorem dX4_image_6 : decode cX4_image 6 = .ok (.iconst 0, 1) := by decide +kernel
theorem dX4_image_7 : decode cX4_image 7 = .ok (.iconst 1, 1) := by decide +kernel
theorem dX4_image_8 : decode cX4_image 8 = .ok (.invokevirtual 142, 3) := by decide +kernel
theorem dX4_image_11 : decode cX4_image 11 = .ok (.aload_n 0, 1) := by decide +kernel
theorem dX4_image_12 : decode cX4_image 12 = .ok (.getfield 119, 3) := by decide +kernel
theorem dX4_image_15 : decode cX4_image 15 = .ok (.ireturn, 1) := by decide +kernel
theorem dX4_on_0 : decode cX4_on 0 = .ok (.aload_n 0, 1) := by decide +kernel
theorem dX4_on_1 : decode cX4_on 1 = .ok (.getfield 166, 3) := by decide +kernel
theorem dX4_on_4 : decode cX4_on 4 = .ok (.ifCond .ne 10, 3) := by decide +kernel
theorem dX4_on_7 : decode cX4_on 7 = .ok (.aload_n 0, 1) := by decide +kernel
theorem dX4_on_8 : decode cX4_on 8 = .ok (.bipush (-3), 2) := by decide +kernel
theorem dX4_on_10 : decode cX4_on 10 = .ok (.invokevirtual 77, 3) := by decide +kernel
theorem dX4_on_13 : decode cX4_on 13 = .ok (.ireturn, 1) := by decide +kernel
theorem dX4_on_14 : decode cX4_on 14 = .ok (.aload_n 0, 1) := by decide +kernel
theorem dX4_on_15 : decode cX4_on 15 = .ok (.iconst 0, 1) := by decide +kernel
theorem dX4_on_16 : decode cX4_on 16 = .ok (.iconst 0, 1) := by decide +kernel
theorem dX4_on_17 : decode cX4_on 17 = .ok (.invokevirtual 142, 3) := by decide +kernel
theorem dX4_on_20 : decode cX4_on 20 = .ok (.aload_n 0, 1) := by decide +kernel
theorem dX4_on_21 : decode cX4_on 21 = .ok (.getfield 119, 3) := by decide +kernel
theorem dX4_on_24 : decode cX4_on 24 = .ok (.ireturn, 1) := by decide +kernel
theorem dX4_covers_0 : decode cX4_covers 0 = .ok (.aload_n 0, 1) := by decide +kernel
theorem dX4_covers_1 : decode cX4_covers 1 = .ok (.getfield 16, 3) := by decide +kernel
theorem dX4_covers_4 : decode cX4_covers 4 = .ok (.iload_n 1, 1) := by decide +kernel
theorem dX4_covers_5 : decode cX4_covers 5 = .ok (.iaload, 1) := by decide +kernel
theorem dX4_covers_6 : decode cX4_covers 6 = .ok (.iconst 4, 1) := by decide +kernel
theorem dX4_covers_7 : decode cX4_covers 7 = .ok (.iadd, 1) := by decide +kernel
theorem dX4_covers_8 : decode cX4_covers 8 = .ok (.aload_n 0, 1) := by decide +kernel
theorem dX4_covers_9 : decode cX4_covers 9 = .ok (.getfield 19, 3) := by decide +kernel
theorem dX4_covers_12 : decode cX4_covers 12 = .ok (.iload_n 1, 1) := by decide +kernel
theorem dX4_covers_13 : decode cX4_covers 13 = .ok (.iaload, 1) := by decide +kernel
theorem dX4_covers_14 : decode cX4_covers 14 = .ok (.if_icmp .le 21, 3) := by decide +kernel
theorem dX4_covers_17 : decode cX4_covers 17 = .ok (.aload_n 0, 1) := by decide +kernel
theorem dX4_covers_18 : decode cX4_covers 18 = .ok (.getfield 16, 3) := by decide +kernel
theorem dX4_covers_21 : decode cX4_covers 21 = .ok (.iload_n 1, 1) := by decide +kernel
theorem dX4_covers_22 : decode cX4_covers 22 = .ok (.iaload, 1) := by decide +kernel
theorem dX4_covers_23 : decode cX4_covers 23 = .ok (.iconst 4, 1) := by decide +kernel
theorem dX4_covers_24 : decode cX4_covers 24 = .ok (.iadd, 1) := by decide +kernel
theorem dX4_covers_25 : decode cX4_covers 25 = .ok (.aload_n 0, 1) := by decide +kernel
theorem dX4_covers_26 : decode cX4_covers 26 = .ok (.getfield 19, 3) := by decide +kernel
theorem dX4_covers_29 : decode cX4_covers 29 = .ok (.iload_n 1, 1) := by decide +kernel
theorem dX4_covers_30 : decode cX4_covers 30 = .ok (.iaload, 1) := by decide +kernel
theorem dX4_covers_31 : decode cX4_covers 31 = .ok (.isub, 1) := by decide +kernel
theorem dX4_covers_32 : decode cX4_covers 32 = .ok (.goto 4, 3) := by decide +kernel
theorem dX4_covers_35 : decode cX4_covers 35 = .ok (.iconst 0, 1) := by decide +kernel
theorem dX4_covers_36 : decode cX4_covers 36 = .ok (.istore_n 2, 1) := by decide +kernel
theorem dX4_covers_37 : decode cX4_covers 37 = .ok (.aload_n 0, 1) := by decide +kernel
theorem dX4_covers_38 : decode cX4_covers 38 = .ok (.getfield 13, 3) := by decide +kernel
theorem dX4_covers_41 : decode cX4_covers 41 = .ok (.iload_n 1, 1) := by decide +kernel
theorem dX4_covers_42 : decode cX4_covers 42 = .ok (.iaload, 1) := by decide +kernel
theorem dX4_covers_43 : decode cX4_covers 43 = .ok (.tableswitch 60 1 5 #[33, 46, 50, 54, 33], 33) := by decide +kernel
theorem dX4_covers_76 : decode cX4_covers 76 = .ok (.iload_n 2, 1) := by decide +kernel
theorem dX4_covers_77 : decode cX4_covers 77 = .ok (.iconst 2, 1) := by decide +kernel
theorem dX4_covers_78 : decode cX4_covers 78 = .ok (.if_icmp .le 9, 3) := by decide +kernel
theorem dX4_covers_81 : decode cX4_covers 81 = .ok (.iload_n 2, 1) := by decide +kernel
theorem dX4_covers_82 : decode cX4_covers 82 = .ok (.iconst 2, 1) := by decide +kernel
theorem dX4_covers_83 : decode cX4_covers 83 = .ok (.isub, 1) := by decide +kernel
theorem dX4_covers_84 : decode cX4_covers 84 = .ok (.goto 4, 3) := by decide +kernel
theorem dX4_covers_87 : decode cX4_covers 87 = .ok (.iconst 0, 1) := by decide +kernel
theorem dX4_covers_88 : decode cX4_covers 88 = .ok (.ireturn, 1) := by decide +kernel
theorem dX4_covers_89 : decode cX4_covers 89 = .ok (.iload_n 2, 1) := by decide +kernel
theorem dX4_covers_90 : decode cX4_covers 90 = .ok (.iconst 2, 1) := by decide +kernel
theorem dX4_covers_91 : decode cX4_covers 91 = .ok (.idiv, 1) := by decide +kernel
theorem dX4_covers_92 : decode cX4_covers 92 = .ok (.ireturn, 1) := by decide +kernel
theorem dX4_covers_93 : decode cX4_covers 93 = .ok (.iconst 2, 1) := by decide +kernel
theorem dX4_covers_94 : decode cX4_covers 94 = .ok (.iload_n 2, 1) := by decide +kernel
theorem dX4_covers_95 : decode cX4_covers 95 = .ok (.imul, 1) := by decide +kernel
theorem dX4_covers_96 : decode cX4_covers 96 = .ok (.ireturn, 1) := by decide +kernel
theorem dX4_covers_97 : decode cX4_covers 97 = .ok (.iconst 2, 1) := by decide +kernel
theorem dX4_covers_98 : decode cX4_covers 98 = .ok (.iload_n 2, 1) := by decide +kernel
theorem dX4_covers_99 : decode cX4_covers 99 = .ok (.imul, 1) := by decide +kernel
theorem dX4_covers_100 : decode cX4_covers 100 = .ok (.iconst 5, 1) := by decide +kernel
theorem dX4_covers_101 : decode cX4_covers 101 = .ok (.iadd, 1) := by decide +kernel
theorem dX4_covers_102 : decode cX4_covers 102 = .ok (.ireturn, 1) := by decide +kernel
theorem dX4_covers_103 : decode cX4_covers 103 = .ok (.iload_n 2, 1) := by decide +kernel
theorem dX4_covers_104 : decode cX4_covers 104 = .ok (.ireturn, 1) := by decide +kernel
theorem dX4_chafes_0 : decode cX4_chafes 0 = .ok (.aload_n 0, 1) := by decide +kernel
theorem dX4_chafes_1 : decode cX4_chafes 1 = .ok (.getfield 13, 3) := by decide +kernel
theorem dX4_chafes_4 : decode cX4_chafes 4 = .ok (.iload_n 1, 1) := by decide +kernel
theorem dX4_chafes_5 : decode cX4_chafes 5 = .ok (.iaload, 1) := by decide +kernel
theorem dX4_chafes_6 : decode cX4_chafes 6 = .ok (.tableswitch 57 1 5 #[34, 36, 38, 40, 51], 34) := by decide +kernel
theorem dX4_chafes_40 : decode cX4_chafes 40 = .ok (.iconst 1, 1) := by decide +kernel
theorem dX4_chafes_41 : decode cX4_chafes 41 = .ok (.ireturn, 1) := by decide +kernel
theorem dX4_chafes_42 : decode cX4_chafes 42 = .ok (.iconst 0, 1) := by decide +kernel
theorem dX4_chafes_43 : decode cX4_chafes 43 = .ok (.ireturn, 1) := by decide +kernel
theorem dX4_chafes_44 : decode cX4_chafes 44 = .ok (.iconst 3, 1) := by decide +kernel
theorem dX4_chafes_45 : decode cX4_chafes 45 = .ok (.ireturn, 1) := by decide +kernel
theorem dX4_chafes_46 : decode cX4_chafes 46 = .ok (.iconst 3, 1) := by decide +kernel
theorem dX4_chafes_47 : decode cX4_chafes 47 = .ok (.aload_n 0, 1) := by decide +kernel
theorem dX4_chafes_48 : decode cX4_chafes 48 = .ok (.getfield 19, 3) := by decide +kernel
theorem dX4_chafes_51 : decode cX4_chafes 51 = .ok (.iload_n 1, 1) := by decide +kernel
theorem dX4_chafes_52 : decode cX4_chafes 52 = .ok (.iaload, 1) := by decide +kernel
theorem dX4_chafes_53 : decode cX4_chafes 53 = .ok (.iconst 3, 1) := by decide +kernel
theorem dX4_chafes_54 : decode cX4_chafes 54 = .ok (.idiv, 1) := by decide +kernel
theorem dX4_chafes_55 : decode cX4_chafes 55 = .ok (.iadd, 1) := by decide +kernel
theorem dX4_chafes_56 : decode cX4_chafes 56 = .ok (.ireturn, 1) := by decide +kernel
theorem dX4_chafes_57 : decode cX4_chafes 57 = .ok (.iconst 1, 1) := by decide +kernel
theorem dX4_chafes_58 : decode cX4_chafes 58 = .ok (.iload_n 2, 1) := by decide +kernel
theorem dX4_chafes_59 : decode cX4_chafes 59 = .ok (.iconst 2, 1) := by decide +kernel
theorem dX4_chafes_60 : decode cX4_chafes 60 = .ok (.irem, 1) := by decide +kernel
theorem dX4_chafes_61 : decode cX4_chafes 61 = .ok (.iadd, 1) := by decide +kernel
theorem dX4_chafes_62 : decode cX4_chafes 62 = .ok (.ireturn, 1) := by decide +kernel
theorem dX4_chafes_63 : decode cX4_chafes 63 = .ok (.iconst 2, 1) := by decide +kernel
theorem dX4_chafes_64 : decode cX4_chafes 64 = .ok (.ireturn, 1) := by decide +kernel
theorem dX4_costs_0 : decode cX4_costs 0 = .ok (.aload_n 0, 1) := by decide +kernel
theorem dX4_costs_1 : decode cX4_costs 1 = .ok (.getfield 13, 3) := by decide +kernel
theorem dX4_costs_4 : decode cX4_costs 4 = .ok (.iload_n 1, 1) := by decide +kernel
theorem dX4_costs_5 : decode cX4_costs 5 = .ok (.iaload, 1) := by decide +kernel
theorem dX4_costs_6 : decode cX4_costs 6 = .ok (.tableswitch 43 1 5 #[34, 36, 38, 38, 41], 34) := by decide +kernel
theorem dX4_costs_40 : decode cX4_costs 40 = .ok (.iconst 2, 1) := by decide +kernel
theorem dX4_costs_41 : decode cX4_costs 41 = .ok (.ireturn, 1) := by decide +kernel
theorem dX4_costs_42 : decode cX4_costs 42 = .ok (.iconst 1, 1) := by decide +kernel
theorem dX4_costs_43 : decode cX4_costs 43 = .ok (.ireturn, 1) := by decide +kernel
theorem dX4_costs_44 : decode cX4_costs 44 = .ok (.bipush 6, 2) := by decide +kernel
theorem dX4_costs_46 : decode cX4_costs 46 = .ok (.ireturn, 1) := by decide +kernel
theorem dX4_costs_47 : decode cX4_costs 47 = .ok (.iconst 0, 1) := by decide +kernel
theorem dX4_costs_48 : decode cX4_costs 48 = .ok (.ireturn, 1) := by decide +kernel
theorem dX4_costs_49 : decode cX4_costs 49 = .ok (.iconst 3, 1) := by decide +kernel
theorem dX4_costs_50 : decode cX4_costs 50 = .ok (.ireturn, 1) := by decide +kernel
theorem dX4_wearerOf_0 : decode cX4_wearerOf 0 = .ok (.iconst 0, 1) := by decide +kernel
theorem dX4_wearerOf_1 : decode cX4_wearerOf 1 = .ok (.istore_n 2, 1) := by decide +kernel
theorem dX4_wearerOf_2 : decode cX4_wearerOf 2 = .ok (.iload_n 2, 1) := by decide +kernel
theorem dX4_wearerOf_3 : decode cX4_wearerOf 3 = .ok (.aload_n 0, 1) := by decide +kernel
theorem dX4_wearerOf_4 : decode cX4_wearerOf 4 = .ok (.getfield 67, 3) := by decide +kernel
theorem dX4_wearerOf_7 : decode cX4_wearerOf 7 = .ok (.if_icmp .ge 23, 3) := by decide +kernel
theorem dX4_wearerOf_10 : decode cX4_wearerOf 10 = .ok (.aload_n 0, 1) := by decide +kernel
theorem dX4_wearerOf_11 : decode cX4_wearerOf 11 = .ok (.getfield 31, 3) := by decide +kernel
theorem dX4_wearerOf_14 : decode cX4_wearerOf 14 = .ok (.iload_n 2, 1) := by decide +kernel
theorem dX4_wearerOf_15 : decode cX4_wearerOf 15 = .ok (.iaload, 1) := by decide +kernel
theorem dX4_wearerOf_16 : decode cX4_wearerOf 16 = .ok (.iload_n 1, 1) := by decide +kernel
theorem dX4_wearerOf_17 : decode cX4_wearerOf 17 = .ok (.iconst 1, 1) := by decide +kernel
theorem dX4_wearerOf_18 : decode cX4_wearerOf 18 = .ok (.iadd, 1) := by decide +kernel
theorem dX4_wearerOf_19 : decode cX4_wearerOf 19 = .ok (.if_icmp .ne 5, 3) := by decide +kernel
theorem dX4_wearerOf_22 : decode cX4_wearerOf 22 = .ok (.iload_n 2, 1) := by decide +kernel
theorem dX4_wearerOf_23 : decode cX4_wearerOf 23 = .ok (.ireturn, 1) := by decide +kernel
theorem dX4_wearerOf_24 : decode cX4_wearerOf 24 = .ok (.iinc 2 1, 3) := by decide +kernel
theorem dX4_wearerOf_27 : decode cX4_wearerOf 27 = .ok (.goto (-25), 3) := by decide +kernel
theorem dX4_wearerOf_30 : decode cX4_wearerOf 30 = .ok (.bipush (-9), 2) := by decide +kernel
theorem dX4_wearerOf_32 : decode cX4_wearerOf 32 = .ok (.ireturn, 1) := by decide +kernel
theorem dX4_putsOn_0 : decode cX4_putsOn 0 = .ok (.aload_n 0, 1) := by decide +kernel
theorem dX4_putsOn_1 : decode cX4_putsOn 1 = .ok (.iload_n 2, 1) := by decide +kernel
theorem dX4_putsOn_2 : decode cX4_putsOn 2 = .ok (.invokevirtual 169, 3) := by decide +kernel
theorem dX4_putsOn_5 : decode cX4_putsOn 5 = .ok (.istore_n 3, 1) := by decide +kernel
theorem dX4_putsOn_6 : decode cX4_putsOn 6 = .ok (.iload_n 3, 1) := by decide +kernel
theorem dX4_putsOn_7 : decode cX4_putsOn 7 = .ok (.ifCond .lt 10, 3) := by decide +kernel
theorem dX4_putsOn_10 : decode cX4_putsOn 10 = .ok (.aload_n 0, 1) := by decide +kernel
theorem dX4_putsOn_11 : decode cX4_putsOn 11 = .ok (.getfield 31, 3) := by decide +kernel
theorem dX4_putsOn_14 : decode cX4_putsOn 14 = .ok (.iload_n 3, 1) := by decide +kernel
theorem dX4_putsOn_15 : decode cX4_putsOn 15 = .ok (.iconst 0, 1) := by decide +kernel
theorem dX4_putsOn_16 : decode cX4_putsOn 16 = .ok (.iastore, 1) := by decide +kernel
theorem dX4_putsOn_17 : decode cX4_putsOn 17 = .ok (.aload_n 0, 1) := by decide +kernel
theorem dX4_putsOn_18 : decode cX4_putsOn 18 = .ok (.getfield 31, 3) := by decide +kernel
theorem dX4_putsOn_21 : decode cX4_putsOn 21 = .ok (.iload_n 1, 1) := by decide +kernel
theorem dX4_putsOn_22 : decode cX4_putsOn 22 = .ok (.iload_n 2, 1) := by decide +kernel
theorem dX4_putsOn_23 : decode cX4_putsOn 23 = .ok (.iconst 1, 1) := by decide +kernel
theorem dX4_putsOn_24 : decode cX4_putsOn 24 = .ok (.iadd, 1) := by decide +kernel
theorem dX4_putsOn_25 : decode cX4_putsOn 25 = .ok (.iastore, 1) := by decide +kernel
theorem dX4_putsOn_26 : decode cX4_putsOn 26 = .ok (.return_, 1) := by decide +kernel
theorem dX4_courageIn_0 : decode cX4_courageIn 0 = .ok (.iload_n 2, 1) := by decide +kernel
theorem dX4_courageIn_1 : decode cX4_courageIn 1 = .ok (.aload_n 0, 1) := by decide +kernel
theorem dX4_courageIn_2 : decode cX4_courageIn 2 = .ok (.getfield 28, 3) := by decide +kernel
theorem dX4_courageIn_5 : decode cX4_courageIn 5 = .ok (.iload_n 1, 1) := by decide +kernel
theorem dX4_courageIn_6 : decode cX4_courageIn 6 = .ok (.iaload, 1) := by decide +kernel
theorem dX4_courageIn_7 : decode cX4_courageIn 7 = .ok (.iadd, 1) := by decide +kernel
theorem dX4_courageIn_8 : decode cX4_courageIn 8 = .ok (.aload_n 0, 1) := by decide +kernel
theorem dX4_courageIn_9 : decode cX4_courageIn 9 = .ok (.getfield 22, 3) := by decide +kernel
theorem dX4_courageIn_12 : decode cX4_courageIn 12 = .ok (.iload_n 1, 1) := by decide +kernel
theorem dX4_courageIn_13 : decode cX4_courageIn 13 = .ok (.iaload, 1) := by decide +kernel
theorem dX4_courageIn_14 : decode cX4_courageIn 14 = .ok (.isub, 1) := by decide +kernel
theorem dX4_courageIn_15 : decode cX4_courageIn 15 = .ok (.aload_n 0, 1) := by decide +kernel
theorem dX4_courageIn_16 : decode cX4_courageIn 16 = .ok (.getfield 25, 3) := by decide +kernel
theorem dX4_courageIn_19 : decode cX4_courageIn 19 = .ok (.iload_n 1, 1) := by decide +kernel
theorem dX4_courageIn_20 : decode cX4_courageIn 20 = .ok (.iaload, 1) := by decide +kernel
theorem dX4_courageIn_21 : decode cX4_courageIn 21 = .ok (.iconst 3, 1) := by decide +kernel
theorem dX4_courageIn_22 : decode cX4_courageIn 22 = .ok (.idiv, 1) := by decide +kernel
theorem dX4_courageIn_23 : decode cX4_courageIn 23 = .ok (.isub, 1) := by decide +kernel
theorem dX4_courageIn_24 : decode cX4_courageIn 24 = .ok (.ireturn, 1) := by decide +kernel
theorem dX4_courageOf_0 : decode cX4_courageOf 0 = .ok (.aload_n 0, 1) := by decide +kernel
theorem dX4_courageOf_1 : decode cX4_courageOf 1 = .ok (.iload_n 1, 1) := by decide +kernel
theorem dX4_courageOf_2 : decode cX4_courageOf 2 = .ok (.aload_n 0, 1) := by decide +kernel
theorem dX4_courageOf_3 : decode cX4_courageOf 3 = .ok (.getfield 31, 3) := by decide +kernel
theorem dX4_courageOf_6 : decode cX4_courageOf 6 = .ok (.iload_n 1, 1) := by decide +kernel
theorem dX4_courageOf_7 : decode cX4_courageOf 7 = .ok (.iaload, 1) := by decide +kernel
theorem dX4_courageOf_8 : decode cX4_courageOf 8 = .ok (.ifCond .ne 7, 3) := by decide +kernel
theorem dX4_courageOf_11 : decode cX4_courageOf 11 = .ok (.iconst 0, 1) := by decide +kernel
theorem dX4_courageOf_12 : decode cX4_courageOf 12 = .ok (.goto 15, 3) := by decide +kernel
theorem dX4_courageOf_15 : decode cX4_courageOf 15 = .ok (.aload_n 0, 1) := by decide +kernel
theorem dX4_courageOf_16 : decode cX4_courageOf 16 = .ok (.aload_n 0, 1) := by decide +kernel
theorem dX4_courageOf_17 : decode cX4_courageOf 17 = .ok (.getfield 31, 3) := by decide +kernel
theorem dX4_courageOf_20 : decode cX4_courageOf 20 = .ok (.iload_n 1, 1) := by decide +kernel
theorem dX4_courageOf_21 : decode cX4_courageOf 21 = .ok (.iaload, 1) := by decide +kernel
theorem dX4_courageOf_22 : decode cX4_courageOf 22 = .ok (.iconst 1, 1) := by decide +kernel
theorem dX4_courageOf_23 : decode cX4_courageOf 23 = .ok (.isub, 1) := by decide +kernel
theorem dX4_courageOf_24 : decode cX4_courageOf 24 = .ok (.invokevirtual 172, 3) := by decide +kernel
theorem dX4_courageOf_27 : decode cX4_courageOf 27 = .ok (.invokevirtual 175, 3) := by decide +kernel
theorem dX4_courageOf_30 : decode cX4_courageOf 30 = .ok (.ireturn, 1) := by decide +kernel
theorem dX4_isEnough_0 : decode cX4_isEnough 0 = .ok (.aload_n 0, 1) := by decide +kernel
theorem dX4_isEnough_1 : decode cX4_isEnough 1 = .ok (.getfield 28, 3) := by decide +kernel
theorem dX4_isEnough_4 : decode cX4_isEnough 4 = .ok (.iload_n 1, 1) := by decide +kernel
theorem dX4_isEnough_5 : decode cX4_isEnough 5 = .ok (.iaload, 1) := by decide +kernel
theorem dX4_isEnough_6 : decode cX4_isEnough 6 = .ok (.bipush 6, 2) := by decide +kernel
theorem dX4_isEnough_8 : decode cX4_isEnough 8 = .ok (.if_icmp .ge 26, 3) := by decide +kernel
theorem dX4_isEnough_11 : decode cX4_isEnough 11 = .ok (.aload_n 0, 1) := by decide +kernel
theorem dX4_isEnough_12 : decode cX4_isEnough 12 = .ok (.iload_n 1, 1) := by decide +kernel
theorem dX4_isEnough_13 : decode cX4_isEnough 13 = .ok (.iload_n 2, 1) := by decide +kernel
theorem dX4_isEnough_14 : decode cX4_isEnough 14 = .ok (.invokevirtual 175, 3) := by decide +kernel
theorem dX4_isEnough_17 : decode cX4_isEnough 17 = .ok (.iconst 2, 1) := by decide +kernel
theorem dX4_isEnough_18 : decode cX4_isEnough 18 = .ok (.aload_n 0, 1) := by decide +kernel
theorem dX4_isEnough_19 : decode cX4_isEnough 19 = .ok (.getfield 28, 3) := by decide +kernel
theorem dX4_isEnough_22 : decode cX4_isEnough 22 = .ok (.iload_n 1, 1) := by decide +kernel
theorem dX4_isEnough_23 : decode cX4_isEnough 23 = .ok (.iaload, 1) := by decide +kernel
theorem dX4_isEnough_24 : decode cX4_isEnough 24 = .ok (.imul, 1) := by decide +kernel
theorem dX4_isEnough_25 : decode cX4_isEnough 25 = .ok (.iconst 4, 1) := by decide +kernel
theorem dX4_isEnough_26 : decode cX4_isEnough 26 = .ok (.isub, 1) := by decide +kernel
theorem dX4_isEnough_27 : decode cX4_isEnough 27 = .ok (.if_icmp .lt 7, 3) := by decide +kernel
theorem dX4_isEnough_30 : decode cX4_isEnough 30 = .ok (.iconst 1, 1) := by decide +kernel
theorem dX4_isEnough_31 : decode cX4_isEnough 31 = .ok (.goto 4, 3) := by decide +kernel
theorem dX4_isEnough_34 : decode cX4_isEnough 34 = .ok (.iconst 0, 1) := by decide +kernel
theorem dX4_isEnough_35 : decode cX4_isEnough 35 = .ok (.ireturn, 1) := by decide +kernel
theorem dX4_canSay_0 : decode cX4_canSay 0 = .ok (.aload_n 0, 1) := by decide +kernel
theorem dX4_canSay_1 : decode cX4_canSay 1 = .ok (.iload_n 1, 1) := by decide +kernel
theorem dX4_canSay_2 : decode cX4_canSay 2 = .ok (.aload_n 0, 1) := by decide +kernel
theorem dX4_canSay_3 : decode cX4_canSay 3 = .ok (.getfield 31, 3) := by decide +kernel
theorem dX4_canSay_6 : decode cX4_canSay 6 = .ok (.iload_n 1, 1) := by decide +kernel
theorem dX4_canSay_7 : decode cX4_canSay 7 = .ok (.iaload, 1) := by decide +kernel
theorem dX4_canSay_8 : decode cX4_canSay 8 = .ok (.ifCond .ne 7, 3) := by decide +kernel
theorem dX4_canSay_11 : decode cX4_canSay 11 = .ok (.iconst 0, 1) := by decide +kernel
theorem dX4_canSay_12 : decode cX4_canSay 12 = .ok (.goto 15, 3) := by decide +kernel
theorem dX4_canSay_15 : decode cX4_canSay 15 = .ok (.aload_n 0, 1) := by decide +kernel
theorem dX4_canSay_16 : decode cX4_canSay 16 = .ok (.aload_n 0, 1) := by decide +kernel
theorem dX4_canSay_17 : decode cX4_canSay 17 = .ok (.getfield 31, 3) := by decide +kernel
theorem dX4_canSay_20 : decode cX4_canSay 20 = .ok (.iload_n 1, 1) := by decide +kernel
theorem dX4_canSay_21 : decode cX4_canSay 21 = .ok (.iaload, 1) := by decide +kernel
theorem dX4_canSay_22 : decode cX4_canSay 22 = .ok (.iconst 1, 1) := by decide +kernel
theorem dX4_canSay_23 : decode cX4_canSay 23 = .ok (.isub, 1) := by decide +kernel
theorem dX4_canSay_24 : decode cX4_canSay 24 = .ok (.invokevirtual 172, 3) := by decide +kernel
theorem dX4_canSay_27 : decode cX4_canSay 27 = .ok (.invokevirtual 179, 3) := by decide +kernel
theorem dX4_canSay_30 : decode cX4_canSay 30 = .ok (.ireturn, 1) := by decide +kernel
theorem dX4_lacks_0 : decode cX4_lacks 0 = .ok (.aload_n 0, 1) := by decide +kernel
theorem dX4_lacks_1 : decode cX4_lacks 1 = .ok (.getfield 28, 3) := by decide +kernel
theorem dX4_lacks_4 : decode cX4_lacks 4 = .ok (.iload_n 1, 1) := by decide +kernel
theorem dX4_lacks_5 : decode cX4_lacks 5 = .ok (.iaload, 1) := by decide +kernel
theorem dX4_lacks_6 : decode cX4_lacks 6 = .ok (.bipush 6, 2) := by decide +kernel
theorem dX4_lacks_8 : decode cX4_lacks 8 = .ok (.if_icmp .eq 11, 3) := by decide +kernel
theorem dX4_lacks_11 : decode cX4_lacks 11 = .ok (.aload_n 0, 1) := by decide +kernel
theorem dX4_lacks_12 : decode cX4_lacks 12 = .ok (.iload_n 1, 1) := by decide +kernel
theorem dX4_lacks_13 : decode cX4_lacks 13 = .ok (.invokevirtual 182, 3) := by decide +kernel
theorem dX4_lacks_16 : decode cX4_lacks 16 = .ok (.ifCond .eq 7, 3) := by decide +kernel
theorem dX4_lacks_19 : decode cX4_lacks 19 = .ok (.iconst 0, 1) := by decide +kernel
theorem dX4_lacks_20 : decode cX4_lacks 20 = .ok (.goto 19, 3) := by decide +kernel
theorem dX4_lacks_23 : decode cX4_lacks 23 = .ok (.iconst 2, 1) := by decide +kernel
theorem dX4_lacks_24 : decode cX4_lacks 24 = .ok (.aload_n 0, 1) := by decide +kernel
theorem dX4_lacks_25 : decode cX4_lacks 25 = .ok (.getfield 28, 3) := by decide +kernel
theorem dX4_lacks_28 : decode cX4_lacks 28 = .ok (.iload_n 1, 1) := by decide +kernel
theorem dX4_lacks_29 : decode cX4_lacks 29 = .ok (.iaload, 1) := by decide +kernel
theorem dX4_lacks_30 : decode cX4_lacks 30 = .ok (.imul, 1) := by decide +kernel
theorem dX4_lacks_31 : decode cX4_lacks 31 = .ok (.iconst 4, 1) := by decide +kernel
theorem dX4_lacks_32 : decode cX4_lacks 32 = .ok (.isub, 1) := by decide +kernel
theorem dX4_lacks_33 : decode cX4_lacks 33 = .ok (.aload_n 0, 1) := by decide +kernel
theorem dX4_lacks_34 : decode cX4_lacks 34 = .ok (.iload_n 1, 1) := by decide +kernel
theorem dX4_lacks_35 : decode cX4_lacks 35 = .ok (.invokevirtual 185, 3) := by decide +kernel
theorem dX4_lacks_38 : decode cX4_lacks 38 = .ok (.isub, 1) := by decide +kernel
theorem dX4_lacks_39 : decode cX4_lacks 39 = .ok (.ireturn, 1) := by decide +kernel
theorem dX4_goesCaller_0 : decode cX4_goesCaller 0 = .ok (.aload_n 0, 1) := by decide +kernel
theorem dX4_goesCaller_1 : decode cX4_goesCaller 1 = .ok (.getfield 31, 3) := by decide +kernel
theorem dX4_goesCaller_4 : decode cX4_goesCaller 4 = .ok (.iload_n 1, 1) := by decide +kernel
theorem dX4_goesCaller_5 : decode cX4_goesCaller 5 = .ok (.iaload, 1) := by decide +kernel
theorem dX4_goesCaller_6 : decode cX4_goesCaller 6 = .ok (.ifCond .ne 23, 3) := by decide +kernel
theorem dX4_goesCaller_9 : decode cX4_goesCaller 9 = .ok (.aload_n 0, 1) := by decide +kernel
theorem dX4_goesCaller_10 : decode cX4_goesCaller 10 = .ok (.getfield 25, 3) := by decide +kernel
theorem dX4_goesCaller_13 : decode cX4_goesCaller 13 = .ok (.iload_n 1, 1) := by decide +kernel
theorem dX4_goesCaller_14 : decode cX4_goesCaller 14 = .ok (.aload_n 0, 1) := by decide +kernel
theorem dX4_goesCaller_15 : decode cX4_goesCaller 15 = .ok (.getfield 25, 3) := by decide +kernel
theorem dX4_goesCaller_18 : decode cX4_goesCaller 18 = .ok (.iload_n 1, 1) := by decide +kernel
theorem dX4_goesCaller_19 : decode cX4_goesCaller 19 = .ok (.iaload, 1) := by decide +kernel
theorem dX4_goesCaller_20 : decode cX4_goesCaller 20 = .ok (.iconst 1, 1) := by decide +kernel
theorem dX4_goesCaller_21 : decode cX4_goesCaller 21 = .ok (.isub, 1) := by decide +kernel
theorem dX4_goesCaller_22 : decode cX4_goesCaller 22 = .ok (.bipush 20, 2) := by decide +kernel
theorem dX4_goesCaller_24 : decode cX4_goesCaller 24 = .ok (.invokestatic 188, 3) := by decide +kernel
theorem dX4_goesCaller_27 : decode cX4_goesCaller 27 = .ok (.iastore, 1) := by decide +kernel
theorem dX4_goesCaller_28 : decode cX4_goesCaller 28 = .ok (.return_, 1) := by decide +kernel
theorem dX4_goesCaller_29 : decode cX4_goesCaller 29 = .ok (.aload_n 0, 1) := by decide +kernel
theorem dX4_goesCaller_30 : decode cX4_goesCaller 30 = .ok (.getfield 31, 3) := by decide +kernel
theorem dX4_goesCaller_33 : decode cX4_goesCaller 33 = .ok (.iload_n 1, 1) := by decide +kernel
theorem dX4_goesCaller_34 : decode cX4_goesCaller 34 = .ok (.iaload, 1) := by decide +kernel
theorem dX4_goesCaller_35 : decode cX4_goesCaller 35 = .ok (.iconst 1, 1) := by decide +kernel
theorem dX4_goesCaller_36 : decode cX4_goesCaller 36 = .ok (.isub, 1) := by decide +kernel
theorem dX4_goesCaller_37 : decode cX4_goesCaller 37 = .ok (.istore_n 2, 1) := by decide +kernel
theorem dX4_goesCaller_38 : decode cX4_goesCaller 38 = .ok (.aload_n 0, 1) := by decide +kernel
theorem dX4_goesCaller_39 : decode cX4_goesCaller 39 = .ok (.aload_n 0, 1) := by decide +kernel
theorem dX4_goesCaller_40 : decode cX4_goesCaller 40 = .ok (.getfield 163, 3) := by decide +kernel
theorem dX4_goesCaller_43 : decode cX4_goesCaller 43 = .ok (.aload_n 0, 1) := by decide +kernel
theorem dX4_goesCaller_44 : decode cX4_goesCaller 44 = .ok (.iload_n 2, 1) := by decide +kernel
theorem dX4_goesCaller_45 : decode cX4_goesCaller 45 = .ok (.invokevirtual 191, 3) := by decide +kernel
theorem dX4_goesCaller_48 : decode cX4_goesCaller 48 = .ok (.iadd, 1) := by decide +kernel
theorem dX4_goesCaller_49 : decode cX4_goesCaller 49 = .ok (.sipush 9999, 3) := by decide +kernel
theorem dX4_goesCaller_52 : decode cX4_goesCaller 52 = .ok (.invokestatic 188, 3) := by decide +kernel
theorem dX4_goesCaller_55 : decode cX4_goesCaller 55 = .ok (.putfield 163, 3) := by decide +kernel
theorem dX4_goesCaller_58 : decode cX4_goesCaller 58 = .ok (.aload_n 0, 1) := by decide +kernel
theorem dX4_goesCaller_59 : decode cX4_goesCaller 59 = .ok (.iload_n 1, 1) := by decide +kernel
theorem dX4_goesCaller_60 : decode cX4_goesCaller 60 = .ok (.invokevirtual 182, 3) := by decide +kernel
theorem dX4_goesCaller_63 : decode cX4_goesCaller 63 = .ok (.istore_n 3, 1) := by decide +kernel
theorem dX4_goesCaller_64 : decode cX4_goesCaller 64 = .ok (.aload_n 0, 1) := by decide +kernel
theorem dX4_goesCaller_65 : decode cX4_goesCaller 65 = .ok (.getfield 28, 3) := by decide +kernel
theorem dX4_goesCaller_68 : decode cX4_goesCaller 68 = .ok (.iload_n 1, 1) := by decide +kernel
theorem dX4_goesCaller_69 : decode cX4_goesCaller 69 = .ok (.dup2, 1) := by decide +kernel
theorem dX4_goesCaller_70 : decode cX4_goesCaller 70 = .ok (.iaload, 1) := by decide +kernel
theorem dX4_goesCaller_71 : decode cX4_goesCaller 71 = .ok (.iload_n 3, 1) := by decide +kernel
theorem dX4_goesCaller_72 : decode cX4_goesCaller 72 = .ok (.ifCond .eq 7, 3) := by decide +kernel
theorem dX4_goesCaller_75 : decode cX4_goesCaller 75 = .ok (.iconst 1, 1) := by decide +kernel
theorem dX4_goesCaller_76 : decode cX4_goesCaller 76 = .ok (.goto 4, 3) := by decide +kernel
theorem dX4_goesCaller_79 : decode cX4_goesCaller 79 = .ok (.iconst 0, 1) := by decide +kernel
theorem dX4_goesCaller_80 : decode cX4_goesCaller 80 = .ok (.iadd, 1) := by decide +kernel
theorem dX4_goesCaller_81 : decode cX4_goesCaller 81 = .ok (.iastore, 1) := by decide +kernel
theorem dX4_goesCaller_82 : decode cX4_goesCaller 82 = .ok (.aload_n 0, 1) := by decide +kernel
theorem dX4_goesCaller_83 : decode cX4_goesCaller 83 = .ok (.getfield 22, 3) := by decide +kernel
theorem dX4_goesCaller_86 : decode cX4_goesCaller 86 = .ok (.iload_n 1, 1) := by decide +kernel
theorem dX4_goesCaller_87 : decode cX4_goesCaller 87 = .ok (.iload_n 3, 1) := by decide +kernel
theorem dX4_goesCaller_88 : decode cX4_goesCaller 88 = .ok (.ifCond .eq 14, 3) := by decide +kernel
theorem dX4_goesCaller_91 : decode cX4_goesCaller 91 = .ok (.aload_n 0, 1) := by decide +kernel
theorem dX4_goesCaller_92 : decode cX4_goesCaller 92 = .ok (.getfield 22, 3) := by decide +kernel
theorem dX4_goesCaller_95 : decode cX4_goesCaller 95 = .ok (.iload_n 1, 1) := by decide +kernel
theorem dX4_goesCaller_96 : decode cX4_goesCaller 96 = .ok (.iaload, 1) := by decide +kernel
theorem dX4_goesCaller_97 : decode cX4_goesCaller 97 = .ok (.iconst 1, 1) := by decide +kernel
theorem dX4_goesCaller_98 : decode cX4_goesCaller 98 = .ok (.isub, 1) := by decide +kernel
theorem dX4_goesCaller_99 : decode cX4_goesCaller 99 = .ok (.goto 11, 3) := by decide +kernel
theorem dX4_goesCaller_102 : decode cX4_goesCaller 102 = .ok (.aload_n 0, 1) := by decide +kernel
theorem dX4_goesCaller_103 : decode cX4_goesCaller 103 = .ok (.getfield 22, 3) := by decide +kernel
theorem dX4_goesCaller_106 : decode cX4_goesCaller 106 = .ok (.iload_n 1, 1) := by decide +kernel
theorem dX4_goesCaller_107 : decode cX4_goesCaller 107 = .ok (.iaload, 1) := by decide +kernel
theorem dX4_goesCaller_108 : decode cX4_goesCaller 108 = .ok (.iconst 1, 1) := by decide +kernel
theorem dX4_goesCaller_109 : decode cX4_goesCaller 109 = .ok (.iadd, 1) := by decide +kernel
theorem dX4_goesCaller_110 : decode cX4_goesCaller 110 = .ok (.bipush 20, 2) := by decide +kernel
theorem dX4_goesCaller_112 : decode cX4_goesCaller 112 = .ok (.invokestatic 188, 3) := by decide +kernel
theorem dX4_goesCaller_115 : decode cX4_goesCaller 115 = .ok (.iastore, 1) := by decide +kernel
theorem dX4_goesCaller_116 : decode cX4_goesCaller 116 = .ok (.aload_n 0, 1) := by decide +kernel
theorem dX4_goesCaller_117 : decode cX4_goesCaller 117 = .ok (.getfield 25, 3) := by decide +kernel
theorem dX4_goesCaller_120 : decode cX4_goesCaller 120 = .ok (.iload_n 1, 1) := by decide +kernel
theorem dX4_goesCaller_121 : decode cX4_goesCaller 121 = .ok (.aload_n 0, 1) := by decide +kernel
theorem dX4_goesCaller_122 : decode cX4_goesCaller 122 = .ok (.getfield 25, 3) := by decide +kernel
theorem dX4_goesCaller_125 : decode cX4_goesCaller 125 = .ok (.iload_n 1, 1) := by decide +kernel
theorem dX4_goesCaller_126 : decode cX4_goesCaller 126 = .ok (.iaload, 1) := by decide +kernel
theorem dX4_goesCaller_127 : decode cX4_goesCaller 127 = .ok (.aload_n 0, 1) := by decide +kernel
theorem dX4_goesCaller_128 : decode cX4_goesCaller 128 = .ok (.iload_n 2, 1) := by decide +kernel
theorem dX4_goesCaller_129 : decode cX4_goesCaller 129 = .ok (.aload_n 0, 1) := by decide +kernel
theorem dX4_goesCaller_130 : decode cX4_goesCaller 130 = .ok (.getfield 119, 3) := by decide +kernel
theorem dX4_goesCaller_133 : decode cX4_goesCaller 133 = .ok (.invokevirtual 194, 3) := by decide +kernel
theorem dX4_goesCaller_136 : decode cX4_goesCaller 136 = .ok (.iadd, 1) := by decide +kernel
theorem dX4_goesCaller_137 : decode cX4_goesCaller 137 = .ok (.bipush 20, 2) := by decide +kernel
theorem dX4_goesCaller_139 : decode cX4_goesCaller 139 = .ok (.invokestatic 188, 3) := by decide +kernel
theorem dX4_goesCaller_142 : decode cX4_goesCaller 142 = .ok (.iastore, 1) := by decide +kernel
theorem dX4_goesCaller_143 : decode cX4_goesCaller 143 = .ok (.aload_n 0, 1) := by decide +kernel
theorem dX4_goesCaller_144 : decode cX4_goesCaller 144 = .ok (.getfield 25, 3) := by decide +kernel
theorem dX4_goesCaller_147 : decode cX4_goesCaller 147 = .ok (.iload_n 1, 1) := by decide +kernel
theorem dX4_goesCaller_148 : decode cX4_goesCaller 148 = .ok (.iaload, 1) := by decide +kernel
theorem dX4_goesCaller_149 : decode cX4_goesCaller 149 = .ok (.bipush 15, 2) := by decide +kernel
theorem dX4_goesCaller_151 : decode cX4_goesCaller 151 = .ok (.if_icmp .lt 10, 3) := by decide +kernel
theorem dX4_goesCaller_154 : decode cX4_goesCaller 154 = .ok (.aload_n 0, 1) := by decide +kernel
theorem dX4_goesCaller_155 : decode cX4_goesCaller 155 = .ok (.getfield 31, 3) := by decide +kernel
theorem dX4_goesCaller_158 : decode cX4_goesCaller 158 = .ok (.iload_n 1, 1) := by decide +kernel
theorem dX4_goesCaller_159 : decode cX4_goesCaller 159 = .ok (.iconst 0, 1) := by decide +kernel
theorem dX4_goesCaller_160 : decode cX4_goesCaller 160 = .ok (.iastore, 1) := by decide +kernel
theorem dX4_goesCaller_161 : decode cX4_goesCaller 161 = .ok (.return_, 1) := by decide +kernel
theorem dX4_goesDay_0 : decode cX4_goesDay 0 = .ok (.aload_n 0, 1) := by decide +kernel
theorem dX4_goesDay_1 : decode cX4_goesDay 1 = .ok (.dup, 1) := by decide +kernel
theorem dX4_goesDay_2 : decode cX4_goesDay 2 = .ok (.getfield 119, 3) := by decide +kernel
theorem dX4_goesDay_5 : decode cX4_goesDay 5 = .ok (.iconst 1, 1) := by decide +kernel
theorem dX4_goesDay_6 : decode cX4_goesDay 6 = .ok (.iadd, 1) := by decide +kernel
theorem dX4_goesDay_7 : decode cX4_goesDay 7 = .ok (.putfield 119, 3) := by decide +kernel
theorem dX4_goesDay_10 : decode cX4_goesDay 10 = .ok (.iconst 0, 1) := by decide +kernel
theorem dX4_goesDay_11 : decode cX4_goesDay 11 = .ok (.istore_n 1, 1) := by decide +kernel
theorem dX4_goesDay_12 : decode cX4_goesDay 12 = .ok (.iload_n 1, 1) := by decide +kernel
theorem dX4_goesDay_13 : decode cX4_goesDay 13 = .ok (.aload_n 0, 1) := by decide +kernel
theorem dX4_goesDay_14 : decode cX4_goesDay 14 = .ok (.getfield 67, 3) := by decide +kernel
theorem dX4_goesDay_17 : decode cX4_goesDay 17 = .ok (.if_icmp .ge 14, 3) := by decide +kernel
theorem dX4_goesDay_20 : decode cX4_goesDay 20 = .ok (.aload_n 0, 1) := by decide +kernel
theorem dX4_goesDay_21 : decode cX4_goesDay 21 = .ok (.iload_n 1, 1) := by decide +kernel
theorem dX4_goesDay_22 : decode cX4_goesDay 22 = .ok (.invokevirtual 197, 3) := by decide +kernel
theorem dX4_goesDay_25 : decode cX4_goesDay 25 = .ok (.iinc 1 1, 3) := by decide +kernel
theorem dX4_goesDay_28 : decode cX4_goesDay 28 = .ok (.goto (-16), 3) := by decide +kernel
theorem dX4_goesDay_31 : decode cX4_goesDay 31 = .ok (.iconst 0, 1) := by decide +kernel
theorem dX4_goesDay_32 : decode cX4_goesDay 32 = .ok (.istore_n 1, 1) := by decide +kernel
theorem dX4_goesDay_33 : decode cX4_goesDay 33 = .ok (.iload_n 1, 1) := by decide +kernel
theorem dX4_goesDay_34 : decode cX4_goesDay 34 = .ok (.aload_n 0, 1) := by decide +kernel
theorem dX4_goesDay_35 : decode cX4_goesDay 35 = .ok (.getfield 60, 3) := by decide +kernel
theorem dX4_goesDay_38 : decode cX4_goesDay 38 = .ok (.if_icmp .ge 45, 3) := by decide +kernel
theorem dX4_goesDay_41 : decode cX4_goesDay 41 = .ok (.aload_n 0, 1) := by decide +kernel
theorem dX4_goesDay_42 : decode cX4_goesDay 42 = .ok (.getfield 119, 3) := by decide +kernel
theorem dX4_goesDay_45 : decode cX4_goesDay 45 = .ok (.iconst 5, 1) := by decide +kernel
theorem dX4_goesDay_46 : decode cX4_goesDay 46 = .ok (.irem, 1) := by decide +kernel
theorem dX4_goesDay_47 : decode cX4_goesDay 47 = .ok (.ifCond .ne 30, 3) := by decide +kernel
theorem dX4_goesDay_50 : decode cX4_goesDay 50 = .ok (.aload_n 0, 1) := by decide +kernel
theorem dX4_goesDay_51 : decode cX4_goesDay 51 = .ok (.iload_n 1, 1) := by decide +kernel
theorem dX4_goesDay_52 : decode cX4_goesDay 52 = .ok (.invokevirtual 169, 3) := by decide +kernel
theorem dX4_goesDay_55 : decode cX4_goesDay 55 = .ok (.ifCond .ge 22, 3) := by decide +kernel
theorem dX4_goesDay_58 : decode cX4_goesDay 58 = .ok (.aload_n 0, 1) := by decide +kernel
theorem dX4_goesDay_59 : decode cX4_goesDay 59 = .ok (.getfield 19, 3) := by decide +kernel
theorem dX4_goesDay_62 : decode cX4_goesDay 62 = .ok (.iload_n 1, 1) := by decide +kernel
theorem dX4_goesDay_63 : decode cX4_goesDay 63 = .ok (.aload_n 0, 1) := by decide +kernel
theorem dX4_goesDay_64 : decode cX4_goesDay 64 = .ok (.getfield 19, 3) := by decide +kernel
theorem dX4_goesDay_67 : decode cX4_goesDay 67 = .ok (.iload_n 1, 1) := by decide +kernel
theorem dX4_goesDay_68 : decode cX4_goesDay 68 = .ok (.iaload, 1) := by decide +kernel
theorem dX4_goesDay_69 : decode cX4_goesDay 69 = .ok (.iconst 1, 1) := by decide +kernel
theorem dX4_goesDay_70 : decode cX4_goesDay 70 = .ok (.iadd, 1) := by decide +kernel
theorem dX4_goesDay_71 : decode cX4_goesDay 71 = .ok (.bipush 9, 2) := by decide +kernel
theorem dX4_goesDay_73 : decode cX4_goesDay 73 = .ok (.invokestatic 188, 3) := by decide +kernel
theorem dX4_goesDay_76 : decode cX4_goesDay 76 = .ok (.iastore, 1) := by decide +kernel
theorem dX4_goesDay_77 : decode cX4_goesDay 77 = .ok (.iinc 1 1, 3) := by decide +kernel
theorem dX4_goesDay_80 : decode cX4_goesDay 80 = .ok (.goto (-47), 3) := by decide +kernel
theorem dX4_goesDay_83 : decode cX4_goesDay 83 = .ok (.return_, 1) := by decide +kernel
theorem dX4_goes_0 : decode cX4_goes 0 = .ok (.iconst 0, 1) := by decide +kernel
theorem dX4_goes_1 : decode cX4_goes 1 = .ok (.istore_n 2, 1) := by decide +kernel
theorem dX4_goes_2 : decode cX4_goes 2 = .ok (.iload_n 2, 1) := by decide +kernel
theorem dX4_goes_3 : decode cX4_goes 3 = .ok (.iload_n 1, 1) := by decide +kernel
theorem dX4_goes_4 : decode cX4_goes 4 = .ok (.if_icmp .ge 13, 3) := by decide +kernel
theorem dX4_goes_7 : decode cX4_goes 7 = .ok (.aload_n 0, 1) := by decide +kernel
theorem dX4_goes_8 : decode cX4_goes 8 = .ok (.invokevirtual 200, 3) := by decide +kernel
theorem dX4_goes_11 : decode cX4_goes 11 = .ok (.iinc 2 1, 3) := by decide +kernel
theorem dX4_goes_14 : decode cX4_goes 14 = .ok (.goto (-12), 3) := by decide +kernel
theorem dX4_goes_17 : decode cX4_goes 17 = .ok (.return_, 1) := by decide +kernel
theorem dX4_allOf_0 : decode cX4_allOf 0 = .ok (.iconst 0, 1) := by decide +kernel
theorem dX4_allOf_1 : decode cX4_allOf 1 = .ok (.istore_n 2, 1) := by decide +kernel
theorem dX4_allOf_2 : decode cX4_allOf 2 = .ok (.iconst 0, 1) := by decide +kernel
theorem dX4_allOf_3 : decode cX4_allOf 3 = .ok (.istore_n 3, 1) := by decide +kernel
theorem dX4_allOf_4 : decode cX4_allOf 4 = .ok (.iload_n 3, 1) := by decide +kernel
theorem dX4_allOf_5 : decode cX4_allOf 5 = .ok (.aload_n 0, 1) := by decide +kernel
theorem dX4_allOf_6 : decode cX4_allOf 6 = .ok (.getfield 67, 3) := by decide +kernel
theorem dX4_allOf_9 : decode cX4_allOf 9 = .ok (.if_icmp .ge 15, 3) := by decide +kernel
theorem dX4_allOf_12 : decode cX4_allOf 12 = .ok (.iload_n 2, 1) := by decide +kernel
theorem dX4_allOf_13 : decode cX4_allOf 13 = .ok (.aload_n 1, 1) := by decide +kernel
theorem dX4_allOf_14 : decode cX4_allOf 14 = .ok (.iload_n 3, 1) := by decide +kernel
theorem dX4_allOf_15 : decode cX4_allOf 15 = .ok (.iaload, 1) := by decide +kernel
theorem dX4_allOf_16 : decode cX4_allOf 16 = .ok (.iadd, 1) := by decide +kernel
theorem dX4_allOf_17 : decode cX4_allOf 17 = .ok (.istore_n 2, 1) := by decide +kernel
theorem dX4_allOf_18 : decode cX4_allOf 18 = .ok (.iinc 3 1, 3) := by decide +kernel
theorem dX4_allOf_21 : decode cX4_allOf 21 = .ok (.goto (-17), 3) := by decide +kernel
theorem dX4_allOf_24 : decode cX4_allOf 24 = .ok (.iload_n 2, 1) := by decide +kernel
theorem dX4_allOf_25 : decode cX4_allOf 25 = .ok (.ireturn, 1) := by decide +kernel
theorem dX4_suit_0 : decode cX4_suit 0 = .ok (.aload_n 0, 1) := by decide +kernel
theorem dX4_suit_1 : decode cX4_suit 1 = .ok (.iload_n 1, 1) := by decide +kernel
theorem dX4_suit_2 : decode cX4_suit 2 = .ok (.invokevirtual 109, 3) := by decide +kernel
theorem dX4_suit_5 : decode cX4_suit 5 = .ok (.ifCond .ne 9, 3) := by decide +kernel
theorem dX4_suit_8 : decode cX4_suit 8 = .ok (.aload_n 0, 1) := by decide +kernel
theorem dX4_suit_9 : decode cX4_suit 9 = .ok (.iconst (-1), 1) := by decide +kernel
theorem dX4_suit_10 : decode cX4_suit 10 = .ok (.invokevirtual 77, 3) := by decide +kernel
theorem dX4_suit_13 : decode cX4_suit 13 = .ok (.ireturn, 1) := by decide +kernel
theorem dX4_suit_14 : decode cX4_suit 14 = .ok (.iload_n 2, 1) := by decide +kernel
theorem dX4_suit_15 : decode cX4_suit 15 = .ok (.tableswitch 92 0 6 #[41, 48, 55, 62, 68, 80, 86], 41) := by decide +kernel
theorem dX4_suit_56 : decode cX4_suit 56 = .ok (.aload_n 0, 1) := by decide +kernel
theorem dX4_suit_57 : decode cX4_suit 57 = .ok (.getfield 13, 3) := by decide +kernel
theorem dX4_suit_60 : decode cX4_suit 60 = .ok (.iload_n 1, 1) := by decide +kernel
theorem dX4_suit_61 : decode cX4_suit 61 = .ok (.iaload, 1) := by decide +kernel
theorem dX4_suit_62 : decode cX4_suit 62 = .ok (.ireturn, 1) := by decide +kernel
theorem dX4_suit_63 : decode cX4_suit 63 = .ok (.aload_n 0, 1) := by decide +kernel
theorem dX4_suit_64 : decode cX4_suit 64 = .ok (.getfield 16, 3) := by decide +kernel
theorem dX4_suit_67 : decode cX4_suit 67 = .ok (.iload_n 1, 1) := by decide +kernel
theorem dX4_suit_68 : decode cX4_suit 68 = .ok (.iaload, 1) := by decide +kernel
theorem dX4_suit_69 : decode cX4_suit 69 = .ok (.ireturn, 1) := by decide +kernel
theorem dX4_suit_70 : decode cX4_suit 70 = .ok (.aload_n 0, 1) := by decide +kernel
theorem dX4_suit_71 : decode cX4_suit 71 = .ok (.getfield 19, 3) := by decide +kernel
theorem dX4_suit_74 : decode cX4_suit 74 = .ok (.iload_n 1, 1) := by decide +kernel
theorem dX4_suit_75 : decode cX4_suit 75 = .ok (.iaload, 1) := by decide +kernel
theorem dX4_suit_76 : decode cX4_suit 76 = .ok (.ireturn, 1) := by decide +kernel
theorem dX4_suit_77 : decode cX4_suit 77 = .ok (.aload_n 0, 1) := by decide +kernel
theorem dX4_suit_78 : decode cX4_suit 78 = .ok (.iload_n 1, 1) := by decide +kernel
theorem dX4_suit_79 : decode cX4_suit 79 = .ok (.invokevirtual 172, 3) := by decide +kernel
theorem dX4_suit_82 : decode cX4_suit 82 = .ok (.ireturn, 1) := by decide +kernel
theorem dX4_suit_83 : decode cX4_suit 83 = .ok (.aload_n 0, 1) := by decide +kernel
theorem dX4_suit_84 : decode cX4_suit 84 = .ok (.iload_n 1, 1) := by decide +kernel
theorem dX4_suit_85 : decode cX4_suit 85 = .ok (.aload_n 0, 1) := by decide +kernel
theorem dX4_suit_86 : decode cX4_suit 86 = .ok (.getfield 119, 3) := by decide +kernel
theorem dX4_suit_89 : decode cX4_suit 89 = .ok (.iconst 1, 1) := by decide +kernel
theorem dX4_suit_90 : decode cX4_suit 90 = .ok (.iadd, 1) := by decide +kernel
theorem dX4_suit_91 : decode cX4_suit 91 = .ok (.invokevirtual 194, 3) := by decide +kernel
theorem dX4_suit_94 : decode cX4_suit 94 = .ok (.ireturn, 1) := by decide +kernel
theorem dX4_suit_95 : decode cX4_suit 95 = .ok (.aload_n 0, 1) := by decide +kernel
theorem dX4_suit_96 : decode cX4_suit 96 = .ok (.iload_n 1, 1) := by decide +kernel
theorem dX4_suit_97 : decode cX4_suit 97 = .ok (.invokevirtual 191, 3) := by decide +kernel
theorem dX4_suit_100 : decode cX4_suit 100 = .ok (.ireturn, 1) := by decide +kernel
theorem dX4_suit_101 : decode cX4_suit 101 = .ok (.aload_n 0, 1) := by decide +kernel
theorem dX4_suit_102 : decode cX4_suit 102 = .ok (.iload_n 1, 1) := by decide +kernel
theorem dX4_suit_103 : decode cX4_suit 103 = .ok (.invokevirtual 169, 3) := by decide +kernel
theorem dX4_suit_106 : decode cX4_suit 106 = .ok (.ireturn, 1) := by decide +kernel
theorem dX4_suit_107 : decode cX4_suit 107 = .ok (.aload_n 0, 1) := by decide +kernel
theorem dX4_suit_108 : decode cX4_suit 108 = .ok (.bipush (-2), 2) := by decide +kernel
theorem dX4_suit_110 : decode cX4_suit 110 = .ok (.invokevirtual 77, 3) := by decide +kernel
theorem dX4_suit_113 : decode cX4_suit 113 = .ok (.ireturn, 1) := by decide +kernel
theorem dX4_caller_0 : decode cX4_caller 0 = .ok (.aload_n 0, 1) := by decide +kernel
theorem dX4_caller_1 : decode cX4_caller 1 = .ok (.iload_n 1, 1) := by decide +kernel
theorem dX4_caller_2 : decode cX4_caller 2 = .ok (.invokevirtual 112, 3) := by decide +kernel
theorem dX4_caller_5 : decode cX4_caller 5 = .ok (.ifCond .ne 9, 3) := by decide +kernel
theorem dX4_caller_8 : decode cX4_caller 8 = .ok (.aload_n 0, 1) := by decide +kernel
theorem dX4_caller_9 : decode cX4_caller 9 = .ok (.iconst (-1), 1) := by decide +kernel
theorem dX4_caller_10 : decode cX4_caller 10 = .ok (.invokevirtual 77, 3) := by decide +kernel
theorem dX4_caller_13 : decode cX4_caller 13 = .ok (.ireturn, 1) := by decide +kernel
theorem dX4_caller_14 : decode cX4_caller 14 = .ok (.iload_n 2, 1) := by decide +kernel
theorem dX4_caller_15 : decode cX4_caller 15 = .ok (.tableswitch 101 0 5 #[37, 44, 51, 58, 81, 95], 37) := by decide +kernel
theorem dX4_caller_52 : decode cX4_caller 52 = .ok (.aload_n 0, 1) := by decide +kernel
theorem dX4_caller_53 : decode cX4_caller 53 = .ok (.getfield 22, 3) := by decide +kernel
theorem dX4_caller_56 : decode cX4_caller 56 = .ok (.iload_n 1, 1) := by decide +kernel
theorem dX4_caller_57 : decode cX4_caller 57 = .ok (.iaload, 1) := by decide +kernel
theorem dX4_caller_58 : decode cX4_caller 58 = .ok (.ireturn, 1) := by decide +kernel
theorem dX4_caller_59 : decode cX4_caller 59 = .ok (.aload_n 0, 1) := by decide +kernel
theorem dX4_caller_60 : decode cX4_caller 60 = .ok (.getfield 25, 3) := by decide +kernel
theorem dX4_caller_63 : decode cX4_caller 63 = .ok (.iload_n 1, 1) := by decide +kernel
theorem dX4_caller_64 : decode cX4_caller 64 = .ok (.iaload, 1) := by decide +kernel
theorem dX4_caller_65 : decode cX4_caller 65 = .ok (.ireturn, 1) := by decide +kernel
theorem dX4_caller_66 : decode cX4_caller 66 = .ok (.aload_n 0, 1) := by decide +kernel
theorem dX4_caller_67 : decode cX4_caller 67 = .ok (.getfield 28, 3) := by decide +kernel
theorem dX4_caller_70 : decode cX4_caller 70 = .ok (.iload_n 1, 1) := by decide +kernel
theorem dX4_caller_71 : decode cX4_caller 71 = .ok (.iaload, 1) := by decide +kernel
theorem dX4_caller_72 : decode cX4_caller 72 = .ok (.ireturn, 1) := by decide +kernel
theorem dX4_caller_73 : decode cX4_caller 73 = .ok (.aload_n 0, 1) := by decide +kernel
theorem dX4_caller_74 : decode cX4_caller 74 = .ok (.getfield 31, 3) := by decide +kernel
theorem dX4_caller_77 : decode cX4_caller 77 = .ok (.iload_n 1, 1) := by decide +kernel
theorem dX4_caller_78 : decode cX4_caller 78 = .ok (.iaload, 1) := by decide +kernel
theorem dX4_caller_79 : decode cX4_caller 79 = .ok (.ifCond .ne 8, 3) := by decide +kernel
theorem dX4_caller_82 : decode cX4_caller 82 = .ok (.bipush (-9), 2) := by decide +kernel
theorem dX4_caller_84 : decode cX4_caller 84 = .ok (.goto 11, 3) := by decide +kernel
theorem dX4_caller_87 : decode cX4_caller 87 = .ok (.aload_n 0, 1) := by decide +kernel
theorem dX4_caller_88 : decode cX4_caller 88 = .ok (.getfield 31, 3) := by decide +kernel
theorem dX4_caller_91 : decode cX4_caller 91 = .ok (.iload_n 1, 1) := by decide +kernel
theorem dX4_caller_92 : decode cX4_caller 92 = .ok (.iaload, 1) := by decide +kernel
theorem dX4_caller_93 : decode cX4_caller 93 = .ok (.iconst 1, 1) := by decide +kernel
theorem dX4_caller_94 : decode cX4_caller 94 = .ok (.isub, 1) := by decide +kernel
theorem dX4_caller_95 : decode cX4_caller 95 = .ok (.ireturn, 1) := by decide +kernel
theorem dX4_caller_96 : decode cX4_caller 96 = .ok (.aload_n 0, 1) := by decide +kernel
theorem dX4_caller_97 : decode cX4_caller 97 = .ok (.iload_n 1, 1) := by decide +kernel
theorem dX4_caller_98 : decode cX4_caller 98 = .ok (.invokevirtual 182, 3) := by decide +kernel
theorem dX4_caller_101 : decode cX4_caller 101 = .ok (.ifCond .eq 7, 3) := by decide +kernel
theorem dX4_caller_104 : decode cX4_caller 104 = .ok (.iconst 1, 1) := by decide +kernel
theorem dX4_caller_105 : decode cX4_caller 105 = .ok (.goto 4, 3) := by decide +kernel
theorem dX4_caller_108 : decode cX4_caller 108 = .ok (.iconst 0, 1) := by decide +kernel
theorem dX4_caller_109 : decode cX4_caller 109 = .ok (.ireturn, 1) := by decide +kernel
theorem dX4_caller_110 : decode cX4_caller 110 = .ok (.aload_n 0, 1) := by decide +kernel
theorem dX4_caller_111 : decode cX4_caller 111 = .ok (.iload_n 1, 1) := by decide +kernel
theorem dX4_caller_112 : decode cX4_caller 112 = .ok (.invokevirtual 203, 3) := by decide +kernel
theorem dX4_caller_115 : decode cX4_caller 115 = .ok (.ireturn, 1) := by decide +kernel
theorem dX4_caller_116 : decode cX4_caller 116 = .ok (.aload_n 0, 1) := by decide +kernel
theorem dX4_caller_117 : decode cX4_caller 117 = .ok (.bipush (-2), 2) := by decide +kernel
theorem dX4_caller_119 : decode cX4_caller 119 = .ok (.invokevirtual 77, 3) := by decide +kernel
theorem dX4_caller_122 : decode cX4_caller 122 = .ok (.ireturn, 1) := by decide +kernel
theorem dX4_courage_0 : decode cX4_courage 0 = .ok (.aload_n 0, 1) := by decide +kernel
theorem dX4_courage_1 : decode cX4_courage 1 = .ok (.iload_n 1, 1) := by decide +kernel
theorem dX4_courage_2 : decode cX4_courage 2 = .ok (.invokevirtual 112, 3) := by decide +kernel
theorem dX4_courage_5 : decode cX4_courage 5 = .ok (.ifCond .eq 11, 3) := by decide +kernel
theorem dX4_courage_8 : decode cX4_courage 8 = .ok (.aload_n 0, 1) := by decide +kernel
theorem dX4_courage_9 : decode cX4_courage 9 = .ok (.iload_n 1, 1) := by decide +kernel
theorem dX4_courage_10 : decode cX4_courage 10 = .ok (.invokevirtual 185, 3) := by decide +kernel
theorem dX4_courage_13 : decode cX4_courage 13 = .ok (.goto 8, 3) := by decide +kernel
theorem dX4_courage_16 : decode cX4_courage 16 = .ok (.aload_n 0, 1) := by decide +kernel
theorem dX4_courage_17 : decode cX4_courage 17 = .ok (.iconst (-1), 1) := by decide +kernel
theorem dX4_courage_18 : decode cX4_courage 18 = .ok (.invokevirtual 206, 3) := by decide +kernel
theorem dX4_courage_21 : decode cX4_courage 21 = .ok (.ireturn, 1) := by decide +kernel
theorem dX4_suitOf_0 : decode cX4_suitOf 0 = .ok (.iload_n 0, 1) := by decide +kernel
theorem dX4_suitOf_1 : decode cX4_suitOf 1 = .ok (.ifCond .ne 8, 3) := by decide +kernel
theorem dX4_suitOf_4 : decode cX4_suitOf 4 = .ok (.bipush (-9), 2) := by decide +kernel
theorem dX4_suitOf_6 : decode cX4_suitOf 6 = .ok (.goto 6, 3) := by decide +kernel
theorem dX4_suitOf_9 : decode cX4_suitOf 9 = .ok (.iload_n 0, 1) := by decide +kernel
theorem dX4_suitOf_10 : decode cX4_suitOf 10 = .ok (.iconst 1, 1) := by decide +kernel
theorem dX4_suitOf_11 : decode cX4_suitOf 11 = .ok (.isub, 1) := by decide +kernel
theorem dX4_suitOf_12 : decode cX4_suitOf 12 = .ok (.ireturn, 1) := by decide +kernel
theorem dX4_wears_0 : decode cX4_wears 0 = .ok (.aload_n 0, 1) := by decide +kernel
theorem dX4_wears_1 : decode cX4_wears 1 = .ok (.iload_n 1, 1) := by decide +kernel
theorem dX4_wears_2 : decode cX4_wears 2 = .ok (.invokevirtual 112, 3) := by decide +kernel
theorem dX4_wears_5 : decode cX4_wears 5 = .ok (.ifCond .eq 11, 3) := by decide +kernel
theorem dX4_wears_8 : decode cX4_wears 8 = .ok (.aload_n 0, 1) := by decide +kernel
theorem dX4_wears_9 : decode cX4_wears 9 = .ok (.iload_n 2, 1) := by decide +kernel
theorem dX4_wears_10 : decode cX4_wears 10 = .ok (.invokevirtual 109, 3) := by decide +kernel
theorem dX4_wears_13 : decode cX4_wears 13 = .ok (.ifCond .ne 9, 3) := by decide +kernel
theorem dX4_wears_16 : decode cX4_wears 16 = .ok (.aload_n 0, 1) := by decide +kernel
theorem dX4_wears_17 : decode cX4_wears 17 = .ok (.iconst (-1), 1) := by decide +kernel
theorem dX4_wears_18 : decode cX4_wears 18 = .ok (.invokevirtual 77, 3) := by decide +kernel
theorem dX4_wears_21 : decode cX4_wears 21 = .ok (.ireturn, 1) := by decide +kernel
theorem dX4_wears_22 : decode cX4_wears 22 = .ok (.aload_n 0, 1) := by decide +kernel
theorem dX4_wears_23 : decode cX4_wears 23 = .ok (.getfield 31, 3) := by decide +kernel
theorem dX4_wears_26 : decode cX4_wears 26 = .ok (.iload_n 1, 1) := by decide +kernel
theorem dX4_wears_27 : decode cX4_wears 27 = .ok (.iaload, 1) := by decide +kernel
theorem dX4_wears_28 : decode cX4_wears 28 = .ok (.invokestatic 209, 3) := by decide +kernel
theorem dX4_wears_31 : decode cX4_wears 31 = .ok (.istore_n 3, 1) := by decide +kernel
theorem dX4_wears_32 : decode cX4_wears 32 = .ok (.aload_n 0, 1) := by decide +kernel
theorem dX4_wears_33 : decode cX4_wears 33 = .ok (.iload_n 1, 1) := by decide +kernel
theorem dX4_wears_34 : decode cX4_wears 34 = .ok (.iload_n 2, 1) := by decide +kernel
theorem dX4_wears_35 : decode cX4_wears 35 = .ok (.invokevirtual 115, 3) := by decide +kernel
theorem dX4_wears_38 : decode cX4_wears 38 = .ok (.iload_n 3, 1) := by decide +kernel
theorem dX4_wears_39 : decode cX4_wears 39 = .ok (.ireturn, 1) := by decide +kernel
theorem dX4_takesOff_0 : decode cX4_takesOff 0 = .ok (.aload_n 0, 1) := by decide +kernel
theorem dX4_takesOff_1 : decode cX4_takesOff 1 = .ok (.iload_n 1, 1) := by decide +kernel
theorem dX4_takesOff_2 : decode cX4_takesOff 2 = .ok (.invokevirtual 112, 3) := by decide +kernel
theorem dX4_takesOff_5 : decode cX4_takesOff 5 = .ok (.ifCond .ne 7, 3) := by decide +kernel
theorem dX4_takesOff_8 : decode cX4_takesOff 8 = .ok (.iconst (-1), 1) := by decide +kernel
theorem dX4_takesOff_9 : decode cX4_takesOff 9 = .ok (.goto 18, 3) := by decide +kernel
theorem dX4_takesOff_12 : decode cX4_takesOff 12 = .ok (.aload_n 0, 1) := by decide +kernel
theorem dX4_takesOff_13 : decode cX4_takesOff 13 = .ok (.getfield 31, 3) := by decide +kernel
theorem dX4_takesOff_16 : decode cX4_takesOff 16 = .ok (.iload_n 1, 1) := by decide +kernel
theorem dX4_takesOff_17 : decode cX4_takesOff 17 = .ok (.iaload, 1) := by decide +kernel
theorem dX4_takesOff_18 : decode cX4_takesOff 18 = .ok (.ifCond .ne 8, 3) := by decide +kernel
theorem dX4_takesOff_21 : decode cX4_takesOff 21 = .ok (.bipush (-3), 2) := by decide +kernel
theorem dX4_takesOff_23 : decode cX4_takesOff 23 = .ok (.goto 4, 3) := by decide +kernel
theorem dX4_takesOff_26 : decode cX4_takesOff 26 = .ok (.iconst 0, 1) := by decide +kernel
theorem dX4_takesOff_27 : decode cX4_takesOff 27 = .ok (.istore_n 2, 1) := by decide +kernel
theorem dX4_takesOff_28 : decode cX4_takesOff 28 = .ok (.iload_n 2, 1) := by decide +kernel
theorem dX4_takesOff_29 : decode cX4_takesOff 29 = .ok (.ifCond .eq 9, 3) := by decide +kernel
theorem dX4_takesOff_32 : decode cX4_takesOff 32 = .ok (.aload_n 0, 1) := by decide +kernel
theorem dX4_takesOff_33 : decode cX4_takesOff 33 = .ok (.iload_n 2, 1) := by decide +kernel
theorem dX4_takesOff_34 : decode cX4_takesOff 34 = .ok (.invokevirtual 77, 3) := by decide +kernel
theorem dX4_takesOff_37 : decode cX4_takesOff 37 = .ok (.ireturn, 1) := by decide +kernel
theorem dX4_takesOff_38 : decode cX4_takesOff 38 = .ok (.aload_n 0, 1) := by decide +kernel
theorem dX4_takesOff_39 : decode cX4_takesOff 39 = .ok (.getfield 31, 3) := by decide +kernel
theorem dX4_takesOff_42 : decode cX4_takesOff 42 = .ok (.iload_n 1, 1) := by decide +kernel
theorem dX4_takesOff_43 : decode cX4_takesOff 43 = .ok (.iaload, 1) := by decide +kernel
theorem dX4_takesOff_44 : decode cX4_takesOff 44 = .ok (.invokestatic 209, 3) := by decide +kernel
theorem dX4_takesOff_47 : decode cX4_takesOff 47 = .ok (.istore_n 3, 1) := by decide +kernel
theorem dX4_takesOff_48 : decode cX4_takesOff 48 = .ok (.aload_n 0, 1) := by decide +kernel
theorem dX4_takesOff_49 : decode cX4_takesOff 49 = .ok (.getfield 31, 3) := by decide +kernel
theorem dX4_takesOff_52 : decode cX4_takesOff 52 = .ok (.iload_n 1, 1) := by decide +kernel
theorem dX4_takesOff_53 : decode cX4_takesOff 53 = .ok (.iconst 0, 1) := by decide +kernel
theorem dX4_takesOff_54 : decode cX4_takesOff 54 = .ok (.iastore, 1) := by decide +kernel
theorem dX4_takesOff_55 : decode cX4_takesOff 55 = .ok (.iload_n 3, 1) := by decide +kernel
theorem dX4_takesOff_56 : decode cX4_takesOff 56 = .ok (.ireturn, 1) := by decide +kernel
theorem dX4_fears_0 : decode cX4_fears 0 = .ok (.aload_n 0, 1) := by decide +kernel
theorem dX4_fears_1 : decode cX4_fears 1 = .ok (.iload_n 1, 1) := by decide +kernel
theorem dX4_fears_2 : decode cX4_fears 2 = .ok (.invokevirtual 112, 3) := by decide +kernel
theorem dX4_fears_5 : decode cX4_fears 5 = .ok (.ifCond .ne 7, 3) := by decide +kernel
theorem dX4_fears_8 : decode cX4_fears 8 = .ok (.iconst (-1), 1) := by decide +kernel
theorem dX4_fears_9 : decode cX4_fears 9 = .ok (.goto 10, 3) := by decide +kernel
theorem dX4_fears_12 : decode cX4_fears 12 = .ok (.iload_n 2, 1) := by decide +kernel
theorem dX4_fears_13 : decode cX4_fears 13 = .ok (.iconst 0, 1) := by decide +kernel
theorem dX4_fears_14 : decode cX4_fears 14 = .ok (.bipush 20, 2) := by decide +kernel
theorem dX4_fears_16 : decode cX4_fears 16 = .ok (.invokestatic 70, 3) := by decide +kernel
theorem dX4_fears_19 : decode cX4_fears 19 = .ok (.istore_n 3, 1) := by decide +kernel
theorem dX4_fears_20 : decode cX4_fears 20 = .ok (.iload_n 3, 1) := by decide +kernel
theorem dX4_fears_21 : decode cX4_fears 21 = .ok (.ifCond .eq 9, 3) := by decide +kernel
theorem dX4_fears_24 : decode cX4_fears 24 = .ok (.aload_n 0, 1) := by decide +kernel
theorem dX4_fears_25 : decode cX4_fears 25 = .ok (.iload_n 3, 1) := by decide +kernel
theorem dX4_fears_26 : decode cX4_fears 26 = .ok (.invokevirtual 77, 3) := by decide +kernel
theorem dX4_fears_29 : decode cX4_fears 29 = .ok (.ireturn, 1) := by decide +kernel
theorem dX4_fears_30 : decode cX4_fears 30 = .ok (.aload_n 0, 1) := by decide +kernel
theorem dX4_fears_31 : decode cX4_fears 31 = .ok (.getfield 22, 3) := by decide +kernel
theorem dX4_fears_34 : decode cX4_fears 34 = .ok (.iload_n 1, 1) := by decide +kernel
theorem dX4_fears_35 : decode cX4_fears 35 = .ok (.iaload, 1) := by decide +kernel
theorem dX4_fears_36 : decode cX4_fears 36 = .ok (.istore 4, 2) := by decide +kernel
theorem dX4_fears_38 : decode cX4_fears 38 = .ok (.aload_n 0, 1) := by decide +kernel
theorem dX4_fears_39 : decode cX4_fears 39 = .ok (.getfield 22, 3) := by decide +kernel
theorem dX4_fears_42 : decode cX4_fears 42 = .ok (.iload_n 1, 1) := by decide +kernel
theorem dX4_fears_43 : decode cX4_fears 43 = .ok (.iload_n 2, 1) := by decide +kernel
theorem dX4_fears_44 : decode cX4_fears 44 = .ok (.iastore, 1) := by decide +kernel
theorem dX4_fears_45 : decode cX4_fears 45 = .ok (.iload 4, 2) := by decide +kernel
theorem dX4_fears_47 : decode cX4_fears 47 = .ok (.ireturn, 1) := by decide +kernel
theorem dX4_rusts_0 : decode cX4_rusts 0 = .ok (.aload_n 0, 1) := by decide +kernel
theorem dX4_rusts_1 : decode cX4_rusts 1 = .ok (.iload_n 1, 1) := by decide +kernel
theorem dX4_rusts_2 : decode cX4_rusts 2 = .ok (.invokevirtual 109, 3) := by decide +kernel
theorem dX4_rusts_5 : decode cX4_rusts 5 = .ok (.ifCond .ne 7, 3) := by decide +kernel
theorem dX4_rusts_8 : decode cX4_rusts 8 = .ok (.iconst (-1), 1) := by decide +kernel
theorem dX4_rusts_9 : decode cX4_rusts 9 = .ok (.goto 10, 3) := by decide +kernel
theorem dX4_rusts_12 : decode cX4_rusts 12 = .ok (.iload_n 2, 1) := by decide +kernel
theorem dX4_rusts_13 : decode cX4_rusts 13 = .ok (.iconst 0, 1) := by decide +kernel
theorem dX4_rusts_14 : decode cX4_rusts 14 = .ok (.bipush 9, 2) := by decide +kernel
theorem dX4_rusts_16 : decode cX4_rusts 16 = .ok (.invokestatic 70, 3) := by decide +kernel
theorem dX4_rusts_19 : decode cX4_rusts 19 = .ok (.istore_n 3, 1) := by decide +kernel
theorem dX4_rusts_20 : decode cX4_rusts 20 = .ok (.iload_n 3, 1) := by decide +kernel
theorem dX4_rusts_21 : decode cX4_rusts 21 = .ok (.ifCond .eq 9, 3) := by decide +kernel
theorem dX4_rusts_24 : decode cX4_rusts 24 = .ok (.aload_n 0, 1) := by decide +kernel
theorem dX4_rusts_25 : decode cX4_rusts 25 = .ok (.iload_n 3, 1) := by decide +kernel
theorem dX4_rusts_26 : decode cX4_rusts 26 = .ok (.invokevirtual 77, 3) := by decide +kernel
theorem dX4_rusts_29 : decode cX4_rusts 29 = .ok (.ireturn, 1) := by decide +kernel
theorem dX4_rusts_30 : decode cX4_rusts 30 = .ok (.aload_n 0, 1) := by decide +kernel
theorem dX4_rusts_31 : decode cX4_rusts 31 = .ok (.getfield 19, 3) := by decide +kernel
theorem dX4_rusts_34 : decode cX4_rusts 34 = .ok (.iload_n 1, 1) := by decide +kernel
theorem dX4_rusts_35 : decode cX4_rusts 35 = .ok (.iaload, 1) := by decide +kernel
theorem dX4_rusts_36 : decode cX4_rusts 36 = .ok (.istore 4, 2) := by decide +kernel
theorem dX4_rusts_38 : decode cX4_rusts 38 = .ok (.aload_n 0, 1) := by decide +kernel
theorem dX4_rusts_39 : decode cX4_rusts 39 = .ok (.getfield 19, 3) := by decide +kernel
theorem dX4_rusts_42 : decode cX4_rusts 42 = .ok (.iload_n 1, 1) := by decide +kernel
theorem dX4_rusts_43 : decode cX4_rusts 43 = .ok (.iload_n 2, 1) := by decide +kernel
theorem dX4_rusts_44 : decode cX4_rusts 44 = .ok (.iastore, 1) := by decide +kernel
theorem dX4_rusts_45 : decode cX4_rusts 45 = .ok (.iload 4, 2) := by decide +kernel
theorem dX4_rusts_47 : decode cX4_rusts 47 = .ok (.ireturn, 1) := by decide +kernel
theorem dX4_soothes_0 : decode cX4_soothes 0 = .ok (.aload_n 0, 1) := by decide +kernel
theorem dX4_soothes_1 : decode cX4_soothes 1 = .ok (.iload_n 1, 1) := by decide +kernel
theorem dX4_soothes_2 : decode cX4_soothes 2 = .ok (.invokevirtual 112, 3) := by decide +kernel
theorem dX4_soothes_5 : decode cX4_soothes 5 = .ok (.ifCond .ne 7, 3) := by decide +kernel
theorem dX4_soothes_8 : decode cX4_soothes 8 = .ok (.iconst (-1), 1) := by decide +kernel
theorem dX4_soothes_9 : decode cX4_soothes 9 = .ok (.goto 10, 3) := by decide +kernel
theorem dX4_soothes_12 : decode cX4_soothes 12 = .ok (.iload_n 2, 1) := by decide +kernel
theorem dX4_soothes_13 : decode cX4_soothes 13 = .ok (.iconst 0, 1) := by decide +kernel
theorem dX4_soothes_14 : decode cX4_soothes 14 = .ok (.bipush 20, 2) := by decide +kernel
theorem dX4_soothes_16 : decode cX4_soothes 16 = .ok (.invokestatic 70, 3) := by decide +kernel
theorem dX4_soothes_19 : decode cX4_soothes 19 = .ok (.istore_n 3, 1) := by decide +kernel
theorem dX4_soothes_20 : decode cX4_soothes 20 = .ok (.iload_n 3, 1) := by decide +kernel
theorem dX4_soothes_21 : decode cX4_soothes 21 = .ok (.ifCond .eq 9, 3) := by decide +kernel
theorem dX4_soothes_24 : decode cX4_soothes 24 = .ok (.aload_n 0, 1) := by decide +kernel
theorem dX4_soothes_25 : decode cX4_soothes 25 = .ok (.iload_n 3, 1) := by decide +kernel
theorem dX4_soothes_26 : decode cX4_soothes 26 = .ok (.invokevirtual 77, 3) := by decide +kernel
theorem dX4_soothes_29 : decode cX4_soothes 29 = .ok (.ireturn, 1) := by decide +kernel
theorem dX4_soothes_30 : decode cX4_soothes 30 = .ok (.aload_n 0, 1) := by decide +kernel
theorem dX4_soothes_31 : decode cX4_soothes 31 = .ok (.getfield 25, 3) := by decide +kernel
theorem dX4_soothes_34 : decode cX4_soothes 34 = .ok (.iload_n 1, 1) := by decide +kernel
theorem dX4_soothes_35 : decode cX4_soothes 35 = .ok (.iaload, 1) := by decide +kernel
theorem dX4_soothes_36 : decode cX4_soothes 36 = .ok (.istore 4, 2) := by decide +kernel
theorem dX4_soothes_38 : decode cX4_soothes 38 = .ok (.aload_n 0, 1) := by decide +kernel
theorem dX4_soothes_39 : decode cX4_soothes 39 = .ok (.getfield 25, 3) := by decide +kernel
theorem dX4_soothes_42 : decode cX4_soothes 42 = .ok (.iload_n 1, 1) := by decide +kernel
theorem dX4_soothes_43 : decode cX4_soothes 43 = .ok (.iload_n 2, 1) := by decide +kernel
theorem dX4_soothes_44 : decode cX4_soothes 44 = .ok (.iastore, 1) := by decide +kernel
theorem dX4_soothes_45 : decode cX4_soothes 45 = .ok (.iload 4, 2) := by decide +kernel
theorem dX4_soothes_47 : decode cX4_soothes 47 = .ok (.ireturn, 1) := by decide +kernel
theorem dX4_turn_0 : decode cX4_turn 0 = .ok (.aload_n 0, 1) := by decide +kernel
theorem dX4_turn_1 : decode cX4_turn 1 = .ok (.iload_n 1, 1) := by decide +kernel
theorem dX4_turn_2 : decode cX4_turn 2 = .ok (.invokevirtual 109, 3) := by decide +kernel
theorem dX4_turn_5 : decode cX4_turn 5 = .ok (.ifCond .ne 7, 3) := by decide +kernel
theorem dX4_turn_8 : decode cX4_turn 8 = .ok (.iconst (-1), 1) := by decide +kernel
theorem dX4_turn_9 : decode cX4_turn 9 = .ok (.goto 24, 3) := by decide +kernel
theorem dX4_turn_12 : decode cX4_turn 12 = .ok (.iload_n 2, 1) := by decide +kernel
theorem dX4_turn_13 : decode cX4_turn 13 = .ok (.iconst 0, 1) := by decide +kernel
theorem dX4_turn_14 : decode cX4_turn 14 = .ok (.iconst 5, 1) := by decide +kernel
theorem dX4_turn_15 : decode cX4_turn 15 = .ok (.invokestatic 88, 3) := by decide +kernel
theorem dX4_turn_18 : decode cX4_turn 18 = .ok (.ifCond .ne 8, 3) := by decide +kernel
theorem dX4_turn_21 : decode cX4_turn 21 = .ok (.bipush (-2), 2) := by decide +kernel
theorem dX4_turn_23 : decode cX4_turn 23 = .ok (.goto 10, 3) := by decide +kernel
theorem dX4_turn_26 : decode cX4_turn 26 = .ok (.iload_n 3, 1) := by decide +kernel
theorem dX4_turn_27 : decode cX4_turn 27 = .ok (.iconst 0, 1) := by decide +kernel
theorem dX4_turn_28 : decode cX4_turn 28 = .ok (.bipush 9, 2) := by decide +kernel
theorem dX4_turn_30 : decode cX4_turn 30 = .ok (.invokestatic 70, 3) := by decide +kernel
theorem dX4_turn_33 : decode cX4_turn 33 = .ok (.istore 4, 2) := by decide +kernel
theorem dX4_turn_35 : decode cX4_turn 35 = .ok (.iload 4, 2) := by decide +kernel
theorem dX4_turn_37 : decode cX4_turn 37 = .ok (.ifCond .eq 10, 3) := by decide +kernel
theorem dX4_turn_40 : decode cX4_turn 40 = .ok (.aload_n 0, 1) := by decide +kernel
theorem dX4_turn_41 : decode cX4_turn 41 = .ok (.iload 4, 2) := by decide +kernel
theorem dX4_turn_43 : decode cX4_turn 43 = .ok (.invokevirtual 77, 3) := by decide +kernel
theorem dX4_turn_46 : decode cX4_turn 46 = .ok (.ireturn, 1) := by decide +kernel
theorem dX4_turn_47 : decode cX4_turn 47 = .ok (.bipush 10, 2) := by decide +kernel
theorem dX4_turn_49 : decode cX4_turn 49 = .ok (.aload_n 0, 1) := by decide +kernel
theorem dX4_turn_50 : decode cX4_turn 50 = .ok (.getfield 13, 3) := by decide +kernel
theorem dX4_turn_53 : decode cX4_turn 53 = .ok (.iload_n 1, 1) := by decide +kernel
theorem dX4_turn_54 : decode cX4_turn 54 = .ok (.iaload, 1) := by decide +kernel
theorem dX4_turn_55 : decode cX4_turn 55 = .ok (.imul, 1) := by decide +kernel
theorem dX4_turn_56 : decode cX4_turn 56 = .ok (.aload_n 0, 1) := by decide +kernel
theorem dX4_turn_57 : decode cX4_turn 57 = .ok (.getfield 16, 3) := by decide +kernel
theorem dX4_turn_60 : decode cX4_turn 60 = .ok (.iload_n 1, 1) := by decide +kernel
theorem dX4_turn_61 : decode cX4_turn 61 = .ok (.iaload, 1) := by decide +kernel
theorem dX4_turn_62 : decode cX4_turn 62 = .ok (.iadd, 1) := by decide +kernel
theorem dX4_turn_63 : decode cX4_turn 63 = .ok (.istore 5, 2) := by decide +kernel
theorem dX4_turn_65 : decode cX4_turn 65 = .ok (.aload_n 0, 1) := by decide +kernel
theorem dX4_turn_66 : decode cX4_turn 66 = .ok (.getfield 13, 3) := by decide +kernel
theorem dX4_turn_69 : decode cX4_turn 69 = .ok (.iload_n 1, 1) := by decide +kernel
theorem dX4_turn_70 : decode cX4_turn 70 = .ok (.iload_n 2, 1) := by decide +kernel
theorem dX4_turn_71 : decode cX4_turn 71 = .ok (.iastore, 1) := by decide +kernel
theorem dX4_turn_72 : decode cX4_turn 72 = .ok (.aload_n 0, 1) := by decide +kernel
theorem dX4_turn_73 : decode cX4_turn 73 = .ok (.getfield 16, 3) := by decide +kernel
theorem dX4_turn_76 : decode cX4_turn 76 = .ok (.iload_n 1, 1) := by decide +kernel
theorem dX4_turn_77 : decode cX4_turn 77 = .ok (.iload_n 3, 1) := by decide +kernel
theorem dX4_turn_78 : decode cX4_turn 78 = .ok (.iastore, 1) := by decide +kernel
theorem dX4_turn_79 : decode cX4_turn 79 = .ok (.iload 5, 2) := by decide +kernel
theorem dX4_turn_81 : decode cX4_turn 81 = .ok (.ireturn, 1) := by decide +kernel
theorem dX4_days_0 : decode cX4_days 0 = .ok (.iload_n 1, 1) := by decide +kernel
theorem dX4_days_1 : decode cX4_days 1 = .ok (.iconst 1, 1) := by decide +kernel
theorem dX4_days_2 : decode cX4_days 2 = .ok (.bipush 60, 2) := by decide +kernel
theorem dX4_days_4 : decode cX4_days 4 = .ok (.invokestatic 70, 3) := by decide +kernel
theorem dX4_days_7 : decode cX4_days 7 = .ok (.istore_n 2, 1) := by decide +kernel
theorem dX4_days_8 : decode cX4_days 8 = .ok (.iload_n 2, 1) := by decide +kernel
theorem dX4_days_9 : decode cX4_days 9 = .ok (.ifCond .ne 18, 3) := by decide +kernel
theorem dX4_days_12 : decode cX4_days 12 = .ok (.aload_n 0, 1) := by decide +kernel
theorem dX4_days_13 : decode cX4_days 13 = .ok (.getfield 119, 3) := by decide +kernel
theorem dX4_days_16 : decode cX4_days 16 = .ok (.iload_n 1, 1) := by decide +kernel
theorem dX4_days_17 : decode cX4_days 17 = .ok (.iadd, 1) := by decide +kernel
theorem dX4_days_18 : decode cX4_days 18 = .ok (.sipush 999, 3) := by decide +kernel
theorem dX4_days_21 : decode cX4_days 21 = .ok (.if_icmp .le 6, 3) := by decide +kernel
theorem dX4_days_24 : decode cX4_days 24 = .ok (.bipush (-6), 2) := by decide +kernel
theorem dX4_days_26 : decode cX4_days 26 = .ok (.istore_n 2, 1) := by decide +kernel
theorem dX4_days_27 : decode cX4_days 27 = .ok (.iload_n 2, 1) := by decide +kernel
theorem dX4_days_28 : decode cX4_days 28 = .ok (.ifCond .eq 9, 3) := by decide +kernel
theorem dX4_days_31 : decode cX4_days 31 = .ok (.aload_n 0, 1) := by decide +kernel
theorem dX4_days_32 : decode cX4_days 32 = .ok (.iload_n 2, 1) := by decide +kernel
theorem dX4_days_33 : decode cX4_days 33 = .ok (.invokevirtual 77, 3) := by decide +kernel
theorem dX4_days_36 : decode cX4_days 36 = .ok (.ireturn, 1) := by decide +kernel
theorem dX4_days_37 : decode cX4_days 37 = .ok (.aload_n 0, 1) := by decide +kernel
theorem dX4_days_38 : decode cX4_days 38 = .ok (.iload_n 1, 1) := by decide +kernel
theorem dX4_days_39 : decode cX4_days 39 = .ok (.invokevirtual 122, 3) := by decide +kernel
theorem dX4_days_42 : decode cX4_days 42 = .ok (.aload_n 0, 1) := by decide +kernel
theorem dX4_days_43 : decode cX4_days 43 = .ok (.aload_n 0, 1) := by decide +kernel
theorem dX4_days_44 : decode cX4_days 44 = .ok (.getfield 28, 3) := by decide +kernel
theorem dX4_days_47 : decode cX4_days 47 = .ok (.invokevirtual 212, 3) := by decide +kernel
theorem dX4_days_50 : decode cX4_days 50 = .ok (.ireturn, 1) := by decide +kernel
theorem dX4_notDays_0 : decode cX4_notDays 0 = .ok (.iload_n 0, 1) := by decide +kernel
theorem dX4_notDays_1 : decode cX4_notDays 1 = .ok (.iconst 0, 1) := by decide +kernel
theorem dX4_notDays_2 : decode cX4_notDays 2 = .ok (.bipush 60, 2) := by decide +kernel
theorem dX4_notDays_4 : decode cX4_notDays 4 = .ok (.invokestatic 70, 3) := by decide +kernel
theorem dX4_notDays_7 : decode cX4_notDays 7 = .ok (.ireturn, 1) := by decide +kernel
theorem dX4_callerThen_0 : decode cX4_callerThen 0 = .ok (.aload_n 0, 1) := by decide +kernel
theorem dX4_callerThen_1 : decode cX4_callerThen 1 = .ok (.iload_n 1, 1) := by decide +kernel
theorem dX4_callerThen_2 : decode cX4_callerThen 2 = .ok (.invokevirtual 112, 3) := by decide +kernel
theorem dX4_callerThen_5 : decode cX4_callerThen 5 = .ok (.ifCond .ne 7, 3) := by decide +kernel
theorem dX4_callerThen_8 : decode cX4_callerThen 8 = .ok (.iconst (-1), 1) := by decide +kernel
theorem dX4_callerThen_9 : decode cX4_callerThen 9 = .ok (.goto 7, 3) := by decide +kernel
theorem dX4_callerThen_12 : decode cX4_callerThen 12 = .ok (.iload_n 2, 1) := by decide +kernel
theorem dX4_callerThen_13 : decode cX4_callerThen 13 = .ok (.invokestatic 216, 3) := by decide +kernel
theorem dX4_callerThen_16 : decode cX4_callerThen 16 = .ok (.istore 4, 2) := by decide +kernel
theorem dX4_callerThen_18 : decode cX4_callerThen 18 = .ok (.iload 4, 2) := by decide +kernel
theorem dX4_callerThen_20 : decode cX4_callerThen 20 = .ok (.ifCond .ne 16, 3) := by decide +kernel
theorem dX4_callerThen_23 : decode cX4_callerThen 23 = .ok (.iload_n 3, 1) := by decide +kernel
theorem dX4_callerThen_24 : decode cX4_callerThen 24 = .ok (.iconst 0, 1) := by decide +kernel
theorem dX4_callerThen_25 : decode cX4_callerThen 25 = .ok (.iconst 2, 1) := by decide +kernel
theorem dX4_callerThen_26 : decode cX4_callerThen 26 = .ok (.invokestatic 88, 3) := by decide +kernel
theorem dX4_callerThen_29 : decode cX4_callerThen 29 = .ok (.ifCond .ne 7, 3) := by decide +kernel
theorem dX4_callerThen_32 : decode cX4_callerThen 32 = .ok (.bipush (-2), 2) := by decide +kernel
theorem dX4_callerThen_34 : decode cX4_callerThen 34 = .ok (.istore 4, 2) := by decide +kernel
theorem dX4_callerThen_36 : decode cX4_callerThen 36 = .ok (.iload 4, 2) := by decide +kernel
theorem dX4_callerThen_38 : decode cX4_callerThen 38 = .ok (.ifCond .eq 10, 3) := by decide +kernel
theorem dX4_callerThen_41 : decode cX4_callerThen 41 = .ok (.aload_n 0, 1) := by decide +kernel
theorem dX4_callerThen_42 : decode cX4_callerThen 42 = .ok (.iload 4, 2) := by decide +kernel
theorem dX4_callerThen_44 : decode cX4_callerThen 44 = .ok (.invokevirtual 77, 3) := by decide +kernel
theorem dX4_callerThen_47 : decode cX4_callerThen 47 = .ok (.ireturn, 1) := by decide +kernel
theorem dX4_callerThen_48 : decode cX4_callerThen 48 = .ok (.aload_n 0, 1) := by decide +kernel
theorem dX4_callerThen_49 : decode cX4_callerThen 49 = .ok (.invokevirtual 219, 3) := by decide +kernel
theorem dX4_callerThen_52 : decode cX4_callerThen 52 = .ok (.aload_n 0, 1) := by decide +kernel
theorem dX4_callerThen_53 : decode cX4_callerThen 53 = .ok (.iload_n 2, 1) := by decide +kernel
theorem dX4_callerThen_54 : decode cX4_callerThen 54 = .ok (.invokevirtual 122, 3) := by decide +kernel
theorem dX4_callerThen_57 : decode cX4_callerThen 57 = .ok (.iload_n 3, 1) := by decide +kernel
theorem dX4_callerThen_58 : decode cX4_callerThen 58 = .ok (.ifCond .ne 12, 3) := by decide +kernel
theorem dX4_callerThen_61 : decode cX4_callerThen 61 = .ok (.aload_n 0, 1) := by decide +kernel
theorem dX4_callerThen_62 : decode cX4_callerThen 62 = .ok (.getfield 28, 3) := by decide +kernel
theorem dX4_callerThen_65 : decode cX4_callerThen 65 = .ok (.iload_n 1, 1) := by decide +kernel
theorem dX4_callerThen_66 : decode cX4_callerThen 66 = .ok (.iaload, 1) := by decide +kernel
theorem dX4_callerThen_67 : decode cX4_callerThen 67 = .ok (.goto 23, 3) := by decide +kernel
theorem dX4_callerThen_70 : decode cX4_callerThen 70 = .ok (.iload_n 3, 1) := by decide +kernel
theorem dX4_callerThen_71 : decode cX4_callerThen 71 = .ok (.iconst 1, 1) := by decide +kernel
theorem dX4_callerThen_72 : decode cX4_callerThen 72 = .ok (.if_icmp .ne 12, 3) := by decide +kernel
theorem dX4_callerThen_75 : decode cX4_callerThen 75 = .ok (.aload_n 0, 1) := by decide +kernel
theorem dX4_callerThen_76 : decode cX4_callerThen 76 = .ok (.getfield 22, 3) := by decide +kernel
theorem dX4_callerThen_79 : decode cX4_callerThen 79 = .ok (.iload_n 1, 1) := by decide +kernel
theorem dX4_callerThen_80 : decode cX4_callerThen 80 = .ok (.iaload, 1) := by decide +kernel
theorem dX4_callerThen_81 : decode cX4_callerThen 81 = .ok (.goto 9, 3) := by decide +kernel
theorem dX4_callerThen_84 : decode cX4_callerThen 84 = .ok (.aload_n 0, 1) := by decide +kernel
theorem dX4_callerThen_85 : decode cX4_callerThen 85 = .ok (.getfield 25, 3) := by decide +kernel
theorem dX4_callerThen_88 : decode cX4_callerThen 88 = .ok (.iload_n 1, 1) := by decide +kernel
theorem dX4_callerThen_89 : decode cX4_callerThen 89 = .ok (.iaload, 1) := by decide +kernel
theorem dX4_callerThen_90 : decode cX4_callerThen 90 = .ok (.istore 5, 2) := by decide +kernel
theorem dX4_callerThen_92 : decode cX4_callerThen 92 = .ok (.aload_n 0, 1) := by decide +kernel
theorem dX4_callerThen_93 : decode cX4_callerThen 93 = .ok (.invokevirtual 222, 3) := by decide +kernel
theorem dX4_callerThen_96 : decode cX4_callerThen 96 = .ok (.iload 5, 2) := by decide +kernel
theorem dX4_callerThen_98 : decode cX4_callerThen 98 = .ok (.ireturn, 1) := by decide +kernel
theorem dX4_suitThen_0 : decode cX4_suitThen 0 = .ok (.aload_n 0, 1) := by decide +kernel
theorem dX4_suitThen_1 : decode cX4_suitThen 1 = .ok (.iload_n 1, 1) := by decide +kernel
theorem dX4_suitThen_2 : decode cX4_suitThen 2 = .ok (.invokevirtual 109, 3) := by decide +kernel
theorem dX4_suitThen_5 : decode cX4_suitThen 5 = .ok (.ifCond .ne 7, 3) := by decide +kernel
theorem dX4_suitThen_8 : decode cX4_suitThen 8 = .ok (.iconst (-1), 1) := by decide +kernel
theorem dX4_suitThen_9 : decode cX4_suitThen 9 = .ok (.goto 7, 3) := by decide +kernel
theorem dX4_suitThen_12 : decode cX4_suitThen 12 = .ok (.iload_n 2, 1) := by decide +kernel
theorem dX4_suitThen_13 : decode cX4_suitThen 13 = .ok (.invokestatic 216, 3) := by decide +kernel
theorem dX4_suitThen_16 : decode cX4_suitThen 16 = .ok (.istore_n 3, 1) := by decide +kernel
theorem dX4_suitThen_17 : decode cX4_suitThen 17 = .ok (.iload_n 3, 1) := by decide +kernel
theorem dX4_suitThen_18 : decode cX4_suitThen 18 = .ok (.ifCond .eq 9, 3) := by decide +kernel
theorem dX4_suitThen_21 : decode cX4_suitThen 21 = .ok (.aload_n 0, 1) := by decide +kernel
theorem dX4_suitThen_22 : decode cX4_suitThen 22 = .ok (.iload_n 3, 1) := by decide +kernel
theorem dX4_suitThen_23 : decode cX4_suitThen 23 = .ok (.invokevirtual 77, 3) := by decide +kernel
theorem dX4_suitThen_26 : decode cX4_suitThen 26 = .ok (.ireturn, 1) := by decide +kernel
theorem dX4_suitThen_27 : decode cX4_suitThen 27 = .ok (.aload_n 0, 1) := by decide +kernel
theorem dX4_suitThen_28 : decode cX4_suitThen 28 = .ok (.invokevirtual 219, 3) := by decide +kernel
theorem dX4_suitThen_31 : decode cX4_suitThen 31 = .ok (.aload_n 0, 1) := by decide +kernel
theorem dX4_suitThen_32 : decode cX4_suitThen 32 = .ok (.iload_n 2, 1) := by decide +kernel
theorem dX4_suitThen_33 : decode cX4_suitThen 33 = .ok (.invokevirtual 122, 3) := by decide +kernel
theorem dX4_suitThen_36 : decode cX4_suitThen 36 = .ok (.aload_n 0, 1) := by decide +kernel
theorem dX4_suitThen_37 : decode cX4_suitThen 37 = .ok (.iload_n 1, 1) := by decide +kernel
theorem dX4_suitThen_38 : decode cX4_suitThen 38 = .ok (.invokevirtual 169, 3) := by decide +kernel
theorem dX4_suitThen_41 : decode cX4_suitThen 41 = .ok (.istore 4, 2) := by decide +kernel
theorem dX4_suitThen_43 : decode cX4_suitThen 43 = .ok (.aload_n 0, 1) := by decide +kernel
theorem dX4_suitThen_44 : decode cX4_suitThen 44 = .ok (.invokevirtual 222, 3) := by decide +kernel
theorem dX4_suitThen_47 : decode cX4_suitThen 47 = .ok (.iload 4, 2) := by decide +kernel
theorem dX4_suitThen_49 : decode cX4_suitThen 49 = .ok (.ireturn, 1) := by decide +kernel
theorem dX4_cost_0 : decode cX4_cost 0 = .ok (.iload_n 1, 1) := by decide +kernel
theorem dX4_cost_1 : decode cX4_cost 1 = .ok (.invokestatic 216, 3) := by decide +kernel
theorem dX4_cost_4 : decode cX4_cost 4 = .ok (.istore_n 2, 1) := by decide +kernel
theorem dX4_cost_5 : decode cX4_cost 5 = .ok (.iload_n 2, 1) := by decide +kernel
theorem dX4_cost_6 : decode cX4_cost 6 = .ok (.ifCond .eq 9, 3) := by decide +kernel
theorem dX4_cost_9 : decode cX4_cost 9 = .ok (.aload_n 0, 1) := by decide +kernel
theorem dX4_cost_10 : decode cX4_cost 10 = .ok (.iload_n 2, 1) := by decide +kernel
theorem dX4_cost_11 : decode cX4_cost 11 = .ok (.invokevirtual 77, 3) := by decide +kernel
theorem dX4_cost_14 : decode cX4_cost 14 = .ok (.ireturn, 1) := by decide +kernel
theorem dX4_cost_15 : decode cX4_cost 15 = .ok (.aload_n 0, 1) := by decide +kernel
theorem dX4_cost_16 : decode cX4_cost 16 = .ok (.getfield 163, 3) := by decide +kernel
theorem dX4_cost_19 : decode cX4_cost 19 = .ok (.istore_n 3, 1) := by decide +kernel
theorem dX4_cost_20 : decode cX4_cost 20 = .ok (.aload_n 0, 1) := by decide +kernel
theorem dX4_cost_21 : decode cX4_cost 21 = .ok (.invokevirtual 219, 3) := by decide +kernel
theorem dX4_cost_24 : decode cX4_cost 24 = .ok (.aload_n 0, 1) := by decide +kernel
theorem dX4_cost_25 : decode cX4_cost 25 = .ok (.iload_n 1, 1) := by decide +kernel
theorem dX4_cost_26 : decode cX4_cost 26 = .ok (.invokevirtual 122, 3) := by decide +kernel
theorem dX4_cost_29 : decode cX4_cost 29 = .ok (.aload_n 0, 1) := by decide +kernel
theorem dX4_cost_30 : decode cX4_cost 30 = .ok (.getfield 163, 3) := by decide +kernel
theorem dX4_cost_33 : decode cX4_cost 33 = .ok (.iload_n 3, 1) := by decide +kernel
theorem dX4_cost_34 : decode cX4_cost 34 = .ok (.isub, 1) := by decide +kernel
theorem dX4_cost_35 : decode cX4_cost 35 = .ok (.istore 4, 2) := by decide +kernel
theorem dX4_cost_37 : decode cX4_cost 37 = .ok (.aload_n 0, 1) := by decide +kernel
theorem dX4_cost_38 : decode cX4_cost 38 = .ok (.invokevirtual 222, 3) := by decide +kernel
theorem dX4_cost_41 : decode cX4_cost 41 = .ok (.iload 4, 2) := by decide +kernel
theorem dX4_cost_43 : decode cX4_cost 43 = .ok (.ireturn, 1) := by decide +kernel
theorem dX4_proposesWhen_0 : decode cX4_proposesWhen 0 = .ok (.aload_n 0, 1) := by decide +kernel
theorem dX4_proposesWhen_1 : decode cX4_proposesWhen 1 = .ok (.invokevirtual 219, 3) := by decide +kernel
theorem dX4_proposesWhen_4 : decode cX4_proposesWhen 4 = .ok (.bipush (-9), 2) := by decide +kernel
theorem dX4_proposesWhen_6 : decode cX4_proposesWhen 6 = .ok (.istore_n 2, 1) := by decide +kernel
theorem dX4_proposesWhen_7 : decode cX4_proposesWhen 7 = .ok (.iconst 0, 1) := by decide +kernel
theorem dX4_proposesWhen_8 : decode cX4_proposesWhen 8 = .ok (.istore_n 3, 1) := by decide +kernel
theorem dX4_proposesWhen_9 : decode cX4_proposesWhen 9 = .ok (.iload_n 3, 1) := by decide +kernel
theorem dX4_proposesWhen_10 : decode cX4_proposesWhen 10 = .ok (.bipush 60, 2) := by decide +kernel
theorem dX4_proposesWhen_12 : decode cX4_proposesWhen 12 = .ok (.if_icmp .gt 35, 3) := by decide +kernel
theorem dX4_proposesWhen_15 : decode cX4_proposesWhen 15 = .ok (.iload_n 2, 1) := by decide +kernel
theorem dX4_proposesWhen_16 : decode cX4_proposesWhen 16 = .ok (.ifCond .ge 31, 3) := by decide +kernel
theorem dX4_proposesWhen_19 : decode cX4_proposesWhen 19 = .ok (.aload_n 0, 1) := by decide +kernel
theorem dX4_proposesWhen_20 : decode cX4_proposesWhen 20 = .ok (.getfield 28, 3) := by decide +kernel
theorem dX4_proposesWhen_23 : decode cX4_proposesWhen 23 = .ok (.iload_n 1, 1) := by decide +kernel
theorem dX4_proposesWhen_24 : decode cX4_proposesWhen 24 = .ok (.iaload, 1) := by decide +kernel
theorem dX4_proposesWhen_25 : decode cX4_proposesWhen 25 = .ok (.bipush 6, 2) := by decide +kernel
theorem dX4_proposesWhen_27 : decode cX4_proposesWhen 27 = .ok (.if_icmp .ne 7, 3) := by decide +kernel
theorem dX4_proposesWhen_30 : decode cX4_proposesWhen 30 = .ok (.iload_n 3, 1) := by decide +kernel
theorem dX4_proposesWhen_31 : decode cX4_proposesWhen 31 = .ok (.goto 5, 3) := by decide +kernel
theorem dX4_proposesWhen_34 : decode cX4_proposesWhen 34 = .ok (.bipush (-9), 2) := by decide +kernel
theorem dX4_proposesWhen_36 : decode cX4_proposesWhen 36 = .ok (.istore_n 2, 1) := by decide +kernel
theorem dX4_proposesWhen_37 : decode cX4_proposesWhen 37 = .ok (.aload_n 0, 1) := by decide +kernel
theorem dX4_proposesWhen_38 : decode cX4_proposesWhen 38 = .ok (.invokevirtual 200, 3) := by decide +kernel
theorem dX4_proposesWhen_41 : decode cX4_proposesWhen 41 = .ok (.iinc 3 1, 3) := by decide +kernel
theorem dX4_proposesWhen_44 : decode cX4_proposesWhen 44 = .ok (.goto (-35), 3) := by decide +kernel
theorem dX4_proposesWhen_47 : decode cX4_proposesWhen 47 = .ok (.aload_n 0, 1) := by decide +kernel
theorem dX4_proposesWhen_48 : decode cX4_proposesWhen 48 = .ok (.invokevirtual 222, 3) := by decide +kernel
theorem dX4_proposesWhen_51 : decode cX4_proposesWhen 51 = .ok (.iload_n 2, 1) := by decide +kernel
theorem dX4_proposesWhen_52 : decode cX4_proposesWhen 52 = .ok (.ireturn, 1) := by decide +kernel
theorem dX4_firstToPropose_0 : decode cX4_firstToPropose 0 = .ok (.bipush (-9), 2) := by decide +kernel
theorem dX4_firstToPropose_2 : decode cX4_firstToPropose 2 = .ok (.istore_n 1, 1) := by decide +kernel
theorem dX4_firstToPropose_3 : decode cX4_firstToPropose 3 = .ok (.bipush 61, 2) := by decide +kernel
theorem dX4_firstToPropose_5 : decode cX4_firstToPropose 5 = .ok (.istore_n 2, 1) := by decide +kernel
theorem dX4_firstToPropose_6 : decode cX4_firstToPropose 6 = .ok (.iconst 0, 1) := by decide +kernel
theorem dX4_firstToPropose_7 : decode cX4_firstToPropose 7 = .ok (.istore_n 3, 1) := by decide +kernel
theorem dX4_firstToPropose_8 : decode cX4_firstToPropose 8 = .ok (.iload_n 3, 1) := by decide +kernel
theorem dX4_firstToPropose_9 : decode cX4_firstToPropose 9 = .ok (.aload_n 0, 1) := by decide +kernel
theorem dX4_firstToPropose_10 : decode cX4_firstToPropose 10 = .ok (.getfield 67, 3) := by decide +kernel
theorem dX4_firstToPropose_13 : decode cX4_firstToPropose 13 = .ok (.if_icmp .ge 35, 3) := by decide +kernel
theorem dX4_firstToPropose_16 : decode cX4_firstToPropose 16 = .ok (.aload_n 0, 1) := by decide +kernel
theorem dX4_firstToPropose_17 : decode cX4_firstToPropose 17 = .ok (.iload_n 3, 1) := by decide +kernel
theorem dX4_firstToPropose_18 : decode cX4_firstToPropose 18 = .ok (.invokevirtual 225, 3) := by decide +kernel
theorem dX4_firstToPropose_21 : decode cX4_firstToPropose 21 = .ok (.istore 4, 2) := by decide +kernel
theorem dX4_firstToPropose_23 : decode cX4_firstToPropose 23 = .ok (.iload 4, 2) := by decide +kernel
theorem dX4_firstToPropose_25 : decode cX4_firstToPropose 25 = .ok (.ifCond .lt 17, 3) := by decide +kernel
theorem dX4_firstToPropose_28 : decode cX4_firstToPropose 28 = .ok (.iload 4, 2) := by decide +kernel
theorem dX4_firstToPropose_30 : decode cX4_firstToPropose 30 = .ok (.iload_n 2, 1) := by decide +kernel
theorem dX4_firstToPropose_31 : decode cX4_firstToPropose 31 = .ok (.if_icmp .lt 6, 3) := by decide +kernel
theorem dX4_firstToPropose_34 : decode cX4_firstToPropose 34 = .ok (.goto 8, 3) := by decide +kernel
theorem dX4_firstToPropose_37 : decode cX4_firstToPropose 37 = .ok (.iload_n 3, 1) := by decide +kernel
theorem dX4_firstToPropose_38 : decode cX4_firstToPropose 38 = .ok (.istore_n 1, 1) := by decide +kernel
theorem dX4_firstToPropose_39 : decode cX4_firstToPropose 39 = .ok (.iload 4, 2) := by decide +kernel
theorem dX4_firstToPropose_41 : decode cX4_firstToPropose 41 = .ok (.istore_n 2, 1) := by decide +kernel
theorem dX4_firstToPropose_42 : decode cX4_firstToPropose 42 = .ok (.iinc 3 1, 3) := by decide +kernel
theorem dX4_firstToPropose_45 : decode cX4_firstToPropose 45 = .ok (.goto (-37), 3) := by decide +kernel
theorem dX4_firstToPropose_48 : decode cX4_firstToPropose 48 = .ok (.iload_n 1, 1) := by decide +kernel
theorem dX4_firstToPropose_49 : decode cX4_firstToPropose 49 = .ok (.ireturn, 1) := by decide +kernel
theorem dX4_proposes_0 : decode cX4_proposes 0 = .ok (.iload_n 1, 1) := by decide +kernel
theorem dX4_proposes_1 : decode cX4_proposes 1 = .ok (.iconst (-1), 1) := by decide +kernel
theorem dX4_proposes_2 : decode cX4_proposes 2 = .ok (.if_icmp .eq 17, 3) := by decide +kernel
theorem dX4_proposes_5 : decode cX4_proposes 5 = .ok (.aload_n 0, 1) := by decide +kernel
theorem dX4_proposes_6 : decode cX4_proposes 6 = .ok (.iload_n 1, 1) := by decide +kernel
theorem dX4_proposes_7 : decode cX4_proposes 7 = .ok (.invokevirtual 112, 3) := by decide +kernel
theorem dX4_proposes_10 : decode cX4_proposes 10 = .ok (.ifCond .ne 9, 3) := by decide +kernel
theorem dX4_proposes_13 : decode cX4_proposes 13 = .ok (.aload_n 0, 1) := by decide +kernel
theorem dX4_proposes_14 : decode cX4_proposes 14 = .ok (.iconst (-1), 1) := by decide +kernel
theorem dX4_proposes_15 : decode cX4_proposes 15 = .ok (.invokevirtual 77, 3) := by decide +kernel
theorem dX4_proposes_18 : decode cX4_proposes 18 = .ok (.ireturn, 1) := by decide +kernel
theorem dX4_proposes_19 : decode cX4_proposes 19 = .ok (.iload_n 1, 1) := by decide +kernel
theorem dX4_proposes_20 : decode cX4_proposes 20 = .ok (.ifCond .ge 10, 3) := by decide +kernel
theorem dX4_proposes_23 : decode cX4_proposes 23 = .ok (.aload_n 0, 1) := by decide +kernel
theorem dX4_proposes_24 : decode cX4_proposes 24 = .ok (.invokevirtual 228, 3) := by decide +kernel
theorem dX4_proposes_27 : decode cX4_proposes 27 = .ok (.goto 8, 3) := by decide +kernel
theorem dX4_proposes_30 : decode cX4_proposes 30 = .ok (.aload_n 0, 1) := by decide +kernel
theorem dX4_proposes_31 : decode cX4_proposes 31 = .ok (.iload_n 1, 1) := by decide +kernel
theorem dX4_proposes_32 : decode cX4_proposes 32 = .ok (.invokevirtual 225, 3) := by decide +kernel
theorem dX4_proposes_35 : decode cX4_proposes 35 = .ok (.ireturn, 1) := by decide +kernel
theorem dX4_out_0 : decode cX4_out 0 = .ok (.aload_n 0, 1) := by decide +kernel
theorem dX4_out_1 : decode cX4_out 1 = .ok (.iload_n 1, 1) := by decide +kernel
theorem dX4_out_2 : decode cX4_out 2 = .ok (.invokevirtual 112, 3) := by decide +kernel
theorem dX4_out_5 : decode cX4_out 5 = .ok (.ifCond .ne 9, 3) := by decide +kernel
theorem dX4_out_8 : decode cX4_out 8 = .ok (.aload_n 0, 1) := by decide +kernel
theorem dX4_out_9 : decode cX4_out 9 = .ok (.iconst (-1), 1) := by decide +kernel
theorem dX4_out_10 : decode cX4_out 10 = .ok (.invokevirtual 77, 3) := by decide +kernel
theorem dX4_out_13 : decode cX4_out 13 = .ok (.ireturn, 1) := by decide +kernel
theorem dX4_out_14 : decode cX4_out 14 = .ok (.aload_n 0, 1) := by decide +kernel
theorem dX4_out_15 : decode cX4_out 15 = .ok (.invokevirtual 219, 3) := by decide +kernel
theorem dX4_out_18 : decode cX4_out 18 = .ok (.bipush (-9), 2) := by decide +kernel
theorem dX4_out_20 : decode cX4_out 20 = .ok (.istore_n 2, 1) := by decide +kernel
theorem dX4_out_21 : decode cX4_out 21 = .ok (.iconst 0, 1) := by decide +kernel
theorem dX4_out_22 : decode cX4_out 22 = .ok (.istore_n 3, 1) := by decide +kernel
theorem dX4_out_23 : decode cX4_out 23 = .ok (.iload_n 3, 1) := by decide +kernel
theorem dX4_out_24 : decode cX4_out 24 = .ok (.bipush 60, 2) := by decide +kernel
theorem dX4_out_26 : decode cX4_out 26 = .ok (.if_icmp .gt 33, 3) := by decide +kernel
theorem dX4_out_29 : decode cX4_out 29 = .ok (.iload_n 2, 1) := by decide +kernel
theorem dX4_out_30 : decode cX4_out 30 = .ok (.ifCond .ge 29, 3) := by decide +kernel
theorem dX4_out_33 : decode cX4_out 33 = .ok (.aload_n 0, 1) := by decide +kernel
theorem dX4_out_34 : decode cX4_out 34 = .ok (.getfield 31, 3) := by decide +kernel
theorem dX4_out_37 : decode cX4_out 37 = .ok (.iload_n 1, 1) := by decide +kernel
theorem dX4_out_38 : decode cX4_out 38 = .ok (.iaload, 1) := by decide +kernel
theorem dX4_out_39 : decode cX4_out 39 = .ok (.ifCond .ne 7, 3) := by decide +kernel
theorem dX4_out_42 : decode cX4_out 42 = .ok (.iload_n 3, 1) := by decide +kernel
theorem dX4_out_43 : decode cX4_out 43 = .ok (.goto 5, 3) := by decide +kernel
theorem dX4_out_46 : decode cX4_out 46 = .ok (.bipush (-9), 2) := by decide +kernel
theorem dX4_out_48 : decode cX4_out 48 = .ok (.istore_n 2, 1) := by decide +kernel
theorem dX4_out_49 : decode cX4_out 49 = .ok (.aload_n 0, 1) := by decide +kernel
theorem dX4_out_50 : decode cX4_out 50 = .ok (.invokevirtual 200, 3) := by decide +kernel
theorem dX4_out_53 : decode cX4_out 53 = .ok (.iinc 3 1, 3) := by decide +kernel
theorem dX4_out_56 : decode cX4_out 56 = .ok (.goto (-33), 3) := by decide +kernel
theorem dX4_out_59 : decode cX4_out 59 = .ok (.aload_n 0, 1) := by decide +kernel
theorem dX4_out_60 : decode cX4_out 60 = .ok (.invokevirtual 222, 3) := by decide +kernel
theorem dX4_out_63 : decode cX4_out 63 = .ok (.iload_n 2, 1) := by decide +kernel
theorem dX4_out_64 : decode cX4_out 64 = .ok (.ireturn, 1) := by decide +kernel
theorem dX4_saidIn_0 : decode cX4_saidIn 0 = .ok (.aload_n 0, 1) := by decide +kernel
theorem dX4_saidIn_1 : decode cX4_saidIn 1 = .ok (.invokevirtual 219, 3) := by decide +kernel
theorem dX4_saidIn_4 : decode cX4_saidIn 4 = .ok (.aload_n 0, 1) := by decide +kernel
theorem dX4_saidIn_5 : decode cX4_saidIn 5 = .ok (.iload_n 1, 1) := by decide +kernel
theorem dX4_saidIn_6 : decode cX4_saidIn 6 = .ok (.invokevirtual 122, 3) := by decide +kernel
theorem dX4_saidIn_9 : decode cX4_saidIn 9 = .ok (.aload_n 0, 1) := by decide +kernel
theorem dX4_saidIn_10 : decode cX4_saidIn 10 = .ok (.aload_n 0, 1) := by decide +kernel
theorem dX4_saidIn_11 : decode cX4_saidIn 11 = .ok (.getfield 28, 3) := by decide +kernel
theorem dX4_saidIn_14 : decode cX4_saidIn 14 = .ok (.invokevirtual 212, 3) := by decide +kernel
theorem dX4_saidIn_17 : decode cX4_saidIn 17 = .ok (.istore_n 2, 1) := by decide +kernel
theorem dX4_saidIn_18 : decode cX4_saidIn 18 = .ok (.aload_n 0, 1) := by decide +kernel
theorem dX4_saidIn_19 : decode cX4_saidIn 19 = .ok (.invokevirtual 222, 3) := by decide +kernel
theorem dX4_saidIn_22 : decode cX4_saidIn 22 = .ok (.iload_n 2, 1) := by decide +kernel
theorem dX4_saidIn_23 : decode cX4_saidIn 23 = .ok (.ireturn, 1) := by decide +kernel
theorem dX4_still_0 : decode cX4_still 0 = .ok (.iconst 0, 1) := by decide +kernel
theorem dX4_still_1 : decode cX4_still 1 = .ok (.istore_n 1, 1) := by decide +kernel
theorem dX4_still_2 : decode cX4_still 2 = .ok (.iload_n 1, 1) := by decide +kernel
theorem dX4_still_3 : decode cX4_still 3 = .ok (.bipush 60, 2) := by decide +kernel
theorem dX4_still_5 : decode cX4_still 5 = .ok (.if_icmp .gt 27, 3) := by decide +kernel
theorem dX4_still_8 : decode cX4_still 8 = .ok (.aload_n 0, 1) := by decide +kernel
theorem dX4_still_9 : decode cX4_still 9 = .ok (.iload_n 1, 1) := by decide +kernel
theorem dX4_still_10 : decode cX4_still 10 = .ok (.invokevirtual 231, 3) := by decide +kernel
theorem dX4_still_13 : decode cX4_still 13 = .ok (.aload_n 0, 1) := by decide +kernel
theorem dX4_still_14 : decode cX4_still 14 = .ok (.iload_n 1, 1) := by decide +kernel
theorem dX4_still_15 : decode cX4_still 15 = .ok (.bipush 8, 2) := by decide +kernel
theorem dX4_still_17 : decode cX4_still 17 = .ok (.iadd, 1) := by decide +kernel
theorem dX4_still_18 : decode cX4_still 18 = .ok (.invokevirtual 231, 3) := by decide +kernel
theorem dX4_still_21 : decode cX4_still 21 = .ok (.if_icmp .ne 5, 3) := by decide +kernel
theorem dX4_still_24 : decode cX4_still 24 = .ok (.iload_n 1, 1) := by decide +kernel
theorem dX4_still_25 : decode cX4_still 25 = .ok (.ireturn, 1) := by decide +kernel
theorem dX4_still_26 : decode cX4_still 26 = .ok (.iinc 1 1, 3) := by decide +kernel
theorem dX4_still_29 : decode cX4_still 29 = .ok (.goto (-27), 3) := by decide +kernel
theorem dX4_still_32 : decode cX4_still 32 = .ok (.bipush (-9), 2) := by decide +kernel
theorem dX4_still_34 : decode cX4_still 34 = .ok (.ireturn, 1) := by decide +kernel
theorem dX4_worthIn_0 : decode cX4_worthIn 0 = .ok (.aload_n 0, 1) := by decide +kernel
theorem dX4_worthIn_1 : decode cX4_worthIn 1 = .ok (.iload_n 1, 1) := by decide +kernel
theorem dX4_worthIn_2 : decode cX4_worthIn 2 = .ok (.iload_n 2, 1) := by decide +kernel
theorem dX4_worthIn_3 : decode cX4_worthIn 3 = .ok (.ifCond .ge 7, 3) := by decide +kernel
theorem dX4_worthIn_6 : decode cX4_worthIn 6 = .ok (.iconst 0, 1) := by decide +kernel
theorem dX4_worthIn_7 : decode cX4_worthIn 7 = .ok (.goto 8, 3) := by decide +kernel
theorem dX4_worthIn_10 : decode cX4_worthIn 10 = .ok (.aload_n 0, 1) := by decide +kernel
theorem dX4_worthIn_11 : decode cX4_worthIn 11 = .ok (.iload_n 2, 1) := by decide +kernel
theorem dX4_worthIn_12 : decode cX4_worthIn 12 = .ok (.invokevirtual 172, 3) := by decide +kernel
theorem dX4_worthIn_15 : decode cX4_worthIn 15 = .ok (.invokevirtual 179, 3) := by decide +kernel
theorem dX4_worthIn_18 : decode cX4_worthIn 18 = .ok (.ifCond .eq 7, 3) := by decide +kernel
theorem dX4_worthIn_21 : decode cX4_worthIn 21 = .ok (.iconst 1, 1) := by decide +kernel
theorem dX4_worthIn_22 : decode cX4_worthIn 22 = .ok (.goto 4, 3) := by decide +kernel
theorem dX4_worthIn_25 : decode cX4_worthIn 25 = .ok (.iconst 0, 1) := by decide +kernel
theorem dX4_worthIn_26 : decode cX4_worthIn 26 = .ok (.ireturn, 1) := by decide +kernel
theorem dX4_findDressed_0 : decode cX4_findDressed 0 = .ok (.iconst 0, 1) := by decide +kernel
theorem dX4_findDressed_1 : decode cX4_findDressed 1 = .ok (.istore_n 1, 1) := by decide +kernel
theorem dX4_findDressed_2 : decode cX4_findDressed 2 = .ok (.iload_n 1, 1) := by decide +kernel
theorem dX4_findDressed_3 : decode cX4_findDressed 3 = .ok (.bipush 64, 2) := by decide +kernel
theorem dX4_findDressed_5 : decode cX4_findDressed 5 = .ok (.if_icmp .ge 21, 3) := by decide +kernel
theorem dX4_findDressed_8 : decode cX4_findDressed 8 = .ok (.aload_n 0, 1) := by decide +kernel
theorem dX4_findDressed_9 : decode cX4_findDressed 9 = .ok (.getfield 51, 3) := by decide +kernel
theorem dX4_findDressed_12 : decode cX4_findDressed 12 = .ok (.aload_n 0, 1) := by decide +kernel
theorem dX4_findDressed_13 : decode cX4_findDressed 13 = .ok (.getfield 67, 3) := by decide +kernel
theorem dX4_findDressed_16 : decode cX4_findDressed 16 = .ok (.aaload, 1) := by decide +kernel
theorem dX4_findDressed_17 : decode cX4_findDressed 17 = .ok (.iload_n 1, 1) := by decide +kernel
theorem dX4_findDressed_18 : decode cX4_findDressed 18 = .ok (.iconst 0, 1) := by decide +kernel
theorem dX4_findDressed_19 : decode cX4_findDressed 19 = .ok (.iastore, 1) := by decide +kernel
theorem dX4_findDressed_20 : decode cX4_findDressed 20 = .ok (.iinc 1 1, 3) := by decide +kernel
theorem dX4_findDressed_23 : decode cX4_findDressed 23 = .ok (.goto (-21), 3) := by decide +kernel
theorem dX4_findDressed_26 : decode cX4_findDressed 26 = .ok (.aload_n 0, 1) := by decide +kernel
theorem dX4_findDressed_27 : decode cX4_findDressed 27 = .ok (.getfield 67, 3) := by decide +kernel
theorem dX4_findDressed_30 : decode cX4_findDressed 30 = .ok (.iconst 1, 1) := by decide +kernel
theorem dX4_findDressed_31 : decode cX4_findDressed 31 = .ok (.isub, 1) := by decide +kernel
theorem dX4_findDressed_32 : decode cX4_findDressed 32 = .ok (.istore_n 1, 1) := by decide +kernel
theorem dX4_findDressed_33 : decode cX4_findDressed 33 = .ok (.iload_n 1, 1) := by decide +kernel
theorem dX4_findDressed_34 : decode cX4_findDressed 34 = .ok (.ifCond .lt 122, 3) := by decide +kernel
theorem dX4_findDressed_37 : decode cX4_findDressed 37 = .ok (.iconst 0, 1) := by decide +kernel
theorem dX4_findDressed_38 : decode cX4_findDressed 38 = .ok (.istore_n 2, 1) := by decide +kernel
theorem dX4_findDressed_39 : decode cX4_findDressed 39 = .ok (.iload_n 2, 1) := by decide +kernel
theorem dX4_findDressed_40 : decode cX4_findDressed 40 = .ok (.bipush 64, 2) := by decide +kernel
theorem dX4_findDressed_42 : decode cX4_findDressed 42 = .ok (.if_icmp .ge 108, 3) := by decide +kernel
theorem dX4_findDressed_45 : decode cX4_findDressed 45 = .ok (.aload_n 0, 1) := by decide +kernel
theorem dX4_findDressed_46 : decode cX4_findDressed 46 = .ok (.iload_n 1, 1) := by decide +kernel
theorem dX4_findDressed_47 : decode cX4_findDressed 47 = .ok (.bipush (-9), 2) := by decide +kernel
theorem dX4_findDressed_49 : decode cX4_findDressed 49 = .ok (.invokevirtual 234, 3) := by decide +kernel
theorem dX4_findDressed_52 : decode cX4_findDressed 52 = .ok (.aload_n 0, 1) := by decide +kernel
theorem dX4_findDressed_53 : decode cX4_findDressed 53 = .ok (.getfield 51, 3) := by decide +kernel
theorem dX4_findDressed_56 : decode cX4_findDressed 56 = .ok (.iload_n 1, 1) := by decide +kernel
theorem dX4_findDressed_57 : decode cX4_findDressed 57 = .ok (.iconst 1, 1) := by decide +kernel
theorem dX4_findDressed_58 : decode cX4_findDressed 58 = .ok (.iadd, 1) := by decide +kernel
theorem dX4_findDressed_59 : decode cX4_findDressed 59 = .ok (.aaload, 1) := by decide +kernel
theorem dX4_findDressed_60 : decode cX4_findDressed 60 = .ok (.iload_n 2, 1) := by decide +kernel
theorem dX4_findDressed_61 : decode cX4_findDressed 61 = .ok (.iaload, 1) := by decide +kernel
theorem dX4_findDressed_62 : decode cX4_findDressed 62 = .ok (.iadd, 1) := by decide +kernel
theorem dX4_findDressed_63 : decode cX4_findDressed 63 = .ok (.istore_n 3, 1) := by decide +kernel
theorem dX4_findDressed_64 : decode cX4_findDressed 64 = .ok (.iconst 0, 1) := by decide +kernel
theorem dX4_findDressed_65 : decode cX4_findDressed 65 = .ok (.istore 4, 2) := by decide +kernel
theorem dX4_findDressed_67 : decode cX4_findDressed 67 = .ok (.iload 4, 2) := by decide +kernel
theorem dX4_findDressed_69 : decode cX4_findDressed 69 = .ok (.aload_n 0, 1) := by decide +kernel
theorem dX4_findDressed_70 : decode cX4_findDressed 70 = .ok (.getfield 60, 3) := by decide +kernel
theorem dX4_findDressed_73 : decode cX4_findDressed 73 = .ok (.if_icmp .ge 62, 3) := by decide +kernel
theorem dX4_findDressed_76 : decode cX4_findDressed 76 = .ok (.iload_n 2, 1) := by decide +kernel
theorem dX4_findDressed_77 : decode cX4_findDressed 77 = .ok (.iload 4, 2) := by decide +kernel
theorem dX4_findDressed_79 : decode cX4_findDressed 79 = .ok (.invokestatic 237, 3) := by decide +kernel
theorem dX4_findDressed_82 : decode cX4_findDressed 82 = .ok (.ifCond .eq 31, 3) := by decide +kernel
theorem dX4_findDressed_85 : decode cX4_findDressed 85 = .ok (.aload_n 0, 1) := by decide +kernel
theorem dX4_findDressed_86 : decode cX4_findDressed 86 = .ok (.iload_n 1, 1) := by decide +kernel
theorem dX4_findDressed_87 : decode cX4_findDressed 87 = .ok (.iload 4, 2) := by decide +kernel
theorem dX4_findDressed_89 : decode cX4_findDressed 89 = .ok (.invokevirtual 234, 3) := by decide +kernel
theorem dX4_findDressed_92 : decode cX4_findDressed 92 = .ok (.aload_n 0, 1) := by decide +kernel
theorem dX4_findDressed_93 : decode cX4_findDressed 93 = .ok (.getfield 51, 3) := by decide +kernel
theorem dX4_findDressed_96 : decode cX4_findDressed 96 = .ok (.iload_n 1, 1) := by decide +kernel
theorem dX4_findDressed_97 : decode cX4_findDressed 97 = .ok (.iconst 1, 1) := by decide +kernel
theorem dX4_findDressed_98 : decode cX4_findDressed 98 = .ok (.iadd, 1) := by decide +kernel
theorem dX4_findDressed_99 : decode cX4_findDressed 99 = .ok (.aaload, 1) := by decide +kernel
theorem dX4_findDressed_100 : decode cX4_findDressed 100 = .ok (.iload_n 2, 1) := by decide +kernel
theorem dX4_findDressed_101 : decode cX4_findDressed 101 = .ok (.iconst 1, 1) := by decide +kernel
theorem dX4_findDressed_102 : decode cX4_findDressed 102 = .ok (.iload 4, 2) := by decide +kernel
theorem dX4_findDressed_104 : decode cX4_findDressed 104 = .ok (.ishl, 1) := by decide +kernel
theorem dX4_findDressed_105 : decode cX4_findDressed 105 = .ok (.iconst (-1), 1) := by decide +kernel
theorem dX4_findDressed_106 : decode cX4_findDressed 106 = .ok (.ixor, 1) := by decide +kernel
theorem dX4_findDressed_107 : decode cX4_findDressed 107 = .ok (.iand, 1) := by decide +kernel
theorem dX4_findDressed_108 : decode cX4_findDressed 108 = .ok (.iaload, 1) := by decide +kernel
theorem dX4_findDressed_109 : decode cX4_findDressed 109 = .ok (.iadd, 1) := by decide +kernel
theorem dX4_findDressed_110 : decode cX4_findDressed 110 = .ok (.goto 4, 3) := by decide +kernel
theorem dX4_findDressed_113 : decode cX4_findDressed 113 = .ok (.iconst 0, 1) := by decide +kernel
theorem dX4_findDressed_114 : decode cX4_findDressed 114 = .ok (.istore 5, 2) := by decide +kernel
theorem dX4_findDressed_116 : decode cX4_findDressed 116 = .ok (.iload 5, 2) := by decide +kernel
theorem dX4_findDressed_118 : decode cX4_findDressed 118 = .ok (.iload_n 3, 1) := by decide +kernel
theorem dX4_findDressed_119 : decode cX4_findDressed 119 = .ok (.if_icmp .le 8, 3) := by decide +kernel
theorem dX4_findDressed_122 : decode cX4_findDressed 122 = .ok (.iload 5, 2) := by decide +kernel
theorem dX4_findDressed_124 : decode cX4_findDressed 124 = .ok (.goto 4, 3) := by decide +kernel
theorem dX4_findDressed_127 : decode cX4_findDressed 127 = .ok (.iload_n 3, 1) := by decide +kernel
theorem dX4_findDressed_128 : decode cX4_findDressed 128 = .ok (.istore_n 3, 1) := by decide +kernel
theorem dX4_findDressed_129 : decode cX4_findDressed 129 = .ok (.iinc 4 1, 3) := by decide +kernel
theorem dX4_findDressed_132 : decode cX4_findDressed 132 = .ok (.goto (-65), 3) := by decide +kernel
theorem dX4_findDressed_135 : decode cX4_findDressed 135 = .ok (.aload_n 0, 1) := by decide +kernel
theorem dX4_findDressed_136 : decode cX4_findDressed 136 = .ok (.getfield 51, 3) := by decide +kernel
theorem dX4_findDressed_139 : decode cX4_findDressed 139 = .ok (.iload_n 1, 1) := by decide +kernel
theorem dX4_findDressed_140 : decode cX4_findDressed 140 = .ok (.aaload, 1) := by decide +kernel
theorem dX4_findDressed_141 : decode cX4_findDressed 141 = .ok (.iload_n 2, 1) := by decide +kernel
theorem dX4_findDressed_142 : decode cX4_findDressed 142 = .ok (.iload_n 3, 1) := by decide +kernel
theorem dX4_findDressed_143 : decode cX4_findDressed 143 = .ok (.iastore, 1) := by decide +kernel
theorem dX4_findDressed_144 : decode cX4_findDressed 144 = .ok (.iinc 2 1, 3) := by decide +kernel
theorem dX4_findDressed_147 : decode cX4_findDressed 147 = .ok (.goto (-108), 3) := by decide +kernel
theorem dX4_findDressed_150 : decode cX4_findDressed 150 = .ok (.iinc 1 (-1), 3) := by decide +kernel
theorem dX4_findDressed_153 : decode cX4_findDressed 153 = .ok (.goto (-120), 3) := by decide +kernel
theorem dX4_findDressed_156 : decode cX4_findDressed 156 = .ok (.return_, 1) := by decide +kernel
theorem dX4_dressedIn_0 : decode cX4_dressedIn 0 = .ok (.iconst 0, 1) := by decide +kernel
theorem dX4_dressedIn_1 : decode cX4_dressedIn 1 = .ok (.istore_n 3, 1) := by decide +kernel
theorem dX4_dressedIn_2 : decode cX4_dressedIn 2 = .ok (.iload_n 3, 1) := by decide +kernel
theorem dX4_dressedIn_3 : decode cX4_dressedIn 3 = .ok (.aload_n 0, 1) := by decide +kernel
theorem dX4_dressedIn_4 : decode cX4_dressedIn 4 = .ok (.getfield 60, 3) := by decide +kernel
theorem dX4_dressedIn_7 : decode cX4_dressedIn 7 = .ok (.if_icmp .ge 53, 3) := by decide +kernel
theorem dX4_dressedIn_10 : decode cX4_dressedIn 10 = .ok (.iload_n 2, 1) := by decide +kernel
theorem dX4_dressedIn_11 : decode cX4_dressedIn 11 = .ok (.iload_n 3, 1) := by decide +kernel
theorem dX4_dressedIn_12 : decode cX4_dressedIn 12 = .ok (.invokestatic 237, 3) := by decide +kernel
theorem dX4_dressedIn_15 : decode cX4_dressedIn 15 = .ok (.ifCond .eq 39, 3) := by decide +kernel
theorem dX4_dressedIn_18 : decode cX4_dressedIn 18 = .ok (.aload_n 0, 1) := by decide +kernel
theorem dX4_dressedIn_19 : decode cX4_dressedIn 19 = .ok (.iload_n 1, 1) := by decide +kernel
theorem dX4_dressedIn_20 : decode cX4_dressedIn 20 = .ok (.iload_n 3, 1) := by decide +kernel
theorem dX4_dressedIn_21 : decode cX4_dressedIn 21 = .ok (.invokevirtual 234, 3) := by decide +kernel
theorem dX4_dressedIn_24 : decode cX4_dressedIn 24 = .ok (.aload_n 0, 1) := by decide +kernel
theorem dX4_dressedIn_25 : decode cX4_dressedIn 25 = .ok (.getfield 51, 3) := by decide +kernel
theorem dX4_dressedIn_28 : decode cX4_dressedIn 28 = .ok (.iload_n 1, 1) := by decide +kernel
theorem dX4_dressedIn_29 : decode cX4_dressedIn 29 = .ok (.iconst 1, 1) := by decide +kernel
theorem dX4_dressedIn_30 : decode cX4_dressedIn 30 = .ok (.iadd, 1) := by decide +kernel
theorem dX4_dressedIn_31 : decode cX4_dressedIn 31 = .ok (.aaload, 1) := by decide +kernel
theorem dX4_dressedIn_32 : decode cX4_dressedIn 32 = .ok (.iload_n 2, 1) := by decide +kernel
theorem dX4_dressedIn_33 : decode cX4_dressedIn 33 = .ok (.iconst 1, 1) := by decide +kernel
theorem dX4_dressedIn_34 : decode cX4_dressedIn 34 = .ok (.iload_n 3, 1) := by decide +kernel
theorem dX4_dressedIn_35 : decode cX4_dressedIn 35 = .ok (.ishl, 1) := by decide +kernel
theorem dX4_dressedIn_36 : decode cX4_dressedIn 36 = .ok (.iconst (-1), 1) := by decide +kernel
theorem dX4_dressedIn_37 : decode cX4_dressedIn 37 = .ok (.ixor, 1) := by decide +kernel
theorem dX4_dressedIn_38 : decode cX4_dressedIn 38 = .ok (.iand, 1) := by decide +kernel
theorem dX4_dressedIn_39 : decode cX4_dressedIn 39 = .ok (.iaload, 1) := by decide +kernel
theorem dX4_dressedIn_40 : decode cX4_dressedIn 40 = .ok (.iadd, 1) := by decide +kernel
theorem dX4_dressedIn_41 : decode cX4_dressedIn 41 = .ok (.aload_n 0, 1) := by decide +kernel
theorem dX4_dressedIn_42 : decode cX4_dressedIn 42 = .ok (.getfield 51, 3) := by decide +kernel
theorem dX4_dressedIn_45 : decode cX4_dressedIn 45 = .ok (.iload_n 1, 1) := by decide +kernel
theorem dX4_dressedIn_46 : decode cX4_dressedIn 46 = .ok (.aaload, 1) := by decide +kernel
theorem dX4_dressedIn_47 : decode cX4_dressedIn 47 = .ok (.iload_n 2, 1) := by decide +kernel
theorem dX4_dressedIn_48 : decode cX4_dressedIn 48 = .ok (.iaload, 1) := by decide +kernel
theorem dX4_dressedIn_49 : decode cX4_dressedIn 49 = .ok (.if_icmp .ne 5, 3) := by decide +kernel
theorem dX4_dressedIn_52 : decode cX4_dressedIn 52 = .ok (.iload_n 3, 1) := by decide +kernel
theorem dX4_dressedIn_53 : decode cX4_dressedIn 53 = .ok (.ireturn, 1) := by decide +kernel
theorem dX4_dressedIn_54 : decode cX4_dressedIn 54 = .ok (.iinc 3 1, 3) := by decide +kernel
theorem dX4_dressedIn_57 : decode cX4_dressedIn 57 = .ok (.goto (-55), 3) := by decide +kernel
theorem dX4_dressedIn_60 : decode cX4_dressedIn 60 = .ok (.bipush (-9), 2) := by decide +kernel
theorem dX4_dressedIn_62 : decode cX4_dressedIn 62 = .ok (.ireturn, 1) := by decide +kernel
theorem dX4_dress_0 : decode cX4_dress 0 = .ok (.iload_n 1, 1) := by decide +kernel
theorem dX4_dress_1 : decode cX4_dress 1 = .ok (.iconst (-1), 1) := by decide +kernel
theorem dX4_dress_2 : decode cX4_dress 2 = .ok (.if_icmp .lt 11, 3) := by decide +kernel
theorem dX4_dress_5 : decode cX4_dress 5 = .ok (.iload_n 1, 1) := by decide +kernel
theorem dX4_dress_6 : decode cX4_dress 6 = .ok (.aload_n 0, 1) := by decide +kernel
theorem dX4_dress_7 : decode cX4_dress 7 = .ok (.getfield 67, 3) := by decide +kernel
theorem dX4_dress_10 : decode cX4_dress 10 = .ok (.if_icmp .lt 9, 3) := by decide +kernel
theorem dX4_dress_13 : decode cX4_dress 13 = .ok (.aload_n 0, 1) := by decide +kernel
theorem dX4_dress_14 : decode cX4_dress 14 = .ok (.iconst (-1), 1) := by decide +kernel
theorem dX4_dress_15 : decode cX4_dress 15 = .ok (.invokevirtual 77, 3) := by decide +kernel
theorem dX4_dress_18 : decode cX4_dress 18 = .ok (.ireturn, 1) := by decide +kernel
theorem dX4_dress_19 : decode cX4_dress 19 = .ok (.aload_n 0, 1) := by decide +kernel
theorem dX4_dress_20 : decode cX4_dress 20 = .ok (.invokevirtual 240, 3) := by decide +kernel
theorem dX4_dress_23 : decode cX4_dress 23 = .ok (.iconst 1, 1) := by decide +kernel
theorem dX4_dress_24 : decode cX4_dress 24 = .ok (.aload_n 0, 1) := by decide +kernel
theorem dX4_dress_25 : decode cX4_dress 25 = .ok (.getfield 60, 3) := by decide +kernel
theorem dX4_dress_28 : decode cX4_dress 28 = .ok (.ishl, 1) := by decide +kernel
theorem dX4_dress_29 : decode cX4_dress 29 = .ok (.iconst 1, 1) := by decide +kernel
theorem dX4_dress_30 : decode cX4_dress 30 = .ok (.isub, 1) := by decide +kernel
theorem dX4_dress_31 : decode cX4_dress 31 = .ok (.istore_n 2, 1) := by decide +kernel
theorem dX4_dress_32 : decode cX4_dress 32 = .ok (.iload_n 1, 1) := by decide +kernel
theorem dX4_dress_33 : decode cX4_dress 33 = .ok (.ifCond .ge 12, 3) := by decide +kernel
theorem dX4_dress_36 : decode cX4_dress 36 = .ok (.aload_n 0, 1) := by decide +kernel
theorem dX4_dress_37 : decode cX4_dress 37 = .ok (.getfield 51, 3) := by decide +kernel
theorem dX4_dress_40 : decode cX4_dress 40 = .ok (.iconst 0, 1) := by decide +kernel
theorem dX4_dress_41 : decode cX4_dress 41 = .ok (.aaload, 1) := by decide +kernel
theorem dX4_dress_42 : decode cX4_dress 42 = .ok (.iload_n 2, 1) := by decide +kernel
theorem dX4_dress_43 : decode cX4_dress 43 = .ok (.iaload, 1) := by decide +kernel
theorem dX4_dress_44 : decode cX4_dress 44 = .ok (.ireturn, 1) := by decide +kernel
theorem dX4_dress_45 : decode cX4_dress 45 = .ok (.bipush (-9), 2) := by decide +kernel
theorem dX4_dress_47 : decode cX4_dress 47 = .ok (.istore_n 3, 1) := by decide +kernel
theorem dX4_dress_48 : decode cX4_dress 48 = .ok (.iconst 0, 1) := by decide +kernel
theorem dX4_dress_49 : decode cX4_dress 49 = .ok (.istore 4, 2) := by decide +kernel
theorem dX4_dress_51 : decode cX4_dress 51 = .ok (.iload 4, 2) := by decide +kernel
theorem dX4_dress_53 : decode cX4_dress 53 = .ok (.iload_n 1, 1) := by decide +kernel
theorem dX4_dress_54 : decode cX4_dress 54 = .ok (.if_icmp .gt 29, 3) := by decide +kernel
theorem dX4_dress_57 : decode cX4_dress 57 = .ok (.aload_n 0, 1) := by decide +kernel
theorem dX4_dress_58 : decode cX4_dress 58 = .ok (.iload 4, 2) := by decide +kernel
theorem dX4_dress_60 : decode cX4_dress 60 = .ok (.iload_n 2, 1) := by decide +kernel
theorem dX4_dress_61 : decode cX4_dress 61 = .ok (.invokevirtual 243, 3) := by decide +kernel
theorem dX4_dress_64 : decode cX4_dress 64 = .ok (.istore_n 3, 1) := by decide +kernel
theorem dX4_dress_65 : decode cX4_dress 65 = .ok (.iload_n 3, 1) := by decide +kernel
theorem dX4_dress_66 : decode cX4_dress 66 = .ok (.ifCond .lt 11, 3) := by decide +kernel
theorem dX4_dress_69 : decode cX4_dress 69 = .ok (.iload_n 2, 1) := by decide +kernel
theorem dX4_dress_70 : decode cX4_dress 70 = .ok (.iconst 1, 1) := by decide +kernel
theorem dX4_dress_71 : decode cX4_dress 71 = .ok (.iload_n 3, 1) := by decide +kernel
theorem dX4_dress_72 : decode cX4_dress 72 = .ok (.ishl, 1) := by decide +kernel
theorem dX4_dress_73 : decode cX4_dress 73 = .ok (.iconst (-1), 1) := by decide +kernel
theorem dX4_dress_74 : decode cX4_dress 74 = .ok (.ixor, 1) := by decide +kernel
theorem dX4_dress_75 : decode cX4_dress 75 = .ok (.iand, 1) := by decide +kernel
theorem dX4_dress_76 : decode cX4_dress 76 = .ok (.istore_n 2, 1) := by decide +kernel
theorem dX4_dress_77 : decode cX4_dress 77 = .ok (.iinc 4 1, 3) := by decide +kernel
theorem dX4_dress_80 : decode cX4_dress 80 = .ok (.goto (-29), 3) := by decide +kernel
theorem dX4_dress_83 : decode cX4_dress 83 = .ok (.iload_n 3, 1) := by decide +kernel
theorem dX4_dress_84 : decode cX4_dress 84 = .ok (.ireturn, 1) := by decide +kernel
theorem dX4_findSuit_0 : decode cX4_findSuit 0 = .ok (.aload_n 0, 1) := by decide +kernel
theorem dX4_findSuit_1 : decode cX4_findSuit 1 = .ok (.bipush (-9), 2) := by decide +kernel
theorem dX4_findSuit_3 : decode cX4_findSuit 3 = .ok (.putfield 246, 3) := by decide +kernel
theorem dX4_findSuit_6 : decode cX4_findSuit 6 = .ok (.aload_n 0, 1) := by decide +kernel
theorem dX4_findSuit_7 : decode cX4_findSuit 7 = .ok (.aload_n 0, 1) := by decide +kernel
theorem dX4_findSuit_8 : decode cX4_findSuit 8 = .ok (.getfield 28, 3) := by decide +kernel
theorem dX4_findSuit_11 : decode cX4_findSuit 11 = .ok (.iload_n 1, 1) := by decide +kernel
theorem dX4_findSuit_12 : decode cX4_findSuit 12 = .ok (.iaload, 1) := by decide +kernel
theorem dX4_findSuit_13 : decode cX4_findSuit 13 = .ok (.putfield 249, 3) := by decide +kernel
theorem dX4_findSuit_16 : decode cX4_findSuit 16 = .ok (.iconst 0, 1) := by decide +kernel
theorem dX4_findSuit_17 : decode cX4_findSuit 17 = .ok (.istore_n 3, 1) := by decide +kernel
theorem dX4_findSuit_18 : decode cX4_findSuit 18 = .ok (.iload_n 3, 1) := by decide +kernel
theorem dX4_findSuit_19 : decode cX4_findSuit 19 = .ok (.aload_n 0, 1) := by decide +kernel
theorem dX4_findSuit_20 : decode cX4_findSuit 20 = .ok (.getfield 60, 3) := by decide +kernel
theorem dX4_findSuit_23 : decode cX4_findSuit 23 = .ok (.if_icmp .ge 59, 3) := by decide +kernel
theorem dX4_findSuit_26 : decode cX4_findSuit 26 = .ok (.aload_n 0, 1) := by decide +kernel
theorem dX4_findSuit_27 : decode cX4_findSuit 27 = .ok (.invokevirtual 219, 3) := by decide +kernel
theorem dX4_findSuit_30 : decode cX4_findSuit 30 = .ok (.aload_n 0, 1) := by decide +kernel
theorem dX4_findSuit_31 : decode cX4_findSuit 31 = .ok (.iload_n 1, 1) := by decide +kernel
theorem dX4_findSuit_32 : decode cX4_findSuit 32 = .ok (.iload_n 3, 1) := by decide +kernel
theorem dX4_findSuit_33 : decode cX4_findSuit 33 = .ok (.invokevirtual 115, 3) := by decide +kernel
theorem dX4_findSuit_36 : decode cX4_findSuit 36 = .ok (.aload_n 0, 1) := by decide +kernel
theorem dX4_findSuit_37 : decode cX4_findSuit 37 = .ok (.iload_n 2, 1) := by decide +kernel
theorem dX4_findSuit_38 : decode cX4_findSuit 38 = .ok (.invokevirtual 122, 3) := by decide +kernel
theorem dX4_findSuit_41 : decode cX4_findSuit 41 = .ok (.aload_n 0, 1) := by decide +kernel
theorem dX4_findSuit_42 : decode cX4_findSuit 42 = .ok (.getfield 28, 3) := by decide +kernel
theorem dX4_findSuit_45 : decode cX4_findSuit 45 = .ok (.iload_n 1, 1) := by decide +kernel
theorem dX4_findSuit_46 : decode cX4_findSuit 46 = .ok (.iaload, 1) := by decide +kernel
theorem dX4_findSuit_47 : decode cX4_findSuit 47 = .ok (.istore 4, 2) := by decide +kernel
theorem dX4_findSuit_49 : decode cX4_findSuit 49 = .ok (.aload_n 0, 1) := by decide +kernel
theorem dX4_findSuit_50 : decode cX4_findSuit 50 = .ok (.invokevirtual 222, 3) := by decide +kernel
theorem dX4_findSuit_53 : decode cX4_findSuit 53 = .ok (.iload 4, 2) := by decide +kernel
theorem dX4_findSuit_55 : decode cX4_findSuit 55 = .ok (.aload_n 0, 1) := by decide +kernel
theorem dX4_findSuit_56 : decode cX4_findSuit 56 = .ok (.getfield 249, 3) := by decide +kernel
theorem dX4_findSuit_59 : decode cX4_findSuit 59 = .ok (.if_icmp .gt 6, 3) := by decide +kernel
theorem dX4_findSuit_62 : decode cX4_findSuit 62 = .ok (.goto 14, 3) := by decide +kernel
theorem dX4_findSuit_65 : decode cX4_findSuit 65 = .ok (.aload_n 0, 1) := by decide +kernel
theorem dX4_findSuit_66 : decode cX4_findSuit 66 = .ok (.iload_n 3, 1) := by decide +kernel
theorem dX4_findSuit_67 : decode cX4_findSuit 67 = .ok (.putfield 246, 3) := by decide +kernel
theorem dX4_findSuit_70 : decode cX4_findSuit 70 = .ok (.aload_n 0, 1) := by decide +kernel
theorem dX4_findSuit_71 : decode cX4_findSuit 71 = .ok (.iload 4, 2) := by decide +kernel
theorem dX4_findSuit_73 : decode cX4_findSuit 73 = .ok (.putfield 249, 3) := by decide +kernel
theorem dX4_findSuit_76 : decode cX4_findSuit 76 = .ok (.iinc 3 1, 3) := by decide +kernel
theorem dX4_findSuit_79 : decode cX4_findSuit 79 = .ok (.goto (-61), 3) := by decide +kernel
theorem dX4_findSuit_82 : decode cX4_findSuit 82 = .ok (.return_, 1) := by decide +kernel
theorem dX4_suitBest_0 : decode cX4_suitBest 0 = .ok (.aload_n 0, 1) := by decide +kernel
theorem dX4_suitBest_1 : decode cX4_suitBest 1 = .ok (.iload_n 1, 1) := by decide +kernel
theorem dX4_suitBest_2 : decode cX4_suitBest 2 = .ok (.invokevirtual 112, 3) := by decide +kernel
theorem dX4_suitBest_5 : decode cX4_suitBest 5 = .ok (.ifCond .ne 7, 3) := by decide +kernel
theorem dX4_suitBest_8 : decode cX4_suitBest 8 = .ok (.iconst (-1), 1) := by decide +kernel
theorem dX4_suitBest_9 : decode cX4_suitBest 9 = .ok (.goto 10, 3) := by decide +kernel
theorem dX4_suitBest_12 : decode cX4_suitBest 12 = .ok (.iload_n 2, 1) := by decide +kernel
theorem dX4_suitBest_13 : decode cX4_suitBest 13 = .ok (.iconst 0, 1) := by decide +kernel
theorem dX4_suitBest_14 : decode cX4_suitBest 14 = .ok (.bipush 30, 2) := by decide +kernel
theorem dX4_suitBest_16 : decode cX4_suitBest 16 = .ok (.invokestatic 70, 3) := by decide +kernel
theorem dX4_suitBest_19 : decode cX4_suitBest 19 = .ok (.istore 4, 2) := by decide +kernel
theorem dX4_suitBest_21 : decode cX4_suitBest 21 = .ok (.iload 4, 2) := by decide +kernel
theorem dX4_suitBest_23 : decode cX4_suitBest 23 = .ok (.ifCond .ne 16, 3) := by decide +kernel
theorem dX4_suitBest_26 : decode cX4_suitBest 26 = .ok (.iload_n 3, 1) := by decide +kernel
theorem dX4_suitBest_27 : decode cX4_suitBest 27 = .ok (.iconst 0, 1) := by decide +kernel
theorem dX4_suitBest_28 : decode cX4_suitBest 28 = .ok (.iconst 1, 1) := by decide +kernel
theorem dX4_suitBest_29 : decode cX4_suitBest 29 = .ok (.invokestatic 88, 3) := by decide +kernel
theorem dX4_suitBest_32 : decode cX4_suitBest 32 = .ok (.ifCond .ne 7, 3) := by decide +kernel
theorem dX4_suitBest_35 : decode cX4_suitBest 35 = .ok (.bipush (-2), 2) := by decide +kernel
theorem dX4_suitBest_37 : decode cX4_suitBest 37 = .ok (.istore 4, 2) := by decide +kernel
theorem dX4_suitBest_39 : decode cX4_suitBest 39 = .ok (.iload 4, 2) := by decide +kernel
theorem dX4_suitBest_41 : decode cX4_suitBest 41 = .ok (.ifCond .eq 10, 3) := by decide +kernel
theorem dX4_suitBest_44 : decode cX4_suitBest 44 = .ok (.aload_n 0, 1) := by decide +kernel
theorem dX4_suitBest_45 : decode cX4_suitBest 45 = .ok (.iload 4, 2) := by decide +kernel
theorem dX4_suitBest_47 : decode cX4_suitBest 47 = .ok (.invokevirtual 77, 3) := by decide +kernel
theorem dX4_suitBest_50 : decode cX4_suitBest 50 = .ok (.ireturn, 1) := by decide +kernel
theorem dX4_suitBest_51 : decode cX4_suitBest 51 = .ok (.aload_n 0, 1) := by decide +kernel
theorem dX4_suitBest_52 : decode cX4_suitBest 52 = .ok (.iload_n 1, 1) := by decide +kernel
theorem dX4_suitBest_53 : decode cX4_suitBest 53 = .ok (.iload_n 2, 1) := by decide +kernel
theorem dX4_suitBest_54 : decode cX4_suitBest 54 = .ok (.invokevirtual 252, 3) := by decide +kernel
theorem dX4_suitBest_57 : decode cX4_suitBest 57 = .ok (.iload_n 3, 1) := by decide +kernel
theorem dX4_suitBest_58 : decode cX4_suitBest 58 = .ok (.ifCond .eq 10, 3) := by decide +kernel
theorem dX4_suitBest_61 : decode cX4_suitBest 61 = .ok (.aload_n 0, 1) := by decide +kernel
theorem dX4_suitBest_62 : decode cX4_suitBest 62 = .ok (.getfield 246, 3) := by decide +kernel
theorem dX4_suitBest_65 : decode cX4_suitBest 65 = .ok (.ifCond .ge 10, 3) := by decide +kernel
theorem dX4_suitBest_68 : decode cX4_suitBest 68 = .ok (.aload_n 0, 1) := by decide +kernel
theorem dX4_suitBest_69 : decode cX4_suitBest 69 = .ok (.getfield 246, 3) := by decide +kernel
theorem dX4_suitBest_72 : decode cX4_suitBest 72 = .ok (.goto 7, 3) := by decide +kernel
theorem dX4_suitBest_75 : decode cX4_suitBest 75 = .ok (.aload_n 0, 1) := by decide +kernel
theorem dX4_suitBest_76 : decode cX4_suitBest 76 = .ok (.getfield 249, 3) := by decide +kernel
theorem dX4_suitBest_79 : decode cX4_suitBest 79 = .ok (.ireturn, 1) := by decide +kernel
theorem dX4_change_0 : decode cX4_change 0 = .ok (.iload_n 1, 1) := by decide +kernel
theorem dX4_change_1 : decode cX4_change 1 = .ok (.iconst 0, 1) := by decide +kernel
theorem dX4_change_2 : decode cX4_change 2 = .ok (.bipush 20, 2) := by decide +kernel
theorem dX4_change_4 : decode cX4_change 4 = .ok (.invokestatic 70, 3) := by decide +kernel
theorem dX4_change_7 : decode cX4_change 7 = .ok (.istore_n 2, 1) := by decide +kernel
theorem dX4_change_8 : decode cX4_change 8 = .ok (.iload_n 2, 1) := by decide +kernel
theorem dX4_change_9 : decode cX4_change 9 = .ok (.ifCond .eq 9, 3) := by decide +kernel
theorem dX4_change_12 : decode cX4_change 12 = .ok (.aload_n 0, 1) := by decide +kernel
theorem dX4_change_13 : decode cX4_change 13 = .ok (.iload_n 2, 1) := by decide +kernel
theorem dX4_change_14 : decode cX4_change 14 = .ok (.invokevirtual 77, 3) := by decide +kernel
theorem dX4_change_17 : decode cX4_change 17 = .ok (.ireturn, 1) := by decide +kernel
theorem dX4_change_18 : decode cX4_change 18 = .ok (.bipush (-9), 2) := by decide +kernel
theorem dX4_change_20 : decode cX4_change 20 = .ok (.istore_n 3, 1) := by decide +kernel
theorem dX4_change_21 : decode cX4_change 21 = .ok (.aload_n 0, 1) := by decide +kernel
theorem dX4_change_22 : decode cX4_change 22 = .ok (.iload_n 1, 1) := by decide +kernel
theorem dX4_change_23 : decode cX4_change 23 = .ok (.invokevirtual 231, 3) := by decide +kernel
theorem dX4_change_26 : decode cX4_change 26 = .ok (.istore 4, 2) := by decide +kernel
theorem dX4_change_28 : decode cX4_change 28 = .ok (.iconst 0, 1) := by decide +kernel
theorem dX4_change_29 : decode cX4_change 29 = .ok (.istore 5, 2) := by decide +kernel
theorem dX4_change_31 : decode cX4_change 31 = .ok (.iload 5, 2) := by decide +kernel
theorem dX4_change_33 : decode cX4_change 33 = .ok (.aload_n 0, 1) := by decide +kernel
theorem dX4_change_34 : decode cX4_change 34 = .ok (.getfield 67, 3) := by decide +kernel
theorem dX4_change_37 : decode cX4_change 37 = .ok (.if_icmp .ge 114, 3) := by decide +kernel
theorem dX4_change_40 : decode cX4_change 40 = .ok (.iload 5, 2) := by decide +kernel
theorem dX4_change_42 : decode cX4_change 42 = .ok (.iconst 1, 1) := by decide +kernel
theorem dX4_change_43 : decode cX4_change 43 = .ok (.iadd, 1) := by decide +kernel
theorem dX4_change_44 : decode cX4_change 44 = .ok (.istore 6, 2) := by decide +kernel
theorem dX4_change_46 : decode cX4_change 46 = .ok (.iload 6, 2) := by decide +kernel
theorem dX4_change_48 : decode cX4_change 48 = .ok (.aload_n 0, 1) := by decide +kernel
theorem dX4_change_49 : decode cX4_change 49 = .ok (.getfield 67, 3) := by decide +kernel
theorem dX4_change_52 : decode cX4_change 52 = .ok (.if_icmp .ge 93, 3) := by decide +kernel
theorem dX4_change_55 : decode cX4_change 55 = .ok (.aload_n 0, 1) := by decide +kernel
theorem dX4_change_56 : decode cX4_change 56 = .ok (.getfield 31, 3) := by decide +kernel
theorem dX4_change_59 : decode cX4_change 59 = .ok (.iload 5, 2) := by decide +kernel
theorem dX4_change_61 : decode cX4_change 61 = .ok (.iaload, 1) := by decide +kernel
theorem dX4_change_62 : decode cX4_change 62 = .ok (.istore 7, 2) := by decide +kernel
theorem dX4_change_64 : decode cX4_change 64 = .ok (.aload_n 0, 1) := by decide +kernel
theorem dX4_change_65 : decode cX4_change 65 = .ok (.getfield 31, 3) := by decide +kernel
theorem dX4_change_68 : decode cX4_change 68 = .ok (.iload 6, 2) := by decide +kernel
theorem dX4_change_70 : decode cX4_change 70 = .ok (.iaload, 1) := by decide +kernel
theorem dX4_change_71 : decode cX4_change 71 = .ok (.istore 8, 2) := by decide +kernel
theorem dX4_change_73 : decode cX4_change 73 = .ok (.aload_n 0, 1) := by decide +kernel
theorem dX4_change_74 : decode cX4_change 74 = .ok (.getfield 31, 3) := by decide +kernel
theorem dX4_change_77 : decode cX4_change 77 = .ok (.iload 5, 2) := by decide +kernel
theorem dX4_change_79 : decode cX4_change 79 = .ok (.iload 8, 2) := by decide +kernel
theorem dX4_change_81 : decode cX4_change 81 = .ok (.iastore, 1) := by decide +kernel
theorem dX4_change_82 : decode cX4_change 82 = .ok (.aload_n 0, 1) := by decide +kernel
theorem dX4_change_83 : decode cX4_change 83 = .ok (.getfield 31, 3) := by decide +kernel
theorem dX4_change_86 : decode cX4_change 86 = .ok (.iload 6, 2) := by decide +kernel
theorem dX4_change_88 : decode cX4_change 88 = .ok (.iload 7, 2) := by decide +kernel
theorem dX4_change_90 : decode cX4_change 90 = .ok (.iastore, 1) := by decide +kernel
theorem dX4_change_91 : decode cX4_change 91 = .ok (.aload_n 0, 1) := by decide +kernel
theorem dX4_change_92 : decode cX4_change 92 = .ok (.iload_n 1, 1) := by decide +kernel
theorem dX4_change_93 : decode cX4_change 93 = .ok (.invokevirtual 231, 3) := by decide +kernel
theorem dX4_change_96 : decode cX4_change 96 = .ok (.istore 9, 2) := by decide +kernel
theorem dX4_change_98 : decode cX4_change 98 = .ok (.aload_n 0, 1) := by decide +kernel
theorem dX4_change_99 : decode cX4_change 99 = .ok (.getfield 31, 3) := by decide +kernel
theorem dX4_change_102 : decode cX4_change 102 = .ok (.iload 5, 2) := by decide +kernel
theorem dX4_change_104 : decode cX4_change 104 = .ok (.iload 7, 2) := by decide +kernel
theorem dX4_change_106 : decode cX4_change 106 = .ok (.iastore, 1) := by decide +kernel
theorem dX4_change_107 : decode cX4_change 107 = .ok (.aload_n 0, 1) := by decide +kernel
theorem dX4_change_108 : decode cX4_change 108 = .ok (.getfield 31, 3) := by decide +kernel
theorem dX4_change_111 : decode cX4_change 111 = .ok (.iload 6, 2) := by decide +kernel
theorem dX4_change_113 : decode cX4_change 113 = .ok (.iload 8, 2) := by decide +kernel
theorem dX4_change_115 : decode cX4_change 115 = .ok (.iastore, 1) := by decide +kernel
theorem dX4_change_116 : decode cX4_change 116 = .ok (.iload 9, 2) := by decide +kernel
theorem dX4_change_118 : decode cX4_change 118 = .ok (.iload 4, 2) := by decide +kernel
theorem dX4_change_120 : decode cX4_change 120 = .ok (.if_icmp .gt 6, 3) := by decide +kernel
theorem dX4_change_123 : decode cX4_change 123 = .ok (.goto 16, 3) := by decide +kernel
theorem dX4_change_126 : decode cX4_change 126 = .ok (.bipush 10, 2) := by decide +kernel
theorem dX4_change_128 : decode cX4_change 128 = .ok (.iload 5, 2) := by decide +kernel
theorem dX4_change_130 : decode cX4_change 130 = .ok (.imul, 1) := by decide +kernel
theorem dX4_change_131 : decode cX4_change 131 = .ok (.iload 6, 2) := by decide +kernel
theorem dX4_change_133 : decode cX4_change 133 = .ok (.iadd, 1) := by decide +kernel
theorem dX4_change_134 : decode cX4_change 134 = .ok (.istore_n 3, 1) := by decide +kernel
theorem dX4_change_135 : decode cX4_change 135 = .ok (.iload 9, 2) := by decide +kernel
theorem dX4_change_137 : decode cX4_change 137 = .ok (.istore 4, 2) := by decide +kernel
theorem dX4_change_139 : decode cX4_change 139 = .ok (.iinc 6 1, 3) := by decide +kernel
theorem dX4_change_142 : decode cX4_change 142 = .ok (.goto (-96), 3) := by decide +kernel
theorem dX4_change_145 : decode cX4_change 145 = .ok (.iinc 5 1, 3) := by decide +kernel
theorem dX4_change_148 : decode cX4_change 148 = .ok (.goto (-117), 3) := by decide +kernel
theorem dX4_change_151 : decode cX4_change 151 = .ok (.iload_n 3, 1) := by decide +kernel
theorem dX4_change_152 : decode cX4_change 152 = .ok (.ireturn, 1) := by decide +kernel
theorem dX4_proposedBy_0 : decode cX4_proposedBy 0 = .ok (.aload_n 0, 1) := by decide +kernel
theorem dX4_proposedBy_1 : decode cX4_proposedBy 1 = .ok (.invokevirtual 219, 3) := by decide +kernel
theorem dX4_proposedBy_4 : decode cX4_proposedBy 4 = .ok (.iconst 0, 1) := by decide +kernel
theorem dX4_proposedBy_5 : decode cX4_proposedBy 5 = .ok (.istore_n 3, 1) := by decide +kernel
theorem dX4_proposedBy_6 : decode cX4_proposedBy 6 = .ok (.iload_n 3, 1) := by decide +kernel
theorem dX4_proposedBy_7 : decode cX4_proposedBy 7 = .ok (.aload_n 0, 1) := by decide +kernel
theorem dX4_proposedBy_8 : decode cX4_proposedBy 8 = .ok (.getfield 67, 3) := by decide +kernel
theorem dX4_proposedBy_11 : decode cX4_proposedBy 11 = .ok (.if_icmp .ge 33, 3) := by decide +kernel
theorem dX4_proposedBy_14 : decode cX4_proposedBy 14 = .ok (.aload_n 0, 1) := by decide +kernel
theorem dX4_proposedBy_15 : decode cX4_proposedBy 15 = .ok (.getfield 31, 3) := by decide +kernel
theorem dX4_proposedBy_18 : decode cX4_proposedBy 18 = .ok (.iload_n 3, 1) := by decide +kernel
theorem dX4_proposedBy_19 : decode cX4_proposedBy 19 = .ok (.iload_n 1, 1) := by decide +kernel
theorem dX4_proposedBy_20 : decode cX4_proposedBy 20 = .ok (.iload_n 3, 1) := by decide +kernel
theorem dX4_proposedBy_21 : decode cX4_proposedBy 21 = .ok (.invokestatic 237, 3) := by decide +kernel
theorem dX4_proposedBy_24 : decode cX4_proposedBy 24 = .ok (.ifCond .eq 12, 3) := by decide +kernel
theorem dX4_proposedBy_27 : decode cX4_proposedBy 27 = .ok (.aload_n 0, 1) := by decide +kernel
theorem dX4_proposedBy_28 : decode cX4_proposedBy 28 = .ok (.getfield 31, 3) := by decide +kernel
theorem dX4_proposedBy_31 : decode cX4_proposedBy 31 = .ok (.iload_n 3, 1) := by decide +kernel
theorem dX4_proposedBy_32 : decode cX4_proposedBy 32 = .ok (.iaload, 1) := by decide +kernel
theorem dX4_proposedBy_33 : decode cX4_proposedBy 33 = .ok (.goto 4, 3) := by decide +kernel
theorem dX4_proposedBy_36 : decode cX4_proposedBy 36 = .ok (.iconst 0, 1) := by decide +kernel
theorem dX4_proposedBy_37 : decode cX4_proposedBy 37 = .ok (.iastore, 1) := by decide +kernel
theorem dX4_proposedBy_38 : decode cX4_proposedBy 38 = .ok (.iinc 3 1, 3) := by decide +kernel
theorem dX4_proposedBy_41 : decode cX4_proposedBy 41 = .ok (.goto (-35), 3) := by decide +kernel
theorem dX4_proposedBy_44 : decode cX4_proposedBy 44 = .ok (.aload_n 0, 1) := by decide +kernel
theorem dX4_proposedBy_45 : decode cX4_proposedBy 45 = .ok (.iload_n 2, 1) := by decide +kernel
theorem dX4_proposedBy_46 : decode cX4_proposedBy 46 = .ok (.invokevirtual 122, 3) := by decide +kernel
theorem dX4_proposedBy_49 : decode cX4_proposedBy 49 = .ok (.iconst 0, 1) := by decide +kernel
theorem dX4_proposedBy_50 : decode cX4_proposedBy 50 = .ok (.istore_n 3, 1) := by decide +kernel
theorem dX4_proposedBy_51 : decode cX4_proposedBy 51 = .ok (.iconst 0, 1) := by decide +kernel
theorem dX4_proposedBy_52 : decode cX4_proposedBy 52 = .ok (.istore 4, 2) := by decide +kernel
theorem dX4_proposedBy_54 : decode cX4_proposedBy 54 = .ok (.iload 4, 2) := by decide +kernel
theorem dX4_proposedBy_56 : decode cX4_proposedBy 56 = .ok (.aload_n 0, 1) := by decide +kernel
theorem dX4_proposedBy_57 : decode cX4_proposedBy 57 = .ok (.getfield 67, 3) := by decide +kernel
theorem dX4_proposedBy_60 : decode cX4_proposedBy 60 = .ok (.if_icmp .ge 29, 3) := by decide +kernel
theorem dX4_proposedBy_63 : decode cX4_proposedBy 63 = .ok (.iload_n 3, 1) := by decide +kernel
theorem dX4_proposedBy_64 : decode cX4_proposedBy 64 = .ok (.aload_n 0, 1) := by decide +kernel
theorem dX4_proposedBy_65 : decode cX4_proposedBy 65 = .ok (.getfield 28, 3) := by decide +kernel
theorem dX4_proposedBy_68 : decode cX4_proposedBy 68 = .ok (.iload 4, 2) := by decide +kernel
theorem dX4_proposedBy_70 : decode cX4_proposedBy 70 = .ok (.iaload, 1) := by decide +kernel
theorem dX4_proposedBy_71 : decode cX4_proposedBy 71 = .ok (.bipush 6, 2) := by decide +kernel
theorem dX4_proposedBy_73 : decode cX4_proposedBy 73 = .ok (.if_icmp .ne 7, 3) := by decide +kernel
theorem dX4_proposedBy_76 : decode cX4_proposedBy 76 = .ok (.iconst 1, 1) := by decide +kernel
theorem dX4_proposedBy_77 : decode cX4_proposedBy 77 = .ok (.goto 4, 3) := by decide +kernel
theorem dX4_proposedBy_80 : decode cX4_proposedBy 80 = .ok (.iconst 0, 1) := by decide +kernel
theorem dX4_proposedBy_81 : decode cX4_proposedBy 81 = .ok (.iadd, 1) := by decide +kernel
theorem dX4_proposedBy_82 : decode cX4_proposedBy 82 = .ok (.istore_n 3, 1) := by decide +kernel
theorem dX4_proposedBy_83 : decode cX4_proposedBy 83 = .ok (.iinc 4 1, 3) := by decide +kernel
theorem dX4_proposedBy_86 : decode cX4_proposedBy 86 = .ok (.goto (-32), 3) := by decide +kernel
theorem dX4_proposedBy_89 : decode cX4_proposedBy 89 = .ok (.aload_n 0, 1) := by decide +kernel
theorem dX4_proposedBy_90 : decode cX4_proposedBy 90 = .ok (.invokevirtual 222, 3) := by decide +kernel
theorem dX4_proposedBy_93 : decode cX4_proposedBy 93 = .ok (.iload_n 3, 1) := by decide +kernel
theorem dX4_proposedBy_94 : decode cX4_proposedBy 94 = .ok (.ireturn, 1) := by decide +kernel
theorem dX4_dressedOnes_0 : decode cX4_dressedOnes 0 = .ok (.iconst 0, 1) := by decide +kernel
theorem dX4_dressedOnes_1 : decode cX4_dressedOnes 1 = .ok (.istore_n 1, 1) := by decide +kernel
theorem dX4_dressedOnes_2 : decode cX4_dressedOnes 2 = .ok (.iconst 0, 1) := by decide +kernel
theorem dX4_dressedOnes_3 : decode cX4_dressedOnes 3 = .ok (.istore_n 2, 1) := by decide +kernel
theorem dX4_dressedOnes_4 : decode cX4_dressedOnes 4 = .ok (.iload_n 2, 1) := by decide +kernel
theorem dX4_dressedOnes_5 : decode cX4_dressedOnes 5 = .ok (.aload_n 0, 1) := by decide +kernel
theorem dX4_dressedOnes_6 : decode cX4_dressedOnes 6 = .ok (.getfield 67, 3) := by decide +kernel
theorem dX4_dressedOnes_9 : decode cX4_dressedOnes 9 = .ok (.if_icmp .ge 28, 3) := by decide +kernel
theorem dX4_dressedOnes_12 : decode cX4_dressedOnes 12 = .ok (.iload_n 1, 1) := by decide +kernel
theorem dX4_dressedOnes_13 : decode cX4_dressedOnes 13 = .ok (.aload_n 0, 1) := by decide +kernel
theorem dX4_dressedOnes_14 : decode cX4_dressedOnes 14 = .ok (.getfield 31, 3) := by decide +kernel
theorem dX4_dressedOnes_17 : decode cX4_dressedOnes 17 = .ok (.iload_n 2, 1) := by decide +kernel
theorem dX4_dressedOnes_18 : decode cX4_dressedOnes 18 = .ok (.iaload, 1) := by decide +kernel
theorem dX4_dressedOnes_19 : decode cX4_dressedOnes 19 = .ok (.ifCond .ne 7, 3) := by decide +kernel
theorem dX4_dressedOnes_22 : decode cX4_dressedOnes 22 = .ok (.iconst 0, 1) := by decide +kernel
theorem dX4_dressedOnes_23 : decode cX4_dressedOnes 23 = .ok (.goto 6, 3) := by decide +kernel
theorem dX4_dressedOnes_26 : decode cX4_dressedOnes 26 = .ok (.iconst 1, 1) := by decide +kernel
theorem dX4_dressedOnes_27 : decode cX4_dressedOnes 27 = .ok (.iload_n 2, 1) := by decide +kernel
theorem dX4_dressedOnes_28 : decode cX4_dressedOnes 28 = .ok (.ishl, 1) := by decide +kernel
theorem dX4_dressedOnes_29 : decode cX4_dressedOnes 29 = .ok (.ior, 1) := by decide +kernel
theorem dX4_dressedOnes_30 : decode cX4_dressedOnes 30 = .ok (.istore_n 1, 1) := by decide +kernel
theorem dX4_dressedOnes_31 : decode cX4_dressedOnes 31 = .ok (.iinc 2 1, 3) := by decide +kernel
theorem dX4_dressedOnes_34 : decode cX4_dressedOnes 34 = .ok (.goto (-30), 3) := by decide +kernel
theorem dX4_dressedOnes_37 : decode cX4_dressedOnes 37 = .ok (.iload_n 1, 1) := by decide +kernel
theorem dX4_dressedOnes_38 : decode cX4_dressedOnes 38 = .ok (.ireturn, 1) := by decide +kernel
theorem dX4_fewest_0 : decode cX4_fewest 0 = .ok (.iload_n 1, 1) := by decide +kernel
theorem dX4_fewest_1 : decode cX4_fewest 1 = .ok (.iconst 0, 1) := by decide +kernel
theorem dX4_fewest_2 : decode cX4_fewest 2 = .ok (.bipush 30, 2) := by decide +kernel
theorem dX4_fewest_4 : decode cX4_fewest 4 = .ok (.invokestatic 70, 3) := by decide +kernel
theorem dX4_fewest_7 : decode cX4_fewest 7 = .ok (.istore_n 2, 1) := by decide +kernel
theorem dX4_fewest_8 : decode cX4_fewest 8 = .ok (.iload_n 2, 1) := by decide +kernel
theorem dX4_fewest_9 : decode cX4_fewest 9 = .ok (.ifCond .eq 9, 3) := by decide +kernel
theorem dX4_fewest_12 : decode cX4_fewest 12 = .ok (.aload_n 0, 1) := by decide +kernel
theorem dX4_fewest_13 : decode cX4_fewest 13 = .ok (.iload_n 2, 1) := by decide +kernel
theorem dX4_fewest_14 : decode cX4_fewest 14 = .ok (.invokevirtual 77, 3) := by decide +kernel
theorem dX4_fewest_17 : decode cX4_fewest 17 = .ok (.ireturn, 1) := by decide +kernel
theorem dX4_fewest_18 : decode cX4_fewest 18 = .ok (.aload_n 0, 1) := by decide +kernel
theorem dX4_fewest_19 : decode cX4_fewest 19 = .ok (.invokevirtual 255, 3) := by decide +kernel
theorem dX4_fewest_22 : decode cX4_fewest 22 = .ok (.istore_n 3, 1) := by decide +kernel
theorem dX4_fewest_23 : decode cX4_fewest 23 = .ok (.aload_n 0, 1) := by decide +kernel
theorem dX4_fewest_24 : decode cX4_fewest 24 = .ok (.iload_n 3, 1) := by decide +kernel
theorem dX4_fewest_25 : decode cX4_fewest 25 = .ok (.iload_n 1, 1) := by decide +kernel
theorem dX4_fewest_26 : decode cX4_fewest 26 = .ok (.invokevirtual 258, 3) := by decide +kernel
theorem dX4_fewest_29 : decode cX4_fewest 29 = .ok (.istore 4, 2) := by decide +kernel
theorem dX4_fewest_31 : decode cX4_fewest 31 = .ok (.iload_n 3, 1) := by decide +kernel
theorem dX4_fewest_32 : decode cX4_fewest 32 = .ok (.istore 5, 2) := by decide +kernel
theorem dX4_fewest_34 : decode cX4_fewest 34 = .ok (.iconst 0, 1) := by decide +kernel
theorem dX4_fewest_35 : decode cX4_fewest 35 = .ok (.istore 6, 2) := by decide +kernel
theorem dX4_fewest_37 : decode cX4_fewest 37 = .ok (.iload 6, 2) := by decide +kernel
theorem dX4_fewest_39 : decode cX4_fewest 39 = .ok (.iload_n 3, 1) := by decide +kernel
theorem dX4_fewest_40 : decode cX4_fewest 40 = .ok (.if_icmp .ge 47, 3) := by decide +kernel
theorem dX4_fewest_43 : decode cX4_fewest 43 = .ok (.iload 6, 2) := by decide +kernel
theorem dX4_fewest_45 : decode cX4_fewest 45 = .ok (.iload_n 3, 1) := by decide +kernel
theorem dX4_fewest_46 : decode cX4_fewest 46 = .ok (.iconst (-1), 1) := by decide +kernel
theorem dX4_fewest_47 : decode cX4_fewest 47 = .ok (.ixor, 1) := by decide +kernel
theorem dX4_fewest_48 : decode cX4_fewest 48 = .ok (.iand, 1) := by decide +kernel
theorem dX4_fewest_49 : decode cX4_fewest 49 = .ok (.ifCond .ne 32, 3) := by decide +kernel
theorem dX4_fewest_52 : decode cX4_fewest 52 = .ok (.iload 6, 2) := by decide +kernel
theorem dX4_fewest_54 : decode cX4_fewest 54 = .ok (.invokestatic 261, 3) := by decide +kernel
theorem dX4_fewest_57 : decode cX4_fewest 57 = .ok (.iload 5, 2) := by decide +kernel
theorem dX4_fewest_59 : decode cX4_fewest 59 = .ok (.invokestatic 261, 3) := by decide +kernel
theorem dX4_fewest_62 : decode cX4_fewest 62 = .ok (.if_icmp .ge 19, 3) := by decide +kernel
theorem dX4_fewest_65 : decode cX4_fewest 65 = .ok (.aload_n 0, 1) := by decide +kernel
theorem dX4_fewest_66 : decode cX4_fewest 66 = .ok (.iload 6, 2) := by decide +kernel
theorem dX4_fewest_68 : decode cX4_fewest 68 = .ok (.iload_n 1, 1) := by decide +kernel
theorem dX4_fewest_69 : decode cX4_fewest 69 = .ok (.invokevirtual 258, 3) := by decide +kernel
theorem dX4_fewest_72 : decode cX4_fewest 72 = .ok (.iload 4, 2) := by decide +kernel
theorem dX4_fewest_74 : decode cX4_fewest 74 = .ok (.if_icmp .ne 7, 3) := by decide +kernel
theorem dX4_fewest_77 : decode cX4_fewest 77 = .ok (.iload 6, 2) := by decide +kernel
theorem dX4_fewest_79 : decode cX4_fewest 79 = .ok (.istore 5, 2) := by decide +kernel
theorem dX4_fewest_81 : decode cX4_fewest 81 = .ok (.iinc 6 1, 3) := by decide +kernel
theorem dX4_fewest_84 : decode cX4_fewest 84 = .ok (.goto (-47), 3) := by decide +kernel
theorem dX4_fewest_87 : decode cX4_fewest 87 = .ok (.iload 5, 2) := by decide +kernel
theorem dX4_fewest_89 : decode cX4_fewest 89 = .ok (.ireturn, 1) := by decide +kernel
theorem dX4_findSpare_0 : decode cX4_findSpare 0 = .ok (.aload_n 0, 1) := by decide +kernel
theorem dX4_findSpare_1 : decode cX4_findSpare 1 = .ok (.bipush (-9), 2) := by decide +kernel
theorem dX4_findSpare_3 : decode cX4_findSpare 3 = .ok (.putfield 264, 3) := by decide +kernel
theorem dX4_findSpare_6 : decode cX4_findSpare 6 = .ok (.aload_n 0, 1) := by decide +kernel
theorem dX4_findSpare_7 : decode cX4_findSpare 7 = .ok (.bipush (-9), 2) := by decide +kernel
theorem dX4_findSpare_9 : decode cX4_findSpare 9 = .ok (.putfield 267, 3) := by decide +kernel
theorem dX4_findSpare_12 : decode cX4_findSpare 12 = .ok (.iconst 0, 1) := by decide +kernel
theorem dX4_findSpare_13 : decode cX4_findSpare 13 = .ok (.istore_n 2, 1) := by decide +kernel
theorem dX4_findSpare_14 : decode cX4_findSpare 14 = .ok (.iload_n 2, 1) := by decide +kernel
theorem dX4_findSpare_15 : decode cX4_findSpare 15 = .ok (.aload_n 0, 1) := by decide +kernel
theorem dX4_findSpare_16 : decode cX4_findSpare 16 = .ok (.getfield 67, 3) := by decide +kernel
theorem dX4_findSpare_19 : decode cX4_findSpare 19 = .ok (.if_icmp .ge 67, 3) := by decide +kernel
theorem dX4_findSpare_22 : decode cX4_findSpare 22 = .ok (.aload_n 0, 1) := by decide +kernel
theorem dX4_findSpare_23 : decode cX4_findSpare 23 = .ok (.getfield 31, 3) := by decide +kernel
theorem dX4_findSpare_26 : decode cX4_findSpare 26 = .ok (.iload_n 2, 1) := by decide +kernel
theorem dX4_findSpare_27 : decode cX4_findSpare 27 = .ok (.iaload, 1) := by decide +kernel
theorem dX4_findSpare_28 : decode cX4_findSpare 28 = .ok (.istore_n 3, 1) := by decide +kernel
theorem dX4_findSpare_29 : decode cX4_findSpare 29 = .ok (.iload_n 3, 1) := by decide +kernel
theorem dX4_findSpare_30 : decode cX4_findSpare 30 = .ok (.ifCond .ne 6, 3) := by decide +kernel
theorem dX4_findSpare_33 : decode cX4_findSpare 33 = .ok (.goto 47, 3) := by decide +kernel
theorem dX4_findSpare_36 : decode cX4_findSpare 36 = .ok (.aload_n 0, 1) := by decide +kernel
theorem dX4_findSpare_37 : decode cX4_findSpare 37 = .ok (.getfield 31, 3) := by decide +kernel
theorem dX4_findSpare_40 : decode cX4_findSpare 40 = .ok (.iload_n 2, 1) := by decide +kernel
theorem dX4_findSpare_41 : decode cX4_findSpare 41 = .ok (.iconst 0, 1) := by decide +kernel
theorem dX4_findSpare_42 : decode cX4_findSpare 42 = .ok (.iastore, 1) := by decide +kernel
theorem dX4_findSpare_43 : decode cX4_findSpare 43 = .ok (.aload_n 0, 1) := by decide +kernel
theorem dX4_findSpare_44 : decode cX4_findSpare 44 = .ok (.iload_n 1, 1) := by decide +kernel
theorem dX4_findSpare_45 : decode cX4_findSpare 45 = .ok (.invokevirtual 231, 3) := by decide +kernel
theorem dX4_findSpare_48 : decode cX4_findSpare 48 = .ok (.istore 4, 2) := by decide +kernel
theorem dX4_findSpare_50 : decode cX4_findSpare 50 = .ok (.aload_n 0, 1) := by decide +kernel
theorem dX4_findSpare_51 : decode cX4_findSpare 51 = .ok (.getfield 31, 3) := by decide +kernel
theorem dX4_findSpare_54 : decode cX4_findSpare 54 = .ok (.iload_n 2, 1) := by decide +kernel
theorem dX4_findSpare_55 : decode cX4_findSpare 55 = .ok (.iload_n 3, 1) := by decide +kernel
theorem dX4_findSpare_56 : decode cX4_findSpare 56 = .ok (.iastore, 1) := by decide +kernel
theorem dX4_findSpare_57 : decode cX4_findSpare 57 = .ok (.iload 4, 2) := by decide +kernel
theorem dX4_findSpare_59 : decode cX4_findSpare 59 = .ok (.aload_n 0, 1) := by decide +kernel
theorem dX4_findSpare_60 : decode cX4_findSpare 60 = .ok (.getfield 267, 3) := by decide +kernel
theorem dX4_findSpare_63 : decode cX4_findSpare 63 = .ok (.if_icmp .gt 6, 3) := by decide +kernel
theorem dX4_findSpare_66 : decode cX4_findSpare 66 = .ok (.goto 14, 3) := by decide +kernel
theorem dX4_findSpare_69 : decode cX4_findSpare 69 = .ok (.aload_n 0, 1) := by decide +kernel
theorem dX4_findSpare_70 : decode cX4_findSpare 70 = .ok (.iload_n 2, 1) := by decide +kernel
theorem dX4_findSpare_71 : decode cX4_findSpare 71 = .ok (.putfield 264, 3) := by decide +kernel
theorem dX4_findSpare_74 : decode cX4_findSpare 74 = .ok (.aload_n 0, 1) := by decide +kernel
theorem dX4_findSpare_75 : decode cX4_findSpare 75 = .ok (.iload 4, 2) := by decide +kernel
theorem dX4_findSpare_77 : decode cX4_findSpare 77 = .ok (.putfield 267, 3) := by decide +kernel
theorem dX4_findSpare_80 : decode cX4_findSpare 80 = .ok (.iinc 2 1, 3) := by decide +kernel
theorem dX4_findSpare_83 : decode cX4_findSpare 83 = .ok (.goto (-69), 3) := by decide +kernel
theorem dX4_findSpare_86 : decode cX4_findSpare 86 = .ok (.return_, 1) := by decide +kernel
theorem dX4_spare_0 : decode cX4_spare 0 = .ok (.iload_n 1, 1) := by decide +kernel
theorem dX4_spare_1 : decode cX4_spare 1 = .ok (.iconst 1, 1) := by decide +kernel
theorem dX4_spare_2 : decode cX4_spare 2 = .ok (.bipush 30, 2) := by decide +kernel
theorem dX4_spare_4 : decode cX4_spare 4 = .ok (.invokestatic 70, 3) := by decide +kernel
theorem dX4_spare_7 : decode cX4_spare 7 = .ok (.istore_n 3, 1) := by decide +kernel
theorem dX4_spare_8 : decode cX4_spare 8 = .ok (.iload_n 3, 1) := by decide +kernel
theorem dX4_spare_9 : decode cX4_spare 9 = .ok (.ifCond .ne 15, 3) := by decide +kernel
theorem dX4_spare_12 : decode cX4_spare 12 = .ok (.iload_n 2, 1) := by decide +kernel
theorem dX4_spare_13 : decode cX4_spare 13 = .ok (.iconst 0, 1) := by decide +kernel
theorem dX4_spare_14 : decode cX4_spare 14 = .ok (.iconst 1, 1) := by decide +kernel
theorem dX4_spare_15 : decode cX4_spare 15 = .ok (.invokestatic 88, 3) := by decide +kernel
theorem dX4_spare_18 : decode cX4_spare 18 = .ok (.ifCond .ne 6, 3) := by decide +kernel
theorem dX4_spare_21 : decode cX4_spare 21 = .ok (.bipush (-2), 2) := by decide +kernel
theorem dX4_spare_23 : decode cX4_spare 23 = .ok (.istore_n 3, 1) := by decide +kernel
theorem dX4_spare_24 : decode cX4_spare 24 = .ok (.iload_n 3, 1) := by decide +kernel
theorem dX4_spare_25 : decode cX4_spare 25 = .ok (.ifCond .eq 9, 3) := by decide +kernel
theorem dX4_spare_28 : decode cX4_spare 28 = .ok (.aload_n 0, 1) := by decide +kernel
theorem dX4_spare_29 : decode cX4_spare 29 = .ok (.iload_n 3, 1) := by decide +kernel
theorem dX4_spare_30 : decode cX4_spare 30 = .ok (.invokevirtual 77, 3) := by decide +kernel
theorem dX4_spare_33 : decode cX4_spare 33 = .ok (.ireturn, 1) := by decide +kernel
theorem dX4_spare_34 : decode cX4_spare 34 = .ok (.aload_n 0, 1) := by decide +kernel
theorem dX4_spare_35 : decode cX4_spare 35 = .ok (.iload_n 1, 1) := by decide +kernel
theorem dX4_spare_36 : decode cX4_spare 36 = .ok (.invokevirtual 270, 3) := by decide +kernel
theorem dX4_spare_39 : decode cX4_spare 39 = .ok (.iload_n 2, 1) := by decide +kernel
theorem dX4_spare_40 : decode cX4_spare 40 = .ok (.ifCond .ne 10, 3) := by decide +kernel
theorem dX4_spare_43 : decode cX4_spare 43 = .ok (.aload_n 0, 1) := by decide +kernel
theorem dX4_spare_44 : decode cX4_spare 44 = .ok (.getfield 264, 3) := by decide +kernel
theorem dX4_spare_47 : decode cX4_spare 47 = .ok (.goto 7, 3) := by decide +kernel
theorem dX4_spare_50 : decode cX4_spare 50 = .ok (.aload_n 0, 1) := by decide +kernel
theorem dX4_spare_51 : decode cX4_spare 51 = .ok (.getfield 267, 3) := by decide +kernel
theorem dX4_spare_54 : decode cX4_spare 54 = .ok (.ireturn, 1) := by decide +kernel
theorem dX4_cheer_0 : decode cX4_cheer 0 = .ok (.iload_n 1, 1) := by decide +kernel
theorem dX4_cheer_1 : decode cX4_cheer 1 = .ok (.iconst 0, 1) := by decide +kernel
theorem dX4_cheer_2 : decode cX4_cheer 2 = .ok (.bipush 30, 2) := by decide +kernel
theorem dX4_cheer_4 : decode cX4_cheer 4 = .ok (.invokestatic 70, 3) := by decide +kernel
theorem dX4_cheer_7 : decode cX4_cheer 7 = .ok (.istore_n 2, 1) := by decide +kernel
theorem dX4_cheer_8 : decode cX4_cheer 8 = .ok (.iload_n 2, 1) := by decide +kernel
theorem dX4_cheer_9 : decode cX4_cheer 9 = .ok (.ifCond .eq 9, 3) := by decide +kernel
theorem dX4_cheer_12 : decode cX4_cheer 12 = .ok (.aload_n 0, 1) := by decide +kernel
theorem dX4_cheer_13 : decode cX4_cheer 13 = .ok (.iload_n 2, 1) := by decide +kernel
theorem dX4_cheer_14 : decode cX4_cheer 14 = .ok (.invokevirtual 77, 3) := by decide +kernel
theorem dX4_cheer_17 : decode cX4_cheer 17 = .ok (.ireturn, 1) := by decide +kernel
theorem dX4_cheer_18 : decode cX4_cheer 18 = .ok (.bipush (-9), 2) := by decide +kernel
theorem dX4_cheer_20 : decode cX4_cheer 20 = .ok (.istore_n 3, 1) := by decide +kernel
theorem dX4_cheer_21 : decode cX4_cheer 21 = .ok (.aload_n 0, 1) := by decide +kernel
theorem dX4_cheer_22 : decode cX4_cheer 22 = .ok (.iload_n 1, 1) := by decide +kernel
theorem dX4_cheer_23 : decode cX4_cheer 23 = .ok (.invokevirtual 231, 3) := by decide +kernel
theorem dX4_cheer_26 : decode cX4_cheer 26 = .ok (.istore 4, 2) := by decide +kernel
theorem dX4_cheer_28 : decode cX4_cheer 28 = .ok (.iconst 0, 1) := by decide +kernel
theorem dX4_cheer_29 : decode cX4_cheer 29 = .ok (.istore 5, 2) := by decide +kernel
theorem dX4_cheer_31 : decode cX4_cheer 31 = .ok (.iload 5, 2) := by decide +kernel
theorem dX4_cheer_33 : decode cX4_cheer 33 = .ok (.aload_n 0, 1) := by decide +kernel
theorem dX4_cheer_34 : decode cX4_cheer 34 = .ok (.getfield 67, 3) := by decide +kernel
theorem dX4_cheer_37 : decode cX4_cheer 37 = .ok (.if_icmp .ge 67, 3) := by decide +kernel
theorem dX4_cheer_40 : decode cX4_cheer 40 = .ok (.aload_n 0, 1) := by decide +kernel
theorem dX4_cheer_41 : decode cX4_cheer 41 = .ok (.getfield 22, 3) := by decide +kernel
theorem dX4_cheer_44 : decode cX4_cheer 44 = .ok (.iload 5, 2) := by decide +kernel
theorem dX4_cheer_46 : decode cX4_cheer 46 = .ok (.iaload, 1) := by decide +kernel
theorem dX4_cheer_47 : decode cX4_cheer 47 = .ok (.istore 6, 2) := by decide +kernel
theorem dX4_cheer_49 : decode cX4_cheer 49 = .ok (.aload_n 0, 1) := by decide +kernel
theorem dX4_cheer_50 : decode cX4_cheer 50 = .ok (.getfield 22, 3) := by decide +kernel
theorem dX4_cheer_53 : decode cX4_cheer 53 = .ok (.iload 5, 2) := by decide +kernel
theorem dX4_cheer_55 : decode cX4_cheer 55 = .ok (.iload 6, 2) := by decide +kernel
theorem dX4_cheer_57 : decode cX4_cheer 57 = .ok (.iconst 3, 1) := by decide +kernel
theorem dX4_cheer_58 : decode cX4_cheer 58 = .ok (.isub, 1) := by decide +kernel
theorem dX4_cheer_59 : decode cX4_cheer 59 = .ok (.bipush 20, 2) := by decide +kernel
theorem dX4_cheer_61 : decode cX4_cheer 61 = .ok (.invokestatic 188, 3) := by decide +kernel
theorem dX4_cheer_64 : decode cX4_cheer 64 = .ok (.iastore, 1) := by decide +kernel
theorem dX4_cheer_65 : decode cX4_cheer 65 = .ok (.aload_n 0, 1) := by decide +kernel
theorem dX4_cheer_66 : decode cX4_cheer 66 = .ok (.iload_n 1, 1) := by decide +kernel
theorem dX4_cheer_67 : decode cX4_cheer 67 = .ok (.invokevirtual 231, 3) := by decide +kernel
theorem dX4_cheer_70 : decode cX4_cheer 70 = .ok (.istore 7, 2) := by decide +kernel
theorem dX4_cheer_72 : decode cX4_cheer 72 = .ok (.aload_n 0, 1) := by decide +kernel
theorem dX4_cheer_73 : decode cX4_cheer 73 = .ok (.getfield 22, 3) := by decide +kernel
theorem dX4_cheer_76 : decode cX4_cheer 76 = .ok (.iload 5, 2) := by decide +kernel
theorem dX4_cheer_78 : decode cX4_cheer 78 = .ok (.iload 6, 2) := by decide +kernel
theorem dX4_cheer_80 : decode cX4_cheer 80 = .ok (.iastore, 1) := by decide +kernel
theorem dX4_cheer_81 : decode cX4_cheer 81 = .ok (.iload 7, 2) := by decide +kernel
theorem dX4_cheer_83 : decode cX4_cheer 83 = .ok (.iload 4, 2) := by decide +kernel
theorem dX4_cheer_85 : decode cX4_cheer 85 = .ok (.if_icmp .gt 6, 3) := by decide +kernel
theorem dX4_cheer_88 : decode cX4_cheer 88 = .ok (.goto 10, 3) := by decide +kernel
theorem dX4_cheer_91 : decode cX4_cheer 91 = .ok (.iload 5, 2) := by decide +kernel
theorem dX4_cheer_93 : decode cX4_cheer 93 = .ok (.istore_n 3, 1) := by decide +kernel
theorem dX4_cheer_94 : decode cX4_cheer 94 = .ok (.iload 7, 2) := by decide +kernel
theorem dX4_cheer_96 : decode cX4_cheer 96 = .ok (.istore 4, 2) := by decide +kernel
theorem dX4_cheer_98 : decode cX4_cheer 98 = .ok (.iinc 5 1, 3) := by decide +kernel
theorem dX4_cheer_101 : decode cX4_cheer 101 = .ok (.goto (-70), 3) := by decide +kernel
theorem dX4_cheer_104 : decode cX4_cheer 104 = .ok (.iload_n 3, 1) := by decide +kernel
theorem dX4_cheer_105 : decode cX4_cheer 105 = .ok (.ireturn, 1) := by decide +kernel
theorem dX4_boldest_0 : decode cX4_boldest 0 = .ok (.iload_n 1, 1) := by decide +kernel
theorem dX4_boldest_1 : decode cX4_boldest 1 = .ok (.iconst 0, 1) := by decide +kernel
theorem dX4_boldest_2 : decode cX4_boldest 2 = .ok (.iconst 1, 1) := by decide +kernel
theorem dX4_boldest_3 : decode cX4_boldest 3 = .ok (.invokestatic 88, 3) := by decide +kernel
theorem dX4_boldest_6 : decode cX4_boldest 6 = .ok (.ifCond .ne 10, 3) := by decide +kernel
theorem dX4_boldest_9 : decode cX4_boldest 9 = .ok (.aload_n 0, 1) := by decide +kernel
theorem dX4_boldest_10 : decode cX4_boldest 10 = .ok (.bipush (-2), 2) := by decide +kernel
theorem dX4_boldest_12 : decode cX4_boldest 12 = .ok (.invokevirtual 77, 3) := by decide +kernel
theorem dX4_boldest_15 : decode cX4_boldest 15 = .ok (.ireturn, 1) := by decide +kernel
theorem dX4_boldest_16 : decode cX4_boldest 16 = .ok (.bipush (-9), 2) := by decide +kernel
theorem dX4_boldest_18 : decode cX4_boldest 18 = .ok (.istore_n 2, 1) := by decide +kernel
theorem dX4_boldest_19 : decode cX4_boldest 19 = .ok (.iconst 0, 1) := by decide +kernel
theorem dX4_boldest_20 : decode cX4_boldest 20 = .ok (.istore_n 3, 1) := by decide +kernel
theorem dX4_boldest_21 : decode cX4_boldest 21 = .ok (.iload_n 3, 1) := by decide +kernel
theorem dX4_boldest_22 : decode cX4_boldest 22 = .ok (.aload_n 0, 1) := by decide +kernel
theorem dX4_boldest_23 : decode cX4_boldest 23 = .ok (.getfield 67, 3) := by decide +kernel
theorem dX4_boldest_26 : decode cX4_boldest 26 = .ok (.if_icmp .ge 50, 3) := by decide +kernel
theorem dX4_boldest_29 : decode cX4_boldest 29 = .ok (.iload_n 2, 1) := by decide +kernel
theorem dX4_boldest_30 : decode cX4_boldest 30 = .ok (.ifCond .lt 38, 3) := by decide +kernel
theorem dX4_boldest_33 : decode cX4_boldest 33 = .ok (.iload_n 1, 1) := by decide +kernel
theorem dX4_boldest_34 : decode cX4_boldest 34 = .ok (.ifCond .ne 19, 3) := by decide +kernel
theorem dX4_boldest_37 : decode cX4_boldest 37 = .ok (.aload_n 0, 1) := by decide +kernel
theorem dX4_boldest_38 : decode cX4_boldest 38 = .ok (.iload_n 3, 1) := by decide +kernel
theorem dX4_boldest_39 : decode cX4_boldest 39 = .ok (.invokevirtual 185, 3) := by decide +kernel
theorem dX4_boldest_42 : decode cX4_boldest 42 = .ok (.aload_n 0, 1) := by decide +kernel
theorem dX4_boldest_43 : decode cX4_boldest 43 = .ok (.iload_n 2, 1) := by decide +kernel
theorem dX4_boldest_44 : decode cX4_boldest 44 = .ok (.invokevirtual 185, 3) := by decide +kernel
theorem dX4_boldest_47 : decode cX4_boldest 47 = .ok (.if_icmp .le 23, 3) := by decide +kernel
theorem dX4_boldest_50 : decode cX4_boldest 50 = .ok (.goto 18, 3) := by decide +kernel
theorem dX4_boldest_53 : decode cX4_boldest 53 = .ok (.aload_n 0, 1) := by decide +kernel
theorem dX4_boldest_54 : decode cX4_boldest 54 = .ok (.getfield 25, 3) := by decide +kernel
theorem dX4_boldest_57 : decode cX4_boldest 57 = .ok (.iload_n 3, 1) := by decide +kernel
theorem dX4_boldest_58 : decode cX4_boldest 58 = .ok (.iaload, 1) := by decide +kernel
theorem dX4_boldest_59 : decode cX4_boldest 59 = .ok (.aload_n 0, 1) := by decide +kernel
theorem dX4_boldest_60 : decode cX4_boldest 60 = .ok (.getfield 25, 3) := by decide +kernel
theorem dX4_boldest_63 : decode cX4_boldest 63 = .ok (.iload_n 2, 1) := by decide +kernel
theorem dX4_boldest_64 : decode cX4_boldest 64 = .ok (.iaload, 1) := by decide +kernel
theorem dX4_boldest_65 : decode cX4_boldest 65 = .ok (.if_icmp .le 5, 3) := by decide +kernel
theorem dX4_boldest_68 : decode cX4_boldest 68 = .ok (.iload_n 3, 1) := by decide +kernel
theorem dX4_boldest_69 : decode cX4_boldest 69 = .ok (.istore_n 2, 1) := by decide +kernel
theorem dX4_boldest_70 : decode cX4_boldest 70 = .ok (.iinc 3 1, 3) := by decide +kernel
theorem dX4_boldest_73 : decode cX4_boldest 73 = .ok (.goto (-52), 3) := by decide +kernel
theorem dX4_boldest_76 : decode cX4_boldest 76 = .ok (.iload_n 2, 1) := by decide +kernel
theorem dX4_boldest_77 : decode cX4_boldest 77 = .ok (.ireturn, 1) := by decide +kernel
theorem dX4_left_0 : decode cX4_left 0 = .ok (.iconst 0, 1) := by decide +kernel
theorem dX4_left_1 : decode cX4_left 1 = .ok (.istore_n 1, 1) := by decide +kernel
theorem dX4_left_2 : decode cX4_left 2 = .ok (.iconst 0, 1) := by decide +kernel
theorem dX4_left_3 : decode cX4_left 3 = .ok (.istore_n 2, 1) := by decide +kernel
theorem dX4_left_4 : decode cX4_left 4 = .ok (.iload_n 2, 1) := by decide +kernel
theorem dX4_left_5 : decode cX4_left 5 = .ok (.aload_n 0, 1) := by decide +kernel
theorem dX4_left_6 : decode cX4_left 6 = .ok (.getfield 60, 3) := by decide +kernel
theorem dX4_left_9 : decode cX4_left 9 = .ok (.if_icmp .ge 27, 3) := by decide +kernel
theorem dX4_left_12 : decode cX4_left 12 = .ok (.iload_n 1, 1) := by decide +kernel
theorem dX4_left_13 : decode cX4_left 13 = .ok (.aload_n 0, 1) := by decide +kernel
theorem dX4_left_14 : decode cX4_left 14 = .ok (.iload_n 2, 1) := by decide +kernel
theorem dX4_left_15 : decode cX4_left 15 = .ok (.invokevirtual 169, 3) := by decide +kernel
theorem dX4_left_18 : decode cX4_left 18 = .ok (.ifCond .ge 9, 3) := by decide +kernel
theorem dX4_left_21 : decode cX4_left 21 = .ok (.iconst 1, 1) := by decide +kernel
theorem dX4_left_22 : decode cX4_left 22 = .ok (.iload_n 2, 1) := by decide +kernel
theorem dX4_left_23 : decode cX4_left 23 = .ok (.ishl, 1) := by decide +kernel
theorem dX4_left_24 : decode cX4_left 24 = .ok (.goto 4, 3) := by decide +kernel
theorem dX4_left_27 : decode cX4_left 27 = .ok (.iconst 0, 1) := by decide +kernel
theorem dX4_left_28 : decode cX4_left 28 = .ok (.ior, 1) := by decide +kernel
theorem dX4_left_29 : decode cX4_left 29 = .ok (.istore_n 1, 1) := by decide +kernel
theorem dX4_left_30 : decode cX4_left 30 = .ok (.iinc 2 1, 3) := by decide +kernel
theorem dX4_left_33 : decode cX4_left 33 = .ok (.goto (-29), 3) := by decide +kernel
theorem dX4_left_36 : decode cX4_left 36 = .ok (.iload_n 1, 1) := by decide +kernel
theorem dX4_left_37 : decode cX4_left 37 = .ok (.ireturn, 1) := by decide +kernel
theorem dX4_aheadOf_0 : decode cX4_aheadOf 0 = .ok (.iconst 0, 1) := by decide +kernel
theorem dX4_aheadOf_1 : decode cX4_aheadOf 1 = .ok (.istore_n 2, 1) := by decide +kernel
theorem dX4_aheadOf_2 : decode cX4_aheadOf 2 = .ok (.iconst 0, 1) := by decide +kernel
theorem dX4_aheadOf_3 : decode cX4_aheadOf 3 = .ok (.istore_n 3, 1) := by decide +kernel
theorem dX4_aheadOf_4 : decode cX4_aheadOf 4 = .ok (.iload_n 3, 1) := by decide +kernel
theorem dX4_aheadOf_5 : decode cX4_aheadOf 5 = .ok (.aload_n 0, 1) := by decide +kernel
theorem dX4_aheadOf_6 : decode cX4_aheadOf 6 = .ok (.getfield 60, 3) := by decide +kernel
theorem dX4_aheadOf_9 : decode cX4_aheadOf 9 = .ok (.if_icmp .ge 48, 3) := by decide +kernel
theorem dX4_aheadOf_12 : decode cX4_aheadOf 12 = .ok (.iload_n 2, 1) := by decide +kernel
theorem dX4_aheadOf_13 : decode cX4_aheadOf 13 = .ok (.aload_n 0, 1) := by decide +kernel
theorem dX4_aheadOf_14 : decode cX4_aheadOf 14 = .ok (.iload_n 3, 1) := by decide +kernel
theorem dX4_aheadOf_15 : decode cX4_aheadOf 15 = .ok (.invokevirtual 172, 3) := by decide +kernel
theorem dX4_aheadOf_18 : decode cX4_aheadOf 18 = .ok (.aload_n 0, 1) := by decide +kernel
theorem dX4_aheadOf_19 : decode cX4_aheadOf 19 = .ok (.iload_n 1, 1) := by decide +kernel
theorem dX4_aheadOf_20 : decode cX4_aheadOf 20 = .ok (.invokevirtual 172, 3) := by decide +kernel
theorem dX4_aheadOf_23 : decode cX4_aheadOf 23 = .ok (.if_icmp .gt 21, 3) := by decide +kernel
theorem dX4_aheadOf_26 : decode cX4_aheadOf 26 = .ok (.aload_n 0, 1) := by decide +kernel
theorem dX4_aheadOf_27 : decode cX4_aheadOf 27 = .ok (.iload_n 3, 1) := by decide +kernel
theorem dX4_aheadOf_28 : decode cX4_aheadOf 28 = .ok (.invokevirtual 172, 3) := by decide +kernel
theorem dX4_aheadOf_31 : decode cX4_aheadOf 31 = .ok (.aload_n 0, 1) := by decide +kernel
theorem dX4_aheadOf_32 : decode cX4_aheadOf 32 = .ok (.iload_n 1, 1) := by decide +kernel
theorem dX4_aheadOf_33 : decode cX4_aheadOf 33 = .ok (.invokevirtual 172, 3) := by decide +kernel
theorem dX4_aheadOf_36 : decode cX4_aheadOf 36 = .ok (.if_icmp .ne 12, 3) := by decide +kernel
theorem dX4_aheadOf_39 : decode cX4_aheadOf 39 = .ok (.iload_n 3, 1) := by decide +kernel
theorem dX4_aheadOf_40 : decode cX4_aheadOf 40 = .ok (.iload_n 1, 1) := by decide +kernel
theorem dX4_aheadOf_41 : decode cX4_aheadOf 41 = .ok (.if_icmp .ge 7, 3) := by decide +kernel
theorem dX4_aheadOf_44 : decode cX4_aheadOf 44 = .ok (.iconst 1, 1) := by decide +kernel
theorem dX4_aheadOf_45 : decode cX4_aheadOf 45 = .ok (.goto 4, 3) := by decide +kernel
theorem dX4_aheadOf_48 : decode cX4_aheadOf 48 = .ok (.iconst 0, 1) := by decide +kernel
theorem dX4_aheadOf_49 : decode cX4_aheadOf 49 = .ok (.iadd, 1) := by decide +kernel
theorem dX4_aheadOf_50 : decode cX4_aheadOf 50 = .ok (.istore_n 2, 1) := by decide +kernel
theorem dX4_aheadOf_51 : decode cX4_aheadOf 51 = .ok (.iinc 3 1, 3) := by decide +kernel
theorem dX4_aheadOf_54 : decode cX4_aheadOf 54 = .ok (.goto (-50), 3) := by decide +kernel
theorem dX4_aheadOf_57 : decode cX4_aheadOf 57 = .ok (.iload_n 2, 1) := by decide +kernel
theorem dX4_aheadOf_58 : decode cX4_aheadOf 58 = .ok (.ireturn, 1) := by decide +kernel
theorem dX4_order_0 : decode cX4_order 0 = .ok (.iload_n 1, 1) := by decide +kernel
theorem dX4_order_1 : decode cX4_order 1 = .ok (.ifCond .ge 10, 3) := by decide +kernel
theorem dX4_order_4 : decode cX4_order 4 = .ok (.aload_n 0, 1) := by decide +kernel
theorem dX4_order_5 : decode cX4_order 5 = .ok (.bipush (-4), 2) := by decide +kernel
theorem dX4_order_7 : decode cX4_order 7 = .ok (.invokevirtual 77, 3) := by decide +kernel
theorem dX4_order_10 : decode cX4_order 10 = .ok (.ireturn, 1) := by decide +kernel
theorem dX4_order_11 : decode cX4_order 11 = .ok (.iconst 0, 1) := by decide +kernel
theorem dX4_order_12 : decode cX4_order 12 = .ok (.istore_n 2, 1) := by decide +kernel
theorem dX4_order_13 : decode cX4_order 13 = .ok (.iload_n 2, 1) := by decide +kernel
theorem dX4_order_14 : decode cX4_order 14 = .ok (.aload_n 0, 1) := by decide +kernel
theorem dX4_order_15 : decode cX4_order 15 = .ok (.getfield 60, 3) := by decide +kernel
theorem dX4_order_18 : decode cX4_order 18 = .ok (.if_icmp .ge 20, 3) := by decide +kernel
theorem dX4_order_21 : decode cX4_order 21 = .ok (.aload_n 0, 1) := by decide +kernel
theorem dX4_order_22 : decode cX4_order 22 = .ok (.iload_n 2, 1) := by decide +kernel
theorem dX4_order_23 : decode cX4_order 23 = .ok (.invokevirtual 273, 3) := by decide +kernel
theorem dX4_order_26 : decode cX4_order 26 = .ok (.iload_n 1, 1) := by decide +kernel
theorem dX4_order_27 : decode cX4_order 27 = .ok (.if_icmp .ne 5, 3) := by decide +kernel
theorem dX4_order_30 : decode cX4_order 30 = .ok (.iload_n 2, 1) := by decide +kernel
theorem dX4_order_31 : decode cX4_order 31 = .ok (.ireturn, 1) := by decide +kernel
theorem dX4_order_32 : decode cX4_order 32 = .ok (.iinc 2 1, 3) := by decide +kernel
theorem dX4_order_35 : decode cX4_order 35 = .ok (.goto (-22), 3) := by decide +kernel
theorem dX4_order_38 : decode cX4_order 38 = .ok (.bipush (-9), 2) := by decide +kernel
theorem dX4_order_40 : decode cX4_order 40 = .ok (.ireturn, 1) := by decide +kernel
theorem dX4_heard_0 : decode cX4_heard 0 = .ok (.iload_n 1, 1) := by decide +kernel
theorem dX4_heard_1 : decode cX4_heard 1 = .ok (.iconst 0, 1) := by decide +kernel
theorem dX4_heard_2 : decode cX4_heard 2 = .ok (.iconst 5, 1) := by decide +kernel
theorem dX4_heard_3 : decode cX4_heard 3 = .ok (.invokestatic 88, 3) := by decide +kernel
theorem dX4_heard_6 : decode cX4_heard 6 = .ok (.ifCond .ne 9, 3) := by decide +kernel
theorem dX4_heard_9 : decode cX4_heard 9 = .ok (.aload_n 0, 1) := by decide +kernel
theorem dX4_heard_10 : decode cX4_heard 10 = .ok (.iconst (-1), 1) := by decide +kernel
theorem dX4_heard_11 : decode cX4_heard 11 = .ok (.invokevirtual 77, 3) := by decide +kernel
theorem dX4_heard_14 : decode cX4_heard 14 = .ok (.ireturn, 1) := by decide +kernel
theorem dX4_heard_15 : decode cX4_heard 15 = .ok (.iconst 0, 1) := by decide +kernel
theorem dX4_heard_16 : decode cX4_heard 16 = .ok (.istore_n 2, 1) := by decide +kernel
theorem dX4_heard_17 : decode cX4_heard 17 = .ok (.iconst 0, 1) := by decide +kernel
theorem dX4_heard_18 : decode cX4_heard 18 = .ok (.istore_n 3, 1) := by decide +kernel
theorem dX4_heard_19 : decode cX4_heard 19 = .ok (.iload_n 3, 1) := by decide +kernel
theorem dX4_heard_20 : decode cX4_heard 20 = .ok (.aload_n 0, 1) := by decide +kernel
theorem dX4_heard_21 : decode cX4_heard 21 = .ok (.getfield 67, 3) := by decide +kernel
theorem dX4_heard_24 : decode cX4_heard 24 = .ok (.if_icmp .ge 27, 3) := by decide +kernel
theorem dX4_heard_27 : decode cX4_heard 27 = .ok (.iload_n 2, 1) := by decide +kernel
theorem dX4_heard_28 : decode cX4_heard 28 = .ok (.aload_n 0, 1) := by decide +kernel
theorem dX4_heard_29 : decode cX4_heard 29 = .ok (.getfield 28, 3) := by decide +kernel
theorem dX4_heard_32 : decode cX4_heard 32 = .ok (.iload_n 3, 1) := by decide +kernel
theorem dX4_heard_33 : decode cX4_heard 33 = .ok (.iaload, 1) := by decide +kernel
theorem dX4_heard_34 : decode cX4_heard 34 = .ok (.iload_n 1, 1) := by decide +kernel
theorem dX4_heard_35 : decode cX4_heard 35 = .ok (.if_icmp .le 7, 3) := by decide +kernel
theorem dX4_heard_38 : decode cX4_heard 38 = .ok (.iconst 1, 1) := by decide +kernel
theorem dX4_heard_39 : decode cX4_heard 39 = .ok (.goto 4, 3) := by decide +kernel
theorem dX4_heard_42 : decode cX4_heard 42 = .ok (.iconst 0, 1) := by decide +kernel
theorem dX4_heard_43 : decode cX4_heard 43 = .ok (.iadd, 1) := by decide +kernel
theorem dX4_heard_44 : decode cX4_heard 44 = .ok (.istore_n 2, 1) := by decide +kernel
theorem dX4_heard_45 : decode cX4_heard 45 = .ok (.iinc 3 1, 3) := by decide +kernel
theorem dX4_heard_48 : decode cX4_heard 48 = .ok (.goto (-29), 3) := by decide +kernel
theorem dX4_heard_51 : decode cX4_heard 51 = .ok (.iload_n 2, 1) := by decide +kernel
theorem dX4_heard_52 : decode cX4_heard 52 = .ok (.ireturn, 1) := by decide +kernel
theorem dX4_rusted_0 : decode cX4_rusted 0 = .ok (.aload_n 0, 1) := by decide +kernel
theorem dX4_rusted_1 : decode cX4_rusted 1 = .ok (.iload_n 1, 1) := by decide +kernel
theorem dX4_rusted_2 : decode cX4_rusted 2 = .ok (.invokevirtual 109, 3) := by decide +kernel
theorem dX4_rusted_5 : decode cX4_rusted 5 = .ok (.ifCond .ne 9, 3) := by decide +kernel
theorem dX4_rusted_8 : decode cX4_rusted 8 = .ok (.aload_n 0, 1) := by decide +kernel
theorem dX4_rusted_9 : decode cX4_rusted 9 = .ok (.iconst (-1), 1) := by decide +kernel
theorem dX4_rusted_10 : decode cX4_rusted 10 = .ok (.invokevirtual 77, 3) := by decide +kernel
theorem dX4_rusted_13 : decode cX4_rusted 13 = .ok (.ireturn, 1) := by decide +kernel
theorem dX4_rusted_14 : decode cX4_rusted 14 = .ok (.aload_n 0, 1) := by decide +kernel
theorem dX4_rusted_15 : decode cX4_rusted 15 = .ok (.iload_n 1, 1) := by decide +kernel
theorem dX4_rusted_16 : decode cX4_rusted 16 = .ok (.invokevirtual 169, 3) := by decide +kernel
theorem dX4_rusted_19 : decode cX4_rusted 19 = .ok (.istore_n 2, 1) := by decide +kernel
theorem dX4_rusted_20 : decode cX4_rusted 20 = .ok (.iload_n 2, 1) := by decide +kernel
theorem dX4_rusted_21 : decode cX4_rusted 21 = .ok (.ifCond .lt 14, 3) := by decide +kernel
theorem dX4_rusted_24 : decode cX4_rusted 24 = .ok (.aload_n 0, 1) := by decide +kernel
theorem dX4_rusted_25 : decode cX4_rusted 25 = .ok (.getfield 28, 3) := by decide +kernel
theorem dX4_rusted_28 : decode cX4_rusted 28 = .ok (.iload_n 2, 1) := by decide +kernel
theorem dX4_rusted_29 : decode cX4_rusted 29 = .ok (.iaload, 1) := by decide +kernel
theorem dX4_rusted_30 : decode cX4_rusted 30 = .ok (.bipush 6, 2) := by decide +kernel
theorem dX4_rusted_32 : decode cX4_rusted 32 = .ok (.if_icmp .ne 6, 3) := by decide +kernel
theorem dX4_rusted_35 : decode cX4_rusted 35 = .ok (.bipush (-9), 2) := by decide +kernel
theorem dX4_rusted_37 : decode cX4_rusted 37 = .ok (.ireturn, 1) := by decide +kernel
theorem dX4_rusted_38 : decode cX4_rusted 38 = .ok (.aload_n 0, 1) := by decide +kernel
theorem dX4_rusted_39 : decode cX4_rusted 39 = .ok (.getfield 19, 3) := by decide +kernel
theorem dX4_rusted_42 : decode cX4_rusted 42 = .ok (.iload_n 1, 1) := by decide +kernel
theorem dX4_rusted_43 : decode cX4_rusted 43 = .ok (.iaload, 1) := by decide +kernel
theorem dX4_rusted_44 : decode cX4_rusted 44 = .ok (.istore_n 3, 1) := by decide +kernel
theorem dX4_rusted_45 : decode cX4_rusted 45 = .ok (.bipush (-9), 2) := by decide +kernel
theorem dX4_rusted_47 : decode cX4_rusted 47 = .ok (.istore 4, 2) := by decide +kernel
theorem dX4_rusted_49 : decode cX4_rusted 49 = .ok (.iconst 0, 1) := by decide +kernel
theorem dX4_rusted_50 : decode cX4_rusted 50 = .ok (.istore 5, 2) := by decide +kernel
theorem dX4_rusted_52 : decode cX4_rusted 52 = .ok (.iload 5, 2) := by decide +kernel
theorem dX4_rusted_54 : decode cX4_rusted 54 = .ok (.bipush 10, 2) := by decide +kernel
theorem dX4_rusted_56 : decode cX4_rusted 56 = .ok (.if_icmp .ge 39, 3) := by decide +kernel
theorem dX4_rusted_59 : decode cX4_rusted 59 = .ok (.iload 4, 2) := by decide +kernel
theorem dX4_rusted_61 : decode cX4_rusted 61 = .ok (.ifCond .ge 34, 3) := by decide +kernel
theorem dX4_rusted_64 : decode cX4_rusted 64 = .ok (.aload_n 0, 1) := by decide +kernel
theorem dX4_rusted_65 : decode cX4_rusted 65 = .ok (.getfield 19, 3) := by decide +kernel
theorem dX4_rusted_68 : decode cX4_rusted 68 = .ok (.iload_n 1, 1) := by decide +kernel
theorem dX4_rusted_69 : decode cX4_rusted 69 = .ok (.iload 5, 2) := by decide +kernel
theorem dX4_rusted_71 : decode cX4_rusted 71 = .ok (.iastore, 1) := by decide +kernel
theorem dX4_rusted_72 : decode cX4_rusted 72 = .ok (.aload_n 0, 1) := by decide +kernel
theorem dX4_rusted_73 : decode cX4_rusted 73 = .ok (.iload_n 2, 1) := by decide +kernel
theorem dX4_rusted_74 : decode cX4_rusted 74 = .ok (.invokevirtual 182, 3) := by decide +kernel
theorem dX4_rusted_77 : decode cX4_rusted 77 = .ok (.ifCond .eq 8, 3) := by decide +kernel
theorem dX4_rusted_80 : decode cX4_rusted 80 = .ok (.bipush (-9), 2) := by decide +kernel
theorem dX4_rusted_82 : decode cX4_rusted 82 = .ok (.goto 5, 3) := by decide +kernel
theorem dX4_rusted_85 : decode cX4_rusted 85 = .ok (.iload 5, 2) := by decide +kernel
theorem dX4_rusted_87 : decode cX4_rusted 87 = .ok (.istore 4, 2) := by decide +kernel
theorem dX4_rusted_89 : decode cX4_rusted 89 = .ok (.iinc 5 1, 3) := by decide +kernel
theorem dX4_rusted_92 : decode cX4_rusted 92 = .ok (.goto (-40), 3) := by decide +kernel
theorem dX4_rusted_95 : decode cX4_rusted 95 = .ok (.aload_n 0, 1) := by decide +kernel
theorem dX4_rusted_96 : decode cX4_rusted 96 = .ok (.getfield 19, 3) := by decide +kernel
theorem dX4_rusted_99 : decode cX4_rusted 99 = .ok (.iload_n 1, 1) := by decide +kernel
theorem dX4_rusted_100 : decode cX4_rusted 100 = .ok (.iload_n 3, 1) := by decide +kernel
theorem dX4_rusted_101 : decode cX4_rusted 101 = .ok (.iastore, 1) := by decide +kernel
theorem dX4_rusted_102 : decode cX4_rusted 102 = .ok (.iload 4, 2) := by decide +kernel
theorem dX4_rusted_104 : decode cX4_rusted 104 = .ok (.ireturn, 1) := by decide +kernel
theorem dX4_findGets_0 : decode cX4_findGets 0 = .ok (.iconst 0, 1) := by decide +kernel
theorem dX4_findGets_1 : decode cX4_findGets 1 = .ok (.istore 4, 2) := by decide +kernel
theorem dX4_findGets_3 : decode cX4_findGets 3 = .ok (.iload 4, 2) := by decide +kernel
theorem dX4_findGets_5 : decode cX4_findGets 5 = .ok (.iconst 4, 1) := by decide +kernel
theorem dX4_findGets_6 : decode cX4_findGets 6 = .ok (.if_icmp .ge 164, 3) := by decide +kernel
theorem dX4_findGets_9 : decode cX4_findGets 9 = .ok (.aload_n 0, 1) := by decide +kernel
theorem dX4_findGets_10 : decode cX4_findGets 10 = .ok (.invokevirtual 219, 3) := by decide +kernel
theorem dX4_findGets_13 : decode cX4_findGets 13 = .ok (.aload_n 0, 1) := by decide +kernel
theorem dX4_findGets_14 : decode cX4_findGets 14 = .ok (.getfield 31, 3) := by decide +kernel
theorem dX4_findGets_17 : decode cX4_findGets 17 = .ok (.iload_n 1, 1) := by decide +kernel
theorem dX4_findGets_18 : decode cX4_findGets 18 = .ok (.iload 4, 2) := by decide +kernel
theorem dX4_findGets_20 : decode cX4_findGets 20 = .ok (.iconst 2, 1) := by decide +kernel
theorem dX4_findGets_21 : decode cX4_findGets 21 = .ok (.idiv, 1) := by decide +kernel
theorem dX4_findGets_22 : decode cX4_findGets 22 = .ok (.iconst 1, 1) := by decide +kernel
theorem dX4_findGets_23 : decode cX4_findGets 23 = .ok (.if_icmp .ne 12, 3) := by decide +kernel
theorem dX4_findGets_26 : decode cX4_findGets 26 = .ok (.aload_n 0, 1) := by decide +kernel
theorem dX4_findGets_27 : decode cX4_findGets 27 = .ok (.getfield 31, 3) := by decide +kernel
theorem dX4_findGets_30 : decode cX4_findGets 30 = .ok (.iload_n 1, 1) := by decide +kernel
theorem dX4_findGets_31 : decode cX4_findGets 31 = .ok (.iaload, 1) := by decide +kernel
theorem dX4_findGets_32 : decode cX4_findGets 32 = .ok (.goto 4, 3) := by decide +kernel
theorem dX4_findGets_35 : decode cX4_findGets 35 = .ok (.iconst 0, 1) := by decide +kernel
theorem dX4_findGets_36 : decode cX4_findGets 36 = .ok (.iastore, 1) := by decide +kernel
theorem dX4_findGets_37 : decode cX4_findGets 37 = .ok (.aload_n 0, 1) := by decide +kernel
theorem dX4_findGets_38 : decode cX4_findGets 38 = .ok (.getfield 31, 3) := by decide +kernel
theorem dX4_findGets_41 : decode cX4_findGets 41 = .ok (.iload_n 2, 1) := by decide +kernel
theorem dX4_findGets_42 : decode cX4_findGets 42 = .ok (.iload 4, 2) := by decide +kernel
theorem dX4_findGets_44 : decode cX4_findGets 44 = .ok (.iconst 2, 1) := by decide +kernel
theorem dX4_findGets_45 : decode cX4_findGets 45 = .ok (.irem, 1) := by decide +kernel
theorem dX4_findGets_46 : decode cX4_findGets 46 = .ok (.iconst 1, 1) := by decide +kernel
theorem dX4_findGets_47 : decode cX4_findGets 47 = .ok (.if_icmp .ne 12, 3) := by decide +kernel
theorem dX4_findGets_50 : decode cX4_findGets 50 = .ok (.aload_n 0, 1) := by decide +kernel
theorem dX4_findGets_51 : decode cX4_findGets 51 = .ok (.getfield 31, 3) := by decide +kernel
theorem dX4_findGets_54 : decode cX4_findGets 54 = .ok (.iload_n 2, 1) := by decide +kernel
theorem dX4_findGets_55 : decode cX4_findGets 55 = .ok (.iaload, 1) := by decide +kernel
theorem dX4_findGets_56 : decode cX4_findGets 56 = .ok (.goto 4, 3) := by decide +kernel
theorem dX4_findGets_59 : decode cX4_findGets 59 = .ok (.iconst 0, 1) := by decide +kernel
theorem dX4_findGets_60 : decode cX4_findGets 60 = .ok (.iastore, 1) := by decide +kernel
theorem dX4_findGets_61 : decode cX4_findGets 61 = .ok (.aload_n 0, 1) := by decide +kernel
theorem dX4_findGets_62 : decode cX4_findGets 62 = .ok (.iload_n 3, 1) := by decide +kernel
theorem dX4_findGets_63 : decode cX4_findGets 63 = .ok (.invokevirtual 122, 3) := by decide +kernel
theorem dX4_findGets_66 : decode cX4_findGets 66 = .ok (.aload_n 0, 1) := by decide +kernel
theorem dX4_findGets_67 : decode cX4_findGets 67 = .ok (.getfield 54, 3) := by decide +kernel
theorem dX4_findGets_70 : decode cX4_findGets 70 = .ok (.iconst 2, 1) := by decide +kernel
theorem dX4_findGets_71 : decode cX4_findGets 71 = .ok (.iload 4, 2) := by decide +kernel
theorem dX4_findGets_73 : decode cX4_findGets 73 = .ok (.imul, 1) := by decide +kernel
theorem dX4_findGets_74 : decode cX4_findGets 74 = .ok (.aload_n 0, 1) := by decide +kernel
theorem dX4_findGets_75 : decode cX4_findGets 75 = .ok (.getfield 28, 3) := by decide +kernel
theorem dX4_findGets_78 : decode cX4_findGets 78 = .ok (.iload_n 1, 1) := by decide +kernel
theorem dX4_findGets_79 : decode cX4_findGets 79 = .ok (.iaload, 1) := by decide +kernel
theorem dX4_findGets_80 : decode cX4_findGets 80 = .ok (.aload_n 0, 1) := by decide +kernel
theorem dX4_findGets_81 : decode cX4_findGets 81 = .ok (.getfield 28, 3) := by decide +kernel
theorem dX4_findGets_84 : decode cX4_findGets 84 = .ok (.iload_n 2, 1) := by decide +kernel
theorem dX4_findGets_85 : decode cX4_findGets 85 = .ok (.iaload, 1) := by decide +kernel
theorem dX4_findGets_86 : decode cX4_findGets 86 = .ok (.aload_n 0, 1) := by decide +kernel
theorem dX4_findGets_87 : decode cX4_findGets 87 = .ok (.getfield 28, 3) := by decide +kernel
theorem dX4_findGets_90 : decode cX4_findGets 90 = .ok (.iload_n 1, 1) := by decide +kernel
theorem dX4_findGets_91 : decode cX4_findGets 91 = .ok (.iaload, 1) := by decide +kernel
theorem dX4_findGets_92 : decode cX4_findGets 92 = .ok (.if_icmp .lt 7, 3) := by decide +kernel
theorem dX4_findGets_95 : decode cX4_findGets 95 = .ok (.iconst 2, 1) := by decide +kernel
theorem dX4_findGets_96 : decode cX4_findGets 96 = .ok (.goto 4, 3) := by decide +kernel
theorem dX4_findGets_99 : decode cX4_findGets 99 = .ok (.iconst 0, 1) := by decide +kernel
theorem dX4_findGets_100 : decode cX4_findGets 100 = .ok (.iadd, 1) := by decide +kernel
theorem dX4_findGets_101 : decode cX4_findGets 101 = .ok (.aload_n 0, 1) := by decide +kernel
theorem dX4_findGets_102 : decode cX4_findGets 102 = .ok (.getfield 25, 3) := by decide +kernel
theorem dX4_findGets_105 : decode cX4_findGets 105 = .ok (.iload_n 1, 1) := by decide +kernel
theorem dX4_findGets_106 : decode cX4_findGets 106 = .ok (.iaload, 1) := by decide +kernel
theorem dX4_findGets_107 : decode cX4_findGets 107 = .ok (.bipush 6, 2) := by decide +kernel
theorem dX4_findGets_109 : decode cX4_findGets 109 = .ok (.idiv, 1) := by decide +kernel
theorem dX4_findGets_110 : decode cX4_findGets 110 = .ok (.isub, 1) := by decide +kernel
theorem dX4_findGets_111 : decode cX4_findGets 111 = .ok (.iastore, 1) := by decide +kernel
theorem dX4_findGets_112 : decode cX4_findGets 112 = .ok (.aload_n 0, 1) := by decide +kernel
theorem dX4_findGets_113 : decode cX4_findGets 113 = .ok (.getfield 54, 3) := by decide +kernel
theorem dX4_findGets_116 : decode cX4_findGets 116 = .ok (.iconst 2, 1) := by decide +kernel
theorem dX4_findGets_117 : decode cX4_findGets 117 = .ok (.iload 4, 2) := by decide +kernel
theorem dX4_findGets_119 : decode cX4_findGets 119 = .ok (.imul, 1) := by decide +kernel
theorem dX4_findGets_120 : decode cX4_findGets 120 = .ok (.iconst 1, 1) := by decide +kernel
theorem dX4_findGets_121 : decode cX4_findGets 121 = .ok (.iadd, 1) := by decide +kernel
theorem dX4_findGets_122 : decode cX4_findGets 122 = .ok (.aload_n 0, 1) := by decide +kernel
theorem dX4_findGets_123 : decode cX4_findGets 123 = .ok (.getfield 28, 3) := by decide +kernel
theorem dX4_findGets_126 : decode cX4_findGets 126 = .ok (.iload_n 2, 1) := by decide +kernel
theorem dX4_findGets_127 : decode cX4_findGets 127 = .ok (.iaload, 1) := by decide +kernel
theorem dX4_findGets_128 : decode cX4_findGets 128 = .ok (.aload_n 0, 1) := by decide +kernel
theorem dX4_findGets_129 : decode cX4_findGets 129 = .ok (.getfield 28, 3) := by decide +kernel
theorem dX4_findGets_132 : decode cX4_findGets 132 = .ok (.iload_n 1, 1) := by decide +kernel
theorem dX4_findGets_133 : decode cX4_findGets 133 = .ok (.iaload, 1) := by decide +kernel
theorem dX4_findGets_134 : decode cX4_findGets 134 = .ok (.aload_n 0, 1) := by decide +kernel
theorem dX4_findGets_135 : decode cX4_findGets 135 = .ok (.getfield 28, 3) := by decide +kernel
theorem dX4_findGets_138 : decode cX4_findGets 138 = .ok (.iload_n 2, 1) := by decide +kernel
theorem dX4_findGets_139 : decode cX4_findGets 139 = .ok (.iaload, 1) := by decide +kernel
theorem dX4_findGets_140 : decode cX4_findGets 140 = .ok (.if_icmp .lt 7, 3) := by decide +kernel
theorem dX4_findGets_143 : decode cX4_findGets 143 = .ok (.iconst 2, 1) := by decide +kernel
theorem dX4_findGets_144 : decode cX4_findGets 144 = .ok (.goto 4, 3) := by decide +kernel
theorem dX4_findGets_147 : decode cX4_findGets 147 = .ok (.iconst 0, 1) := by decide +kernel
theorem dX4_findGets_148 : decode cX4_findGets 148 = .ok (.iadd, 1) := by decide +kernel
theorem dX4_findGets_149 : decode cX4_findGets 149 = .ok (.aload_n 0, 1) := by decide +kernel
theorem dX4_findGets_150 : decode cX4_findGets 150 = .ok (.getfield 25, 3) := by decide +kernel
theorem dX4_findGets_153 : decode cX4_findGets 153 = .ok (.iload_n 2, 1) := by decide +kernel
theorem dX4_findGets_154 : decode cX4_findGets 154 = .ok (.iaload, 1) := by decide +kernel
theorem dX4_findGets_155 : decode cX4_findGets 155 = .ok (.bipush 6, 2) := by decide +kernel
theorem dX4_findGets_157 : decode cX4_findGets 157 = .ok (.idiv, 1) := by decide +kernel
theorem dX4_findGets_158 : decode cX4_findGets 158 = .ok (.isub, 1) := by decide +kernel
theorem dX4_findGets_159 : decode cX4_findGets 159 = .ok (.iastore, 1) := by decide +kernel
theorem dX4_findGets_160 : decode cX4_findGets 160 = .ok (.aload_n 0, 1) := by decide +kernel
theorem dX4_findGets_161 : decode cX4_findGets 161 = .ok (.invokevirtual 222, 3) := by decide +kernel
theorem dX4_findGets_164 : decode cX4_findGets 164 = .ok (.iinc 4 1, 3) := by decide +kernel
theorem dX4_findGets_167 : decode cX4_findGets 167 = .ok (.goto (-164), 3) := by decide +kernel
theorem dX4_findGets_170 : decode cX4_findGets 170 = .ok (.return_, 1) := by decide +kernel
theorem dX4_two_0 : decode cX4_two 0 = .ok (.aload_n 0, 1) := by decide +kernel
theorem dX4_two_1 : decode cX4_two 1 = .ok (.iload_n 1, 1) := by decide +kernel
theorem dX4_two_2 : decode cX4_two 2 = .ok (.invokevirtual 112, 3) := by decide +kernel
theorem dX4_two_5 : decode cX4_two 5 = .ok (.ifCond .eq 16, 3) := by decide +kernel
theorem dX4_two_8 : decode cX4_two 8 = .ok (.aload_n 0, 1) := by decide +kernel
theorem dX4_two_9 : decode cX4_two 9 = .ok (.iload_n 2, 1) := by decide +kernel
theorem dX4_two_10 : decode cX4_two 10 = .ok (.invokevirtual 112, 3) := by decide +kernel
theorem dX4_two_13 : decode cX4_two 13 = .ok (.ifCond .eq 8, 3) := by decide +kernel
theorem dX4_two_16 : decode cX4_two 16 = .ok (.iload_n 1, 1) := by decide +kernel
theorem dX4_two_17 : decode cX4_two 17 = .ok (.iload_n 2, 1) := by decide +kernel
theorem dX4_two_18 : decode cX4_two 18 = .ok (.if_icmp .ne 7, 3) := by decide +kernel
theorem dX4_two_21 : decode cX4_two 21 = .ok (.iconst (-1), 1) := by decide +kernel
theorem dX4_two_22 : decode cX4_two 22 = .ok (.goto 10, 3) := by decide +kernel
theorem dX4_two_25 : decode cX4_two 25 = .ok (.iload_n 3, 1) := by decide +kernel
theorem dX4_two_26 : decode cX4_two 26 = .ok (.iconst 0, 1) := by decide +kernel
theorem dX4_two_27 : decode cX4_two 27 = .ok (.bipush 30, 2) := by decide +kernel
theorem dX4_two_29 : decode cX4_two 29 = .ok (.invokestatic 70, 3) := by decide +kernel
theorem dX4_two_32 : decode cX4_two 32 = .ok (.istore 4, 2) := by decide +kernel
theorem dX4_two_34 : decode cX4_two 34 = .ok (.iload 4, 2) := by decide +kernel
theorem dX4_two_36 : decode cX4_two 36 = .ok (.ifCond .ne 25, 3) := by decide +kernel
theorem dX4_two_39 : decode cX4_two 39 = .ok (.aload_n 0, 1) := by decide +kernel
theorem dX4_two_40 : decode cX4_two 40 = .ok (.getfield 31, 3) := by decide +kernel
theorem dX4_two_43 : decode cX4_two 43 = .ok (.iload_n 1, 1) := by decide +kernel
theorem dX4_two_44 : decode cX4_two 44 = .ok (.iaload, 1) := by decide +kernel
theorem dX4_two_45 : decode cX4_two 45 = .ok (.ifCond .eq 12, 3) := by decide +kernel
theorem dX4_two_48 : decode cX4_two 48 = .ok (.aload_n 0, 1) := by decide +kernel
theorem dX4_two_49 : decode cX4_two 49 = .ok (.getfield 31, 3) := by decide +kernel
theorem dX4_two_52 : decode cX4_two 52 = .ok (.iload_n 2, 1) := by decide +kernel
theorem dX4_two_53 : decode cX4_two 53 = .ok (.iaload, 1) := by decide +kernel
theorem dX4_two_54 : decode cX4_two 54 = .ok (.ifCond .ne 7, 3) := by decide +kernel
theorem dX4_two_57 : decode cX4_two 57 = .ok (.bipush (-3), 2) := by decide +kernel
theorem dX4_two_59 : decode cX4_two 59 = .ok (.istore 4, 2) := by decide +kernel
theorem dX4_two_61 : decode cX4_two 61 = .ok (.iload 4, 2) := by decide +kernel
theorem dX4_two_63 : decode cX4_two 63 = .ok (.ifCond .eq 10, 3) := by decide +kernel
theorem dX4_two_66 : decode cX4_two 66 = .ok (.aload_n 0, 1) := by decide +kernel
theorem dX4_two_67 : decode cX4_two 67 = .ok (.iload 4, 2) := by decide +kernel
theorem dX4_two_69 : decode cX4_two 69 = .ok (.invokevirtual 77, 3) := by decide +kernel
theorem dX4_two_72 : decode cX4_two 72 = .ok (.ireturn, 1) := by decide +kernel
theorem dX4_two_73 : decode cX4_two 73 = .ok (.aload_n 0, 1) := by decide +kernel
theorem dX4_two_74 : decode cX4_two 74 = .ok (.iload_n 1, 1) := by decide +kernel
theorem dX4_two_75 : decode cX4_two 75 = .ok (.iload_n 2, 1) := by decide +kernel
theorem dX4_two_76 : decode cX4_two 76 = .ok (.iload_n 3, 1) := by decide +kernel
theorem dX4_two_77 : decode cX4_two 77 = .ok (.invokevirtual 276, 3) := by decide +kernel
theorem dX4_two_80 : decode cX4_two 80 = .ok (.iconst 0, 1) := by decide +kernel
theorem dX4_two_81 : decode cX4_two 81 = .ok (.istore 5, 2) := by decide +kernel
theorem dX4_two_83 : decode cX4_two 83 = .ok (.iload 5, 2) := by decide +kernel
theorem dX4_two_85 : decode cX4_two 85 = .ok (.iconst 4, 1) := by decide +kernel
theorem dX4_two_86 : decode cX4_two 86 = .ok (.if_icmp .ge 72, 3) := by decide +kernel
theorem dX4_two_89 : decode cX4_two 89 = .ok (.aload_n 0, 1) := by decide +kernel
theorem dX4_two_90 : decode cX4_two 90 = .ok (.getfield 54, 3) := by decide +kernel
theorem dX4_two_93 : decode cX4_two 93 = .ok (.iconst 2, 1) := by decide +kernel
theorem dX4_two_94 : decode cX4_two 94 = .ok (.iload 5, 2) := by decide +kernel
theorem dX4_two_96 : decode cX4_two 96 = .ok (.iconst 2, 1) := by decide +kernel
theorem dX4_two_97 : decode cX4_two 97 = .ok (.ixor, 1) := by decide +kernel
theorem dX4_two_98 : decode cX4_two 98 = .ok (.imul, 1) := by decide +kernel
theorem dX4_two_99 : decode cX4_two 99 = .ok (.iaload, 1) := by decide +kernel
theorem dX4_two_100 : decode cX4_two 100 = .ok (.aload_n 0, 1) := by decide +kernel
theorem dX4_two_101 : decode cX4_two 101 = .ok (.getfield 54, 3) := by decide +kernel
theorem dX4_two_104 : decode cX4_two 104 = .ok (.iconst 2, 1) := by decide +kernel
theorem dX4_two_105 : decode cX4_two 105 = .ok (.iload 5, 2) := by decide +kernel
theorem dX4_two_107 : decode cX4_two 107 = .ok (.imul, 1) := by decide +kernel
theorem dX4_two_108 : decode cX4_two 108 = .ok (.iaload, 1) := by decide +kernel
theorem dX4_two_109 : decode cX4_two 109 = .ok (.if_icmp .gt 43, 3) := by decide +kernel
theorem dX4_two_112 : decode cX4_two 112 = .ok (.aload_n 0, 1) := by decide +kernel
theorem dX4_two_113 : decode cX4_two 113 = .ok (.getfield 54, 3) := by decide +kernel
theorem dX4_two_116 : decode cX4_two 116 = .ok (.iconst 2, 1) := by decide +kernel
theorem dX4_two_117 : decode cX4_two 117 = .ok (.iload 5, 2) := by decide +kernel
theorem dX4_two_119 : decode cX4_two 119 = .ok (.iconst 1, 1) := by decide +kernel
theorem dX4_two_120 : decode cX4_two 120 = .ok (.ixor, 1) := by decide +kernel
theorem dX4_two_121 : decode cX4_two 121 = .ok (.imul, 1) := by decide +kernel
theorem dX4_two_122 : decode cX4_two 122 = .ok (.iconst 1, 1) := by decide +kernel
theorem dX4_two_123 : decode cX4_two 123 = .ok (.iadd, 1) := by decide +kernel
theorem dX4_two_124 : decode cX4_two 124 = .ok (.iaload, 1) := by decide +kernel
theorem dX4_two_125 : decode cX4_two 125 = .ok (.aload_n 0, 1) := by decide +kernel
theorem dX4_two_126 : decode cX4_two 126 = .ok (.getfield 54, 3) := by decide +kernel
theorem dX4_two_129 : decode cX4_two 129 = .ok (.iconst 2, 1) := by decide +kernel
theorem dX4_two_130 : decode cX4_two 130 = .ok (.iload 5, 2) := by decide +kernel
theorem dX4_two_132 : decode cX4_two 132 = .ok (.imul, 1) := by decide +kernel
theorem dX4_two_133 : decode cX4_two 133 = .ok (.iconst 1, 1) := by decide +kernel
theorem dX4_two_134 : decode cX4_two 134 = .ok (.iadd, 1) := by decide +kernel
theorem dX4_two_135 : decode cX4_two 135 = .ok (.iaload, 1) := by decide +kernel
theorem dX4_two_136 : decode cX4_two 136 = .ok (.if_icmp .gt 16, 3) := by decide +kernel
theorem dX4_two_139 : decode cX4_two 139 = .ok (.bipush 10, 2) := by decide +kernel
theorem dX4_two_141 : decode cX4_two 141 = .ok (.iload 5, 2) := by decide +kernel
theorem dX4_two_143 : decode cX4_two 143 = .ok (.iconst 2, 1) := by decide +kernel
theorem dX4_two_144 : decode cX4_two 144 = .ok (.idiv, 1) := by decide +kernel
theorem dX4_two_145 : decode cX4_two 145 = .ok (.imul, 1) := by decide +kernel
theorem dX4_two_146 : decode cX4_two 146 = .ok (.iload 5, 2) := by decide +kernel
theorem dX4_two_148 : decode cX4_two 148 = .ok (.iconst 2, 1) := by decide +kernel
theorem dX4_two_149 : decode cX4_two 149 = .ok (.irem, 1) := by decide +kernel
theorem dX4_two_150 : decode cX4_two 150 = .ok (.iadd, 1) := by decide +kernel
theorem dX4_two_151 : decode cX4_two 151 = .ok (.ireturn, 1) := by decide +kernel
theorem dX4_two_152 : decode cX4_two 152 = .ok (.iinc 5 1, 3) := by decide +kernel
theorem dX4_two_155 : decode cX4_two 155 = .ok (.goto (-72), 3) := by decide +kernel
theorem dX4_two_158 : decode cX4_two 158 = .ok (.bipush (-9), 2) := by decide +kernel
theorem dX4_two_160 : decode cX4_two 160 = .ok (.ireturn, 1) := by decide +kernel
theorem dX4_divisor_0 : decode cX4_divisor 0 = .ok (.lload_n 0, 1) := by decide +kernel
theorem dX4_divisor_1 : decode cX4_divisor 1 = .ok (.lstore 4, 2) := by decide +kernel
theorem dX4_divisor_3 : decode cX4_divisor 3 = .ok (.lload_n 2, 1) := by decide +kernel
theorem dX4_divisor_4 : decode cX4_divisor 4 = .ok (.lstore 6, 2) := by decide +kernel
theorem dX4_divisor_6 : decode cX4_divisor 6 = .ok (.lload 6, 2) := by decide +kernel
theorem dX4_divisor_8 : decode cX4_divisor 8 = .ok (.lconst 0, 1) := by decide +kernel
theorem dX4_divisor_9 : decode cX4_divisor 9 = .ok (.lcmp, 1) := by decide +kernel
theorem dX4_divisor_10 : decode cX4_divisor 10 = .ok (.ifCond .eq 21, 3) := by decide +kernel
theorem dX4_divisor_13 : decode cX4_divisor 13 = .ok (.lload 4, 2) := by decide +kernel
theorem dX4_divisor_15 : decode cX4_divisor 15 = .ok (.lload 6, 2) := by decide +kernel
theorem dX4_divisor_17 : decode cX4_divisor 17 = .ok (.lrem, 1) := by decide +kernel
theorem dX4_divisor_18 : decode cX4_divisor 18 = .ok (.lstore 8, 2) := by decide +kernel
theorem dX4_divisor_20 : decode cX4_divisor 20 = .ok (.lload 6, 2) := by decide +kernel
theorem dX4_divisor_22 : decode cX4_divisor 22 = .ok (.lstore 4, 2) := by decide +kernel
theorem dX4_divisor_24 : decode cX4_divisor 24 = .ok (.lload 8, 2) := by decide +kernel
theorem dX4_divisor_26 : decode cX4_divisor 26 = .ok (.lstore 6, 2) := by decide +kernel
theorem dX4_divisor_28 : decode cX4_divisor 28 = .ok (.goto (-22), 3) := by decide +kernel
theorem dX4_divisor_31 : decode cX4_divisor 31 = .ok (.lload 4, 2) := by decide +kernel
theorem dX4_divisor_33 : decode cX4_divisor 33 = .ok (.lreturn, 1) := by decide +kernel
theorem dX4_partOf_0 : decode cX4_partOf 0 = .ok (.iload 4, 2) := by decide +kernel
theorem dX4_partOf_2 : decode cX4_partOf 2 = .ok (.ifCond .ne 7, 3) := by decide +kernel
theorem dX4_partOf_5 : decode cX4_partOf 5 = .ok (.lload_n 0, 1) := by decide +kernel
theorem dX4_partOf_6 : decode cX4_partOf 6 = .ok (.goto 4, 3) := by decide +kernel
theorem dX4_partOf_9 : decode cX4_partOf 9 = .ok (.lload_n 2, 1) := by decide +kernel
theorem dX4_partOf_10 : decode cX4_partOf 10 = .ok (.lload_n 0, 1) := by decide +kernel
theorem dX4_partOf_11 : decode cX4_partOf 11 = .ok (.lload_n 2, 1) := by decide +kernel
theorem dX4_partOf_12 : decode cX4_partOf 12 = .ok (.invokestatic 280, 3) := by decide +kernel
theorem dX4_partOf_15 : decode cX4_partOf 15 = .ok (.ldiv, 1) := by decide +kernel
theorem dX4_partOf_16 : decode cX4_partOf 16 = .ok (.lreturn, 1) := by decide +kernel
theorem dX4_rains_0 : decode cX4_rains 0 = .ok (.iconst 0, 1) := by decide +kernel
theorem dX4_rains_1 : decode cX4_rains 1 = .ok (.istore_n 1, 1) := by decide +kernel
theorem dX4_rains_2 : decode cX4_rains 2 = .ok (.iload_n 1, 1) := by decide +kernel
theorem dX4_rains_3 : decode cX4_rains 3 = .ok (.aload_n 0, 1) := by decide +kernel
theorem dX4_rains_4 : decode cX4_rains 4 = .ok (.getfield 60, 3) := by decide +kernel
theorem dX4_rains_7 : decode cX4_rains 7 = .ok (.if_icmp .ge 28, 3) := by decide +kernel
theorem dX4_rains_10 : decode cX4_rains 10 = .ok (.aload_n 0, 1) := by decide +kernel
theorem dX4_rains_11 : decode cX4_rains 11 = .ok (.getfield 19, 3) := by decide +kernel
theorem dX4_rains_14 : decode cX4_rains 14 = .ok (.iload_n 1, 1) := by decide +kernel
theorem dX4_rains_15 : decode cX4_rains 15 = .ok (.aload_n 0, 1) := by decide +kernel
theorem dX4_rains_16 : decode cX4_rains 16 = .ok (.getfield 19, 3) := by decide +kernel
theorem dX4_rains_19 : decode cX4_rains 19 = .ok (.iload_n 1, 1) := by decide +kernel
theorem dX4_rains_20 : decode cX4_rains 20 = .ok (.iaload, 1) := by decide +kernel
theorem dX4_rains_21 : decode cX4_rains 21 = .ok (.iconst 1, 1) := by decide +kernel
theorem dX4_rains_22 : decode cX4_rains 22 = .ok (.iadd, 1) := by decide +kernel
theorem dX4_rains_23 : decode cX4_rains 23 = .ok (.bipush 9, 2) := by decide +kernel
theorem dX4_rains_25 : decode cX4_rains 25 = .ok (.invokestatic 188, 3) := by decide +kernel
theorem dX4_rains_28 : decode cX4_rains 28 = .ok (.iastore, 1) := by decide +kernel
theorem dX4_rains_29 : decode cX4_rains 29 = .ok (.iinc 1 1, 3) := by decide +kernel
theorem dX4_rains_32 : decode cX4_rains 32 = .ok (.goto (-30), 3) := by decide +kernel
theorem dX4_rains_35 : decode cX4_rains 35 = .ok (.return_, 1) := by decide +kernel
theorem dX4_rain_0 : decode cX4_rain 0 = .ok (.aload_n 0, 1) := by decide +kernel
theorem dX4_rain_1 : decode cX4_rain 1 = .ok (.iload_n 1, 1) := by decide +kernel
theorem dX4_rain_2 : decode cX4_rain 2 = .ok (.invokevirtual 112, 3) := by decide +kernel
theorem dX4_rain_5 : decode cX4_rain 5 = .ok (.ifCond .ne 7, 3) := by decide +kernel
theorem dX4_rain_8 : decode cX4_rain 8 = .ok (.iconst (-1), 1) := by decide +kernel
theorem dX4_rain_9 : decode cX4_rain 9 = .ok (.goto 62, 3) := by decide +kernel
theorem dX4_rain_12 : decode cX4_rain 12 = .ok (.iload_n 2, 1) := by decide +kernel
theorem dX4_rain_13 : decode cX4_rain 13 = .ok (.ifCond .lt 13, 3) := by decide +kernel
theorem dX4_rain_16 : decode cX4_rain 16 = .ok (.iload 4, 2) := by decide +kernel
theorem dX4_rain_18 : decode cX4_rain 18 = .ok (.ifCond .lt 8, 3) := by decide +kernel
theorem dX4_rain_21 : decode cX4_rain 21 = .ok (.iload_n 3, 1) := by decide +kernel
theorem dX4_rain_22 : decode cX4_rain 22 = .ok (.iconst 2, 1) := by decide +kernel
theorem dX4_rain_23 : decode cX4_rain 23 = .ok (.if_icmp .ge 8, 3) := by decide +kernel
theorem dX4_rain_26 : decode cX4_rain 26 = .ok (.bipush (-4), 2) := by decide +kernel
theorem dX4_rain_28 : decode cX4_rain 28 = .ok (.goto 43, 3) := by decide +kernel
theorem dX4_rain_31 : decode cX4_rain 31 = .ok (.iload_n 2, 1) := by decide +kernel
theorem dX4_rain_32 : decode cX4_rain 32 = .ok (.bipush 7, 2) := by decide +kernel
theorem dX4_rain_34 : decode cX4_rain 34 = .ok (.if_icmp .gt 16, 3) := by decide +kernel
theorem dX4_rain_37 : decode cX4_rain 37 = .ok (.iload_n 3, 1) := by decide +kernel
theorem dX4_rain_38 : decode cX4_rain 38 = .ok (.bipush 20, 2) := by decide +kernel
theorem dX4_rain_40 : decode cX4_rain 40 = .ok (.if_icmp .gt 10, 3) := by decide +kernel
theorem dX4_rain_43 : decode cX4_rain 43 = .ok (.iload 4, 2) := by decide +kernel
theorem dX4_rain_45 : decode cX4_rain 45 = .ok (.bipush 6, 2) := by decide +kernel
theorem dX4_rain_47 : decode cX4_rain 47 = .ok (.if_icmp .le 8, 3) := by decide +kernel
theorem dX4_rain_50 : decode cX4_rain 50 = .ok (.bipush (-6), 2) := by decide +kernel
theorem dX4_rain_52 : decode cX4_rain 52 = .ok (.goto 19, 3) := by decide +kernel
theorem dX4_rain_55 : decode cX4_rain 55 = .ok (.iload 5, 2) := by decide +kernel
theorem dX4_rain_57 : decode cX4_rain 57 = .ok (.iconst 0, 1) := by decide +kernel
theorem dX4_rain_58 : decode cX4_rain 58 = .ok (.iconst 1, 1) := by decide +kernel
theorem dX4_rain_59 : decode cX4_rain 59 = .ok (.invokestatic 88, 3) := by decide +kernel
theorem dX4_rain_62 : decode cX4_rain 62 = .ok (.ifCond .ne 8, 3) := by decide +kernel
theorem dX4_rain_65 : decode cX4_rain 65 = .ok (.bipush (-2), 2) := by decide +kernel
theorem dX4_rain_67 : decode cX4_rain 67 = .ok (.goto 4, 3) := by decide +kernel
theorem dX4_rain_70 : decode cX4_rain 70 = .ok (.iconst 0, 1) := by decide +kernel
theorem dX4_rain_71 : decode cX4_rain 71 = .ok (.istore 6, 2) := by decide +kernel
theorem dX4_rain_73 : decode cX4_rain 73 = .ok (.iload 6, 2) := by decide +kernel
theorem dX4_rain_75 : decode cX4_rain 75 = .ok (.ifCond .eq 10, 3) := by decide +kernel
theorem dX4_rain_78 : decode cX4_rain 78 = .ok (.aload_n 0, 1) := by decide +kernel
theorem dX4_rain_79 : decode cX4_rain 79 = .ok (.iload 6, 2) := by decide +kernel
theorem dX4_rain_81 : decode cX4_rain 81 = .ok (.invokevirtual 284, 3) := by decide +kernel
theorem dX4_rain_84 : decode cX4_rain 84 = .ok (.lreturn, 1) := by decide +kernel
theorem dX4_rain_85 : decode cX4_rain 85 = .ok (.lconst 0, 1) := by decide +kernel
theorem dX4_rain_86 : decode cX4_rain 86 = .ok (.lstore 7, 2) := by decide +kernel
theorem dX4_rain_88 : decode cX4_rain 88 = .ok (.lconst 1, 1) := by decide +kernel
theorem dX4_rain_89 : decode cX4_rain 89 = .ok (.lstore 9, 2) := by decide +kernel
theorem dX4_rain_91 : decode cX4_rain 91 = .ok (.iconst 0, 1) := by decide +kernel
theorem dX4_rain_92 : decode cX4_rain 92 = .ok (.istore 11, 2) := by decide +kernel
theorem dX4_rain_94 : decode cX4_rain 94 = .ok (.iload 11, 2) := by decide +kernel
theorem dX4_rain_96 : decode cX4_rain 96 = .ok (.iload_n 2, 1) := by decide +kernel
theorem dX4_rain_97 : decode cX4_rain 97 = .ok (.if_icmp .ge 16, 3) := by decide +kernel
theorem dX4_rain_100 : decode cX4_rain 100 = .ok (.lload 9, 2) := by decide +kernel
theorem dX4_rain_102 : decode cX4_rain 102 = .ok (.iload_n 3, 1) := by decide +kernel
theorem dX4_rain_103 : decode cX4_rain 103 = .ok (.i2l, 1) := by decide +kernel
theorem dX4_rain_104 : decode cX4_rain 104 = .ok (.lmul, 1) := by decide +kernel
theorem dX4_rain_105 : decode cX4_rain 105 = .ok (.lstore 9, 2) := by decide +kernel
theorem dX4_rain_107 : decode cX4_rain 107 = .ok (.iinc 11 1, 3) := by decide +kernel
theorem dX4_rain_110 : decode cX4_rain 110 = .ok (.goto (-16), 3) := by decide +kernel
theorem dX4_rain_113 : decode cX4_rain 113 = .ok (.iconst 0, 1) := by decide +kernel
theorem dX4_rain_114 : decode cX4_rain 114 = .ok (.istore 11, 2) := by decide +kernel
theorem dX4_rain_116 : decode cX4_rain 116 = .ok (.iload 11, 2) := by decide +kernel
theorem dX4_rain_118 : decode cX4_rain 118 = .ok (.iconst 1, 1) := by decide +kernel
theorem dX4_rain_119 : decode cX4_rain 119 = .ok (.iload_n 2, 1) := by decide +kernel
theorem dX4_rain_120 : decode cX4_rain 120 = .ok (.ishl, 1) := by decide +kernel
theorem dX4_rain_121 : decode cX4_rain 121 = .ok (.if_icmp .ge 98, 3) := by decide +kernel
theorem dX4_rain_124 : decode cX4_rain 124 = .ok (.aload_n 0, 1) := by decide +kernel
theorem dX4_rain_125 : decode cX4_rain 125 = .ok (.invokevirtual 219, 3) := by decide +kernel
theorem dX4_rain_128 : decode cX4_rain 128 = .ok (.lconst 1, 1) := by decide +kernel
theorem dX4_rain_129 : decode cX4_rain 129 = .ok (.lstore 12, 2) := by decide +kernel
theorem dX4_rain_131 : decode cX4_rain 131 = .ok (.iconst 0, 1) := by decide +kernel
theorem dX4_rain_132 : decode cX4_rain 132 = .ok (.istore 14, 2) := by decide +kernel
theorem dX4_rain_134 : decode cX4_rain 134 = .ok (.iload 14, 2) := by decide +kernel
theorem dX4_rain_136 : decode cX4_rain 136 = .ok (.iload_n 2, 1) := by decide +kernel
theorem dX4_rain_137 : decode cX4_rain 137 = .ok (.if_icmp .ge 50, 3) := by decide +kernel
theorem dX4_rain_140 : decode cX4_rain 140 = .ok (.lload 12, 2) := by decide +kernel
theorem dX4_rain_142 : decode cX4_rain 142 = .ok (.iload 11, 2) := by decide +kernel
theorem dX4_rain_144 : decode cX4_rain 144 = .ok (.iload 14, 2) := by decide +kernel
theorem dX4_rain_146 : decode cX4_rain 146 = .ok (.invokestatic 237, 3) := by decide +kernel
theorem dX4_rain_149 : decode cX4_rain 149 = .ok (.ifCond .eq 7, 3) := by decide +kernel
theorem dX4_rain_152 : decode cX4_rain 152 = .ok (.lconst 1, 1) := by decide +kernel
theorem dX4_rain_153 : decode cX4_rain 153 = .ok (.goto 7, 3) := by decide +kernel
theorem dX4_rain_156 : decode cX4_rain 156 = .ok (.iload_n 3, 1) := by decide +kernel
theorem dX4_rain_157 : decode cX4_rain 157 = .ok (.iconst 1, 1) := by decide +kernel
theorem dX4_rain_158 : decode cX4_rain 158 = .ok (.isub, 1) := by decide +kernel
theorem dX4_rain_159 : decode cX4_rain 159 = .ok (.i2l, 1) := by decide +kernel
theorem dX4_rain_160 : decode cX4_rain 160 = .ok (.lmul, 1) := by decide +kernel
theorem dX4_rain_161 : decode cX4_rain 161 = .ok (.lstore 12, 2) := by decide +kernel
theorem dX4_rain_163 : decode cX4_rain 163 = .ok (.iload 11, 2) := by decide +kernel
theorem dX4_rain_165 : decode cX4_rain 165 = .ok (.iload 14, 2) := by decide +kernel
theorem dX4_rain_167 : decode cX4_rain 167 = .ok (.invokestatic 237, 3) := by decide +kernel
theorem dX4_rain_170 : decode cX4_rain 170 = .ok (.ifCond .eq 7, 3) := by decide +kernel
theorem dX4_rain_173 : decode cX4_rain 173 = .ok (.aload_n 0, 1) := by decide +kernel
theorem dX4_rain_174 : decode cX4_rain 174 = .ok (.invokevirtual 288, 3) := by decide +kernel
theorem dX4_rain_177 : decode cX4_rain 177 = .ok (.aload_n 0, 1) := by decide +kernel
theorem dX4_rain_178 : decode cX4_rain 178 = .ok (.invokevirtual 200, 3) := by decide +kernel
theorem dX4_rain_181 : decode cX4_rain 181 = .ok (.iinc 14 1, 3) := by decide +kernel
theorem dX4_rain_184 : decode cX4_rain 184 = .ok (.goto (-50), 3) := by decide +kernel
theorem dX4_rain_187 : decode cX4_rain 187 = .ok (.lload 7, 2) := by decide +kernel
theorem dX4_rain_189 : decode cX4_rain 189 = .ok (.aload_n 0, 1) := by decide +kernel
theorem dX4_rain_190 : decode cX4_rain 190 = .ok (.getfield 28, 3) := by decide +kernel
theorem dX4_rain_193 : decode cX4_rain 193 = .ok (.iload_n 1, 1) := by decide +kernel
theorem dX4_rain_194 : decode cX4_rain 194 = .ok (.iaload, 1) := by decide +kernel
theorem dX4_rain_195 : decode cX4_rain 195 = .ok (.iload 4, 2) := by decide +kernel
theorem dX4_rain_197 : decode cX4_rain 197 = .ok (.if_icmp .lt 8, 3) := by decide +kernel
theorem dX4_rain_200 : decode cX4_rain 200 = .ok (.lload 12, 2) := by decide +kernel
theorem dX4_rain_202 : decode cX4_rain 202 = .ok (.goto 4, 3) := by decide +kernel
theorem dX4_rain_205 : decode cX4_rain 205 = .ok (.lconst 0, 1) := by decide +kernel
theorem dX4_rain_206 : decode cX4_rain 206 = .ok (.ladd, 1) := by decide +kernel
theorem dX4_rain_207 : decode cX4_rain 207 = .ok (.lstore 7, 2) := by decide +kernel
theorem dX4_rain_209 : decode cX4_rain 209 = .ok (.aload_n 0, 1) := by decide +kernel
theorem dX4_rain_210 : decode cX4_rain 210 = .ok (.invokevirtual 222, 3) := by decide +kernel
theorem dX4_rain_213 : decode cX4_rain 213 = .ok (.iinc 11 1, 3) := by decide +kernel
theorem dX4_rain_216 : decode cX4_rain 216 = .ok (.goto (-100), 3) := by decide +kernel
theorem dX4_rain_219 : decode cX4_rain 219 = .ok (.lload 7, 2) := by decide +kernel
theorem dX4_rain_221 : decode cX4_rain 221 = .ok (.lload 9, 2) := by decide +kernel
theorem dX4_rain_223 : decode cX4_rain 223 = .ok (.iload 5, 2) := by decide +kernel
theorem dX4_rain_225 : decode cX4_rain 225 = .ok (.invokestatic 291, 3) := by decide +kernel
theorem dX4_rain_228 : decode cX4_rain 228 = .ok (.lreturn, 1) := by decide +kernel
theorem dX4_mean_0 : decode cX4_mean 0 = .ok (.iload_n 1, 1) := by decide +kernel
theorem dX4_mean_1 : decode cX4_mean 1 = .ok (.iconst 0, 1) := by decide +kernel
theorem dX4_mean_2 : decode cX4_mean 2 = .ok (.iconst 1, 1) := by decide +kernel
theorem dX4_mean_3 : decode cX4_mean 3 = .ok (.invokestatic 88, 3) := by decide +kernel
theorem dX4_mean_6 : decode cX4_mean 6 = .ok (.ifCond .ne 10, 3) := by decide +kernel
theorem dX4_mean_9 : decode cX4_mean 9 = .ok (.aload_n 0, 1) := by decide +kernel
theorem dX4_mean_10 : decode cX4_mean 10 = .ok (.bipush (-2), 2) := by decide +kernel
theorem dX4_mean_12 : decode cX4_mean 12 = .ok (.invokevirtual 284, 3) := by decide +kernel
theorem dX4_mean_15 : decode cX4_mean 15 = .ok (.lreturn, 1) := by decide +kernel
theorem dX4_mean_16 : decode cX4_mean 16 = .ok (.lconst 0, 1) := by decide +kernel
theorem dX4_mean_17 : decode cX4_mean 17 = .ok (.lstore_n 2, 1) := by decide +kernel
theorem dX4_mean_18 : decode cX4_mean 18 = .ok (.iconst 0, 1) := by decide +kernel
theorem dX4_mean_19 : decode cX4_mean 19 = .ok (.istore 4, 2) := by decide +kernel
theorem dX4_mean_21 : decode cX4_mean 21 = .ok (.iload 4, 2) := by decide +kernel
theorem dX4_mean_23 : decode cX4_mean 23 = .ok (.aload_n 0, 1) := by decide +kernel
theorem dX4_mean_24 : decode cX4_mean 24 = .ok (.getfield 67, 3) := by decide +kernel
theorem dX4_mean_27 : decode cX4_mean 27 = .ok (.if_icmp .ge 22, 3) := by decide +kernel
theorem dX4_mean_30 : decode cX4_mean 30 = .ok (.lload_n 2, 1) := by decide +kernel
theorem dX4_mean_31 : decode cX4_mean 31 = .ok (.aload_n 0, 1) := by decide +kernel
theorem dX4_mean_32 : decode cX4_mean 32 = .ok (.iload 4, 2) := by decide +kernel
theorem dX4_mean_34 : decode cX4_mean 34 = .ok (.invokevirtual 185, 3) := by decide +kernel
theorem dX4_mean_37 : decode cX4_mean 37 = .ok (.bipush 50, 2) := by decide +kernel
theorem dX4_mean_39 : decode cX4_mean 39 = .ok (.iadd, 1) := by decide +kernel
theorem dX4_mean_40 : decode cX4_mean 40 = .ok (.i2l, 1) := by decide +kernel
theorem dX4_mean_41 : decode cX4_mean 41 = .ok (.ladd, 1) := by decide +kernel
theorem dX4_mean_42 : decode cX4_mean 42 = .ok (.lstore_n 2, 1) := by decide +kernel
theorem dX4_mean_43 : decode cX4_mean 43 = .ok (.iinc 4 1, 3) := by decide +kernel
theorem dX4_mean_46 : decode cX4_mean 46 = .ok (.goto (-25), 3) := by decide +kernel
theorem dX4_mean_49 : decode cX4_mean 49 = .ok (.aload_n 0, 1) := by decide +kernel
theorem dX4_mean_50 : decode cX4_mean 50 = .ok (.getfield 67, 3) := by decide +kernel
theorem dX4_mean_53 : decode cX4_mean 53 = .ok (.ifCond .ne 8, 3) := by decide +kernel
theorem dX4_mean_56 : decode cX4_mean 56 = .ok (.iload_n 1, 1) := by decide +kernel
theorem dX4_mean_57 : decode cX4_mean 57 = .ok (.i2l, 1) := by decide +kernel
theorem dX4_mean_58 : decode cX4_mean 58 = .ok (.goto 13, 3) := by decide +kernel
theorem dX4_mean_61 : decode cX4_mean 61 = .ok (.lload_n 2, 1) := by decide +kernel
theorem dX4_mean_62 : decode cX4_mean 62 = .ok (.aload_n 0, 1) := by decide +kernel
theorem dX4_mean_63 : decode cX4_mean 63 = .ok (.getfield 67, 3) := by decide +kernel
theorem dX4_mean_66 : decode cX4_mean 66 = .ok (.i2l, 1) := by decide +kernel
theorem dX4_mean_67 : decode cX4_mean 67 = .ok (.iload_n 1, 1) := by decide +kernel
theorem dX4_mean_68 : decode cX4_mean 68 = .ok (.invokestatic 291, 3) := by decide +kernel
theorem dX4_mean_71 : decode cX4_mean 71 = .ok (.lreturn, 1) := by decide +kernel
theorem dX4_isSo_0 : decode cX4_isSo 0 = .ok (.aload_n 0, 1) := by decide +kernel
theorem dX4_isSo_1 : decode cX4_isSo 1 = .ok (.invokevirtual 219, 3) := by decide +kernel
theorem dX4_isSo_4 : decode cX4_isSo 4 = .ok (.iconst 1, 1) := by decide +kernel
theorem dX4_isSo_5 : decode cX4_isSo 5 = .ok (.istore_n 2, 1) := by decide +kernel
theorem dX4_isSo_6 : decode cX4_isSo 6 = .ok (.iconst 0, 1) := by decide +kernel
theorem dX4_isSo_7 : decode cX4_isSo 7 = .ok (.istore_n 3, 1) := by decide +kernel
theorem dX4_isSo_8 : decode cX4_isSo 8 = .ok (.iload_n 3, 1) := by decide +kernel
theorem dX4_isSo_9 : decode cX4_isSo 9 = .ok (.aload_n 0, 1) := by decide +kernel
theorem dX4_isSo_10 : decode cX4_isSo 10 = .ok (.getfield 295, 3) := by decide +kernel
theorem dX4_isSo_13 : decode cX4_isSo 13 = .ok (.if_icmp .ge 38, 3) := by decide +kernel
theorem dX4_isSo_16 : decode cX4_isSo 16 = .ok (.iload_n 2, 1) := by decide +kernel
theorem dX4_isSo_17 : decode cX4_isSo 17 = .ok (.ifCond .eq 34, 3) := by decide +kernel
theorem dX4_isSo_20 : decode cX4_isSo 20 = .ok (.aload_n 0, 1) := by decide +kernel
theorem dX4_isSo_21 : decode cX4_isSo 21 = .ok (.getfield 28, 3) := by decide +kernel
theorem dX4_isSo_24 : decode cX4_isSo 24 = .ok (.iload_n 1, 1) := by decide +kernel
theorem dX4_isSo_25 : decode cX4_isSo 25 = .ok (.iaload, 1) := by decide +kernel
theorem dX4_isSo_26 : decode cX4_isSo 26 = .ok (.aload_n 0, 1) := by decide +kernel
theorem dX4_isSo_27 : decode cX4_isSo 27 = .ok (.getfield 57, 3) := by decide +kernel
theorem dX4_isSo_30 : decode cX4_isSo 30 = .ok (.iload_n 3, 1) := by decide +kernel
theorem dX4_isSo_31 : decode cX4_isSo 31 = .ok (.iaload, 1) := by decide +kernel
theorem dX4_isSo_32 : decode cX4_isSo 32 = .ok (.if_icmp .ne 7, 3) := by decide +kernel
theorem dX4_isSo_35 : decode cX4_isSo 35 = .ok (.iconst 1, 1) := by decide +kernel
theorem dX4_isSo_36 : decode cX4_isSo 36 = .ok (.goto 4, 3) := by decide +kernel
theorem dX4_isSo_39 : decode cX4_isSo 39 = .ok (.iconst 0, 1) := by decide +kernel
theorem dX4_isSo_40 : decode cX4_isSo 40 = .ok (.istore_n 2, 1) := by decide +kernel
theorem dX4_isSo_41 : decode cX4_isSo 41 = .ok (.aload_n 0, 1) := by decide +kernel
theorem dX4_isSo_42 : decode cX4_isSo 42 = .ok (.invokevirtual 200, 3) := by decide +kernel
theorem dX4_isSo_45 : decode cX4_isSo 45 = .ok (.iinc 3 1, 3) := by decide +kernel
theorem dX4_isSo_48 : decode cX4_isSo 48 = .ok (.goto (-40), 3) := by decide +kernel
theorem dX4_isSo_51 : decode cX4_isSo 51 = .ok (.aload_n 0, 1) := by decide +kernel
theorem dX4_isSo_52 : decode cX4_isSo 52 = .ok (.invokevirtual 222, 3) := by decide +kernel
theorem dX4_isSo_55 : decode cX4_isSo 55 = .ok (.iload_n 2, 1) := by decide +kernel
theorem dX4_isSo_56 : decode cX4_isSo 56 = .ok (.ireturn, 1) := by decide +kernel
theorem dX4_bitsFor_0 : decode cX4_bitsFor 0 = .ok (.aload_n 1, 1) := by decide +kernel
theorem dX4_bitsFor_1 : decode cX4_bitsFor 1 = .ok (.iload_n 2, 1) := by decide +kernel
theorem dX4_bitsFor_2 : decode cX4_bitsFor 2 = .ok (.iaload, 1) := by decide +kernel
theorem dX4_bitsFor_3 : decode cX4_bitsFor 3 = .ok (.istore 5, 2) := by decide +kernel
theorem dX4_bitsFor_5 : decode cX4_bitsFor 5 = .ok (.iconst 0, 1) := by decide +kernel
theorem dX4_bitsFor_6 : decode cX4_bitsFor 6 = .ok (.istore 6, 2) := by decide +kernel
theorem dX4_bitsFor_8 : decode cX4_bitsFor 8 = .ok (.iconst 0, 1) := by decide +kernel
theorem dX4_bitsFor_9 : decode cX4_bitsFor 9 = .ok (.istore 7, 2) := by decide +kernel
theorem dX4_bitsFor_11 : decode cX4_bitsFor 11 = .ok (.iload 7, 2) := by decide +kernel
theorem dX4_bitsFor_13 : decode cX4_bitsFor 13 = .ok (.iload 4, 2) := by decide +kernel
theorem dX4_bitsFor_15 : decode cX4_bitsFor 15 = .ok (.if_icmp .ge 35, 3) := by decide +kernel
theorem dX4_bitsFor_18 : decode cX4_bitsFor 18 = .ok (.aload_n 1, 1) := by decide +kernel
theorem dX4_bitsFor_19 : decode cX4_bitsFor 19 = .ok (.iload_n 2, 1) := by decide +kernel
theorem dX4_bitsFor_20 : decode cX4_bitsFor 20 = .ok (.iload 7, 2) := by decide +kernel
theorem dX4_bitsFor_22 : decode cX4_bitsFor 22 = .ok (.iastore, 1) := by decide +kernel
theorem dX4_bitsFor_23 : decode cX4_bitsFor 23 = .ok (.iload 6, 2) := by decide +kernel
theorem dX4_bitsFor_25 : decode cX4_bitsFor 25 = .ok (.aload_n 0, 1) := by decide +kernel
theorem dX4_bitsFor_26 : decode cX4_bitsFor 26 = .ok (.iload_n 3, 1) := by decide +kernel
theorem dX4_bitsFor_27 : decode cX4_bitsFor 27 = .ok (.invokevirtual 298, 3) := by decide +kernel
theorem dX4_bitsFor_30 : decode cX4_bitsFor 30 = .ok (.ifCond .eq 10, 3) := by decide +kernel
theorem dX4_bitsFor_33 : decode cX4_bitsFor 33 = .ok (.iconst 1, 1) := by decide +kernel
theorem dX4_bitsFor_34 : decode cX4_bitsFor 34 = .ok (.iload 7, 2) := by decide +kernel
theorem dX4_bitsFor_36 : decode cX4_bitsFor 36 = .ok (.ishl, 1) := by decide +kernel
theorem dX4_bitsFor_37 : decode cX4_bitsFor 37 = .ok (.goto 4, 3) := by decide +kernel
theorem dX4_bitsFor_40 : decode cX4_bitsFor 40 = .ok (.iconst 0, 1) := by decide +kernel
theorem dX4_bitsFor_41 : decode cX4_bitsFor 41 = .ok (.ior, 1) := by decide +kernel
theorem dX4_bitsFor_42 : decode cX4_bitsFor 42 = .ok (.istore 6, 2) := by decide +kernel
theorem dX4_bitsFor_44 : decode cX4_bitsFor 44 = .ok (.iinc 7 1, 3) := by decide +kernel
theorem dX4_bitsFor_47 : decode cX4_bitsFor 47 = .ok (.goto (-36), 3) := by decide +kernel
theorem dX4_bitsFor_50 : decode cX4_bitsFor 50 = .ok (.aload_n 1, 1) := by decide +kernel
theorem dX4_bitsFor_51 : decode cX4_bitsFor 51 = .ok (.iload_n 2, 1) := by decide +kernel
theorem dX4_bitsFor_52 : decode cX4_bitsFor 52 = .ok (.iload 5, 2) := by decide +kernel
theorem dX4_bitsFor_54 : decode cX4_bitsFor 54 = .ok (.iastore, 1) := by decide +kernel
theorem dX4_bitsFor_55 : decode cX4_bitsFor 55 = .ok (.iload 6, 2) := by decide +kernel
theorem dX4_bitsFor_57 : decode cX4_bitsFor 57 = .ok (.ireturn, 1) := by decide +kernel
theorem dX4_whatIs_0 : decode cX4_whatIs 0 = .ok (.aload_n 0, 1) := by decide +kernel
theorem dX4_whatIs_1 : decode cX4_whatIs 1 = .ok (.iload_n 1, 1) := by decide +kernel
theorem dX4_whatIs_2 : decode cX4_whatIs 2 = .ok (.invokevirtual 109, 3) := by decide +kernel
theorem dX4_whatIs_5 : decode cX4_whatIs 5 = .ok (.ifCond .ne 7, 3) := by decide +kernel
theorem dX4_whatIs_8 : decode cX4_whatIs 8 = .ok (.iconst (-1), 1) := by decide +kernel
theorem dX4_whatIs_9 : decode cX4_whatIs 9 = .ok (.goto 18, 3) := by decide +kernel
theorem dX4_whatIs_12 : decode cX4_whatIs 12 = .ok (.iload_n 2, 1) := by decide +kernel
theorem dX4_whatIs_13 : decode cX4_whatIs 13 = .ok (.iconst 0, 1) := by decide +kernel
theorem dX4_whatIs_14 : decode cX4_whatIs 14 = .ok (.iconst 1, 1) := by decide +kernel
theorem dX4_whatIs_15 : decode cX4_whatIs 15 = .ok (.invokestatic 88, 3) := by decide +kernel
theorem dX4_whatIs_18 : decode cX4_whatIs 18 = .ok (.ifCond .ne 8, 3) := by decide +kernel
theorem dX4_whatIs_21 : decode cX4_whatIs 21 = .ok (.bipush (-2), 2) := by decide +kernel
theorem dX4_whatIs_23 : decode cX4_whatIs 23 = .ok (.goto 4, 3) := by decide +kernel
theorem dX4_whatIs_26 : decode cX4_whatIs 26 = .ok (.iconst 0, 1) := by decide +kernel
theorem dX4_whatIs_27 : decode cX4_whatIs 27 = .ok (.istore_n 3, 1) := by decide +kernel
theorem dX4_whatIs_28 : decode cX4_whatIs 28 = .ok (.iload_n 3, 1) := by decide +kernel
theorem dX4_whatIs_29 : decode cX4_whatIs 29 = .ok (.ifCond .eq 9, 3) := by decide +kernel
theorem dX4_whatIs_32 : decode cX4_whatIs 32 = .ok (.aload_n 0, 1) := by decide +kernel
theorem dX4_whatIs_33 : decode cX4_whatIs 33 = .ok (.iload_n 3, 1) := by decide +kernel
theorem dX4_whatIs_34 : decode cX4_whatIs 34 = .ok (.invokevirtual 77, 3) := by decide +kernel
theorem dX4_whatIs_37 : decode cX4_whatIs 37 = .ok (.ireturn, 1) := by decide +kernel
theorem dX4_whatIs_38 : decode cX4_whatIs 38 = .ok (.aload_n 0, 1) := by decide +kernel
theorem dX4_whatIs_39 : decode cX4_whatIs 39 = .ok (.iload_n 1, 1) := by decide +kernel
theorem dX4_whatIs_40 : decode cX4_whatIs 40 = .ok (.invokevirtual 169, 3) := by decide +kernel
theorem dX4_whatIs_43 : decode cX4_whatIs 43 = .ok (.istore 4, 2) := by decide +kernel
theorem dX4_whatIs_45 : decode cX4_whatIs 45 = .ok (.iload 4, 2) := by decide +kernel
theorem dX4_whatIs_47 : decode cX4_whatIs 47 = .ok (.ifCond .ge 7, 3) := by decide +kernel
theorem dX4_whatIs_50 : decode cX4_whatIs 50 = .ok (.iconst 0, 1) := by decide +kernel
theorem dX4_whatIs_51 : decode cX4_whatIs 51 = .ok (.goto 36, 3) := by decide +kernel
theorem dX4_whatIs_54 : decode cX4_whatIs 54 = .ok (.iload_n 2, 1) := by decide +kernel
theorem dX4_whatIs_55 : decode cX4_whatIs 55 = .ok (.ifCond .ne 19, 3) := by decide +kernel
theorem dX4_whatIs_58 : decode cX4_whatIs 58 = .ok (.aload_n 0, 1) := by decide +kernel
theorem dX4_whatIs_59 : decode cX4_whatIs 59 = .ok (.aload_n 0, 1) := by decide +kernel
theorem dX4_whatIs_60 : decode cX4_whatIs 60 = .ok (.getfield 13, 3) := by decide +kernel
theorem dX4_whatIs_63 : decode cX4_whatIs 63 = .ok (.iload_n 1, 1) := by decide +kernel
theorem dX4_whatIs_64 : decode cX4_whatIs 64 = .ok (.iload 4, 2) := by decide +kernel
theorem dX4_whatIs_66 : decode cX4_whatIs 66 = .ok (.bipush 6, 2) := by decide +kernel
theorem dX4_whatIs_68 : decode cX4_whatIs 68 = .ok (.invokevirtual 301, 3) := by decide +kernel
theorem dX4_whatIs_71 : decode cX4_whatIs 71 = .ok (.goto 16, 3) := by decide +kernel
theorem dX4_whatIs_74 : decode cX4_whatIs 74 = .ok (.aload_n 0, 1) := by decide +kernel
theorem dX4_whatIs_75 : decode cX4_whatIs 75 = .ok (.aload_n 0, 1) := by decide +kernel
theorem dX4_whatIs_76 : decode cX4_whatIs 76 = .ok (.getfield 16, 3) := by decide +kernel
theorem dX4_whatIs_79 : decode cX4_whatIs 79 = .ok (.iload_n 1, 1) := by decide +kernel
theorem dX4_whatIs_80 : decode cX4_whatIs 80 = .ok (.iload 4, 2) := by decide +kernel
theorem dX4_whatIs_82 : decode cX4_whatIs 82 = .ok (.bipush 10, 2) := by decide +kernel
theorem dX4_whatIs_84 : decode cX4_whatIs 84 = .ok (.invokevirtual 301, 3) := by decide +kernel
theorem dX4_whatIs_87 : decode cX4_whatIs 87 = .ok (.ireturn, 1) := by decide +kernel
theorem dX4_row_0 : decode cX4_row 0 = .ok (.iload_n 1, 1) := by decide +kernel
theorem dX4_row_1 : decode cX4_row 1 = .ok (.iconst 0, 1) := by decide +kernel
theorem dX4_row_2 : decode cX4_row 2 = .ok (.bipush 99, 2) := by decide +kernel
theorem dX4_row_4 : decode cX4_row 4 = .ok (.invokestatic 70, 3) := by decide +kernel
theorem dX4_row_7 : decode cX4_row 7 = .ok (.istore_n 2, 1) := by decide +kernel
theorem dX4_row_8 : decode cX4_row 8 = .ok (.iload_n 2, 1) := by decide +kernel
theorem dX4_row_9 : decode cX4_row 9 = .ok (.ifCond .ne 15, 3) := by decide +kernel
theorem dX4_row_12 : decode cX4_row 12 = .ok (.aload_n 0, 1) := by decide +kernel
theorem dX4_row_13 : decode cX4_row 13 = .ok (.getfield 295, 3) := by decide +kernel
theorem dX4_row_16 : decode cX4_row 16 = .ok (.bipush 16, 2) := by decide +kernel
theorem dX4_row_18 : decode cX4_row 18 = .ok (.if_icmp .ne 6, 3) := by decide +kernel
theorem dX4_row_21 : decode cX4_row 21 = .ok (.bipush (-6), 2) := by decide +kernel
theorem dX4_row_23 : decode cX4_row 23 = .ok (.istore_n 2, 1) := by decide +kernel
theorem dX4_row_24 : decode cX4_row 24 = .ok (.iload_n 2, 1) := by decide +kernel
theorem dX4_row_25 : decode cX4_row 25 = .ok (.ifCond .eq 9, 3) := by decide +kernel
theorem dX4_row_28 : decode cX4_row 28 = .ok (.aload_n 0, 1) := by decide +kernel
theorem dX4_row_29 : decode cX4_row 29 = .ok (.iload_n 2, 1) := by decide +kernel
theorem dX4_row_30 : decode cX4_row 30 = .ok (.invokevirtual 77, 3) := by decide +kernel
theorem dX4_row_33 : decode cX4_row 33 = .ok (.ireturn, 1) := by decide +kernel
theorem dX4_row_34 : decode cX4_row 34 = .ok (.aload_n 0, 1) := by decide +kernel
theorem dX4_row_35 : decode cX4_row 35 = .ok (.getfield 57, 3) := by decide +kernel
theorem dX4_row_38 : decode cX4_row 38 = .ok (.aload_n 0, 1) := by decide +kernel
theorem dX4_row_39 : decode cX4_row 39 = .ok (.getfield 295, 3) := by decide +kernel
theorem dX4_row_42 : decode cX4_row 42 = .ok (.iload_n 1, 1) := by decide +kernel
theorem dX4_row_43 : decode cX4_row 43 = .ok (.iastore, 1) := by decide +kernel
theorem dX4_row_44 : decode cX4_row 44 = .ok (.aload_n 0, 1) := by decide +kernel
theorem dX4_row_45 : decode cX4_row 45 = .ok (.dup, 1) := by decide +kernel
theorem dX4_row_46 : decode cX4_row 46 = .ok (.getfield 295, 3) := by decide +kernel
theorem dX4_row_49 : decode cX4_row 49 = .ok (.iconst 1, 1) := by decide +kernel
theorem dX4_row_50 : decode cX4_row 50 = .ok (.iadd, 1) := by decide +kernel
theorem dX4_row_51 : decode cX4_row 51 = .ok (.putfield 295, 3) := by decide +kernel
theorem dX4_row_54 : decode cX4_row 54 = .ok (.aload_n 0, 1) := by decide +kernel
theorem dX4_row_55 : decode cX4_row 55 = .ok (.getfield 295, 3) := by decide +kernel
theorem dX4_row_58 : decode cX4_row 58 = .ok (.ireturn, 1) := by decide +kernel
theorem dX4_judge_0 : decode cX4_judge 0 = .ok (.aload_n 0, 1) := by decide +kernel
theorem dX4_judge_1 : decode cX4_judge 1 = .ok (.getfield 295, 3) := by decide +kernel
theorem dX4_judge_4 : decode cX4_judge 4 = .ok (.istore_n 1, 1) := by decide +kernel
theorem dX4_judge_5 : decode cX4_judge 5 = .ok (.aload_n 0, 1) := by decide +kernel
theorem dX4_judge_6 : decode cX4_judge 6 = .ok (.iconst 0, 1) := by decide +kernel
theorem dX4_judge_7 : decode cX4_judge 7 = .ok (.putfield 295, 3) := by decide +kernel
theorem dX4_judge_10 : decode cX4_judge 10 = .ok (.iconst 0, 1) := by decide +kernel
theorem dX4_judge_11 : decode cX4_judge 11 = .ok (.istore_n 2, 1) := by decide +kernel
theorem dX4_judge_12 : decode cX4_judge 12 = .ok (.iload_n 2, 1) := by decide +kernel
theorem dX4_judge_13 : decode cX4_judge 13 = .ok (.iload_n 1, 1) := by decide +kernel
theorem dX4_judge_14 : decode cX4_judge 14 = .ok (.if_icmp .ge 34, 3) := by decide +kernel
theorem dX4_judge_17 : decode cX4_judge 17 = .ok (.iload_n 2, 1) := by decide +kernel
theorem dX4_judge_18 : decode cX4_judge 18 = .ok (.aload_n 0, 1) := by decide +kernel
theorem dX4_judge_19 : decode cX4_judge 19 = .ok (.getfield 67, 3) := by decide +kernel
theorem dX4_judge_22 : decode cX4_judge 22 = .ok (.if_icmp .ge 18, 3) := by decide +kernel
theorem dX4_judge_25 : decode cX4_judge 25 = .ok (.aload_n 0, 1) := by decide +kernel
theorem dX4_judge_26 : decode cX4_judge 26 = .ok (.getfield 22, 3) := by decide +kernel
theorem dX4_judge_29 : decode cX4_judge 29 = .ok (.iload_n 2, 1) := by decide +kernel
theorem dX4_judge_30 : decode cX4_judge 30 = .ok (.iaload, 1) := by decide +kernel
theorem dX4_judge_31 : decode cX4_judge 31 = .ok (.aload_n 0, 1) := by decide +kernel
theorem dX4_judge_32 : decode cX4_judge 32 = .ok (.getfield 57, 3) := by decide +kernel
theorem dX4_judge_35 : decode cX4_judge 35 = .ok (.iload_n 2, 1) := by decide +kernel
theorem dX4_judge_36 : decode cX4_judge 36 = .ok (.iaload, 1) := by decide +kernel
theorem dX4_judge_37 : decode cX4_judge 37 = .ok (.if_icmp .eq 5, 3) := by decide +kernel
theorem dX4_judge_40 : decode cX4_judge 40 = .ok (.iload_n 2, 1) := by decide +kernel
theorem dX4_judge_41 : decode cX4_judge 41 = .ok (.ireturn, 1) := by decide +kernel
theorem dX4_judge_42 : decode cX4_judge 42 = .ok (.iinc 2 1, 3) := by decide +kernel
theorem dX4_judge_45 : decode cX4_judge 45 = .ok (.goto (-33), 3) := by decide +kernel
theorem dX4_judge_48 : decode cX4_judge 48 = .ok (.bipush (-9), 2) := by decide +kernel
theorem dX4_judge_50 : decode cX4_judge 50 = .ok (.ireturn, 1) := by decide +kernel
theorem dX4_clear_0 : decode cX4_clear 0 = .ok (.aload_n 0, 1) := by decide +kernel
theorem dX4_clear_1 : decode cX4_clear 1 = .ok (.getfield 295, 3) := by decide +kernel
theorem dX4_clear_4 : decode cX4_clear 4 = .ok (.istore_n 1, 1) := by decide +kernel
theorem dX4_clear_5 : decode cX4_clear 5 = .ok (.aload_n 0, 1) := by decide +kernel
theorem dX4_clear_6 : decode cX4_clear 6 = .ok (.iconst 0, 1) := by decide +kernel
theorem dX4_clear_7 : decode cX4_clear 7 = .ok (.putfield 295, 3) := by decide +kernel
theorem dX4_clear_10 : decode cX4_clear 10 = .ok (.iload_n 1, 1) := by decide +kernel
theorem dX4_clear_11 : decode cX4_clear 11 = .ok (.ireturn, 1) := by decide +kernel
theorem dX4_draw_0 : decode cX4_draw 0 = .ok (.aload_n 0, 1) := by decide +kernel
theorem dX4_draw_1 : decode cX4_draw 1 = .ok (.aload_n 0, 1) := by decide +kernel
theorem dX4_draw_2 : decode cX4_draw 2 = .ok (.getfield 305, 3) := by decide +kernel
theorem dX4_draw_5 : decode cX4_draw 5 = .ok (.ldc_w 308, 3) := by decide +kernel
theorem dX4_draw_8 : decode cX4_draw 8 = .ok (.imul, 1) := by decide +kernel
theorem dX4_draw_9 : decode cX4_draw 9 = .ok (.ldc_w 309, 3) := by decide +kernel
theorem dX4_draw_12 : decode cX4_draw 12 = .ok (.iadd, 1) := by decide +kernel
theorem dX4_draw_13 : decode cX4_draw 13 = .ok (.putfield 305, 3) := by decide +kernel
theorem dX4_draw_16 : decode cX4_draw 16 = .ok (.aload_n 0, 1) := by decide +kernel
theorem dX4_draw_17 : decode cX4_draw 17 = .ok (.getfield 305, 3) := by decide +kernel
theorem dX4_draw_20 : decode cX4_draw 20 = .ok (.ldc_w 310, 3) := by decide +kernel
theorem dX4_draw_23 : decode cX4_draw 23 = .ok (.iand, 1) := by decide +kernel
theorem dX4_draw_24 : decode cX4_draw 24 = .ok (.sipush 256, 3) := by decide +kernel
theorem dX4_draw_27 : decode cX4_draw 27 = .ok (.idiv, 1) := by decide +kernel
theorem dX4_draw_28 : decode cX4_draw 28 = .ok (.iload_n 1, 1) := by decide +kernel
theorem dX4_draw_29 : decode cX4_draw 29 = .ok (.irem, 1) := by decide +kernel
theorem dX4_draw_30 : decode cX4_draw 30 = .ok (.ireturn, 1) := by decide +kernel
theorem dX4_lots_0 : decode cX4_lots 0 = .ok (.iload_n 1, 1) := by decide +kernel
theorem dX4_lots_1 : decode cX4_lots 1 = .ok (.iconst 1, 1) := by decide +kernel
theorem dX4_lots_2 : decode cX4_lots 2 = .ok (.bipush 20, 2) := by decide +kernel
theorem dX4_lots_4 : decode cX4_lots 4 = .ok (.invokestatic 70, 3) := by decide +kernel
theorem dX4_lots_7 : decode cX4_lots 7 = .ok (.istore 4, 2) := by decide +kernel
theorem dX4_lots_9 : decode cX4_lots 9 = .ok (.iload 4, 2) := by decide +kernel
theorem dX4_lots_11 : decode cX4_lots 11 = .ok (.ifCond .ne 16, 3) := by decide +kernel
theorem dX4_lots_14 : decode cX4_lots 14 = .ok (.iload_n 3, 1) := by decide +kernel
theorem dX4_lots_15 : decode cX4_lots 15 = .ok (.iconst 0, 1) := by decide +kernel
theorem dX4_lots_16 : decode cX4_lots 16 = .ok (.iconst 1, 1) := by decide +kernel
theorem dX4_lots_17 : decode cX4_lots 17 = .ok (.invokestatic 88, 3) := by decide +kernel
theorem dX4_lots_20 : decode cX4_lots 20 = .ok (.ifCond .ne 7, 3) := by decide +kernel
theorem dX4_lots_23 : decode cX4_lots 23 = .ok (.bipush (-2), 2) := by decide +kernel
theorem dX4_lots_25 : decode cX4_lots 25 = .ok (.istore 4, 2) := by decide +kernel
theorem dX4_lots_27 : decode cX4_lots 27 = .ok (.iload 4, 2) := by decide +kernel
theorem dX4_lots_29 : decode cX4_lots 29 = .ok (.ifCond .eq 10, 3) := by decide +kernel
theorem dX4_lots_32 : decode cX4_lots 32 = .ok (.aload_n 0, 1) := by decide +kernel
theorem dX4_lots_33 : decode cX4_lots 33 = .ok (.iload 4, 2) := by decide +kernel
theorem dX4_lots_35 : decode cX4_lots 35 = .ok (.invokevirtual 77, 3) := by decide +kernel
theorem dX4_lots_38 : decode cX4_lots 38 = .ok (.ireturn, 1) := by decide +kernel
theorem dX4_lots_39 : decode cX4_lots 39 = .ok (.aload_n 0, 1) := by decide +kernel
theorem dX4_lots_40 : decode cX4_lots 40 = .ok (.iload_n 2, 1) := by decide +kernel
theorem dX4_lots_41 : decode cX4_lots 41 = .ok (.putfield 305, 3) := by decide +kernel
theorem dX4_lots_44 : decode cX4_lots 44 = .ok (.aload_n 0, 1) := by decide +kernel
theorem dX4_lots_45 : decode cX4_lots 45 = .ok (.getfield 163, 3) := by decide +kernel
theorem dX4_lots_48 : decode cX4_lots 48 = .ok (.istore 5, 2) := by decide +kernel
theorem dX4_lots_50 : decode cX4_lots 50 = .ok (.iconst 0, 1) := by decide +kernel
theorem dX4_lots_51 : decode cX4_lots 51 = .ok (.istore 6, 2) := by decide +kernel
theorem dX4_lots_53 : decode cX4_lots 53 = .ok (.iconst 0, 1) := by decide +kernel
theorem dX4_lots_54 : decode cX4_lots 54 = .ok (.istore 7, 2) := by decide +kernel
theorem dX4_lots_56 : decode cX4_lots 56 = .ok (.iload 7, 2) := by decide +kernel
theorem dX4_lots_58 : decode cX4_lots 58 = .ok (.iload_n 1, 1) := by decide +kernel
theorem dX4_lots_59 : decode cX4_lots 59 = .ok (.if_icmp .ge 97, 3) := by decide +kernel
theorem dX4_lots_62 : decode cX4_lots 62 = .ok (.aload_n 0, 1) := by decide +kernel
theorem dX4_lots_63 : decode cX4_lots 63 = .ok (.invokevirtual 219, 3) := by decide +kernel
theorem dX4_lots_66 : decode cX4_lots 66 = .ok (.iconst 0, 1) := by decide +kernel
theorem dX4_lots_67 : decode cX4_lots 67 = .ok (.istore 8, 2) := by decide +kernel
theorem dX4_lots_69 : decode cX4_lots 69 = .ok (.iload 8, 2) := by decide +kernel
theorem dX4_lots_71 : decode cX4_lots 71 = .ok (.aload_n 0, 1) := by decide +kernel
theorem dX4_lots_72 : decode cX4_lots 72 = .ok (.getfield 67, 3) := by decide +kernel
theorem dX4_lots_75 : decode cX4_lots 75 = .ok (.if_icmp .ge 38, 3) := by decide +kernel
theorem dX4_lots_78 : decode cX4_lots 78 = .ok (.aload_n 0, 1) := by decide +kernel
theorem dX4_lots_79 : decode cX4_lots 79 = .ok (.getfield 22, 3) := by decide +kernel
theorem dX4_lots_82 : decode cX4_lots 82 = .ok (.iload 8, 2) := by decide +kernel
theorem dX4_lots_84 : decode cX4_lots 84 = .ok (.aload_n 0, 1) := by decide +kernel
theorem dX4_lots_85 : decode cX4_lots 85 = .ok (.bipush 21, 2) := by decide +kernel
theorem dX4_lots_87 : decode cX4_lots 87 = .ok (.invokevirtual 311, 3) := by decide +kernel
theorem dX4_lots_90 : decode cX4_lots 90 = .ok (.iastore, 1) := by decide +kernel
theorem dX4_lots_91 : decode cX4_lots 91 = .ok (.aload_n 0, 1) := by decide +kernel
theorem dX4_lots_92 : decode cX4_lots 92 = .ok (.getfield 25, 3) := by decide +kernel
theorem dX4_lots_95 : decode cX4_lots 95 = .ok (.iload 8, 2) := by decide +kernel
theorem dX4_lots_97 : decode cX4_lots 97 = .ok (.iconst 0, 1) := by decide +kernel
theorem dX4_lots_98 : decode cX4_lots 98 = .ok (.iastore, 1) := by decide +kernel
theorem dX4_lots_99 : decode cX4_lots 99 = .ok (.aload_n 0, 1) := by decide +kernel
theorem dX4_lots_100 : decode cX4_lots 100 = .ok (.getfield 28, 3) := by decide +kernel
theorem dX4_lots_103 : decode cX4_lots 103 = .ok (.iload 8, 2) := by decide +kernel
theorem dX4_lots_105 : decode cX4_lots 105 = .ok (.iconst 0, 1) := by decide +kernel
theorem dX4_lots_106 : decode cX4_lots 106 = .ok (.iastore, 1) := by decide +kernel
theorem dX4_lots_107 : decode cX4_lots 107 = .ok (.iinc 8 1, 3) := by decide +kernel
theorem dX4_lots_110 : decode cX4_lots 110 = .ok (.goto (-41), 3) := by decide +kernel
theorem dX4_lots_113 : decode cX4_lots 113 = .ok (.aload_n 0, 1) := by decide +kernel
theorem dX4_lots_114 : decode cX4_lots 114 = .ok (.bipush 8, 2) := by decide +kernel
theorem dX4_lots_116 : decode cX4_lots 116 = .ok (.invokevirtual 122, 3) := by decide +kernel
theorem dX4_lots_119 : decode cX4_lots 119 = .ok (.iload 6, 2) := by decide +kernel
theorem dX4_lots_121 : decode cX4_lots 121 = .ok (.iload_n 3, 1) := by decide +kernel
theorem dX4_lots_122 : decode cX4_lots 122 = .ok (.ifCond .ne 14, 3) := by decide +kernel
theorem dX4_lots_125 : decode cX4_lots 125 = .ok (.aload_n 0, 1) := by decide +kernel
theorem dX4_lots_126 : decode cX4_lots 126 = .ok (.aload_n 0, 1) := by decide +kernel
theorem dX4_lots_127 : decode cX4_lots 127 = .ok (.getfield 28, 3) := by decide +kernel
theorem dX4_lots_130 : decode cX4_lots 130 = .ok (.invokevirtual 212, 3) := by decide +kernel
theorem dX4_lots_133 : decode cX4_lots 133 = .ok (.goto 10, 3) := by decide +kernel
theorem dX4_lots_136 : decode cX4_lots 136 = .ok (.aload_n 0, 1) := by decide +kernel
theorem dX4_lots_137 : decode cX4_lots 137 = .ok (.getfield 163, 3) := by decide +kernel
theorem dX4_lots_140 : decode cX4_lots 140 = .ok (.iload 5, 2) := by decide +kernel
theorem dX4_lots_142 : decode cX4_lots 142 = .ok (.isub, 1) := by decide +kernel
theorem dX4_lots_143 : decode cX4_lots 143 = .ok (.iadd, 1) := by decide +kernel
theorem dX4_lots_144 : decode cX4_lots 144 = .ok (.istore 6, 2) := by decide +kernel
theorem dX4_lots_146 : decode cX4_lots 146 = .ok (.aload_n 0, 1) := by decide +kernel
theorem dX4_lots_147 : decode cX4_lots 147 = .ok (.invokevirtual 222, 3) := by decide +kernel
theorem dX4_lots_150 : decode cX4_lots 150 = .ok (.iinc 7 1, 3) := by decide +kernel
theorem dX4_lots_153 : decode cX4_lots 153 = .ok (.goto (-97), 3) := by decide +kernel
theorem dX4_lots_156 : decode cX4_lots 156 = .ok (.iload 6, 2) := by decide +kernel
theorem dX4_lots_158 : decode cX4_lots 158 = .ok (.ireturn, 1) := by decide +kernel
theorem dX4_count_0 : decode cX4_count 0 = .ok (.iload_n 1, 1) := by decide +kernel
theorem dX4_count_1 : decode cX4_count 1 = .ok (.bipush 11, 2) := by decide +kernel
theorem dX4_count_3 : decode cX4_count 3 = .ok (.bipush 16, 2) := by decide +kernel
theorem dX4_count_5 : decode cX4_count 5 = .ok (.invokestatic 88, 3) := by decide +kernel
theorem dX4_count_8 : decode cX4_count 8 = .ok (.ifCond .eq 13, 3) := by decide +kernel
theorem dX4_count_11 : decode cX4_count 11 = .ok (.aload_n 0, 1) := by decide +kernel
theorem dX4_count_12 : decode cX4_count 12 = .ok (.getfield 7, 3) := by decide +kernel
theorem dX4_count_15 : decode cX4_count 15 = .ok (.iload_n 1, 1) := by decide +kernel
theorem dX4_count_16 : decode cX4_count 16 = .ok (.bipush 10, 2) := by decide +kernel
theorem dX4_count_18 : decode cX4_count 18 = .ok (.isub, 1) := by decide +kernel
theorem dX4_count_19 : decode cX4_count 19 = .ok (.iaload, 1) := by decide +kernel
theorem dX4_count_20 : decode cX4_count 20 = .ok (.ireturn, 1) := by decide +kernel
theorem dX4_count_21 : decode cX4_count 21 = .ok (.iload_n 1, 1) := by decide +kernel
theorem dX4_count_22 : decode cX4_count 22 = .ok (.tableswitch 94 0 7 #[46, 51, 56, 61, 66, 75, 84, 89], 46) := by decide +kernel
theorem dX4_count_68 : decode cX4_count 68 = .ok (.aload_n 0, 1) := by decide +kernel
theorem dX4_count_69 : decode cX4_count 69 = .ok (.getfield 60, 3) := by decide +kernel
theorem dX4_count_72 : decode cX4_count 72 = .ok (.ireturn, 1) := by decide +kernel
theorem dX4_count_73 : decode cX4_count 73 = .ok (.aload_n 0, 1) := by decide +kernel
theorem dX4_count_74 : decode cX4_count 74 = .ok (.getfield 67, 3) := by decide +kernel
theorem dX4_count_77 : decode cX4_count 77 = .ok (.ireturn, 1) := by decide +kernel
theorem dX4_count_78 : decode cX4_count 78 = .ok (.aload_n 0, 1) := by decide +kernel
theorem dX4_count_79 : decode cX4_count 79 = .ok (.getfield 119, 3) := by decide +kernel
theorem dX4_count_82 : decode cX4_count 82 = .ok (.ireturn, 1) := by decide +kernel
theorem dX4_count_83 : decode cX4_count 83 = .ok (.aload_n 0, 1) := by decide +kernel
theorem dX4_count_84 : decode cX4_count 84 = .ok (.getfield 163, 3) := by decide +kernel
theorem dX4_count_87 : decode cX4_count 87 = .ok (.ireturn, 1) := by decide +kernel
theorem dX4_count_88 : decode cX4_count 88 = .ok (.aload_n 0, 1) := by decide +kernel
theorem dX4_count_89 : decode cX4_count 89 = .ok (.aload_n 0, 1) := by decide +kernel
theorem dX4_count_90 : decode cX4_count 90 = .ok (.getfield 28, 3) := by decide +kernel
theorem dX4_count_93 : decode cX4_count 93 = .ok (.invokevirtual 212, 3) := by decide +kernel
theorem dX4_count_96 : decode cX4_count 96 = .ok (.ireturn, 1) := by decide +kernel
theorem dX4_count_97 : decode cX4_count 97 = .ok (.aload_n 0, 1) := by decide +kernel
theorem dX4_count_98 : decode cX4_count 98 = .ok (.aload_n 0, 1) := by decide +kernel
theorem dX4_count_99 : decode cX4_count 99 = .ok (.getfield 22, 3) := by decide +kernel
theorem dX4_count_102 : decode cX4_count 102 = .ok (.invokevirtual 212, 3) := by decide +kernel
theorem dX4_count_105 : decode cX4_count 105 = .ok (.ireturn, 1) := by decide +kernel
theorem dX4_count_106 : decode cX4_count 106 = .ok (.aload_n 0, 1) := by decide +kernel
theorem dX4_count_107 : decode cX4_count 107 = .ok (.getfield 295, 3) := by decide +kernel
theorem dX4_count_110 : decode cX4_count 110 = .ok (.ireturn, 1) := by decide +kernel
theorem dX4_count_111 : decode cX4_count 111 = .ok (.aload_n 0, 1) := by decide +kernel
theorem dX4_count_112 : decode cX4_count 112 = .ok (.getfield 74, 3) := by decide +kernel
theorem dX4_count_115 : decode cX4_count 115 = .ok (.ireturn, 1) := by decide +kernel
theorem dX4_count_116 : decode cX4_count 116 = .ok (.bipush (-9), 2) := by decide +kernel
theorem dX4_count_118 : decode cX4_count 118 = .ok (.ireturn, 1) := by decide +kernel
