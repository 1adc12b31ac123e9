theorem dX3_init_0 : decode cX3_init 0 = .ok (.aload_n 0, 1) := by decide +kernel
theorem dX3_init_1 : decode cX3_init 1 = .ok (.invokespecial 1, 3) := by decide +kernel
theorem dX3_init_4 : decode cX3_init 4 = .ok (.aload_n 0, 1) := by decide +kernel
theorem dX3_init_5 : decode cX3_init 5 = .ok (.new 7, 3) := by decide +kernel
theorem dX3_init_8 : decode cX3_init 8 = .ok (.dup, 1) := by decide +kernel
theorem dX3_init_9 : decode cX3_init 9 = .ok (.invokespecial 9, 3) := by decide +kernel
theorem dX3_init_12 : decode cX3_init 12 = .ok (.putfield 10, 3) := by decide +kernel
theorem dX3_init_15 : decode cX3_init 15 = .ok (.aload_n 0, 1) := by decide +kernel
theorem dX3_init_16 : decode cX3_init 16 = .ok (.new 7, 3) := by decide +kernel
theorem dX3_init_19 : decode cX3_init 19 = .ok (.dup, 1) := by decide +kernel
theorem dX3_init_20 : decode cX3_init 20 = .ok (.invokespecial 9, 3) := by decide +kernel
theorem dX3_init_23 : decode cX3_init 23 = .ok (.putfield 16, 3) := by decide +kernel
theorem dX3_init_26 : decode cX3_init 26 = .ok (.aload_n 0, 1) := by decide +kernel
theorem dX3_init_27 : decode cX3_init 27 = .ok (.new 7, 3) := by decide +kernel
theorem dX3_init_30 : decode cX3_init 30 = .ok (.dup, 1) := by decide +kernel
theorem dX3_init_31 : decode cX3_init 31 = .ok (.invokespecial 9, 3) := by decide +kernel
theorem dX3_init_34 : decode cX3_init 34 = .ok (.putfield 19, 3) := by decide +kernel
theorem dX3_init_37 : decode cX3_init 37 = .ok (.aload_n 0, 1) := by decide +kernel
theorem dX3_init_38 : decode cX3_init 38 = .ok (.iconst 0, 1) := by decide +kernel
theorem dX3_init_39 : decode cX3_init 39 = .ok (.putfield 22, 3) := by decide +kernel
theorem dX3_init_42 : decode cX3_init 42 = .ok (.aload_n 0, 1) := by decide +kernel
theorem dX3_init_43 : decode cX3_init 43 = .ok (.new 26, 3) := by decide +kernel
theorem dX3_init_46 : decode cX3_init 46 = .ok (.dup, 1) := by decide +kernel
theorem dX3_init_47 : decode cX3_init 47 = .ok (.invokespecial 28, 3) := by decide +kernel
theorem dX3_init_50 : decode cX3_init 50 = .ok (.putfield 29, 3) := by decide +kernel
theorem dX3_init_53 : decode cX3_init 53 = .ok (.aload_n 0, 1) := by decide +kernel
theorem dX3_init_54 : decode cX3_init 54 = .ok (.new 33, 3) := by decide +kernel
theorem dX3_init_57 : decode cX3_init 57 = .ok (.dup, 1) := by decide +kernel
theorem dX3_init_58 : decode cX3_init 58 = .ok (.invokespecial 35, 3) := by decide +kernel
theorem dX3_init_61 : decode cX3_init 61 = .ok (.putfield 36, 3) := by decide +kernel
theorem dX3_init_64 : decode cX3_init 64 = .ok (.aload_n 0, 1) := by decide +kernel
theorem dX3_init_65 : decode cX3_init 65 = .ok (.bipush 16, 2) := by decide +kernel
theorem dX3_init_67 : decode cX3_init 67 = .ok (.newarray .int, 2) := by decide +kernel
theorem dX3_init_69 : decode cX3_init 69 = .ok (.putfield 40, 3) := by decide +kernel
theorem dX3_init_72 : decode cX3_init 72 = .ok (.aload_n 0, 1) := by decide +kernel
theorem dX3_init_73 : decode cX3_init 73 = .ok (.iconst 0, 1) := by decide +kernel
theorem dX3_init_74 : decode cX3_init 74 = .ok (.putfield 44, 3) := by decide +kernel
theorem dX3_init_77 : decode cX3_init 77 = .ok (.aload_n 0, 1) := by decide +kernel
theorem dX3_init_78 : decode cX3_init 78 = .ok (.bipush 7, 2) := by decide +kernel
theorem dX3_init_80 : decode cX3_init 80 = .ok (.newarray .int, 2) := by decide +kernel
theorem dX3_init_82 : decode cX3_init 82 = .ok (.putfield 48, 3) := by decide +kernel
theorem dX3_init_85 : decode cX3_init 85 = .ok (.aload_n 0, 1) := by decide +kernel
theorem dX3_init_86 : decode cX3_init 86 = .ok (.bipush 69, 2) := by decide +kernel
theorem dX3_init_88 : decode cX3_init 88 = .ok (.newarray .int, 2) := by decide +kernel
theorem dX3_init_90 : decode cX3_init 90 = .ok (.putfield 51, 3) := by decide +kernel
theorem dX3_init_93 : decode cX3_init 93 = .ok (.aload_n 0, 1) := by decide +kernel
theorem dX3_init_94 : decode cX3_init 94 = .ok (.iconst 4, 1) := by decide +kernel
theorem dX3_init_95 : decode cX3_init 95 = .ok (.newarray .int, 2) := by decide +kernel
theorem dX3_init_97 : decode cX3_init 97 = .ok (.putfield 54, 3) := by decide +kernel
theorem dX3_init_100 : decode cX3_init 100 = .ok (.aload_n 0, 1) := by decide +kernel
theorem dX3_init_101 : decode cX3_init 101 = .ok (.iconst 4, 1) := by decide +kernel
theorem dX3_init_102 : decode cX3_init 102 = .ok (.newarray .int, 2) := by decide +kernel
theorem dX3_init_104 : decode cX3_init 104 = .ok (.putfield 57, 3) := by decide +kernel
theorem dX3_init_107 : decode cX3_init 107 = .ok (.return_, 1) := by decide +kernel
theorem dX3_letter_0 : decode cX3_letter 0 = .ok (.iload_n 1, 1) := by decide +kernel
theorem dX3_letter_1 : decode cX3_letter 1 = .ok (.iconst 0, 1) := by decide +kernel
theorem dX3_letter_2 : decode cX3_letter 2 = .ok (.sipush 255, 3) := by decide +kernel
theorem dX3_letter_5 : decode cX3_letter 5 = .ok (.invokestatic 60, 3) := by decide +kernel
theorem dX3_letter_8 : decode cX3_letter 8 = .ok (.istore_n 2, 1) := by decide +kernel
theorem dX3_letter_9 : decode cX3_letter 9 = .ok (.iload_n 2, 1) := by decide +kernel
theorem dX3_letter_10 : decode cX3_letter 10 = .ok (.ifCond .ne 18, 3) := by decide +kernel
theorem dX3_letter_13 : decode cX3_letter 13 = .ok (.aload_n 0, 1) := by decide +kernel
theorem dX3_letter_14 : decode cX3_letter 14 = .ok (.getfield 29, 3) := by decide +kernel
theorem dX3_letter_17 : decode cX3_letter 17 = .ok (.getfield 64, 3) := by decide +kernel
theorem dX3_letter_20 : decode cX3_letter 20 = .ok (.bipush 96, 2) := by decide +kernel
theorem dX3_letter_22 : decode cX3_letter 22 = .ok (.if_icmp .lt 6, 3) := by decide +kernel
theorem dX3_letter_25 : decode cX3_letter 25 = .ok (.bipush (-6), 2) := by decide +kernel
theorem dX3_letter_27 : decode cX3_letter 27 = .ok (.istore_n 2, 1) := by decide +kernel
theorem dX3_letter_28 : decode cX3_letter 28 = .ok (.iload_n 2, 1) := by decide +kernel
theorem dX3_letter_29 : decode cX3_letter 29 = .ok (.ifCond .eq 9, 3) := by decide +kernel
theorem dX3_letter_32 : decode cX3_letter 32 = .ok (.aload_n 0, 1) := by decide +kernel
theorem dX3_letter_33 : decode cX3_letter 33 = .ok (.iload_n 2, 1) := by decide +kernel
theorem dX3_letter_34 : decode cX3_letter 34 = .ok (.invokevirtual 67, 3) := by decide +kernel
theorem dX3_letter_37 : decode cX3_letter 37 = .ok (.ireturn, 1) := by decide +kernel
theorem dX3_letter_38 : decode cX3_letter 38 = .ok (.aload_n 0, 1) := by decide +kernel
theorem dX3_letter_39 : decode cX3_letter 39 = .ok (.getfield 29, 3) := by decide +kernel
theorem dX3_letter_42 : decode cX3_letter 42 = .ok (.iload_n 1, 1) := by decide +kernel
theorem dX3_letter_43 : decode cX3_letter 43 = .ok (.invokevirtual 71, 3) := by decide +kernel
theorem dX3_letter_46 : decode cX3_letter 46 = .ok (.ireturn, 1) := by decide +kernel
theorem dX3_city_0 : decode cX3_city 0 = .ok (.aload_n 0, 1) := by decide +kernel
theorem dX3_city_1 : decode cX3_city 1 = .ok (.getfield 29, 3) := by decide +kernel
theorem dX3_city_4 : decode cX3_city 4 = .ok (.invokevirtual 74, 3) := by decide +kernel
theorem dX3_city_7 : decode cX3_city 7 = .ok (.istore_n 1, 1) := by decide +kernel
theorem dX3_city_8 : decode cX3_city 8 = .ok (.iload_n 1, 1) := by decide +kernel
theorem dX3_city_9 : decode cX3_city 9 = .ok (.bipush (-9), 2) := by decide +kernel
theorem dX3_city_11 : decode cX3_city 11 = .ok (.if_icmp .ne 7, 3) := by decide +kernel
theorem dX3_city_14 : decode cX3_city 14 = .ok (.iconst 0, 1) := by decide +kernel
theorem dX3_city_15 : decode cX3_city 15 = .ok (.goto 8, 3) := by decide +kernel
theorem dX3_city_18 : decode cX3_city 18 = .ok (.sipush (-1000), 3) := by decide +kernel
theorem dX3_city_21 : decode cX3_city 21 = .ok (.iload_n 1, 1) := by decide +kernel
theorem dX3_city_22 : decode cX3_city 22 = .ok (.isub, 1) := by decide +kernel
theorem dX3_city_23 : decode cX3_city 23 = .ok (.istore_n 2, 1) := by decide +kernel
theorem dX3_city_24 : decode cX3_city 24 = .ok (.aload_n 0, 1) := by decide +kernel
theorem dX3_city_25 : decode cX3_city 25 = .ok (.invokevirtual 78, 3) := by decide +kernel
theorem dX3_city_28 : decode cX3_city 28 = .ok (.iconst 0, 1) := by decide +kernel
theorem dX3_city_29 : decode cX3_city 29 = .ok (.istore_n 3, 1) := by decide +kernel
theorem dX3_city_30 : decode cX3_city 30 = .ok (.iload_n 2, 1) := by decide +kernel
theorem dX3_city_31 : decode cX3_city 31 = .ok (.ifCond .lt 59, 3) := by decide +kernel
theorem dX3_city_34 : decode cX3_city 34 = .ok (.iload_n 3, 1) := by decide +kernel
theorem dX3_city_35 : decode cX3_city 35 = .ok (.aload_n 0, 1) := by decide +kernel
theorem dX3_city_36 : decode cX3_city 36 = .ok (.getfield 29, 3) := by decide +kernel
theorem dX3_city_39 : decode cX3_city 39 = .ok (.getfield 64, 3) := by decide +kernel
theorem dX3_city_42 : decode cX3_city 42 = .ok (.if_icmp .ge 48, 3) := by decide +kernel
theorem dX3_city_45 : decode cX3_city 45 = .ok (.aload_n 0, 1) := by decide +kernel
theorem dX3_city_46 : decode cX3_city 46 = .ok (.getfield 29, 3) := by decide +kernel
theorem dX3_city_49 : decode cX3_city 49 = .ok (.aload_n 0, 1) := by decide +kernel
theorem dX3_city_50 : decode cX3_city 50 = .ok (.getfield 16, 3) := by decide +kernel
theorem dX3_city_53 : decode cX3_city 53 = .ok (.iload_n 3, 1) := by decide +kernel
theorem dX3_city_54 : decode cX3_city 54 = .ok (.invokevirtual 81, 3) := by decide +kernel
theorem dX3_city_57 : decode cX3_city 57 = .ok (.ifCond .eq 9, 3) := by decide +kernel
theorem dX3_city_60 : decode cX3_city 60 = .ok (.iload_n 2, 1) := by decide +kernel
theorem dX3_city_61 : decode cX3_city 61 = .ok (.iconst 1, 1) := by decide +kernel
theorem dX3_city_62 : decode cX3_city 62 = .ok (.iadd, 1) := by decide +kernel
theorem dX3_city_63 : decode cX3_city 63 = .ok (.goto 8, 3) := by decide +kernel
theorem dX3_city_66 : decode cX3_city 66 = .ok (.sipush (-2000), 3) := by decide +kernel
theorem dX3_city_69 : decode cX3_city 69 = .ok (.iload_n 3, 1) := by decide +kernel
theorem dX3_city_70 : decode cX3_city 70 = .ok (.isub, 1) := by decide +kernel
theorem dX3_city_71 : decode cX3_city 71 = .ok (.istore_n 2, 1) := by decide +kernel
theorem dX3_city_72 : decode cX3_city 72 = .ok (.iload_n 3, 1) := by decide +kernel
theorem dX3_city_73 : decode cX3_city 73 = .ok (.aload_n 0, 1) := by decide +kernel
theorem dX3_city_74 : decode cX3_city 74 = .ok (.getfield 29, 3) := by decide +kernel
theorem dX3_city_77 : decode cX3_city 77 = .ok (.iload_n 3, 1) := by decide +kernel
theorem dX3_city_78 : decode cX3_city 78 = .ok (.invokevirtual 85, 3) := by decide +kernel
theorem dX3_city_81 : decode cX3_city 81 = .ok (.iconst 1, 1) := by decide +kernel
theorem dX3_city_82 : decode cX3_city 82 = .ok (.invokestatic 88, 3) := by decide +kernel
theorem dX3_city_85 : decode cX3_city 85 = .ok (.iadd, 1) := by decide +kernel
theorem dX3_city_86 : decode cX3_city 86 = .ok (.istore_n 3, 1) := by decide +kernel
theorem dX3_city_87 : decode cX3_city 87 = .ok (.goto (-57), 3) := by decide +kernel
theorem dX3_city_90 : decode cX3_city 90 = .ok (.iload_n 2, 1) := by decide +kernel
theorem dX3_city_91 : decode cX3_city 91 = .ok (.ifCond .lt 14, 3) := by decide +kernel
theorem dX3_city_94 : decode cX3_city 94 = .ok (.aload_n 0, 1) := by decide +kernel
theorem dX3_city_95 : decode cX3_city 95 = .ok (.getfield 10, 3) := by decide +kernel
theorem dX3_city_98 : decode cX3_city 98 = .ok (.aload_n 0, 1) := by decide +kernel
theorem dX3_city_99 : decode cX3_city 99 = .ok (.getfield 16, 3) := by decide +kernel
theorem dX3_city_102 : decode cX3_city 102 = .ok (.invokevirtual 94, 3) := by decide +kernel
theorem dX3_city_105 : decode cX3_city 105 = .ok (.aload_n 0, 1) := by decide +kernel
theorem dX3_city_106 : decode cX3_city 106 = .ok (.getfield 29, 3) := by decide +kernel
theorem dX3_city_109 : decode cX3_city 109 = .ok (.iconst 0, 1) := by decide +kernel
theorem dX3_city_110 : decode cX3_city 110 = .ok (.putfield 64, 3) := by decide +kernel
theorem dX3_city_113 : decode cX3_city 113 = .ok (.iload_n 2, 1) := by decide +kernel
theorem dX3_city_114 : decode cX3_city 114 = .ok (.ireturn, 1) := by decide +kernel
theorem dX3_suit_0 : decode cX3_suit 0 = .ok (.aload_n 0, 1) := by decide +kernel
theorem dX3_suit_1 : decode cX3_suit 1 = .ok (.iload_n 1, 1) := by decide +kernel
theorem dX3_suit_2 : decode cX3_suit 2 = .ok (.invokevirtual 98, 3) := by decide +kernel
theorem dX3_suit_5 : decode cX3_suit 5 = .ok (.iload_n 2, 1) := by decide +kernel
theorem dX3_suit_6 : decode cX3_suit 6 = .ok (.bipush 7, 2) := by decide +kernel
theorem dX3_suit_8 : decode cX3_suit 8 = .ok (.invokestatic 101, 3) := by decide +kernel
theorem dX3_suit_11 : decode cX3_suit 11 = .ok (.iconst 0, 1) := by decide +kernel
theorem dX3_suit_12 : decode cX3_suit 12 = .ok (.invokestatic 104, 3) := by decide +kernel
theorem dX3_suit_15 : decode cX3_suit 15 = .ok (.istore_n 3, 1) := by decide +kernel
theorem dX3_suit_16 : decode cX3_suit 16 = .ok (.iload_n 3, 1) := by decide +kernel
theorem dX3_suit_17 : decode cX3_suit 17 = .ok (.ifCond .eq 9, 3) := by decide +kernel
theorem dX3_suit_20 : decode cX3_suit 20 = .ok (.aload_n 0, 1) := by decide +kernel
theorem dX3_suit_21 : decode cX3_suit 21 = .ok (.iload_n 3, 1) := by decide +kernel
theorem dX3_suit_22 : decode cX3_suit 22 = .ok (.invokevirtual 67, 3) := by decide +kernel
theorem dX3_suit_25 : decode cX3_suit 25 = .ok (.ireturn, 1) := by decide +kernel
theorem dX3_suit_26 : decode cX3_suit 26 = .ok (.iload_n 2, 1) := by decide +kernel
theorem dX3_suit_27 : decode cX3_suit 27 = .ok (.tableswitch 108 0 5 #[37, 47, 57, 67, 76, 94], 37) := by decide +kernel
theorem dX3_suit_64 : decode cX3_suit 64 = .ok (.aload_n 0, 1) := by decide +kernel
theorem dX3_suit_65 : decode cX3_suit 65 = .ok (.getfield 10, 3) := by decide +kernel
theorem dX3_suit_68 : decode cX3_suit 68 = .ok (.getfield 107, 3) := by decide +kernel
theorem dX3_suit_71 : decode cX3_suit 71 = .ok (.iload_n 1, 1) := by decide +kernel
theorem dX3_suit_72 : decode cX3_suit 72 = .ok (.iaload, 1) := by decide +kernel
theorem dX3_suit_73 : decode cX3_suit 73 = .ok (.ireturn, 1) := by decide +kernel
theorem dX3_suit_74 : decode cX3_suit 74 = .ok (.aload_n 0, 1) := by decide +kernel
theorem dX3_suit_75 : decode cX3_suit 75 = .ok (.getfield 10, 3) := by decide +kernel
theorem dX3_suit_78 : decode cX3_suit 78 = .ok (.getfield 110, 3) := by decide +kernel
theorem dX3_suit_81 : decode cX3_suit 81 = .ok (.iload_n 1, 1) := by decide +kernel
theorem dX3_suit_82 : decode cX3_suit 82 = .ok (.iaload, 1) := by decide +kernel
theorem dX3_suit_83 : decode cX3_suit 83 = .ok (.ireturn, 1) := by decide +kernel
theorem dX3_suit_84 : decode cX3_suit 84 = .ok (.aload_n 0, 1) := by decide +kernel
theorem dX3_suit_85 : decode cX3_suit 85 = .ok (.getfield 10, 3) := by decide +kernel
theorem dX3_suit_88 : decode cX3_suit 88 = .ok (.getfield 113, 3) := by decide +kernel
theorem dX3_suit_91 : decode cX3_suit 91 = .ok (.iload_n 1, 1) := by decide +kernel
theorem dX3_suit_92 : decode cX3_suit 92 = .ok (.iaload, 1) := by decide +kernel
theorem dX3_suit_93 : decode cX3_suit 93 = .ok (.ireturn, 1) := by decide +kernel
theorem dX3_suit_94 : decode cX3_suit 94 = .ok (.aload_n 0, 1) := by decide +kernel
theorem dX3_suit_95 : decode cX3_suit 95 = .ok (.getfield 10, 3) := by decide +kernel
theorem dX3_suit_98 : decode cX3_suit 98 = .ok (.iload_n 1, 1) := by decide +kernel
theorem dX3_suit_99 : decode cX3_suit 99 = .ok (.invokevirtual 116, 3) := by decide +kernel
theorem dX3_suit_102 : decode cX3_suit 102 = .ok (.ireturn, 1) := by decide +kernel
theorem dX3_suit_103 : decode cX3_suit 103 = .ok (.aload_n 0, 1) := by decide +kernel
theorem dX3_suit_104 : decode cX3_suit 104 = .ok (.getfield 10, 3) := by decide +kernel
theorem dX3_suit_107 : decode cX3_suit 107 = .ok (.iload_n 1, 1) := by decide +kernel
theorem dX3_suit_108 : decode cX3_suit 108 = .ok (.aload_n 0, 1) := by decide +kernel
theorem dX3_suit_109 : decode cX3_suit 109 = .ok (.getfield 10, 3) := by decide +kernel
theorem dX3_suit_112 : decode cX3_suit 112 = .ok (.getfield 119, 3) := by decide +kernel
theorem dX3_suit_115 : decode cX3_suit 115 = .ok (.iconst 1, 1) := by decide +kernel
theorem dX3_suit_116 : decode cX3_suit 116 = .ok (.iadd, 1) := by decide +kernel
theorem dX3_suit_117 : decode cX3_suit 117 = .ok (.invokevirtual 122, 3) := by decide +kernel
theorem dX3_suit_120 : decode cX3_suit 120 = .ok (.ireturn, 1) := by decide +kernel
theorem dX3_suit_121 : decode cX3_suit 121 = .ok (.getstatic 125, 3) := by decide +kernel
theorem dX3_suit_124 : decode cX3_suit 124 = .ok (.aload_n 0, 1) := by decide +kernel
theorem dX3_suit_125 : decode cX3_suit 125 = .ok (.getfield 10, 3) := by decide +kernel
theorem dX3_suit_128 : decode cX3_suit 128 = .ok (.getfield 107, 3) := by decide +kernel
theorem dX3_suit_131 : decode cX3_suit 131 = .ok (.iload_n 1, 1) := by decide +kernel
theorem dX3_suit_132 : decode cX3_suit 132 = .ok (.iaload, 1) := by decide +kernel
theorem dX3_suit_133 : decode cX3_suit 133 = .ok (.iaload, 1) := by decide +kernel
theorem dX3_suit_134 : decode cX3_suit 134 = .ok (.ireturn, 1) := by decide +kernel
theorem dX3_suit_135 : decode cX3_suit 135 = .ok (.aload_n 0, 1) := by decide +kernel
theorem dX3_suit_136 : decode cX3_suit 136 = .ok (.getfield 10, 3) := by decide +kernel
theorem dX3_suit_139 : decode cX3_suit 139 = .ok (.iload_n 1, 1) := by decide +kernel
theorem dX3_suit_140 : decode cX3_suit 140 = .ok (.invokevirtual 128, 3) := by decide +kernel
theorem dX3_suit_143 : decode cX3_suit 143 = .ok (.ireturn, 1) := by decide +kernel
theorem dX3_caller_0 : decode cX3_caller 0 = .ok (.aload_n 0, 1) := by decide +kernel
theorem dX3_caller_1 : decode cX3_caller 1 = .ok (.iload_n 1, 1) := by decide +kernel
theorem dX3_caller_2 : decode cX3_caller 2 = .ok (.invokevirtual 131, 3) := by decide +kernel
theorem dX3_caller_5 : decode cX3_caller 5 = .ok (.iload_n 2, 1) := by decide +kernel
theorem dX3_caller_6 : decode cX3_caller 6 = .ok (.bipush 6, 2) := by decide +kernel
theorem dX3_caller_8 : decode cX3_caller 8 = .ok (.invokestatic 101, 3) := by decide +kernel
theorem dX3_caller_11 : decode cX3_caller 11 = .ok (.iconst 0, 1) := by decide +kernel
theorem dX3_caller_12 : decode cX3_caller 12 = .ok (.invokestatic 104, 3) := by decide +kernel
theorem dX3_caller_15 : decode cX3_caller 15 = .ok (.istore_n 3, 1) := by decide +kernel
theorem dX3_caller_16 : decode cX3_caller 16 = .ok (.iload_n 3, 1) := by decide +kernel
theorem dX3_caller_17 : decode cX3_caller 17 = .ok (.ifCond .eq 9, 3) := by decide +kernel
theorem dX3_caller_20 : decode cX3_caller 20 = .ok (.aload_n 0, 1) := by decide +kernel
theorem dX3_caller_21 : decode cX3_caller 21 = .ok (.iload_n 3, 1) := by decide +kernel
theorem dX3_caller_22 : decode cX3_caller 22 = .ok (.invokevirtual 67, 3) := by decide +kernel
theorem dX3_caller_25 : decode cX3_caller 25 = .ok (.ireturn, 1) := by decide +kernel
theorem dX3_caller_26 : decode cX3_caller 26 = .ok (.iload_n 2, 1) := by decide +kernel
theorem dX3_caller_27 : decode cX3_caller 27 = .ok (.tableswitch 90 0 4 #[33, 43, 53, 63, 73], 33) := by decide +kernel
theorem dX3_caller_60 : decode cX3_caller 60 = .ok (.aload_n 0, 1) := by decide +kernel
theorem dX3_caller_61 : decode cX3_caller 61 = .ok (.getfield 10, 3) := by decide +kernel
theorem dX3_caller_64 : decode cX3_caller 64 = .ok (.getfield 134, 3) := by decide +kernel
theorem dX3_caller_67 : decode cX3_caller 67 = .ok (.iload_n 1, 1) := by decide +kernel
theorem dX3_caller_68 : decode cX3_caller 68 = .ok (.iaload, 1) := by decide +kernel
theorem dX3_caller_69 : decode cX3_caller 69 = .ok (.ireturn, 1) := by decide +kernel
theorem dX3_caller_70 : decode cX3_caller 70 = .ok (.aload_n 0, 1) := by decide +kernel
theorem dX3_caller_71 : decode cX3_caller 71 = .ok (.getfield 10, 3) := by decide +kernel
theorem dX3_caller_74 : decode cX3_caller 74 = .ok (.getfield 137, 3) := by decide +kernel
theorem dX3_caller_77 : decode cX3_caller 77 = .ok (.iload_n 1, 1) := by decide +kernel
theorem dX3_caller_78 : decode cX3_caller 78 = .ok (.iaload, 1) := by decide +kernel
theorem dX3_caller_79 : decode cX3_caller 79 = .ok (.ireturn, 1) := by decide +kernel
theorem dX3_caller_80 : decode cX3_caller 80 = .ok (.aload_n 0, 1) := by decide +kernel
theorem dX3_caller_81 : decode cX3_caller 81 = .ok (.getfield 10, 3) := by decide +kernel
theorem dX3_caller_84 : decode cX3_caller 84 = .ok (.getfield 140, 3) := by decide +kernel
theorem dX3_caller_87 : decode cX3_caller 87 = .ok (.iload_n 1, 1) := by decide +kernel
theorem dX3_caller_88 : decode cX3_caller 88 = .ok (.iaload, 1) := by decide +kernel
theorem dX3_caller_89 : decode cX3_caller 89 = .ok (.ireturn, 1) := by decide +kernel
theorem dX3_caller_90 : decode cX3_caller 90 = .ok (.aload_n 0, 1) := by decide +kernel
theorem dX3_caller_91 : decode cX3_caller 91 = .ok (.getfield 10, 3) := by decide +kernel
theorem dX3_caller_94 : decode cX3_caller 94 = .ok (.getfield 143, 3) := by decide +kernel
theorem dX3_caller_97 : decode cX3_caller 97 = .ok (.iload_n 1, 1) := by decide +kernel
theorem dX3_caller_98 : decode cX3_caller 98 = .ok (.iaload, 1) := by decide +kernel
theorem dX3_caller_99 : decode cX3_caller 99 = .ok (.ireturn, 1) := by decide +kernel
theorem dX3_caller_100 : decode cX3_caller 100 = .ok (.aload_n 0, 1) := by decide +kernel
theorem dX3_caller_101 : decode cX3_caller 101 = .ok (.getfield 10, 3) := by decide +kernel
theorem dX3_caller_104 : decode cX3_caller 104 = .ok (.iload_n 1, 1) := by decide +kernel
theorem dX3_caller_105 : decode cX3_caller 105 = .ok (.invokevirtual 146, 3) := by decide +kernel
theorem dX3_caller_108 : decode cX3_caller 108 = .ok (.ifCond .eq 7, 3) := by decide +kernel
theorem dX3_caller_111 : decode cX3_caller 111 = .ok (.iconst 1, 1) := by decide +kernel
theorem dX3_caller_112 : decode cX3_caller 112 = .ok (.goto 4, 3) := by decide +kernel
theorem dX3_caller_115 : decode cX3_caller 115 = .ok (.iconst 0, 1) := by decide +kernel
theorem dX3_caller_116 : decode cX3_caller 116 = .ok (.ireturn, 1) := by decide +kernel
theorem dX3_caller_117 : decode cX3_caller 117 = .ok (.aload_n 0, 1) := by decide +kernel
theorem dX3_caller_118 : decode cX3_caller 118 = .ok (.getfield 10, 3) := by decide +kernel
theorem dX3_caller_121 : decode cX3_caller 121 = .ok (.iload_n 1, 1) := by decide +kernel
theorem dX3_caller_122 : decode cX3_caller 122 = .ok (.invokevirtual 150, 3) := by decide +kernel
theorem dX3_caller_125 : decode cX3_caller 125 = .ok (.ireturn, 1) := by decide +kernel
theorem dX3_courage_0 : decode cX3_courage 0 = .ok (.aload_n 0, 1) := by decide +kernel
theorem dX3_courage_1 : decode cX3_courage 1 = .ok (.iload_n 1, 1) := by decide +kernel
theorem dX3_courage_2 : decode cX3_courage 2 = .ok (.invokevirtual 131, 3) := by decide +kernel
theorem dX3_courage_5 : decode cX3_courage 5 = .ok (.istore_n 2, 1) := by decide +kernel
theorem dX3_courage_6 : decode cX3_courage 6 = .ok (.iload_n 2, 1) := by decide +kernel
theorem dX3_courage_7 : decode cX3_courage 7 = .ok (.ifCond .eq 12, 3) := by decide +kernel
theorem dX3_courage_10 : decode cX3_courage 10 = .ok (.ldc 153, 2) := by decide +kernel
theorem dX3_courage_12 : decode cX3_courage 12 = .ok (.aload_n 0, 1) := by decide +kernel
theorem dX3_courage_13 : decode cX3_courage 13 = .ok (.iload_n 2, 1) := by decide +kernel
theorem dX3_courage_14 : decode cX3_courage 14 = .ok (.invokevirtual 67, 3) := by decide +kernel
theorem dX3_courage_17 : decode cX3_courage 17 = .ok (.isub, 1) := by decide +kernel
theorem dX3_courage_18 : decode cX3_courage 18 = .ok (.ireturn, 1) := by decide +kernel
theorem dX3_courage_19 : decode cX3_courage 19 = .ok (.aload_n 0, 1) := by decide +kernel
theorem dX3_courage_20 : decode cX3_courage 20 = .ok (.getfield 10, 3) := by decide +kernel
theorem dX3_courage_23 : decode cX3_courage 23 = .ok (.iload_n 1, 1) := by decide +kernel
theorem dX3_courage_24 : decode cX3_courage 24 = .ok (.invokevirtual 154, 3) := by decide +kernel
theorem dX3_courage_27 : decode cX3_courage 27 = .ok (.ireturn, 1) := by decide +kernel
theorem dX3_wears_0 : decode cX3_wears 0 = .ok (.aload_n 0, 1) := by decide +kernel
theorem dX3_wears_1 : decode cX3_wears 1 = .ok (.iload_n 1, 1) := by decide +kernel
theorem dX3_wears_2 : decode cX3_wears 2 = .ok (.invokevirtual 131, 3) := by decide +kernel
theorem dX3_wears_5 : decode cX3_wears 5 = .ok (.aload_n 0, 1) := by decide +kernel
theorem dX3_wears_6 : decode cX3_wears 6 = .ok (.iload_n 2, 1) := by decide +kernel
theorem dX3_wears_7 : decode cX3_wears 7 = .ok (.invokevirtual 98, 3) := by decide +kernel
theorem dX3_wears_10 : decode cX3_wears 10 = .ok (.iconst 0, 1) := by decide +kernel
theorem dX3_wears_11 : decode cX3_wears 11 = .ok (.invokestatic 104, 3) := by decide +kernel
theorem dX3_wears_14 : decode cX3_wears 14 = .ok (.istore_n 3, 1) := by decide +kernel
theorem dX3_wears_15 : decode cX3_wears 15 = .ok (.iload_n 3, 1) := by decide +kernel
theorem dX3_wears_16 : decode cX3_wears 16 = .ok (.ifCond .eq 9, 3) := by decide +kernel
theorem dX3_wears_19 : decode cX3_wears 19 = .ok (.aload_n 0, 1) := by decide +kernel
theorem dX3_wears_20 : decode cX3_wears 20 = .ok (.iload_n 3, 1) := by decide +kernel
theorem dX3_wears_21 : decode cX3_wears 21 = .ok (.invokevirtual 67, 3) := by decide +kernel
theorem dX3_wears_24 : decode cX3_wears 24 = .ok (.ireturn, 1) := by decide +kernel
theorem dX3_wears_25 : decode cX3_wears 25 = .ok (.aload_n 0, 1) := by decide +kernel
theorem dX3_wears_26 : decode cX3_wears 26 = .ok (.getfield 10, 3) := by decide +kernel
theorem dX3_wears_29 : decode cX3_wears 29 = .ok (.getfield 143, 3) := by decide +kernel
theorem dX3_wears_32 : decode cX3_wears 32 = .ok (.iload_n 1, 1) := by decide +kernel
theorem dX3_wears_33 : decode cX3_wears 33 = .ok (.iaload, 1) := by decide +kernel
theorem dX3_wears_34 : decode cX3_wears 34 = .ok (.istore 4, 2) := by decide +kernel
theorem dX3_wears_36 : decode cX3_wears 36 = .ok (.aload_n 0, 1) := by decide +kernel
theorem dX3_wears_37 : decode cX3_wears 37 = .ok (.getfield 10, 3) := by decide +kernel
theorem dX3_wears_40 : decode cX3_wears 40 = .ok (.iload_n 1, 1) := by decide +kernel
theorem dX3_wears_41 : decode cX3_wears 41 = .ok (.iload_n 2, 1) := by decide +kernel
theorem dX3_wears_42 : decode cX3_wears 42 = .ok (.invokevirtual 157, 3) := by decide +kernel
theorem dX3_wears_45 : decode cX3_wears 45 = .ok (.iload 4, 2) := by decide +kernel
theorem dX3_wears_47 : decode cX3_wears 47 = .ok (.ireturn, 1) := by decide +kernel
theorem dX3_takesOff_0 : decode cX3_takesOff 0 = .ok (.aload_n 0, 1) := by decide +kernel
theorem dX3_takesOff_1 : decode cX3_takesOff 1 = .ok (.iload_n 1, 1) := by decide +kernel
theorem dX3_takesOff_2 : decode cX3_takesOff 2 = .ok (.invokevirtual 131, 3) := by decide +kernel
theorem dX3_takesOff_5 : decode cX3_takesOff 5 = .ok (.aload_n 0, 1) := by decide +kernel
theorem dX3_takesOff_6 : decode cX3_takesOff 6 = .ok (.iload_n 1, 1) := by decide +kernel
theorem dX3_takesOff_7 : decode cX3_takesOff 7 = .ok (.invokevirtual 161, 3) := by decide +kernel
theorem dX3_takesOff_10 : decode cX3_takesOff 10 = .ok (.iconst 0, 1) := by decide +kernel
theorem dX3_takesOff_11 : decode cX3_takesOff 11 = .ok (.invokestatic 104, 3) := by decide +kernel
theorem dX3_takesOff_14 : decode cX3_takesOff 14 = .ok (.istore_n 2, 1) := by decide +kernel
theorem dX3_takesOff_15 : decode cX3_takesOff 15 = .ok (.iload_n 2, 1) := by decide +kernel
theorem dX3_takesOff_16 : decode cX3_takesOff 16 = .ok (.ifCond .eq 9, 3) := by decide +kernel
theorem dX3_takesOff_19 : decode cX3_takesOff 19 = .ok (.aload_n 0, 1) := by decide +kernel
theorem dX3_takesOff_20 : decode cX3_takesOff 20 = .ok (.iload_n 2, 1) := by decide +kernel
theorem dX3_takesOff_21 : decode cX3_takesOff 21 = .ok (.invokevirtual 67, 3) := by decide +kernel
theorem dX3_takesOff_24 : decode cX3_takesOff 24 = .ok (.ireturn, 1) := by decide +kernel
theorem dX3_takesOff_25 : decode cX3_takesOff 25 = .ok (.aload_n 0, 1) := by decide +kernel
theorem dX3_takesOff_26 : decode cX3_takesOff 26 = .ok (.getfield 10, 3) := by decide +kernel
theorem dX3_takesOff_29 : decode cX3_takesOff 29 = .ok (.getfield 143, 3) := by decide +kernel
theorem dX3_takesOff_32 : decode cX3_takesOff 32 = .ok (.iload_n 1, 1) := by decide +kernel
theorem dX3_takesOff_33 : decode cX3_takesOff 33 = .ok (.iaload, 1) := by decide +kernel
theorem dX3_takesOff_34 : decode cX3_takesOff 34 = .ok (.istore_n 3, 1) := by decide +kernel
theorem dX3_takesOff_35 : decode cX3_takesOff 35 = .ok (.aload_n 0, 1) := by decide +kernel
theorem dX3_takesOff_36 : decode cX3_takesOff 36 = .ok (.getfield 10, 3) := by decide +kernel
theorem dX3_takesOff_39 : decode cX3_takesOff 39 = .ok (.getfield 143, 3) := by decide +kernel
theorem dX3_takesOff_42 : decode cX3_takesOff 42 = .ok (.iload_n 1, 1) := by decide +kernel
theorem dX3_takesOff_43 : decode cX3_takesOff 43 = .ok (.bipush (-9), 2) := by decide +kernel
theorem dX3_takesOff_45 : decode cX3_takesOff 45 = .ok (.iastore, 1) := by decide +kernel
theorem dX3_takesOff_46 : decode cX3_takesOff 46 = .ok (.iload_n 3, 1) := by decide +kernel
theorem dX3_takesOff_47 : decode cX3_takesOff 47 = .ok (.ireturn, 1) := by decide +kernel
theorem dX3_fears_0 : decode cX3_fears 0 = .ok (.aload_n 0, 1) := by decide +kernel
theorem dX3_fears_1 : decode cX3_fears 1 = .ok (.iload_n 1, 1) := by decide +kernel
theorem dX3_fears_2 : decode cX3_fears 2 = .ok (.invokevirtual 131, 3) := by decide +kernel
theorem dX3_fears_5 : decode cX3_fears 5 = .ok (.iload_n 2, 1) := by decide +kernel
theorem dX3_fears_6 : decode cX3_fears 6 = .ok (.iconst 0, 1) := by decide +kernel
theorem dX3_fears_7 : decode cX3_fears 7 = .ok (.bipush 20, 2) := by decide +kernel
theorem dX3_fears_9 : decode cX3_fears 9 = .ok (.invokestatic 60, 3) := by decide +kernel
theorem dX3_fears_12 : decode cX3_fears 12 = .ok (.iconst 0, 1) := by decide +kernel
theorem dX3_fears_13 : decode cX3_fears 13 = .ok (.invokestatic 104, 3) := by decide +kernel
theorem dX3_fears_16 : decode cX3_fears 16 = .ok (.istore_n 3, 1) := by decide +kernel
theorem dX3_fears_17 : decode cX3_fears 17 = .ok (.iload_n 3, 1) := by decide +kernel
theorem dX3_fears_18 : decode cX3_fears 18 = .ok (.ifCond .eq 9, 3) := by decide +kernel
theorem dX3_fears_21 : decode cX3_fears 21 = .ok (.aload_n 0, 1) := by decide +kernel
theorem dX3_fears_22 : decode cX3_fears 22 = .ok (.iload_n 3, 1) := by decide +kernel
theorem dX3_fears_23 : decode cX3_fears 23 = .ok (.invokevirtual 67, 3) := by decide +kernel
theorem dX3_fears_26 : decode cX3_fears 26 = .ok (.ireturn, 1) := by decide +kernel
theorem dX3_fears_27 : decode cX3_fears 27 = .ok (.aload_n 0, 1) := by decide +kernel
theorem dX3_fears_28 : decode cX3_fears 28 = .ok (.getfield 10, 3) := by decide +kernel
theorem dX3_fears_31 : decode cX3_fears 31 = .ok (.getfield 134, 3) := by decide +kernel
theorem dX3_fears_34 : decode cX3_fears 34 = .ok (.iload_n 1, 1) := by decide +kernel
theorem dX3_fears_35 : decode cX3_fears 35 = .ok (.iaload, 1) := by decide +kernel
theorem dX3_fears_36 : decode cX3_fears 36 = .ok (.istore 4, 2) := by decide +kernel
theorem dX3_fears_38 : decode cX3_fears 38 = .ok (.aload_n 0, 1) := by decide +kernel
theorem dX3_fears_39 : decode cX3_fears 39 = .ok (.getfield 10, 3) := by decide +kernel
theorem dX3_fears_42 : decode cX3_fears 42 = .ok (.getfield 134, 3) := by decide +kernel
theorem dX3_fears_45 : decode cX3_fears 45 = .ok (.iload_n 1, 1) := by decide +kernel
theorem dX3_fears_46 : decode cX3_fears 46 = .ok (.iload_n 2, 1) := by decide +kernel
theorem dX3_fears_47 : decode cX3_fears 47 = .ok (.iastore, 1) := by decide +kernel
theorem dX3_fears_48 : decode cX3_fears 48 = .ok (.iload 4, 2) := by decide +kernel
theorem dX3_fears_50 : decode cX3_fears 50 = .ok (.ireturn, 1) := by decide +kernel
theorem dX3_rusts_0 : decode cX3_rusts 0 = .ok (.aload_n 0, 1) := by decide +kernel
theorem dX3_rusts_1 : decode cX3_rusts 1 = .ok (.iload_n 1, 1) := by decide +kernel
theorem dX3_rusts_2 : decode cX3_rusts 2 = .ok (.invokevirtual 98, 3) := by decide +kernel
theorem dX3_rusts_5 : decode cX3_rusts 5 = .ok (.iload_n 2, 1) := by decide +kernel
theorem dX3_rusts_6 : decode cX3_rusts 6 = .ok (.iconst 0, 1) := by decide +kernel
theorem dX3_rusts_7 : decode cX3_rusts 7 = .ok (.bipush 9, 2) := by decide +kernel
theorem dX3_rusts_9 : decode cX3_rusts 9 = .ok (.invokestatic 60, 3) := by decide +kernel
theorem dX3_rusts_12 : decode cX3_rusts 12 = .ok (.iconst 0, 1) := by decide +kernel
theorem dX3_rusts_13 : decode cX3_rusts 13 = .ok (.invokestatic 104, 3) := by decide +kernel
theorem dX3_rusts_16 : decode cX3_rusts 16 = .ok (.istore_n 3, 1) := by decide +kernel
theorem dX3_rusts_17 : decode cX3_rusts 17 = .ok (.iload_n 3, 1) := by decide +kernel
theorem dX3_rusts_18 : decode cX3_rusts 18 = .ok (.ifCond .eq 9, 3) := by decide +kernel
theorem dX3_rusts_21 : decode cX3_rusts 21 = .ok (.aload_n 0, 1) := by decide +kernel
theorem dX3_rusts_22 : decode cX3_rusts 22 = .ok (.iload_n 3, 1) := by decide +kernel
theorem dX3_rusts_23 : decode cX3_rusts 23 = .ok (.invokevirtual 67, 3) := by decide +kernel
theorem dX3_rusts_26 : decode cX3_rusts 26 = .ok (.ireturn, 1) := by decide +kernel
theorem dX3_rusts_27 : decode cX3_rusts 27 = .ok (.aload_n 0, 1) := by decide +kernel
theorem dX3_rusts_28 : decode cX3_rusts 28 = .ok (.getfield 10, 3) := by decide +kernel
theorem dX3_rusts_31 : decode cX3_rusts 31 = .ok (.getfield 113, 3) := by decide +kernel
theorem dX3_rusts_34 : decode cX3_rusts 34 = .ok (.iload_n 1, 1) := by decide +kernel
theorem dX3_rusts_35 : decode cX3_rusts 35 = .ok (.iaload, 1) := by decide +kernel
theorem dX3_rusts_36 : decode cX3_rusts 36 = .ok (.istore 4, 2) := by decide +kernel
theorem dX3_rusts_38 : decode cX3_rusts 38 = .ok (.aload_n 0, 1) := by decide +kernel
theorem dX3_rusts_39 : decode cX3_rusts 39 = .ok (.getfield 10, 3) := by decide +kernel
theorem dX3_rusts_42 : decode cX3_rusts 42 = .ok (.getfield 113, 3) := by decide +kernel
theorem dX3_rusts_45 : decode cX3_rusts 45 = .ok (.iload_n 1, 1) := by decide +kernel
theorem dX3_rusts_46 : decode cX3_rusts 46 = .ok (.iload_n 2, 1) := by decide +kernel
theorem dX3_rusts_47 : decode cX3_rusts 47 = .ok (.iastore, 1) := by decide +kernel
theorem dX3_rusts_48 : decode cX3_rusts 48 = .ok (.iload 4, 2) := by decide +kernel
theorem dX3_rusts_50 : decode cX3_rusts 50 = .ok (.ireturn, 1) := by decide +kernel
theorem dX3_soothes_0 : decode cX3_soothes 0 = .ok (.aload_n 0, 1) := by decide +kernel
theorem dX3_soothes_1 : decode cX3_soothes 1 = .ok (.iload_n 1, 1) := by decide +kernel
theorem dX3_soothes_2 : decode cX3_soothes 2 = .ok (.invokevirtual 131, 3) := by decide +kernel
theorem dX3_soothes_5 : decode cX3_soothes 5 = .ok (.iload_n 2, 1) := by decide +kernel
theorem dX3_soothes_6 : decode cX3_soothes 6 = .ok (.iconst 0, 1) := by decide +kernel
theorem dX3_soothes_7 : decode cX3_soothes 7 = .ok (.bipush 20, 2) := by decide +kernel
theorem dX3_soothes_9 : decode cX3_soothes 9 = .ok (.invokestatic 60, 3) := by decide +kernel
theorem dX3_soothes_12 : decode cX3_soothes 12 = .ok (.iconst 0, 1) := by decide +kernel
theorem dX3_soothes_13 : decode cX3_soothes 13 = .ok (.invokestatic 104, 3) := by decide +kernel
theorem dX3_soothes_16 : decode cX3_soothes 16 = .ok (.istore_n 3, 1) := by decide +kernel
theorem dX3_soothes_17 : decode cX3_soothes 17 = .ok (.iload_n 3, 1) := by decide +kernel
theorem dX3_soothes_18 : decode cX3_soothes 18 = .ok (.ifCond .eq 9, 3) := by decide +kernel
theorem dX3_soothes_21 : decode cX3_soothes 21 = .ok (.aload_n 0, 1) := by decide +kernel
theorem dX3_soothes_22 : decode cX3_soothes 22 = .ok (.iload_n 3, 1) := by decide +kernel
theorem dX3_soothes_23 : decode cX3_soothes 23 = .ok (.invokevirtual 67, 3) := by decide +kernel
theorem dX3_soothes_26 : decode cX3_soothes 26 = .ok (.ireturn, 1) := by decide +kernel
theorem dX3_soothes_27 : decode cX3_soothes 27 = .ok (.aload_n 0, 1) := by decide +kernel
theorem dX3_soothes_28 : decode cX3_soothes 28 = .ok (.getfield 10, 3) := by decide +kernel
theorem dX3_soothes_31 : decode cX3_soothes 31 = .ok (.getfield 137, 3) := by decide +kernel
theorem dX3_soothes_34 : decode cX3_soothes 34 = .ok (.iload_n 1, 1) := by decide +kernel
theorem dX3_soothes_35 : decode cX3_soothes 35 = .ok (.iaload, 1) := by decide +kernel
theorem dX3_soothes_36 : decode cX3_soothes 36 = .ok (.istore 4, 2) := by decide +kernel
theorem dX3_soothes_38 : decode cX3_soothes 38 = .ok (.aload_n 0, 1) := by decide +kernel
theorem dX3_soothes_39 : decode cX3_soothes 39 = .ok (.getfield 10, 3) := by decide +kernel
theorem dX3_soothes_42 : decode cX3_soothes 42 = .ok (.getfield 137, 3) := by decide +kernel
theorem dX3_soothes_45 : decode cX3_soothes 45 = .ok (.iload_n 1, 1) := by decide +kernel
theorem dX3_soothes_46 : decode cX3_soothes 46 = .ok (.iload_n 2, 1) := by decide +kernel
theorem dX3_soothes_47 : decode cX3_soothes 47 = .ok (.iastore, 1) := by decide +kernel
theorem dX3_soothes_48 : decode cX3_soothes 48 = .ok (.iload 4, 2) := by decide +kernel
theorem dX3_soothes_50 : decode cX3_soothes 50 = .ok (.ireturn, 1) := by decide +kernel
theorem dX3_turn_0 : decode cX3_turn 0 = .ok (.aload_n 0, 1) := by decide +kernel
theorem dX3_turn_1 : decode cX3_turn 1 = .ok (.iload_n 1, 1) := by decide +kernel
theorem dX3_turn_2 : decode cX3_turn 2 = .ok (.invokevirtual 98, 3) := by decide +kernel
theorem dX3_turn_5 : decode cX3_turn 5 = .ok (.iload_n 2, 1) := by decide +kernel
theorem dX3_turn_6 : decode cX3_turn 6 = .ok (.bipush 6, 2) := by decide +kernel
theorem dX3_turn_8 : decode cX3_turn 8 = .ok (.invokestatic 101, 3) := by decide +kernel
theorem dX3_turn_11 : decode cX3_turn 11 = .ok (.iload_n 3, 1) := by decide +kernel
theorem dX3_turn_12 : decode cX3_turn 12 = .ok (.iconst 0, 1) := by decide +kernel
theorem dX3_turn_13 : decode cX3_turn 13 = .ok (.bipush 9, 2) := by decide +kernel
theorem dX3_turn_15 : decode cX3_turn 15 = .ok (.invokestatic 60, 3) := by decide +kernel
theorem dX3_turn_18 : decode cX3_turn 18 = .ok (.invokestatic 104, 3) := by decide +kernel
theorem dX3_turn_21 : decode cX3_turn 21 = .ok (.istore 4, 2) := by decide +kernel
theorem dX3_turn_23 : decode cX3_turn 23 = .ok (.iload 4, 2) := by decide +kernel
theorem dX3_turn_25 : decode cX3_turn 25 = .ok (.ifCond .eq 10, 3) := by decide +kernel
theorem dX3_turn_28 : decode cX3_turn 28 = .ok (.aload_n 0, 1) := by decide +kernel
theorem dX3_turn_29 : decode cX3_turn 29 = .ok (.iload 4, 2) := by decide +kernel
theorem dX3_turn_31 : decode cX3_turn 31 = .ok (.invokevirtual 67, 3) := by decide +kernel
theorem dX3_turn_34 : decode cX3_turn 34 = .ok (.ireturn, 1) := by decide +kernel
theorem dX3_turn_35 : decode cX3_turn 35 = .ok (.bipush 10, 2) := by decide +kernel
theorem dX3_turn_37 : decode cX3_turn 37 = .ok (.aload_n 0, 1) := by decide +kernel
theorem dX3_turn_38 : decode cX3_turn 38 = .ok (.getfield 10, 3) := by decide +kernel
theorem dX3_turn_41 : decode cX3_turn 41 = .ok (.getfield 107, 3) := by decide +kernel
theorem dX3_turn_44 : decode cX3_turn 44 = .ok (.iload_n 1, 1) := by decide +kernel
theorem dX3_turn_45 : decode cX3_turn 45 = .ok (.iaload, 1) := by decide +kernel
theorem dX3_turn_46 : decode cX3_turn 46 = .ok (.imul, 1) := by decide +kernel
theorem dX3_turn_47 : decode cX3_turn 47 = .ok (.aload_n 0, 1) := by decide +kernel
theorem dX3_turn_48 : decode cX3_turn 48 = .ok (.getfield 10, 3) := by decide +kernel
theorem dX3_turn_51 : decode cX3_turn 51 = .ok (.getfield 110, 3) := by decide +kernel
theorem dX3_turn_54 : decode cX3_turn 54 = .ok (.iload_n 1, 1) := by decide +kernel
theorem dX3_turn_55 : decode cX3_turn 55 = .ok (.iaload, 1) := by decide +kernel
theorem dX3_turn_56 : decode cX3_turn 56 = .ok (.iadd, 1) := by decide +kernel
theorem dX3_turn_57 : decode cX3_turn 57 = .ok (.istore 5, 2) := by decide +kernel
theorem dX3_turn_59 : decode cX3_turn 59 = .ok (.aload_n 0, 1) := by decide +kernel
theorem dX3_turn_60 : decode cX3_turn 60 = .ok (.getfield 10, 3) := by decide +kernel
theorem dX3_turn_63 : decode cX3_turn 63 = .ok (.getfield 107, 3) := by decide +kernel
theorem dX3_turn_66 : decode cX3_turn 66 = .ok (.iload_n 1, 1) := by decide +kernel
theorem dX3_turn_67 : decode cX3_turn 67 = .ok (.iload_n 2, 1) := by decide +kernel
theorem dX3_turn_68 : decode cX3_turn 68 = .ok (.iastore, 1) := by decide +kernel
theorem dX3_turn_69 : decode cX3_turn 69 = .ok (.aload_n 0, 1) := by decide +kernel
theorem dX3_turn_70 : decode cX3_turn 70 = .ok (.getfield 10, 3) := by decide +kernel
theorem dX3_turn_73 : decode cX3_turn 73 = .ok (.getfield 110, 3) := by decide +kernel
theorem dX3_turn_76 : decode cX3_turn 76 = .ok (.iload_n 1, 1) := by decide +kernel
theorem dX3_turn_77 : decode cX3_turn 77 = .ok (.iload_n 3, 1) := by decide +kernel
theorem dX3_turn_78 : decode cX3_turn 78 = .ok (.iastore, 1) := by decide +kernel
theorem dX3_turn_79 : decode cX3_turn 79 = .ok (.iload 5, 2) := by decide +kernel
theorem dX3_turn_81 : decode cX3_turn 81 = .ok (.ireturn, 1) := by decide +kernel
theorem dX3_days_0 : decode cX3_days 0 = .ok (.iload_n 1, 1) := by decide +kernel
theorem dX3_days_1 : decode cX3_days 1 = .ok (.iconst 1, 1) := by decide +kernel
theorem dX3_days_2 : decode cX3_days 2 = .ok (.bipush 60, 2) := by decide +kernel
theorem dX3_days_4 : decode cX3_days 4 = .ok (.invokestatic 60, 3) := by decide +kernel
theorem dX3_days_7 : decode cX3_days 7 = .ok (.istore_n 2, 1) := by decide +kernel
theorem dX3_days_8 : decode cX3_days 8 = .ok (.iload_n 2, 1) := by decide +kernel
theorem dX3_days_9 : decode cX3_days 9 = .ok (.ifCond .ne 21, 3) := by decide +kernel
theorem dX3_days_12 : decode cX3_days 12 = .ok (.aload_n 0, 1) := by decide +kernel
theorem dX3_days_13 : decode cX3_days 13 = .ok (.getfield 10, 3) := by decide +kernel
theorem dX3_days_16 : decode cX3_days 16 = .ok (.getfield 119, 3) := by decide +kernel
theorem dX3_days_19 : decode cX3_days 19 = .ok (.iload_n 1, 1) := by decide +kernel
theorem dX3_days_20 : decode cX3_days 20 = .ok (.iadd, 1) := by decide +kernel
theorem dX3_days_21 : decode cX3_days 21 = .ok (.sipush 999, 3) := by decide +kernel
theorem dX3_days_24 : decode cX3_days 24 = .ok (.if_icmp .le 6, 3) := by decide +kernel
theorem dX3_days_27 : decode cX3_days 27 = .ok (.bipush (-6), 2) := by decide +kernel
theorem dX3_days_29 : decode cX3_days 29 = .ok (.istore_n 2, 1) := by decide +kernel
theorem dX3_days_30 : decode cX3_days 30 = .ok (.iload_n 2, 1) := by decide +kernel
theorem dX3_days_31 : decode cX3_days 31 = .ok (.ifCond .eq 9, 3) := by decide +kernel
theorem dX3_days_34 : decode cX3_days 34 = .ok (.aload_n 0, 1) := by decide +kernel
theorem dX3_days_35 : decode cX3_days 35 = .ok (.iload_n 2, 1) := by decide +kernel
theorem dX3_days_36 : decode cX3_days 36 = .ok (.invokevirtual 67, 3) := by decide +kernel
theorem dX3_days_39 : decode cX3_days 39 = .ok (.ireturn, 1) := by decide +kernel
theorem dX3_days_40 : decode cX3_days 40 = .ok (.aload_n 0, 1) := by decide +kernel
theorem dX3_days_41 : decode cX3_days 41 = .ok (.getfield 10, 3) := by decide +kernel
theorem dX3_days_44 : decode cX3_days 44 = .ok (.iload_n 1, 1) := by decide +kernel
theorem dX3_days_45 : decode cX3_days 45 = .ok (.invokevirtual 164, 3) := by decide +kernel
theorem dX3_days_48 : decode cX3_days 48 = .ok (.aload_n 0, 1) := by decide +kernel
theorem dX3_days_49 : decode cX3_days 49 = .ok (.getfield 10, 3) := by decide +kernel
theorem dX3_days_52 : decode cX3_days 52 = .ok (.invokevirtual 168, 3) := by decide +kernel
theorem dX3_days_55 : decode cX3_days 55 = .ok (.ireturn, 1) := by decide +kernel
theorem dX3_callerThen_0 : decode cX3_callerThen 0 = .ok (.aload_n 0, 1) := by decide +kernel
theorem dX3_callerThen_1 : decode cX3_callerThen 1 = .ok (.iload_n 1, 1) := by decide +kernel
theorem dX3_callerThen_2 : decode cX3_callerThen 2 = .ok (.invokevirtual 131, 3) := by decide +kernel
theorem dX3_callerThen_5 : decode cX3_callerThen 5 = .ok (.iload_n 2, 1) := by decide +kernel
theorem dX3_callerThen_6 : decode cX3_callerThen 6 = .ok (.iconst 0, 1) := by decide +kernel
theorem dX3_callerThen_7 : decode cX3_callerThen 7 = .ok (.bipush 60, 2) := by decide +kernel
theorem dX3_callerThen_9 : decode cX3_callerThen 9 = .ok (.invokestatic 60, 3) := by decide +kernel
theorem dX3_callerThen_12 : decode cX3_callerThen 12 = .ok (.iload_n 3, 1) := by decide +kernel
theorem dX3_callerThen_13 : decode cX3_callerThen 13 = .ok (.iconst 3, 1) := by decide +kernel
theorem dX3_callerThen_14 : decode cX3_callerThen 14 = .ok (.invokestatic 101, 3) := by decide +kernel
theorem dX3_callerThen_17 : decode cX3_callerThen 17 = .ok (.invokestatic 104, 3) := by decide +kernel
theorem dX3_callerThen_20 : decode cX3_callerThen 20 = .ok (.istore 4, 2) := by decide +kernel
theorem dX3_callerThen_22 : decode cX3_callerThen 22 = .ok (.iload 4, 2) := by decide +kernel
theorem dX3_callerThen_24 : decode cX3_callerThen 24 = .ok (.ifCond .eq 10, 3) := by decide +kernel
theorem dX3_callerThen_27 : decode cX3_callerThen 27 = .ok (.aload_n 0, 1) := by decide +kernel
theorem dX3_callerThen_28 : decode cX3_callerThen 28 = .ok (.iload 4, 2) := by decide +kernel
theorem dX3_callerThen_30 : decode cX3_callerThen 30 = .ok (.invokevirtual 67, 3) := by decide +kernel
theorem dX3_callerThen_33 : decode cX3_callerThen 33 = .ok (.ireturn, 1) := by decide +kernel
theorem dX3_callerThen_34 : decode cX3_callerThen 34 = .ok (.aload_n 0, 1) := by decide +kernel
theorem dX3_callerThen_35 : decode cX3_callerThen 35 = .ok (.invokevirtual 78, 3) := by decide +kernel
theorem dX3_callerThen_38 : decode cX3_callerThen 38 = .ok (.aload_n 0, 1) := by decide +kernel
theorem dX3_callerThen_39 : decode cX3_callerThen 39 = .ok (.getfield 16, 3) := by decide +kernel
theorem dX3_callerThen_42 : decode cX3_callerThen 42 = .ok (.iload_n 2, 1) := by decide +kernel
theorem dX3_callerThen_43 : decode cX3_callerThen 43 = .ok (.invokevirtual 164, 3) := by decide +kernel
theorem dX3_callerThen_46 : decode cX3_callerThen 46 = .ok (.iload_n 3, 1) := by decide +kernel
theorem dX3_callerThen_47 : decode cX3_callerThen 47 = .ok (.ifCond .ne 13, 3) := by decide +kernel
theorem dX3_callerThen_50 : decode cX3_callerThen 50 = .ok (.aload_n 0, 1) := by decide +kernel
theorem dX3_callerThen_51 : decode cX3_callerThen 51 = .ok (.getfield 16, 3) := by decide +kernel
theorem dX3_callerThen_54 : decode cX3_callerThen 54 = .ok (.getfield 140, 3) := by decide +kernel
theorem dX3_callerThen_57 : decode cX3_callerThen 57 = .ok (.iload_n 1, 1) := by decide +kernel
theorem dX3_callerThen_58 : decode cX3_callerThen 58 = .ok (.iaload, 1) := by decide +kernel
theorem dX3_callerThen_59 : decode cX3_callerThen 59 = .ok (.ireturn, 1) := by decide +kernel
theorem dX3_callerThen_60 : decode cX3_callerThen 60 = .ok (.iload_n 3, 1) := by decide +kernel
theorem dX3_callerThen_61 : decode cX3_callerThen 61 = .ok (.iconst 1, 1) := by decide +kernel
theorem dX3_callerThen_62 : decode cX3_callerThen 62 = .ok (.if_icmp .ne 15, 3) := by decide +kernel
theorem dX3_callerThen_65 : decode cX3_callerThen 65 = .ok (.aload_n 0, 1) := by decide +kernel
theorem dX3_callerThen_66 : decode cX3_callerThen 66 = .ok (.getfield 16, 3) := by decide +kernel
theorem dX3_callerThen_69 : decode cX3_callerThen 69 = .ok (.getfield 134, 3) := by decide +kernel
theorem dX3_callerThen_72 : decode cX3_callerThen 72 = .ok (.iload_n 1, 1) := by decide +kernel
theorem dX3_callerThen_73 : decode cX3_callerThen 73 = .ok (.iaload, 1) := by decide +kernel
theorem dX3_callerThen_74 : decode cX3_callerThen 74 = .ok (.goto 12, 3) := by decide +kernel
theorem dX3_callerThen_77 : decode cX3_callerThen 77 = .ok (.aload_n 0, 1) := by decide +kernel
theorem dX3_callerThen_78 : decode cX3_callerThen 78 = .ok (.getfield 16, 3) := by decide +kernel
theorem dX3_callerThen_81 : decode cX3_callerThen 81 = .ok (.getfield 137, 3) := by decide +kernel
theorem dX3_callerThen_84 : decode cX3_callerThen 84 = .ok (.iload_n 1, 1) := by decide +kernel
theorem dX3_callerThen_85 : decode cX3_callerThen 85 = .ok (.iaload, 1) := by decide +kernel
theorem dX3_callerThen_86 : decode cX3_callerThen 86 = .ok (.ireturn, 1) := by decide +kernel
theorem dX3_suitThen_0 : decode cX3_suitThen 0 = .ok (.aload_n 0, 1) := by decide +kernel
theorem dX3_suitThen_1 : decode cX3_suitThen 1 = .ok (.iload_n 1, 1) := by decide +kernel
theorem dX3_suitThen_2 : decode cX3_suitThen 2 = .ok (.invokevirtual 98, 3) := by decide +kernel
theorem dX3_suitThen_5 : decode cX3_suitThen 5 = .ok (.iload_n 2, 1) := by decide +kernel
theorem dX3_suitThen_6 : decode cX3_suitThen 6 = .ok (.iconst 0, 1) := by decide +kernel
theorem dX3_suitThen_7 : decode cX3_suitThen 7 = .ok (.bipush 60, 2) := by decide +kernel
theorem dX3_suitThen_9 : decode cX3_suitThen 9 = .ok (.invokestatic 60, 3) := by decide +kernel
theorem dX3_suitThen_12 : decode cX3_suitThen 12 = .ok (.iconst 0, 1) := by decide +kernel
theorem dX3_suitThen_13 : decode cX3_suitThen 13 = .ok (.invokestatic 104, 3) := by decide +kernel
theorem dX3_suitThen_16 : decode cX3_suitThen 16 = .ok (.istore_n 3, 1) := by decide +kernel
theorem dX3_suitThen_17 : decode cX3_suitThen 17 = .ok (.iload_n 3, 1) := by decide +kernel
theorem dX3_suitThen_18 : decode cX3_suitThen 18 = .ok (.ifCond .eq 9, 3) := by decide +kernel
theorem dX3_suitThen_21 : decode cX3_suitThen 21 = .ok (.aload_n 0, 1) := by decide +kernel
theorem dX3_suitThen_22 : decode cX3_suitThen 22 = .ok (.iload_n 3, 1) := by decide +kernel
theorem dX3_suitThen_23 : decode cX3_suitThen 23 = .ok (.invokevirtual 67, 3) := by decide +kernel
theorem dX3_suitThen_26 : decode cX3_suitThen 26 = .ok (.ireturn, 1) := by decide +kernel
theorem dX3_suitThen_27 : decode cX3_suitThen 27 = .ok (.aload_n 0, 1) := by decide +kernel
theorem dX3_suitThen_28 : decode cX3_suitThen 28 = .ok (.invokevirtual 78, 3) := by decide +kernel
theorem dX3_suitThen_31 : decode cX3_suitThen 31 = .ok (.aload_n 0, 1) := by decide +kernel
theorem dX3_suitThen_32 : decode cX3_suitThen 32 = .ok (.getfield 16, 3) := by decide +kernel
theorem dX3_suitThen_35 : decode cX3_suitThen 35 = .ok (.iload_n 2, 1) := by decide +kernel
theorem dX3_suitThen_36 : decode cX3_suitThen 36 = .ok (.invokevirtual 164, 3) := by decide +kernel
theorem dX3_suitThen_39 : decode cX3_suitThen 39 = .ok (.aload_n 0, 1) := by decide +kernel
theorem dX3_suitThen_40 : decode cX3_suitThen 40 = .ok (.getfield 16, 3) := by decide +kernel
theorem dX3_suitThen_43 : decode cX3_suitThen 43 = .ok (.iload_n 1, 1) := by decide +kernel
theorem dX3_suitThen_44 : decode cX3_suitThen 44 = .ok (.invokevirtual 128, 3) := by decide +kernel
theorem dX3_suitThen_47 : decode cX3_suitThen 47 = .ok (.ireturn, 1) := by decide +kernel
theorem dX3_cost_0 : decode cX3_cost 0 = .ok (.iload_n 1, 1) := by decide +kernel
theorem dX3_cost_1 : decode cX3_cost 1 = .ok (.iconst 0, 1) := by decide +kernel
theorem dX3_cost_2 : decode cX3_cost 2 = .ok (.bipush 60, 2) := by decide +kernel
theorem dX3_cost_4 : decode cX3_cost 4 = .ok (.invokestatic 60, 3) := by decide +kernel
theorem dX3_cost_7 : decode cX3_cost 7 = .ok (.istore_n 2, 1) := by decide +kernel
theorem dX3_cost_8 : decode cX3_cost 8 = .ok (.iload_n 2, 1) := by decide +kernel
theorem dX3_cost_9 : decode cX3_cost 9 = .ok (.ifCond .eq 9, 3) := by decide +kernel
theorem dX3_cost_12 : decode cX3_cost 12 = .ok (.aload_n 0, 1) := by decide +kernel
theorem dX3_cost_13 : decode cX3_cost 13 = .ok (.iload_n 2, 1) := by decide +kernel
theorem dX3_cost_14 : decode cX3_cost 14 = .ok (.invokevirtual 67, 3) := by decide +kernel
theorem dX3_cost_17 : decode cX3_cost 17 = .ok (.ireturn, 1) := by decide +kernel
theorem dX3_cost_18 : decode cX3_cost 18 = .ok (.aload_n 0, 1) := by decide +kernel
theorem dX3_cost_19 : decode cX3_cost 19 = .ok (.invokevirtual 78, 3) := by decide +kernel
theorem dX3_cost_22 : decode cX3_cost 22 = .ok (.aload_n 0, 1) := by decide +kernel
theorem dX3_cost_23 : decode cX3_cost 23 = .ok (.getfield 16, 3) := by decide +kernel
theorem dX3_cost_26 : decode cX3_cost 26 = .ok (.iload_n 1, 1) := by decide +kernel
theorem dX3_cost_27 : decode cX3_cost 27 = .ok (.invokevirtual 164, 3) := by decide +kernel
theorem dX3_cost_30 : decode cX3_cost 30 = .ok (.aload_n 0, 1) := by decide +kernel
theorem dX3_cost_31 : decode cX3_cost 31 = .ok (.getfield 16, 3) := by decide +kernel
theorem dX3_cost_34 : decode cX3_cost 34 = .ok (.getfield 171, 3) := by decide +kernel
theorem dX3_cost_37 : decode cX3_cost 37 = .ok (.aload_n 0, 1) := by decide +kernel
theorem dX3_cost_38 : decode cX3_cost 38 = .ok (.getfield 10, 3) := by decide +kernel
theorem dX3_cost_41 : decode cX3_cost 41 = .ok (.getfield 171, 3) := by decide +kernel
theorem dX3_cost_44 : decode cX3_cost 44 = .ok (.isub, 1) := by decide +kernel
theorem dX3_cost_45 : decode cX3_cost 45 = .ok (.ireturn, 1) := by decide +kernel
theorem dX3_proposes_0 : decode cX3_proposes 0 = .ok (.iload_n 1, 1) := by decide +kernel
theorem dX3_proposes_1 : decode cX3_proposes 1 = .ok (.iconst (-1), 1) := by decide +kernel
theorem dX3_proposes_2 : decode cX3_proposes 2 = .ok (.if_icmp .ne 8, 3) := by decide +kernel
theorem dX3_proposes_5 : decode cX3_proposes 5 = .ok (.aload_n 0, 1) := by decide +kernel
theorem dX3_proposes_6 : decode cX3_proposes 6 = .ok (.invokevirtual 174, 3) := by decide +kernel
theorem dX3_proposes_9 : decode cX3_proposes 9 = .ok (.ireturn, 1) := by decide +kernel
theorem dX3_proposes_10 : decode cX3_proposes 10 = .ok (.aload_n 0, 1) := by decide +kernel
theorem dX3_proposes_11 : decode cX3_proposes 11 = .ok (.iload_n 1, 1) := by decide +kernel
theorem dX3_proposes_12 : decode cX3_proposes 12 = .ok (.invokevirtual 131, 3) := by decide +kernel
theorem dX3_proposes_15 : decode cX3_proposes 15 = .ok (.istore_n 2, 1) := by decide +kernel
theorem dX3_proposes_16 : decode cX3_proposes 16 = .ok (.iload_n 2, 1) := by decide +kernel
theorem dX3_proposes_17 : decode cX3_proposes 17 = .ok (.ifCond .eq 9, 3) := by decide +kernel
theorem dX3_proposes_20 : decode cX3_proposes 20 = .ok (.aload_n 0, 1) := by decide +kernel
theorem dX3_proposes_21 : decode cX3_proposes 21 = .ok (.iload_n 2, 1) := by decide +kernel
theorem dX3_proposes_22 : decode cX3_proposes 22 = .ok (.invokevirtual 67, 3) := by decide +kernel
theorem dX3_proposes_25 : decode cX3_proposes 25 = .ok (.ireturn, 1) := by decide +kernel
theorem dX3_proposes_26 : decode cX3_proposes 26 = .ok (.aload_n 0, 1) := by decide +kernel
theorem dX3_proposes_27 : decode cX3_proposes 27 = .ok (.invokevirtual 78, 3) := by decide +kernel
theorem dX3_proposes_30 : decode cX3_proposes 30 = .ok (.iconst 0, 1) := by decide +kernel
theorem dX3_proposes_31 : decode cX3_proposes 31 = .ok (.istore_n 3, 1) := by decide +kernel
theorem dX3_proposes_32 : decode cX3_proposes 32 = .ok (.iload_n 3, 1) := by decide +kernel
theorem dX3_proposes_33 : decode cX3_proposes 33 = .ok (.bipush 60, 2) := by decide +kernel
theorem dX3_proposes_35 : decode cX3_proposes 35 = .ok (.if_icmp .gt 33, 3) := by decide +kernel
theorem dX3_proposes_38 : decode cX3_proposes 38 = .ok (.aload_n 0, 1) := by decide +kernel
theorem dX3_proposes_39 : decode cX3_proposes 39 = .ok (.getfield 16, 3) := by decide +kernel
theorem dX3_proposes_42 : decode cX3_proposes 42 = .ok (.getfield 140, 3) := by decide +kernel
theorem dX3_proposes_45 : decode cX3_proposes 45 = .ok (.iload_n 1, 1) := by decide +kernel
theorem dX3_proposes_46 : decode cX3_proposes 46 = .ok (.iaload, 1) := by decide +kernel
theorem dX3_proposes_47 : decode cX3_proposes 47 = .ok (.bipush 6, 2) := by decide +kernel
theorem dX3_proposes_49 : decode cX3_proposes 49 = .ok (.if_icmp .lt 5, 3) := by decide +kernel
theorem dX3_proposes_52 : decode cX3_proposes 52 = .ok (.iload_n 3, 1) := by decide +kernel
theorem dX3_proposes_53 : decode cX3_proposes 53 = .ok (.ireturn, 1) := by decide +kernel
theorem dX3_proposes_54 : decode cX3_proposes 54 = .ok (.aload_n 0, 1) := by decide +kernel
theorem dX3_proposes_55 : decode cX3_proposes 55 = .ok (.getfield 16, 3) := by decide +kernel
theorem dX3_proposes_58 : decode cX3_proposes 58 = .ok (.iconst 1, 1) := by decide +kernel
theorem dX3_proposes_59 : decode cX3_proposes 59 = .ok (.invokevirtual 164, 3) := by decide +kernel
theorem dX3_proposes_62 : decode cX3_proposes 62 = .ok (.iinc 3 1, 3) := by decide +kernel
theorem dX3_proposes_65 : decode cX3_proposes 65 = .ok (.goto (-33), 3) := by decide +kernel
theorem dX3_proposes_68 : decode cX3_proposes 68 = .ok (.bipush (-9), 2) := by decide +kernel
theorem dX3_proposes_70 : decode cX3_proposes 70 = .ok (.ireturn, 1) := by decide +kernel
theorem dX3_out_0 : decode cX3_out 0 = .ok (.aload_n 0, 1) := by decide +kernel
theorem dX3_out_1 : decode cX3_out 1 = .ok (.iload_n 1, 1) := by decide +kernel
theorem dX3_out_2 : decode cX3_out 2 = .ok (.invokevirtual 131, 3) := by decide +kernel
theorem dX3_out_5 : decode cX3_out 5 = .ok (.istore_n 2, 1) := by decide +kernel
theorem dX3_out_6 : decode cX3_out 6 = .ok (.iload_n 2, 1) := by decide +kernel
theorem dX3_out_7 : decode cX3_out 7 = .ok (.ifCond .eq 9, 3) := by decide +kernel
theorem dX3_out_10 : decode cX3_out 10 = .ok (.aload_n 0, 1) := by decide +kernel
theorem dX3_out_11 : decode cX3_out 11 = .ok (.iload_n 2, 1) := by decide +kernel
theorem dX3_out_12 : decode cX3_out 12 = .ok (.invokevirtual 67, 3) := by decide +kernel
theorem dX3_out_15 : decode cX3_out 15 = .ok (.ireturn, 1) := by decide +kernel
theorem dX3_out_16 : decode cX3_out 16 = .ok (.aload_n 0, 1) := by decide +kernel
theorem dX3_out_17 : decode cX3_out 17 = .ok (.invokevirtual 78, 3) := by decide +kernel
theorem dX3_out_20 : decode cX3_out 20 = .ok (.iconst 0, 1) := by decide +kernel
theorem dX3_out_21 : decode cX3_out 21 = .ok (.istore_n 3, 1) := by decide +kernel
theorem dX3_out_22 : decode cX3_out 22 = .ok (.iload_n 3, 1) := by decide +kernel
theorem dX3_out_23 : decode cX3_out 23 = .ok (.bipush 60, 2) := by decide +kernel
theorem dX3_out_25 : decode cX3_out 25 = .ok (.if_icmp .gt 33, 3) := by decide +kernel
theorem dX3_out_28 : decode cX3_out 28 = .ok (.aload_n 0, 1) := by decide +kernel
theorem dX3_out_29 : decode cX3_out 29 = .ok (.getfield 16, 3) := by decide +kernel
theorem dX3_out_32 : decode cX3_out 32 = .ok (.getfield 143, 3) := by decide +kernel
theorem dX3_out_35 : decode cX3_out 35 = .ok (.iload_n 1, 1) := by decide +kernel
theorem dX3_out_36 : decode cX3_out 36 = .ok (.iaload, 1) := by decide +kernel
theorem dX3_out_37 : decode cX3_out 37 = .ok (.bipush (-9), 2) := by decide +kernel
theorem dX3_out_39 : decode cX3_out 39 = .ok (.if_icmp .ne 5, 3) := by decide +kernel
theorem dX3_out_42 : decode cX3_out 42 = .ok (.iload_n 3, 1) := by decide +kernel
theorem dX3_out_43 : decode cX3_out 43 = .ok (.ireturn, 1) := by decide +kernel
theorem dX3_out_44 : decode cX3_out 44 = .ok (.aload_n 0, 1) := by decide +kernel
theorem dX3_out_45 : decode cX3_out 45 = .ok (.getfield 16, 3) := by decide +kernel
theorem dX3_out_48 : decode cX3_out 48 = .ok (.iconst 1, 1) := by decide +kernel
theorem dX3_out_49 : decode cX3_out 49 = .ok (.invokevirtual 164, 3) := by decide +kernel
theorem dX3_out_52 : decode cX3_out 52 = .ok (.iinc 3 1, 3) := by decide +kernel
theorem dX3_out_55 : decode cX3_out 55 = .ok (.goto (-33), 3) := by decide +kernel
theorem dX3_out_58 : decode cX3_out 58 = .ok (.bipush (-9), 2) := by decide +kernel
theorem dX3_out_60 : decode cX3_out 60 = .ok (.ireturn, 1) := by decide +kernel
theorem dX3_still_0 : decode cX3_still 0 = .ok (.aload_n 0, 1) := by decide +kernel
theorem dX3_still_1 : decode cX3_still 1 = .ok (.invokevirtual 78, 3) := by decide +kernel
theorem dX3_still_4 : decode cX3_still 4 = .ok (.aload_n 0, 1) := by decide +kernel
theorem dX3_still_5 : decode cX3_still 5 = .ok (.getfield 51, 3) := by decide +kernel
theorem dX3_still_8 : decode cX3_still 8 = .ok (.iconst 0, 1) := by decide +kernel
theorem dX3_still_9 : decode cX3_still 9 = .ok (.aload_n 0, 1) := by decide +kernel
theorem dX3_still_10 : decode cX3_still 10 = .ok (.getfield 16, 3) := by decide +kernel
theorem dX3_still_13 : decode cX3_still 13 = .ok (.invokevirtual 168, 3) := by decide +kernel
theorem dX3_still_16 : decode cX3_still 16 = .ok (.iastore, 1) := by decide +kernel
theorem dX3_still_17 : decode cX3_still 17 = .ok (.iconst 1, 1) := by decide +kernel
theorem dX3_still_18 : decode cX3_still 18 = .ok (.istore_n 1, 1) := by decide +kernel
theorem dX3_still_19 : decode cX3_still 19 = .ok (.iload_n 1, 1) := by decide +kernel
theorem dX3_still_20 : decode cX3_still 20 = .ok (.bipush 68, 2) := by decide +kernel
theorem dX3_still_22 : decode cX3_still 22 = .ok (.if_icmp .gt 20, 3) := by decide +kernel
theorem dX3_still_25 : decode cX3_still 25 = .ok (.aload_n 0, 1) := by decide +kernel
theorem dX3_still_26 : decode cX3_still 26 = .ok (.getfield 51, 3) := by decide +kernel
theorem dX3_still_29 : decode cX3_still 29 = .ok (.iload_n 1, 1) := by decide +kernel
theorem dX3_still_30 : decode cX3_still 30 = .ok (.aload_n 0, 1) := by decide +kernel
theorem dX3_still_31 : decode cX3_still 31 = .ok (.iconst 1, 1) := by decide +kernel
theorem dX3_still_32 : decode cX3_still 32 = .ok (.invokevirtual 177, 3) := by decide +kernel
theorem dX3_still_35 : decode cX3_still 35 = .ok (.iastore, 1) := by decide +kernel
theorem dX3_still_36 : decode cX3_still 36 = .ok (.iinc 1 1, 3) := by decide +kernel
theorem dX3_still_39 : decode cX3_still 39 = .ok (.goto (-20), 3) := by decide +kernel
theorem dX3_still_42 : decode cX3_still 42 = .ok (.iconst 0, 1) := by decide +kernel
theorem dX3_still_43 : decode cX3_still 43 = .ok (.istore_n 1, 1) := by decide +kernel
theorem dX3_still_44 : decode cX3_still 44 = .ok (.iload_n 1, 1) := by decide +kernel
theorem dX3_still_45 : decode cX3_still 45 = .ok (.bipush 60, 2) := by decide +kernel
theorem dX3_still_47 : decode cX3_still 47 = .ok (.if_icmp .gt 29, 3) := by decide +kernel
theorem dX3_still_50 : decode cX3_still 50 = .ok (.aload_n 0, 1) := by decide +kernel
theorem dX3_still_51 : decode cX3_still 51 = .ok (.getfield 51, 3) := by decide +kernel
theorem dX3_still_54 : decode cX3_still 54 = .ok (.iload_n 1, 1) := by decide +kernel
theorem dX3_still_55 : decode cX3_still 55 = .ok (.iaload, 1) := by decide +kernel
theorem dX3_still_56 : decode cX3_still 56 = .ok (.aload_n 0, 1) := by decide +kernel
theorem dX3_still_57 : decode cX3_still 57 = .ok (.getfield 51, 3) := by decide +kernel
theorem dX3_still_60 : decode cX3_still 60 = .ok (.iload_n 1, 1) := by decide +kernel
theorem dX3_still_61 : decode cX3_still 61 = .ok (.bipush 8, 2) := by decide +kernel
theorem dX3_still_63 : decode cX3_still 63 = .ok (.iadd, 1) := by decide +kernel
theorem dX3_still_64 : decode cX3_still 64 = .ok (.iaload, 1) := by decide +kernel
theorem dX3_still_65 : decode cX3_still 65 = .ok (.if_icmp .ne 5, 3) := by decide +kernel
theorem dX3_still_68 : decode cX3_still 68 = .ok (.iload_n 1, 1) := by decide +kernel
theorem dX3_still_69 : decode cX3_still 69 = .ok (.ireturn, 1) := by decide +kernel
theorem dX3_still_70 : decode cX3_still 70 = .ok (.iinc 1 1, 3) := by decide +kernel
theorem dX3_still_73 : decode cX3_still 73 = .ok (.goto (-29), 3) := by decide +kernel
theorem dX3_still_76 : decode cX3_still 76 = .ok (.bipush (-9), 2) := by decide +kernel
theorem dX3_still_78 : decode cX3_still 78 = .ok (.ireturn, 1) := by decide +kernel
theorem dX3_dress_0 : decode cX3_dress 0 = .ok (.iload_n 1, 1) := by decide +kernel
theorem dX3_dress_1 : decode cX3_dress 1 = .ok (.iconst (-1), 1) := by decide +kernel
theorem dX3_dress_2 : decode cX3_dress 2 = .ok (.if_icmp .ne 15, 3) := by decide +kernel
theorem dX3_dress_5 : decode cX3_dress 5 = .ok (.aload_n 0, 1) := by decide +kernel
theorem dX3_dress_6 : decode cX3_dress 6 = .ok (.getfield 36, 3) := by decide +kernel
theorem dX3_dress_9 : decode cX3_dress 9 = .ok (.aload_n 0, 1) := by decide +kernel
theorem dX3_dress_10 : decode cX3_dress 10 = .ok (.getfield 10, 3) := by decide +kernel
theorem dX3_dress_13 : decode cX3_dress 13 = .ok (.invokevirtual 180, 3) := by decide +kernel
theorem dX3_dress_16 : decode cX3_dress 16 = .ok (.ireturn, 1) := by decide +kernel
theorem dX3_dress_17 : decode cX3_dress 17 = .ok (.aload_n 0, 1) := by decide +kernel
theorem dX3_dress_18 : decode cX3_dress 18 = .ok (.iload_n 1, 1) := by decide +kernel
theorem dX3_dress_19 : decode cX3_dress 19 = .ok (.invokevirtual 131, 3) := by decide +kernel
theorem dX3_dress_22 : decode cX3_dress 22 = .ok (.istore_n 2, 1) := by decide +kernel
theorem dX3_dress_23 : decode cX3_dress 23 = .ok (.iload_n 2, 1) := by decide +kernel
theorem dX3_dress_24 : decode cX3_dress 24 = .ok (.ifCond .eq 9, 3) := by decide +kernel
theorem dX3_dress_27 : decode cX3_dress 27 = .ok (.aload_n 0, 1) := by decide +kernel
theorem dX3_dress_28 : decode cX3_dress 28 = .ok (.iload_n 2, 1) := by decide +kernel
theorem dX3_dress_29 : decode cX3_dress 29 = .ok (.invokevirtual 67, 3) := by decide +kernel
theorem dX3_dress_32 : decode cX3_dress 32 = .ok (.ireturn, 1) := by decide +kernel
theorem dX3_dress_33 : decode cX3_dress 33 = .ok (.aload_n 0, 1) := by decide +kernel
theorem dX3_dress_34 : decode cX3_dress 34 = .ok (.getfield 36, 3) := by decide +kernel
theorem dX3_dress_37 : decode cX3_dress 37 = .ok (.aload_n 0, 1) := by decide +kernel
theorem dX3_dress_38 : decode cX3_dress 38 = .ok (.getfield 10, 3) := by decide +kernel
theorem dX3_dress_41 : decode cX3_dress 41 = .ok (.iload_n 1, 1) := by decide +kernel
theorem dX3_dress_42 : decode cX3_dress 42 = .ok (.invokevirtual 184, 3) := by decide +kernel
theorem dX3_dress_45 : decode cX3_dress 45 = .ok (.ireturn, 1) := by decide +kernel
theorem dX3_suitBest_0 : decode cX3_suitBest 0 = .ok (.aload_n 0, 1) := by decide +kernel
theorem dX3_suitBest_1 : decode cX3_suitBest 1 = .ok (.iload_n 1, 1) := by decide +kernel
theorem dX3_suitBest_2 : decode cX3_suitBest 2 = .ok (.invokevirtual 131, 3) := by decide +kernel
theorem dX3_suitBest_5 : decode cX3_suitBest 5 = .ok (.iload_n 2, 1) := by decide +kernel
theorem dX3_suitBest_6 : decode cX3_suitBest 6 = .ok (.iconst 0, 1) := by decide +kernel
theorem dX3_suitBest_7 : decode cX3_suitBest 7 = .ok (.bipush 30, 2) := by decide +kernel
theorem dX3_suitBest_9 : decode cX3_suitBest 9 = .ok (.invokestatic 60, 3) := by decide +kernel
theorem dX3_suitBest_12 : decode cX3_suitBest 12 = .ok (.iload_n 3, 1) := by decide +kernel
theorem dX3_suitBest_13 : decode cX3_suitBest 13 = .ok (.iconst 2, 1) := by decide +kernel
theorem dX3_suitBest_14 : decode cX3_suitBest 14 = .ok (.invokestatic 101, 3) := by decide +kernel
theorem dX3_suitBest_17 : decode cX3_suitBest 17 = .ok (.invokestatic 104, 3) := by decide +kernel
theorem dX3_suitBest_20 : decode cX3_suitBest 20 = .ok (.istore 4, 2) := by decide +kernel
theorem dX3_suitBest_22 : decode cX3_suitBest 22 = .ok (.iload 4, 2) := by decide +kernel
theorem dX3_suitBest_24 : decode cX3_suitBest 24 = .ok (.ifCond .eq 10, 3) := by decide +kernel
theorem dX3_suitBest_27 : decode cX3_suitBest 27 = .ok (.aload_n 0, 1) := by decide +kernel
theorem dX3_suitBest_28 : decode cX3_suitBest 28 = .ok (.iload 4, 2) := by decide +kernel
theorem dX3_suitBest_30 : decode cX3_suitBest 30 = .ok (.invokevirtual 67, 3) := by decide +kernel
theorem dX3_suitBest_33 : decode cX3_suitBest 33 = .ok (.ireturn, 1) := by decide +kernel
theorem dX3_suitBest_34 : decode cX3_suitBest 34 = .ok (.bipush (-9), 2) := by decide +kernel
theorem dX3_suitBest_36 : decode cX3_suitBest 36 = .ok (.istore 5, 2) := by decide +kernel
theorem dX3_suitBest_38 : decode cX3_suitBest 38 = .ok (.aload_n 0, 1) := by decide +kernel
theorem dX3_suitBest_39 : decode cX3_suitBest 39 = .ok (.getfield 10, 3) := by decide +kernel
theorem dX3_suitBest_42 : decode cX3_suitBest 42 = .ok (.getfield 140, 3) := by decide +kernel
theorem dX3_suitBest_45 : decode cX3_suitBest 45 = .ok (.iload_n 1, 1) := by decide +kernel
theorem dX3_suitBest_46 : decode cX3_suitBest 46 = .ok (.iaload, 1) := by decide +kernel
theorem dX3_suitBest_47 : decode cX3_suitBest 47 = .ok (.istore 6, 2) := by decide +kernel
theorem dX3_suitBest_49 : decode cX3_suitBest 49 = .ok (.iconst 0, 1) := by decide +kernel
theorem dX3_suitBest_50 : decode cX3_suitBest 50 = .ok (.istore 7, 2) := by decide +kernel
theorem dX3_suitBest_52 : decode cX3_suitBest 52 = .ok (.iload 7, 2) := by decide +kernel
theorem dX3_suitBest_54 : decode cX3_suitBest 54 = .ok (.aload_n 0, 1) := by decide +kernel
theorem dX3_suitBest_55 : decode cX3_suitBest 55 = .ok (.getfield 10, 3) := by decide +kernel
theorem dX3_suitBest_58 : decode cX3_suitBest 58 = .ok (.getfield 188, 3) := by decide +kernel
theorem dX3_suitBest_61 : decode cX3_suitBest 61 = .ok (.if_icmp .ge 60, 3) := by decide +kernel
theorem dX3_suitBest_64 : decode cX3_suitBest 64 = .ok (.aload_n 0, 1) := by decide +kernel
theorem dX3_suitBest_65 : decode cX3_suitBest 65 = .ok (.invokevirtual 78, 3) := by decide +kernel
theorem dX3_suitBest_68 : decode cX3_suitBest 68 = .ok (.aload_n 0, 1) := by decide +kernel
theorem dX3_suitBest_69 : decode cX3_suitBest 69 = .ok (.getfield 16, 3) := by decide +kernel
theorem dX3_suitBest_72 : decode cX3_suitBest 72 = .ok (.iload_n 1, 1) := by decide +kernel
theorem dX3_suitBest_73 : decode cX3_suitBest 73 = .ok (.iload 7, 2) := by decide +kernel
theorem dX3_suitBest_75 : decode cX3_suitBest 75 = .ok (.invokevirtual 157, 3) := by decide +kernel
theorem dX3_suitBest_78 : decode cX3_suitBest 78 = .ok (.aload_n 0, 1) := by decide +kernel
theorem dX3_suitBest_79 : decode cX3_suitBest 79 = .ok (.getfield 16, 3) := by decide +kernel
theorem dX3_suitBest_82 : decode cX3_suitBest 82 = .ok (.iload_n 2, 1) := by decide +kernel
theorem dX3_suitBest_83 : decode cX3_suitBest 83 = .ok (.invokevirtual 164, 3) := by decide +kernel
theorem dX3_suitBest_86 : decode cX3_suitBest 86 = .ok (.aload_n 0, 1) := by decide +kernel
theorem dX3_suitBest_87 : decode cX3_suitBest 87 = .ok (.getfield 16, 3) := by decide +kernel
theorem dX3_suitBest_90 : decode cX3_suitBest 90 = .ok (.getfield 140, 3) := by decide +kernel
theorem dX3_suitBest_93 : decode cX3_suitBest 93 = .ok (.iload_n 1, 1) := by decide +kernel
theorem dX3_suitBest_94 : decode cX3_suitBest 94 = .ok (.iaload, 1) := by decide +kernel
theorem dX3_suitBest_95 : decode cX3_suitBest 95 = .ok (.iload 6, 2) := by decide +kernel
theorem dX3_suitBest_97 : decode cX3_suitBest 97 = .ok (.if_icmp .le 18, 3) := by decide +kernel
theorem dX3_suitBest_100 : decode cX3_suitBest 100 = .ok (.aload_n 0, 1) := by decide +kernel
theorem dX3_suitBest_101 : decode cX3_suitBest 101 = .ok (.getfield 16, 3) := by decide +kernel
theorem dX3_suitBest_104 : decode cX3_suitBest 104 = .ok (.getfield 140, 3) := by decide +kernel
theorem dX3_suitBest_107 : decode cX3_suitBest 107 = .ok (.iload_n 1, 1) := by decide +kernel
theorem dX3_suitBest_108 : decode cX3_suitBest 108 = .ok (.iaload, 1) := by decide +kernel
theorem dX3_suitBest_109 : decode cX3_suitBest 109 = .ok (.istore 6, 2) := by decide +kernel
theorem dX3_suitBest_111 : decode cX3_suitBest 111 = .ok (.iload 7, 2) := by decide +kernel
theorem dX3_suitBest_113 : decode cX3_suitBest 113 = .ok (.istore 5, 2) := by decide +kernel
theorem dX3_suitBest_115 : decode cX3_suitBest 115 = .ok (.iinc 7 1, 3) := by decide +kernel
theorem dX3_suitBest_118 : decode cX3_suitBest 118 = .ok (.goto (-66), 3) := by decide +kernel
theorem dX3_suitBest_121 : decode cX3_suitBest 121 = .ok (.iload_n 3, 1) := by decide +kernel
theorem dX3_suitBest_122 : decode cX3_suitBest 122 = .ok (.ifCond .eq 10, 3) := by decide +kernel
theorem dX3_suitBest_125 : decode cX3_suitBest 125 = .ok (.iload 5, 2) := by decide +kernel
theorem dX3_suitBest_127 : decode cX3_suitBest 127 = .ok (.bipush (-9), 2) := by decide +kernel
theorem dX3_suitBest_129 : decode cX3_suitBest 129 = .ok (.if_icmp .ne 8, 3) := by decide +kernel
theorem dX3_suitBest_132 : decode cX3_suitBest 132 = .ok (.iload 5, 2) := by decide +kernel
theorem dX3_suitBest_134 : decode cX3_suitBest 134 = .ok (.goto 5, 3) := by decide +kernel
theorem dX3_suitBest_137 : decode cX3_suitBest 137 = .ok (.iload 6, 2) := by decide +kernel
theorem dX3_suitBest_139 : decode cX3_suitBest 139 = .ok (.ireturn, 1) := by decide +kernel
theorem dX3_change_0 : decode cX3_change 0 = .ok (.iload_n 1, 1) := by decide +kernel
theorem dX3_change_1 : decode cX3_change 1 = .ok (.iconst 0, 1) := by decide +kernel
theorem dX3_change_2 : decode cX3_change 2 = .ok (.bipush 20, 2) := by decide +kernel
theorem dX3_change_4 : decode cX3_change 4 = .ok (.invokestatic 60, 3) := by decide +kernel
theorem dX3_change_7 : decode cX3_change 7 = .ok (.istore_n 2, 1) := by decide +kernel
theorem dX3_change_8 : decode cX3_change 8 = .ok (.iload_n 2, 1) := by decide +kernel
theorem dX3_change_9 : decode cX3_change 9 = .ok (.ifCond .eq 9, 3) := by decide +kernel
theorem dX3_change_12 : decode cX3_change 12 = .ok (.aload_n 0, 1) := by decide +kernel
theorem dX3_change_13 : decode cX3_change 13 = .ok (.iload_n 2, 1) := by decide +kernel
theorem dX3_change_14 : decode cX3_change 14 = .ok (.invokevirtual 67, 3) := by decide +kernel
theorem dX3_change_17 : decode cX3_change 17 = .ok (.ireturn, 1) := by decide +kernel
theorem dX3_change_18 : decode cX3_change 18 = .ok (.aload_n 0, 1) := by decide +kernel
theorem dX3_change_19 : decode cX3_change 19 = .ok (.invokevirtual 78, 3) := by decide +kernel
theorem dX3_change_22 : decode cX3_change 22 = .ok (.aload_n 0, 1) := by decide +kernel
theorem dX3_change_23 : decode cX3_change 23 = .ok (.iload_n 1, 1) := by decide +kernel
theorem dX3_change_24 : decode cX3_change 24 = .ok (.invokevirtual 177, 3) := by decide +kernel
theorem dX3_change_27 : decode cX3_change 27 = .ok (.istore_n 3, 1) := by decide +kernel
theorem dX3_change_28 : decode cX3_change 28 = .ok (.bipush (-9), 2) := by decide +kernel
theorem dX3_change_30 : decode cX3_change 30 = .ok (.istore 4, 2) := by decide +kernel
theorem dX3_change_32 : decode cX3_change 32 = .ok (.iconst 0, 1) := by decide +kernel
theorem dX3_change_33 : decode cX3_change 33 = .ok (.istore 5, 2) := by decide +kernel
theorem dX3_change_35 : decode cX3_change 35 = .ok (.iload 5, 2) := by decide +kernel
theorem dX3_change_37 : decode cX3_change 37 = .ok (.aload_n 0, 1) := by decide +kernel
theorem dX3_change_38 : decode cX3_change 38 = .ok (.getfield 10, 3) := by decide +kernel
theorem dX3_change_41 : decode cX3_change 41 = .ok (.getfield 191, 3) := by decide +kernel
theorem dX3_change_44 : decode cX3_change 44 = .ok (.if_icmp .ge 103, 3) := by decide +kernel
theorem dX3_change_47 : decode cX3_change 47 = .ok (.iload 5, 2) := by decide +kernel
theorem dX3_change_49 : decode cX3_change 49 = .ok (.iconst 1, 1) := by decide +kernel
theorem dX3_change_50 : decode cX3_change 50 = .ok (.iadd, 1) := by decide +kernel
theorem dX3_change_51 : decode cX3_change 51 = .ok (.istore 6, 2) := by decide +kernel
theorem dX3_change_53 : decode cX3_change 53 = .ok (.iload 6, 2) := by decide +kernel
theorem dX3_change_55 : decode cX3_change 55 = .ok (.aload_n 0, 1) := by decide +kernel
theorem dX3_change_56 : decode cX3_change 56 = .ok (.getfield 10, 3) := by decide +kernel
theorem dX3_change_59 : decode cX3_change 59 = .ok (.getfield 191, 3) := by decide +kernel
theorem dX3_change_62 : decode cX3_change 62 = .ok (.if_icmp .ge 79, 3) := by decide +kernel
theorem dX3_change_65 : decode cX3_change 65 = .ok (.aload_n 0, 1) := by decide +kernel
theorem dX3_change_66 : decode cX3_change 66 = .ok (.invokevirtual 78, 3) := by decide +kernel
theorem dX3_change_69 : decode cX3_change 69 = .ok (.aload_n 0, 1) := by decide +kernel
theorem dX3_change_70 : decode cX3_change 70 = .ok (.getfield 16, 3) := by decide +kernel
theorem dX3_change_73 : decode cX3_change 73 = .ok (.getfield 143, 3) := by decide +kernel
theorem dX3_change_76 : decode cX3_change 76 = .ok (.iload 5, 2) := by decide +kernel
theorem dX3_change_78 : decode cX3_change 78 = .ok (.aload_n 0, 1) := by decide +kernel
theorem dX3_change_79 : decode cX3_change 79 = .ok (.getfield 10, 3) := by decide +kernel
theorem dX3_change_82 : decode cX3_change 82 = .ok (.getfield 143, 3) := by decide +kernel
theorem dX3_change_85 : decode cX3_change 85 = .ok (.iload 6, 2) := by decide +kernel
theorem dX3_change_87 : decode cX3_change 87 = .ok (.iaload, 1) := by decide +kernel
theorem dX3_change_88 : decode cX3_change 88 = .ok (.iastore, 1) := by decide +kernel
theorem dX3_change_89 : decode cX3_change 89 = .ok (.aload_n 0, 1) := by decide +kernel
theorem dX3_change_90 : decode cX3_change 90 = .ok (.getfield 16, 3) := by decide +kernel
theorem dX3_change_93 : decode cX3_change 93 = .ok (.getfield 143, 3) := by decide +kernel
theorem dX3_change_96 : decode cX3_change 96 = .ok (.iload 6, 2) := by decide +kernel
theorem dX3_change_98 : decode cX3_change 98 = .ok (.aload_n 0, 1) := by decide +kernel
theorem dX3_change_99 : decode cX3_change 99 = .ok (.getfield 10, 3) := by decide +kernel
theorem dX3_change_102 : decode cX3_change 102 = .ok (.getfield 143, 3) := by decide +kernel
theorem dX3_change_105 : decode cX3_change 105 = .ok (.iload 5, 2) := by decide +kernel
theorem dX3_change_107 : decode cX3_change 107 = .ok (.iaload, 1) := by decide +kernel
theorem dX3_change_108 : decode cX3_change 108 = .ok (.iastore, 1) := by decide +kernel
theorem dX3_change_109 : decode cX3_change 109 = .ok (.aload_n 0, 1) := by decide +kernel
theorem dX3_change_110 : decode cX3_change 110 = .ok (.iload_n 1, 1) := by decide +kernel
theorem dX3_change_111 : decode cX3_change 111 = .ok (.invokevirtual 177, 3) := by decide +kernel
theorem dX3_change_114 : decode cX3_change 114 = .ok (.istore 7, 2) := by decide +kernel
theorem dX3_change_116 : decode cX3_change 116 = .ok (.iload 7, 2) := by decide +kernel
theorem dX3_change_118 : decode cX3_change 118 = .ok (.iload_n 3, 1) := by decide +kernel
theorem dX3_change_119 : decode cX3_change 119 = .ok (.if_icmp .le 16, 3) := by decide +kernel
theorem dX3_change_122 : decode cX3_change 122 = .ok (.iload 7, 2) := by decide +kernel
theorem dX3_change_124 : decode cX3_change 124 = .ok (.istore_n 3, 1) := by decide +kernel
theorem dX3_change_125 : decode cX3_change 125 = .ok (.bipush 10, 2) := by decide +kernel
theorem dX3_change_127 : decode cX3_change 127 = .ok (.iload 5, 2) := by decide +kernel
theorem dX3_change_129 : decode cX3_change 129 = .ok (.imul, 1) := by decide +kernel
theorem dX3_change_130 : decode cX3_change 130 = .ok (.iload 6, 2) := by decide +kernel
theorem dX3_change_132 : decode cX3_change 132 = .ok (.iadd, 1) := by decide +kernel
theorem dX3_change_133 : decode cX3_change 133 = .ok (.istore 4, 2) := by decide +kernel
theorem dX3_change_135 : decode cX3_change 135 = .ok (.iinc 6 1, 3) := by decide +kernel
theorem dX3_change_138 : decode cX3_change 138 = .ok (.goto (-85), 3) := by decide +kernel
theorem dX3_change_141 : decode cX3_change 141 = .ok (.iinc 5 1, 3) := by decide +kernel
theorem dX3_change_144 : decode cX3_change 144 = .ok (.goto (-109), 3) := by decide +kernel
theorem dX3_change_147 : decode cX3_change 147 = .ok (.iload 4, 2) := by decide +kernel
theorem dX3_change_149 : decode cX3_change 149 = .ok (.ireturn, 1) := by decide +kernel
theorem dX3_fewest_0 : decode cX3_fewest 0 = .ok (.iload_n 1, 1) := by decide +kernel
theorem dX3_fewest_1 : decode cX3_fewest 1 = .ok (.iconst 0, 1) := by decide +kernel
theorem dX3_fewest_2 : decode cX3_fewest 2 = .ok (.bipush 30, 2) := by decide +kernel
theorem dX3_fewest_4 : decode cX3_fewest 4 = .ok (.invokestatic 60, 3) := by decide +kernel
theorem dX3_fewest_7 : decode cX3_fewest 7 = .ok (.istore_n 2, 1) := by decide +kernel
theorem dX3_fewest_8 : decode cX3_fewest 8 = .ok (.iload_n 2, 1) := by decide +kernel
theorem dX3_fewest_9 : decode cX3_fewest 9 = .ok (.ifCond .eq 9, 3) := by decide +kernel
theorem dX3_fewest_12 : decode cX3_fewest 12 = .ok (.aload_n 0, 1) := by decide +kernel
theorem dX3_fewest_13 : decode cX3_fewest 13 = .ok (.iload_n 2, 1) := by decide +kernel
theorem dX3_fewest_14 : decode cX3_fewest 14 = .ok (.invokevirtual 67, 3) := by decide +kernel
theorem dX3_fewest_17 : decode cX3_fewest 17 = .ok (.ireturn, 1) := by decide +kernel
theorem dX3_fewest_18 : decode cX3_fewest 18 = .ok (.aload_n 0, 1) := by decide +kernel
theorem dX3_fewest_19 : decode cX3_fewest 19 = .ok (.invokevirtual 78, 3) := by decide +kernel
theorem dX3_fewest_22 : decode cX3_fewest 22 = .ok (.aload_n 0, 1) := by decide +kernel
theorem dX3_fewest_23 : decode cX3_fewest 23 = .ok (.getfield 16, 3) := by decide +kernel
theorem dX3_fewest_26 : decode cX3_fewest 26 = .ok (.iload_n 1, 1) := by decide +kernel
theorem dX3_fewest_27 : decode cX3_fewest 27 = .ok (.invokevirtual 164, 3) := by decide +kernel
theorem dX3_fewest_30 : decode cX3_fewest 30 = .ok (.iconst 0, 1) := by decide +kernel
theorem dX3_fewest_31 : decode cX3_fewest 31 = .ok (.istore_n 3, 1) := by decide +kernel
theorem dX3_fewest_32 : decode cX3_fewest 32 = .ok (.iconst 0, 1) := by decide +kernel
theorem dX3_fewest_33 : decode cX3_fewest 33 = .ok (.istore 4, 2) := by decide +kernel
theorem dX3_fewest_35 : decode cX3_fewest 35 = .ok (.iload 4, 2) := by decide +kernel
theorem dX3_fewest_37 : decode cX3_fewest 37 = .ok (.aload_n 0, 1) := by decide +kernel
theorem dX3_fewest_38 : decode cX3_fewest 38 = .ok (.getfield 10, 3) := by decide +kernel
theorem dX3_fewest_41 : decode cX3_fewest 41 = .ok (.getfield 191, 3) := by decide +kernel
theorem dX3_fewest_44 : decode cX3_fewest 44 = .ok (.if_icmp .ge 46, 3) := by decide +kernel
theorem dX3_fewest_47 : decode cX3_fewest 47 = .ok (.aload_n 0, 1) := by decide +kernel
theorem dX3_fewest_48 : decode cX3_fewest 48 = .ok (.getfield 10, 3) := by decide +kernel
theorem dX3_fewest_51 : decode cX3_fewest 51 = .ok (.getfield 140, 3) := by decide +kernel
theorem dX3_fewest_54 : decode cX3_fewest 54 = .ok (.iload 4, 2) := by decide +kernel
theorem dX3_fewest_56 : decode cX3_fewest 56 = .ok (.iaload, 1) := by decide +kernel
theorem dX3_fewest_57 : decode cX3_fewest 57 = .ok (.bipush 6, 2) := by decide +kernel
theorem dX3_fewest_59 : decode cX3_fewest 59 = .ok (.if_icmp .ge 25, 3) := by decide +kernel
theorem dX3_fewest_62 : decode cX3_fewest 62 = .ok (.aload_n 0, 1) := by decide +kernel
theorem dX3_fewest_63 : decode cX3_fewest 63 = .ok (.getfield 16, 3) := by decide +kernel
theorem dX3_fewest_66 : decode cX3_fewest 66 = .ok (.getfield 140, 3) := by decide +kernel
theorem dX3_fewest_69 : decode cX3_fewest 69 = .ok (.iload 4, 2) := by decide +kernel
theorem dX3_fewest_71 : decode cX3_fewest 71 = .ok (.iaload, 1) := by decide +kernel
theorem dX3_fewest_72 : decode cX3_fewest 72 = .ok (.bipush 6, 2) := by decide +kernel
theorem dX3_fewest_74 : decode cX3_fewest 74 = .ok (.if_icmp .lt 10, 3) := by decide +kernel
theorem dX3_fewest_77 : decode cX3_fewest 77 = .ok (.iload_n 3, 1) := by decide +kernel
theorem dX3_fewest_78 : decode cX3_fewest 78 = .ok (.iconst 1, 1) := by decide +kernel
theorem dX3_fewest_79 : decode cX3_fewest 79 = .ok (.iload 4, 2) := by decide +kernel
theorem dX3_fewest_81 : decode cX3_fewest 81 = .ok (.ishl, 1) := by decide +kernel
theorem dX3_fewest_82 : decode cX3_fewest 82 = .ok (.ior, 1) := by decide +kernel
theorem dX3_fewest_83 : decode cX3_fewest 83 = .ok (.istore_n 3, 1) := by decide +kernel
theorem dX3_fewest_84 : decode cX3_fewest 84 = .ok (.iinc 4 1, 3) := by decide +kernel
theorem dX3_fewest_87 : decode cX3_fewest 87 = .ok (.goto (-52), 3) := by decide +kernel
theorem dX3_fewest_90 : decode cX3_fewest 90 = .ok (.iload_n 3, 1) := by decide +kernel
theorem dX3_fewest_91 : decode cX3_fewest 91 = .ok (.ireturn, 1) := by decide +kernel
theorem dX3_spare_0 : decode cX3_spare 0 = .ok (.iload_n 1, 1) := by decide +kernel
theorem dX3_spare_1 : decode cX3_spare 1 = .ok (.iconst 1, 1) := by decide +kernel
theorem dX3_spare_2 : decode cX3_spare 2 = .ok (.bipush 30, 2) := by decide +kernel
theorem dX3_spare_4 : decode cX3_spare 4 = .ok (.invokestatic 60, 3) := by decide +kernel
theorem dX3_spare_7 : decode cX3_spare 7 = .ok (.iload_n 2, 1) := by decide +kernel
theorem dX3_spare_8 : decode cX3_spare 8 = .ok (.iconst 2, 1) := by decide +kernel
theorem dX3_spare_9 : decode cX3_spare 9 = .ok (.invokestatic 101, 3) := by decide +kernel
theorem dX3_spare_12 : decode cX3_spare 12 = .ok (.iconst 0, 1) := by decide +kernel
theorem dX3_spare_13 : decode cX3_spare 13 = .ok (.invokestatic 104, 3) := by decide +kernel
theorem dX3_spare_16 : decode cX3_spare 16 = .ok (.istore_n 3, 1) := by decide +kernel
theorem dX3_spare_17 : decode cX3_spare 17 = .ok (.iload_n 3, 1) := by decide +kernel
theorem dX3_spare_18 : decode cX3_spare 18 = .ok (.ifCond .eq 9, 3) := by decide +kernel
theorem dX3_spare_21 : decode cX3_spare 21 = .ok (.aload_n 0, 1) := by decide +kernel
theorem dX3_spare_22 : decode cX3_spare 22 = .ok (.iload_n 3, 1) := by decide +kernel
theorem dX3_spare_23 : decode cX3_spare 23 = .ok (.invokevirtual 67, 3) := by decide +kernel
theorem dX3_spare_26 : decode cX3_spare 26 = .ok (.ireturn, 1) := by decide +kernel
theorem dX3_spare_27 : decode cX3_spare 27 = .ok (.bipush (-9), 2) := by decide +kernel
theorem dX3_spare_29 : decode cX3_spare 29 = .ok (.istore 4, 2) := by decide +kernel
theorem dX3_spare_31 : decode cX3_spare 31 = .ok (.bipush (-9), 2) := by decide +kernel
theorem dX3_spare_33 : decode cX3_spare 33 = .ok (.istore 5, 2) := by decide +kernel
theorem dX3_spare_35 : decode cX3_spare 35 = .ok (.iconst 0, 1) := by decide +kernel
theorem dX3_spare_36 : decode cX3_spare 36 = .ok (.istore 6, 2) := by decide +kernel
theorem dX3_spare_38 : decode cX3_spare 38 = .ok (.iload 6, 2) := by decide +kernel
theorem dX3_spare_40 : decode cX3_spare 40 = .ok (.aload_n 0, 1) := by decide +kernel
theorem dX3_spare_41 : decode cX3_spare 41 = .ok (.getfield 10, 3) := by decide +kernel
theorem dX3_spare_44 : decode cX3_spare 44 = .ok (.getfield 191, 3) := by decide +kernel
theorem dX3_spare_47 : decode cX3_spare 47 = .ok (.if_icmp .ge 62, 3) := by decide +kernel
theorem dX3_spare_50 : decode cX3_spare 50 = .ok (.aload_n 0, 1) := by decide +kernel
theorem dX3_spare_51 : decode cX3_spare 51 = .ok (.getfield 10, 3) := by decide +kernel
theorem dX3_spare_54 : decode cX3_spare 54 = .ok (.getfield 143, 3) := by decide +kernel
theorem dX3_spare_57 : decode cX3_spare 57 = .ok (.iload 6, 2) := by decide +kernel
theorem dX3_spare_59 : decode cX3_spare 59 = .ok (.iaload, 1) := by decide +kernel
theorem dX3_spare_60 : decode cX3_spare 60 = .ok (.bipush (-9), 2) := by decide +kernel
theorem dX3_spare_62 : decode cX3_spare 62 = .ok (.if_icmp .eq 41, 3) := by decide +kernel
theorem dX3_spare_65 : decode cX3_spare 65 = .ok (.aload_n 0, 1) := by decide +kernel
theorem dX3_spare_66 : decode cX3_spare 66 = .ok (.invokevirtual 78, 3) := by decide +kernel
theorem dX3_spare_69 : decode cX3_spare 69 = .ok (.aload_n 0, 1) := by decide +kernel
theorem dX3_spare_70 : decode cX3_spare 70 = .ok (.getfield 16, 3) := by decide +kernel
theorem dX3_spare_73 : decode cX3_spare 73 = .ok (.getfield 143, 3) := by decide +kernel
theorem dX3_spare_76 : decode cX3_spare 76 = .ok (.iload 6, 2) := by decide +kernel
theorem dX3_spare_78 : decode cX3_spare 78 = .ok (.bipush (-9), 2) := by decide +kernel
theorem dX3_spare_80 : decode cX3_spare 80 = .ok (.iastore, 1) := by decide +kernel
theorem dX3_spare_81 : decode cX3_spare 81 = .ok (.aload_n 0, 1) := by decide +kernel
theorem dX3_spare_82 : decode cX3_spare 82 = .ok (.iload_n 1, 1) := by decide +kernel
theorem dX3_spare_83 : decode cX3_spare 83 = .ok (.invokevirtual 177, 3) := by decide +kernel
theorem dX3_spare_86 : decode cX3_spare 86 = .ok (.istore 7, 2) := by decide +kernel
theorem dX3_spare_88 : decode cX3_spare 88 = .ok (.iload 7, 2) := by decide +kernel
theorem dX3_spare_90 : decode cX3_spare 90 = .ok (.iload 5, 2) := by decide +kernel
theorem dX3_spare_92 : decode cX3_spare 92 = .ok (.if_icmp .le 11, 3) := by decide +kernel
theorem dX3_spare_95 : decode cX3_spare 95 = .ok (.iload 7, 2) := by decide +kernel
theorem dX3_spare_97 : decode cX3_spare 97 = .ok (.istore 5, 2) := by decide +kernel
theorem dX3_spare_99 : decode cX3_spare 99 = .ok (.iload 6, 2) := by decide +kernel
theorem dX3_spare_101 : decode cX3_spare 101 = .ok (.istore 4, 2) := by decide +kernel
theorem dX3_spare_103 : decode cX3_spare 103 = .ok (.iinc 6 1, 3) := by decide +kernel
theorem dX3_spare_106 : decode cX3_spare 106 = .ok (.goto (-68), 3) := by decide +kernel
theorem dX3_spare_109 : decode cX3_spare 109 = .ok (.iload_n 2, 1) := by decide +kernel
theorem dX3_spare_110 : decode cX3_spare 110 = .ok (.ifCond .ne 8, 3) := by decide +kernel
theorem dX3_spare_113 : decode cX3_spare 113 = .ok (.iload 4, 2) := by decide +kernel
theorem dX3_spare_115 : decode cX3_spare 115 = .ok (.goto 5, 3) := by decide +kernel
theorem dX3_spare_118 : decode cX3_spare 118 = .ok (.iload 5, 2) := by decide +kernel
theorem dX3_spare_120 : decode cX3_spare 120 = .ok (.ireturn, 1) := by decide +kernel
theorem dX3_cheer_0 : decode cX3_cheer 0 = .ok (.iload_n 1, 1) := by decide +kernel
theorem dX3_cheer_1 : decode cX3_cheer 1 = .ok (.iconst 0, 1) := by decide +kernel
theorem dX3_cheer_2 : decode cX3_cheer 2 = .ok (.bipush 30, 2) := by decide +kernel
theorem dX3_cheer_4 : decode cX3_cheer 4 = .ok (.invokestatic 60, 3) := by decide +kernel
theorem dX3_cheer_7 : decode cX3_cheer 7 = .ok (.istore_n 2, 1) := by decide +kernel
theorem dX3_cheer_8 : decode cX3_cheer 8 = .ok (.iload_n 2, 1) := by decide +kernel
theorem dX3_cheer_9 : decode cX3_cheer 9 = .ok (.ifCond .eq 9, 3) := by decide +kernel
theorem dX3_cheer_12 : decode cX3_cheer 12 = .ok (.aload_n 0, 1) := by decide +kernel
theorem dX3_cheer_13 : decode cX3_cheer 13 = .ok (.iload_n 2, 1) := by decide +kernel
theorem dX3_cheer_14 : decode cX3_cheer 14 = .ok (.invokevirtual 67, 3) := by decide +kernel
theorem dX3_cheer_17 : decode cX3_cheer 17 = .ok (.ireturn, 1) := by decide +kernel
theorem dX3_cheer_18 : decode cX3_cheer 18 = .ok (.aload_n 0, 1) := by decide +kernel
theorem dX3_cheer_19 : decode cX3_cheer 19 = .ok (.invokevirtual 78, 3) := by decide +kernel
theorem dX3_cheer_22 : decode cX3_cheer 22 = .ok (.aload_n 0, 1) := by decide +kernel
theorem dX3_cheer_23 : decode cX3_cheer 23 = .ok (.iload_n 1, 1) := by decide +kernel
theorem dX3_cheer_24 : decode cX3_cheer 24 = .ok (.invokevirtual 177, 3) := by decide +kernel
theorem dX3_cheer_27 : decode cX3_cheer 27 = .ok (.istore_n 3, 1) := by decide +kernel
theorem dX3_cheer_28 : decode cX3_cheer 28 = .ok (.bipush (-9), 2) := by decide +kernel
theorem dX3_cheer_30 : decode cX3_cheer 30 = .ok (.istore 4, 2) := by decide +kernel
theorem dX3_cheer_32 : decode cX3_cheer 32 = .ok (.iconst 0, 1) := by decide +kernel
theorem dX3_cheer_33 : decode cX3_cheer 33 = .ok (.istore 5, 2) := by decide +kernel
theorem dX3_cheer_35 : decode cX3_cheer 35 = .ok (.iload 5, 2) := by decide +kernel
theorem dX3_cheer_37 : decode cX3_cheer 37 = .ok (.aload_n 0, 1) := by decide +kernel
theorem dX3_cheer_38 : decode cX3_cheer 38 = .ok (.getfield 10, 3) := by decide +kernel
theorem dX3_cheer_41 : decode cX3_cheer 41 = .ok (.getfield 191, 3) := by decide +kernel
theorem dX3_cheer_44 : decode cX3_cheer 44 = .ok (.if_icmp .ge 59, 3) := by decide +kernel
theorem dX3_cheer_47 : decode cX3_cheer 47 = .ok (.aload_n 0, 1) := by decide +kernel
theorem dX3_cheer_48 : decode cX3_cheer 48 = .ok (.invokevirtual 78, 3) := by decide +kernel
theorem dX3_cheer_51 : decode cX3_cheer 51 = .ok (.aload_n 0, 1) := by decide +kernel
theorem dX3_cheer_52 : decode cX3_cheer 52 = .ok (.getfield 16, 3) := by decide +kernel
theorem dX3_cheer_55 : decode cX3_cheer 55 = .ok (.getfield 134, 3) := by decide +kernel
theorem dX3_cheer_58 : decode cX3_cheer 58 = .ok (.iload 5, 2) := by decide +kernel
theorem dX3_cheer_60 : decode cX3_cheer 60 = .ok (.aload_n 0, 1) := by decide +kernel
theorem dX3_cheer_61 : decode cX3_cheer 61 = .ok (.getfield 10, 3) := by decide +kernel
theorem dX3_cheer_64 : decode cX3_cheer 64 = .ok (.getfield 134, 3) := by decide +kernel
theorem dX3_cheer_67 : decode cX3_cheer 67 = .ok (.iload 5, 2) := by decide +kernel
theorem dX3_cheer_69 : decode cX3_cheer 69 = .ok (.iaload, 1) := by decide +kernel
theorem dX3_cheer_70 : decode cX3_cheer 70 = .ok (.iconst 3, 1) := by decide +kernel
theorem dX3_cheer_71 : decode cX3_cheer 71 = .ok (.isub, 1) := by decide +kernel
theorem dX3_cheer_72 : decode cX3_cheer 72 = .ok (.iconst 0, 1) := by decide +kernel
theorem dX3_cheer_73 : decode cX3_cheer 73 = .ok (.invokestatic 88, 3) := by decide +kernel
theorem dX3_cheer_76 : decode cX3_cheer 76 = .ok (.iastore, 1) := by decide +kernel
theorem dX3_cheer_77 : decode cX3_cheer 77 = .ok (.aload_n 0, 1) := by decide +kernel
theorem dX3_cheer_78 : decode cX3_cheer 78 = .ok (.iload_n 1, 1) := by decide +kernel
theorem dX3_cheer_79 : decode cX3_cheer 79 = .ok (.invokevirtual 177, 3) := by decide +kernel
theorem dX3_cheer_82 : decode cX3_cheer 82 = .ok (.istore 6, 2) := by decide +kernel
theorem dX3_cheer_84 : decode cX3_cheer 84 = .ok (.iload 6, 2) := by decide +kernel
theorem dX3_cheer_86 : decode cX3_cheer 86 = .ok (.iload_n 3, 1) := by decide +kernel
theorem dX3_cheer_87 : decode cX3_cheer 87 = .ok (.if_icmp .le 10, 3) := by decide +kernel
theorem dX3_cheer_90 : decode cX3_cheer 90 = .ok (.iload 6, 2) := by decide +kernel
theorem dX3_cheer_92 : decode cX3_cheer 92 = .ok (.istore_n 3, 1) := by decide +kernel
theorem dX3_cheer_93 : decode cX3_cheer 93 = .ok (.iload 5, 2) := by decide +kernel
theorem dX3_cheer_95 : decode cX3_cheer 95 = .ok (.istore 4, 2) := by decide +kernel
theorem dX3_cheer_97 : decode cX3_cheer 97 = .ok (.iinc 5 1, 3) := by decide +kernel
theorem dX3_cheer_100 : decode cX3_cheer 100 = .ok (.goto (-65), 3) := by decide +kernel
theorem dX3_cheer_103 : decode cX3_cheer 103 = .ok (.iload 4, 2) := by decide +kernel
theorem dX3_cheer_105 : decode cX3_cheer 105 = .ok (.ireturn, 1) := by decide +kernel
theorem dX3_boldest_0 : decode cX3_boldest 0 = .ok (.iload_n 1, 1) := by decide +kernel
theorem dX3_boldest_1 : decode cX3_boldest 1 = .ok (.iconst 2, 1) := by decide +kernel
theorem dX3_boldest_2 : decode cX3_boldest 2 = .ok (.invokestatic 101, 3) := by decide +kernel
theorem dX3_boldest_5 : decode cX3_boldest 5 = .ok (.istore_n 2, 1) := by decide +kernel
theorem dX3_boldest_6 : decode cX3_boldest 6 = .ok (.iload_n 2, 1) := by decide +kernel
theorem dX3_boldest_7 : decode cX3_boldest 7 = .ok (.ifCond .eq 9, 3) := by decide +kernel
theorem dX3_boldest_10 : decode cX3_boldest 10 = .ok (.aload_n 0, 1) := by decide +kernel
theorem dX3_boldest_11 : decode cX3_boldest 11 = .ok (.iload_n 2, 1) := by decide +kernel
theorem dX3_boldest_12 : decode cX3_boldest 12 = .ok (.invokevirtual 67, 3) := by decide +kernel
theorem dX3_boldest_15 : decode cX3_boldest 15 = .ok (.ireturn, 1) := by decide +kernel
theorem dX3_boldest_16 : decode cX3_boldest 16 = .ok (.bipush (-9), 2) := by decide +kernel
theorem dX3_boldest_18 : decode cX3_boldest 18 = .ok (.istore_n 3, 1) := by decide +kernel
theorem dX3_boldest_19 : decode cX3_boldest 19 = .ok (.iconst 0, 1) := by decide +kernel
theorem dX3_boldest_20 : decode cX3_boldest 20 = .ok (.istore 4, 2) := by decide +kernel
theorem dX3_boldest_22 : decode cX3_boldest 22 = .ok (.iconst 0, 1) := by decide +kernel
theorem dX3_boldest_23 : decode cX3_boldest 23 = .ok (.istore 5, 2) := by decide +kernel
theorem dX3_boldest_25 : decode cX3_boldest 25 = .ok (.iload 5, 2) := by decide +kernel
theorem dX3_boldest_27 : decode cX3_boldest 27 = .ok (.aload_n 0, 1) := by decide +kernel
theorem dX3_boldest_28 : decode cX3_boldest 28 = .ok (.getfield 10, 3) := by decide +kernel
theorem dX3_boldest_31 : decode cX3_boldest 31 = .ok (.getfield 191, 3) := by decide +kernel
theorem dX3_boldest_34 : decode cX3_boldest 34 = .ok (.if_icmp .ge 57, 3) := by decide +kernel
theorem dX3_boldest_37 : decode cX3_boldest 37 = .ok (.iload_n 1, 1) := by decide +kernel
theorem dX3_boldest_38 : decode cX3_boldest 38 = .ok (.ifCond .ne 15, 3) := by decide +kernel
theorem dX3_boldest_41 : decode cX3_boldest 41 = .ok (.aload_n 0, 1) := by decide +kernel
theorem dX3_boldest_42 : decode cX3_boldest 42 = .ok (.getfield 10, 3) := by decide +kernel
theorem dX3_boldest_45 : decode cX3_boldest 45 = .ok (.iload 5, 2) := by decide +kernel
theorem dX3_boldest_47 : decode cX3_boldest 47 = .ok (.invokevirtual 154, 3) := by decide +kernel
theorem dX3_boldest_50 : decode cX3_boldest 50 = .ok (.goto 13, 3) := by decide +kernel
theorem dX3_boldest_53 : decode cX3_boldest 53 = .ok (.aload_n 0, 1) := by decide +kernel
theorem dX3_boldest_54 : decode cX3_boldest 54 = .ok (.getfield 10, 3) := by decide +kernel
theorem dX3_boldest_57 : decode cX3_boldest 57 = .ok (.getfield 137, 3) := by decide +kernel
theorem dX3_boldest_60 : decode cX3_boldest 60 = .ok (.iload 5, 2) := by decide +kernel
theorem dX3_boldest_62 : decode cX3_boldest 62 = .ok (.iaload, 1) := by decide +kernel
theorem dX3_boldest_63 : decode cX3_boldest 63 = .ok (.istore 6, 2) := by decide +kernel
theorem dX3_boldest_65 : decode cX3_boldest 65 = .ok (.iload_n 3, 1) := by decide +kernel
theorem dX3_boldest_66 : decode cX3_boldest 66 = .ok (.bipush (-9), 2) := by decide +kernel
theorem dX3_boldest_68 : decode cX3_boldest 68 = .ok (.if_icmp .eq 10, 3) := by decide +kernel
theorem dX3_boldest_71 : decode cX3_boldest 71 = .ok (.iload 6, 2) := by decide +kernel
theorem dX3_boldest_73 : decode cX3_boldest 73 = .ok (.iload 4, 2) := by decide +kernel
theorem dX3_boldest_75 : decode cX3_boldest 75 = .ok (.if_icmp .le 10, 3) := by decide +kernel
theorem dX3_boldest_78 : decode cX3_boldest 78 = .ok (.iload 6, 2) := by decide +kernel
theorem dX3_boldest_80 : decode cX3_boldest 80 = .ok (.istore 4, 2) := by decide +kernel
theorem dX3_boldest_82 : decode cX3_boldest 82 = .ok (.iload 5, 2) := by decide +kernel
theorem dX3_boldest_84 : decode cX3_boldest 84 = .ok (.istore_n 3, 1) := by decide +kernel
theorem dX3_boldest_85 : decode cX3_boldest 85 = .ok (.iinc 5 1, 3) := by decide +kernel
theorem dX3_boldest_88 : decode cX3_boldest 88 = .ok (.goto (-63), 3) := by decide +kernel
theorem dX3_boldest_91 : decode cX3_boldest 91 = .ok (.iload_n 3, 1) := by decide +kernel
theorem dX3_boldest_92 : decode cX3_boldest 92 = .ok (.ireturn, 1) := by decide +kernel
theorem dX3_left_0 : decode cX3_left 0 = .ok (.iconst 0, 1) := by decide +kernel
theorem dX3_left_1 : decode cX3_left 1 = .ok (.istore_n 1, 1) := by decide +kernel
theorem dX3_left_2 : decode cX3_left 2 = .ok (.iconst 0, 1) := by decide +kernel
theorem dX3_left_3 : decode cX3_left 3 = .ok (.istore_n 2, 1) := by decide +kernel
theorem dX3_left_4 : decode cX3_left 4 = .ok (.iload_n 2, 1) := by decide +kernel
theorem dX3_left_5 : decode cX3_left 5 = .ok (.aload_n 0, 1) := by decide +kernel
theorem dX3_left_6 : decode cX3_left 6 = .ok (.getfield 10, 3) := by decide +kernel
theorem dX3_left_9 : decode cX3_left 9 = .ok (.getfield 188, 3) := by decide +kernel
theorem dX3_left_12 : decode cX3_left 12 = .ok (.if_icmp .ge 28, 3) := by decide +kernel
theorem dX3_left_15 : decode cX3_left 15 = .ok (.aload_n 0, 1) := by decide +kernel
theorem dX3_left_16 : decode cX3_left 16 = .ok (.getfield 10, 3) := by decide +kernel
theorem dX3_left_19 : decode cX3_left 19 = .ok (.iload_n 2, 1) := by decide +kernel
theorem dX3_left_20 : decode cX3_left 20 = .ok (.invokevirtual 128, 3) := by decide +kernel
theorem dX3_left_23 : decode cX3_left 23 = .ok (.bipush (-9), 2) := by decide +kernel
theorem dX3_left_25 : decode cX3_left 25 = .ok (.if_icmp .ne 9, 3) := by decide +kernel
theorem dX3_left_28 : decode cX3_left 28 = .ok (.iload_n 1, 1) := by decide +kernel
theorem dX3_left_29 : decode cX3_left 29 = .ok (.iconst 1, 1) := by decide +kernel
theorem dX3_left_30 : decode cX3_left 30 = .ok (.iload_n 2, 1) := by decide +kernel
theorem dX3_left_31 : decode cX3_left 31 = .ok (.ishl, 1) := by decide +kernel
theorem dX3_left_32 : decode cX3_left 32 = .ok (.ior, 1) := by decide +kernel
theorem dX3_left_33 : decode cX3_left 33 = .ok (.istore_n 1, 1) := by decide +kernel
theorem dX3_left_34 : decode cX3_left 34 = .ok (.iinc 2 1, 3) := by decide +kernel
theorem dX3_left_37 : decode cX3_left 37 = .ok (.goto (-33), 3) := by decide +kernel
theorem dX3_left_40 : decode cX3_left 40 = .ok (.iload_n 1, 1) := by decide +kernel
theorem dX3_left_41 : decode cX3_left 41 = .ok (.ireturn, 1) := by decide +kernel
theorem dX3_order_0 : decode cX3_order 0 = .ok (.iload_n 1, 1) := by decide +kernel
theorem dX3_order_1 : decode cX3_order 1 = .ok (.ifCond .ge 10, 3) := by decide +kernel
theorem dX3_order_4 : decode cX3_order 4 = .ok (.aload_n 0, 1) := by decide +kernel
theorem dX3_order_5 : decode cX3_order 5 = .ok (.bipush (-4), 2) := by decide +kernel
theorem dX3_order_7 : decode cX3_order 7 = .ok (.invokevirtual 67, 3) := by decide +kernel
theorem dX3_order_10 : decode cX3_order 10 = .ok (.ireturn, 1) := by decide +kernel
theorem dX3_order_11 : decode cX3_order 11 = .ok (.iconst 0, 1) := by decide +kernel
theorem dX3_order_12 : decode cX3_order 12 = .ok (.istore_n 2, 1) := by decide +kernel
theorem dX3_order_13 : decode cX3_order 13 = .ok (.iload_n 2, 1) := by decide +kernel
theorem dX3_order_14 : decode cX3_order 14 = .ok (.aload_n 0, 1) := by decide +kernel
theorem dX3_order_15 : decode cX3_order 15 = .ok (.getfield 10, 3) := by decide +kernel
theorem dX3_order_18 : decode cX3_order 18 = .ok (.getfield 188, 3) := by decide +kernel
theorem dX3_order_21 : decode cX3_order 21 = .ok (.if_icmp .ge 20, 3) := by decide +kernel
theorem dX3_order_24 : decode cX3_order 24 = .ok (.aload_n 0, 1) := by decide +kernel
theorem dX3_order_25 : decode cX3_order 25 = .ok (.iload_n 2, 1) := by decide +kernel
theorem dX3_order_26 : decode cX3_order 26 = .ok (.invokevirtual 194, 3) := by decide +kernel
theorem dX3_order_29 : decode cX3_order 29 = .ok (.iload_n 1, 1) := by decide +kernel
theorem dX3_order_30 : decode cX3_order 30 = .ok (.if_icmp .ne 5, 3) := by decide +kernel
theorem dX3_order_33 : decode cX3_order 33 = .ok (.iload_n 2, 1) := by decide +kernel
theorem dX3_order_34 : decode cX3_order 34 = .ok (.ireturn, 1) := by decide +kernel
theorem dX3_order_35 : decode cX3_order 35 = .ok (.iinc 2 1, 3) := by decide +kernel
theorem dX3_order_38 : decode cX3_order 38 = .ok (.goto (-25), 3) := by decide +kernel
theorem dX3_order_41 : decode cX3_order 41 = .ok (.bipush (-9), 2) := by decide +kernel
theorem dX3_order_43 : decode cX3_order 43 = .ok (.ireturn, 1) := by decide +kernel
theorem dX3_heard_0 : decode cX3_heard 0 = .ok (.iload_n 1, 1) := by decide +kernel
theorem dX3_heard_1 : decode cX3_heard 1 = .ok (.ifCond .lt 9, 3) := by decide +kernel
theorem dX3_heard_4 : decode cX3_heard 4 = .ok (.iload_n 1, 1) := by decide +kernel
theorem dX3_heard_5 : decode cX3_heard 5 = .ok (.bipush 6, 2) := by decide +kernel
theorem dX3_heard_7 : decode cX3_heard 7 = .ok (.if_icmp .lt 9, 3) := by decide +kernel
theorem dX3_heard_10 : decode cX3_heard 10 = .ok (.aload_n 0, 1) := by decide +kernel
theorem dX3_heard_11 : decode cX3_heard 11 = .ok (.iconst (-1), 1) := by decide +kernel
theorem dX3_heard_12 : decode cX3_heard 12 = .ok (.invokevirtual 67, 3) := by decide +kernel
theorem dX3_heard_15 : decode cX3_heard 15 = .ok (.ireturn, 1) := by decide +kernel
theorem dX3_heard_16 : decode cX3_heard 16 = .ok (.iconst 0, 1) := by decide +kernel
theorem dX3_heard_17 : decode cX3_heard 17 = .ok (.istore_n 2, 1) := by decide +kernel
theorem dX3_heard_18 : decode cX3_heard 18 = .ok (.iconst 0, 1) := by decide +kernel
theorem dX3_heard_19 : decode cX3_heard 19 = .ok (.istore_n 3, 1) := by decide +kernel
theorem dX3_heard_20 : decode cX3_heard 20 = .ok (.iload_n 3, 1) := by decide +kernel
theorem dX3_heard_21 : decode cX3_heard 21 = .ok (.aload_n 0, 1) := by decide +kernel
theorem dX3_heard_22 : decode cX3_heard 22 = .ok (.getfield 10, 3) := by decide +kernel
theorem dX3_heard_25 : decode cX3_heard 25 = .ok (.getfield 191, 3) := by decide +kernel
theorem dX3_heard_28 : decode cX3_heard 28 = .ok (.if_icmp .ge 25, 3) := by decide +kernel
theorem dX3_heard_31 : decode cX3_heard 31 = .ok (.aload_n 0, 1) := by decide +kernel
theorem dX3_heard_32 : decode cX3_heard 32 = .ok (.getfield 10, 3) := by decide +kernel
theorem dX3_heard_35 : decode cX3_heard 35 = .ok (.getfield 140, 3) := by decide +kernel
theorem dX3_heard_38 : decode cX3_heard 38 = .ok (.iload_n 3, 1) := by decide +kernel
theorem dX3_heard_39 : decode cX3_heard 39 = .ok (.iaload, 1) := by decide +kernel
theorem dX3_heard_40 : decode cX3_heard 40 = .ok (.iload_n 1, 1) := by decide +kernel
theorem dX3_heard_41 : decode cX3_heard 41 = .ok (.if_icmp .le 6, 3) := by decide +kernel
theorem dX3_heard_44 : decode cX3_heard 44 = .ok (.iinc 2 1, 3) := by decide +kernel
theorem dX3_heard_47 : decode cX3_heard 47 = .ok (.iinc 3 1, 3) := by decide +kernel
theorem dX3_heard_50 : decode cX3_heard 50 = .ok (.goto (-30), 3) := by decide +kernel
theorem dX3_heard_53 : decode cX3_heard 53 = .ok (.iload_n 2, 1) := by decide +kernel
theorem dX3_heard_54 : decode cX3_heard 54 = .ok (.ireturn, 1) := by decide +kernel
theorem dX3_rusted_0 : decode cX3_rusted 0 = .ok (.aload_n 0, 1) := by decide +kernel
theorem dX3_rusted_1 : decode cX3_rusted 1 = .ok (.iload_n 1, 1) := by decide +kernel
theorem dX3_rusted_2 : decode cX3_rusted 2 = .ok (.invokevirtual 98, 3) := by decide +kernel
theorem dX3_rusted_5 : decode cX3_rusted 5 = .ok (.istore_n 2, 1) := by decide +kernel
theorem dX3_rusted_6 : decode cX3_rusted 6 = .ok (.iload_n 2, 1) := by decide +kernel
theorem dX3_rusted_7 : decode cX3_rusted 7 = .ok (.ifCond .eq 9, 3) := by decide +kernel
theorem dX3_rusted_10 : decode cX3_rusted 10 = .ok (.aload_n 0, 1) := by decide +kernel
theorem dX3_rusted_11 : decode cX3_rusted 11 = .ok (.iload_n 2, 1) := by decide +kernel
theorem dX3_rusted_12 : decode cX3_rusted 12 = .ok (.invokevirtual 67, 3) := by decide +kernel
theorem dX3_rusted_15 : decode cX3_rusted 15 = .ok (.ireturn, 1) := by decide +kernel
theorem dX3_rusted_16 : decode cX3_rusted 16 = .ok (.aload_n 0, 1) := by decide +kernel
theorem dX3_rusted_17 : decode cX3_rusted 17 = .ok (.getfield 10, 3) := by decide +kernel
theorem dX3_rusted_20 : decode cX3_rusted 20 = .ok (.iload_n 1, 1) := by decide +kernel
theorem dX3_rusted_21 : decode cX3_rusted 21 = .ok (.invokevirtual 128, 3) := by decide +kernel
theorem dX3_rusted_24 : decode cX3_rusted 24 = .ok (.istore_n 3, 1) := by decide +kernel
theorem dX3_rusted_25 : decode cX3_rusted 25 = .ok (.iload_n 3, 1) := by decide +kernel
theorem dX3_rusted_26 : decode cX3_rusted 26 = .ok (.bipush (-9), 2) := by decide +kernel
theorem dX3_rusted_28 : decode cX3_rusted 28 = .ok (.if_icmp .eq 17, 3) := by decide +kernel
theorem dX3_rusted_31 : decode cX3_rusted 31 = .ok (.aload_n 0, 1) := by decide +kernel
theorem dX3_rusted_32 : decode cX3_rusted 32 = .ok (.getfield 10, 3) := by decide +kernel
theorem dX3_rusted_35 : decode cX3_rusted 35 = .ok (.getfield 140, 3) := by decide +kernel
theorem dX3_rusted_38 : decode cX3_rusted 38 = .ok (.iload_n 3, 1) := by decide +kernel
theorem dX3_rusted_39 : decode cX3_rusted 39 = .ok (.iaload, 1) := by decide +kernel
theorem dX3_rusted_40 : decode cX3_rusted 40 = .ok (.bipush 6, 2) := by decide +kernel
theorem dX3_rusted_42 : decode cX3_rusted 42 = .ok (.if_icmp .lt 6, 3) := by decide +kernel
theorem dX3_rusted_45 : decode cX3_rusted 45 = .ok (.bipush (-9), 2) := by decide +kernel
theorem dX3_rusted_47 : decode cX3_rusted 47 = .ok (.ireturn, 1) := by decide +kernel
theorem dX3_rusted_48 : decode cX3_rusted 48 = .ok (.iconst 0, 1) := by decide +kernel
theorem dX3_rusted_49 : decode cX3_rusted 49 = .ok (.istore 4, 2) := by decide +kernel
theorem dX3_rusted_51 : decode cX3_rusted 51 = .ok (.iload 4, 2) := by decide +kernel
theorem dX3_rusted_53 : decode cX3_rusted 53 = .ok (.bipush 9, 2) := by decide +kernel
theorem dX3_rusted_55 : decode cX3_rusted 55 = .ok (.if_icmp .gt 33, 3) := by decide +kernel
theorem dX3_rusted_58 : decode cX3_rusted 58 = .ok (.aload_n 0, 1) := by decide +kernel
theorem dX3_rusted_59 : decode cX3_rusted 59 = .ok (.getfield 10, 3) := by decide +kernel
theorem dX3_rusted_62 : decode cX3_rusted 62 = .ok (.iload_n 3, 1) := by decide +kernel
theorem dX3_rusted_63 : decode cX3_rusted 63 = .ok (.aload_n 0, 1) := by decide +kernel
theorem dX3_rusted_64 : decode cX3_rusted 64 = .ok (.getfield 10, 3) := by decide +kernel
theorem dX3_rusted_67 : decode cX3_rusted 67 = .ok (.iload_n 1, 1) := by decide +kernel
theorem dX3_rusted_68 : decode cX3_rusted 68 = .ok (.iload 4, 2) := by decide +kernel
theorem dX3_rusted_70 : decode cX3_rusted 70 = .ok (.invokevirtual 197, 3) := by decide +kernel
theorem dX3_rusted_73 : decode cX3_rusted 73 = .ok (.invokevirtual 200, 3) := by decide +kernel
theorem dX3_rusted_76 : decode cX3_rusted 76 = .ok (.ifCond .ne 6, 3) := by decide +kernel
theorem dX3_rusted_79 : decode cX3_rusted 79 = .ok (.iload 4, 2) := by decide +kernel
theorem dX3_rusted_81 : decode cX3_rusted 81 = .ok (.ireturn, 1) := by decide +kernel
theorem dX3_rusted_82 : decode cX3_rusted 82 = .ok (.iinc 4 1, 3) := by decide +kernel
theorem dX3_rusted_85 : decode cX3_rusted 85 = .ok (.goto (-34), 3) := by decide +kernel
theorem dX3_rusted_88 : decode cX3_rusted 88 = .ok (.bipush (-9), 2) := by decide +kernel
theorem dX3_rusted_90 : decode cX3_rusted 90 = .ok (.ireturn, 1) := by decide +kernel
theorem dX3_two_0 : decode cX3_two 0 = .ok (.aload_n 0, 1) := by decide +kernel
theorem dX3_two_1 : decode cX3_two 1 = .ok (.iload_n 1, 1) := by decide +kernel
theorem dX3_two_2 : decode cX3_two 2 = .ok (.invokevirtual 131, 3) := by decide +kernel
theorem dX3_two_5 : decode cX3_two 5 = .ok (.aload_n 0, 1) := by decide +kernel
theorem dX3_two_6 : decode cX3_two 6 = .ok (.iload_n 2, 1) := by decide +kernel
theorem dX3_two_7 : decode cX3_two 7 = .ok (.invokevirtual 131, 3) := by decide +kernel
theorem dX3_two_10 : decode cX3_two 10 = .ok (.iload_n 1, 1) := by decide +kernel
theorem dX3_two_11 : decode cX3_two 11 = .ok (.iload_n 2, 1) := by decide +kernel
theorem dX3_two_12 : decode cX3_two 12 = .ok (.if_icmp .ne 7, 3) := by decide +kernel
theorem dX3_two_15 : decode cX3_two 15 = .ok (.iconst (-1), 1) := by decide +kernel
theorem dX3_two_16 : decode cX3_two 16 = .ok (.goto 4, 3) := by decide +kernel
theorem dX3_two_19 : decode cX3_two 19 = .ok (.iconst 0, 1) := by decide +kernel
theorem dX3_two_20 : decode cX3_two 20 = .ok (.invokestatic 104, 3) := by decide +kernel
theorem dX3_two_23 : decode cX3_two 23 = .ok (.istore 4, 2) := by decide +kernel
theorem dX3_two_25 : decode cX3_two 25 = .ok (.iload 4, 2) := by decide +kernel
theorem dX3_two_27 : decode cX3_two 27 = .ok (.ifCond .ne 25, 3) := by decide +kernel
theorem dX3_two_30 : decode cX3_two 30 = .ok (.iload_n 3, 1) := by decide +kernel
theorem dX3_two_31 : decode cX3_two 31 = .ok (.iconst 0, 1) := by decide +kernel
theorem dX3_two_32 : decode cX3_two 32 = .ok (.bipush 30, 2) := by decide +kernel
theorem dX3_two_34 : decode cX3_two 34 = .ok (.invokestatic 60, 3) := by decide +kernel
theorem dX3_two_37 : decode cX3_two 37 = .ok (.aload_n 0, 1) := by decide +kernel
theorem dX3_two_38 : decode cX3_two 38 = .ok (.iload_n 1, 1) := by decide +kernel
theorem dX3_two_39 : decode cX3_two 39 = .ok (.invokevirtual 161, 3) := by decide +kernel
theorem dX3_two_42 : decode cX3_two 42 = .ok (.aload_n 0, 1) := by decide +kernel
theorem dX3_two_43 : decode cX3_two 43 = .ok (.iload_n 2, 1) := by decide +kernel
theorem dX3_two_44 : decode cX3_two 44 = .ok (.invokevirtual 161, 3) := by decide +kernel
theorem dX3_two_47 : decode cX3_two 47 = .ok (.invokestatic 104, 3) := by decide +kernel
theorem dX3_two_50 : decode cX3_two 50 = .ok (.istore 4, 2) := by decide +kernel
theorem dX3_two_52 : decode cX3_two 52 = .ok (.iload 4, 2) := by decide +kernel
theorem dX3_two_54 : decode cX3_two 54 = .ok (.ifCond .eq 10, 3) := by decide +kernel
theorem dX3_two_57 : decode cX3_two 57 = .ok (.aload_n 0, 1) := by decide +kernel
theorem dX3_two_58 : decode cX3_two 58 = .ok (.iload 4, 2) := by decide +kernel
theorem dX3_two_60 : decode cX3_two 60 = .ok (.invokevirtual 67, 3) := by decide +kernel
theorem dX3_two_63 : decode cX3_two 63 = .ok (.ireturn, 1) := by decide +kernel
theorem dX3_two_64 : decode cX3_two 64 = .ok (.iconst 0, 1) := by decide +kernel
theorem dX3_two_65 : decode cX3_two 65 = .ok (.istore 5, 2) := by decide +kernel
theorem dX3_two_67 : decode cX3_two 67 = .ok (.iload 5, 2) := by decide +kernel
theorem dX3_two_69 : decode cX3_two 69 = .ok (.iconst 4, 1) := by decide +kernel
theorem dX3_two_70 : decode cX3_two 70 = .ok (.if_icmp .ge 44, 3) := by decide +kernel
theorem dX3_two_73 : decode cX3_two 73 = .ok (.aload_n 0, 1) := by decide +kernel
theorem dX3_two_74 : decode cX3_two 74 = .ok (.iload_n 1, 1) := by decide +kernel
theorem dX3_two_75 : decode cX3_two 75 = .ok (.iload_n 2, 1) := by decide +kernel
theorem dX3_two_76 : decode cX3_two 76 = .ok (.iload 5, 2) := by decide +kernel
theorem dX3_two_78 : decode cX3_two 78 = .ok (.iload_n 3, 1) := by decide +kernel
theorem dX3_two_79 : decode cX3_two 79 = .ok (.invokevirtual 204, 3) := by decide +kernel
theorem dX3_two_82 : decode cX3_two 82 = .ok (.aload_n 0, 1) := by decide +kernel
theorem dX3_two_83 : decode cX3_two 83 = .ok (.getfield 54, 3) := by decide +kernel
theorem dX3_two_86 : decode cX3_two 86 = .ok (.iload 5, 2) := by decide +kernel
theorem dX3_two_88 : decode cX3_two 88 = .ok (.aload_n 0, 1) := by decide +kernel
theorem dX3_two_89 : decode cX3_two 89 = .ok (.iload_n 1, 1) := by decide +kernel
theorem dX3_two_90 : decode cX3_two 90 = .ok (.iload_n 2, 1) := by decide +kernel
theorem dX3_two_91 : decode cX3_two 91 = .ok (.invokevirtual 208, 3) := by decide +kernel
theorem dX3_two_94 : decode cX3_two 94 = .ok (.iastore, 1) := by decide +kernel
theorem dX3_two_95 : decode cX3_two 95 = .ok (.aload_n 0, 1) := by decide +kernel
theorem dX3_two_96 : decode cX3_two 96 = .ok (.getfield 57, 3) := by decide +kernel
theorem dX3_two_99 : decode cX3_two 99 = .ok (.iload 5, 2) := by decide +kernel
theorem dX3_two_101 : decode cX3_two 101 = .ok (.aload_n 0, 1) := by decide +kernel
theorem dX3_two_102 : decode cX3_two 102 = .ok (.iload_n 2, 1) := by decide +kernel
theorem dX3_two_103 : decode cX3_two 103 = .ok (.iload_n 1, 1) := by decide +kernel
theorem dX3_two_104 : decode cX3_two 104 = .ok (.invokevirtual 208, 3) := by decide +kernel
theorem dX3_two_107 : decode cX3_two 107 = .ok (.iastore, 1) := by decide +kernel
theorem dX3_two_108 : decode cX3_two 108 = .ok (.iinc 5 1, 3) := by decide +kernel
theorem dX3_two_111 : decode cX3_two 111 = .ok (.goto (-44), 3) := by decide +kernel
theorem dX3_two_114 : decode cX3_two 114 = .ok (.iconst 0, 1) := by decide +kernel
theorem dX3_two_115 : decode cX3_two 115 = .ok (.istore 5, 2) := by decide +kernel
theorem dX3_two_117 : decode cX3_two 117 = .ok (.iload 5, 2) := by decide +kernel
theorem dX3_two_119 : decode cX3_two 119 = .ok (.iconst 4, 1) := by decide +kernel
theorem dX3_two_120 : decode cX3_two 120 = .ok (.if_icmp .ge 60, 3) := by decide +kernel
theorem dX3_two_123 : decode cX3_two 123 = .ok (.aload_n 0, 1) := by decide +kernel
theorem dX3_two_124 : decode cX3_two 124 = .ok (.getfield 54, 3) := by decide +kernel
theorem dX3_two_127 : decode cX3_two 127 = .ok (.iload 5, 2) := by decide +kernel
theorem dX3_two_129 : decode cX3_two 129 = .ok (.iaload, 1) := by decide +kernel
theorem dX3_two_130 : decode cX3_two 130 = .ok (.aload_n 0, 1) := by decide +kernel
theorem dX3_two_131 : decode cX3_two 131 = .ok (.getfield 54, 3) := by decide +kernel
theorem dX3_two_134 : decode cX3_two 134 = .ok (.iload 5, 2) := by decide +kernel
theorem dX3_two_136 : decode cX3_two 136 = .ok (.iconst 2, 1) := by decide +kernel
theorem dX3_two_137 : decode cX3_two 137 = .ok (.ixor, 1) := by decide +kernel
theorem dX3_two_138 : decode cX3_two 138 = .ok (.iaload, 1) := by decide +kernel
theorem dX3_two_139 : decode cX3_two 139 = .ok (.if_icmp .lt 35, 3) := by decide +kernel
theorem dX3_two_142 : decode cX3_two 142 = .ok (.aload_n 0, 1) := by decide +kernel
theorem dX3_two_143 : decode cX3_two 143 = .ok (.getfield 57, 3) := by decide +kernel
theorem dX3_two_146 : decode cX3_two 146 = .ok (.iload 5, 2) := by decide +kernel
theorem dX3_two_148 : decode cX3_two 148 = .ok (.iaload, 1) := by decide +kernel
theorem dX3_two_149 : decode cX3_two 149 = .ok (.aload_n 0, 1) := by decide +kernel
theorem dX3_two_150 : decode cX3_two 150 = .ok (.getfield 57, 3) := by decide +kernel
theorem dX3_two_153 : decode cX3_two 153 = .ok (.iload 5, 2) := by decide +kernel
theorem dX3_two_155 : decode cX3_two 155 = .ok (.iconst 1, 1) := by decide +kernel
theorem dX3_two_156 : decode cX3_two 156 = .ok (.ixor, 1) := by decide +kernel
theorem dX3_two_157 : decode cX3_two 157 = .ok (.iaload, 1) := by decide +kernel
theorem dX3_two_158 : decode cX3_two 158 = .ok (.if_icmp .lt 16, 3) := by decide +kernel
theorem dX3_two_161 : decode cX3_two 161 = .ok (.bipush 10, 2) := by decide +kernel
theorem dX3_two_163 : decode cX3_two 163 = .ok (.iload 5, 2) := by decide +kernel
theorem dX3_two_165 : decode cX3_two 165 = .ok (.iconst 1, 1) := by decide +kernel
theorem dX3_two_166 : decode cX3_two 166 = .ok (.ishr, 1) := by decide +kernel
theorem dX3_two_167 : decode cX3_two 167 = .ok (.imul, 1) := by decide +kernel
theorem dX3_two_168 : decode cX3_two 168 = .ok (.iload 5, 2) := by decide +kernel
theorem dX3_two_170 : decode cX3_two 170 = .ok (.iconst 1, 1) := by decide +kernel
theorem dX3_two_171 : decode cX3_two 171 = .ok (.iand, 1) := by decide +kernel
theorem dX3_two_172 : decode cX3_two 172 = .ok (.iadd, 1) := by decide +kernel
theorem dX3_two_173 : decode cX3_two 173 = .ok (.ireturn, 1) := by decide +kernel
theorem dX3_two_174 : decode cX3_two 174 = .ok (.iinc 5 1, 3) := by decide +kernel
theorem dX3_two_177 : decode cX3_two 177 = .ok (.goto (-60), 3) := by decide +kernel
theorem dX3_two_180 : decode cX3_two 180 = .ok (.bipush (-9), 2) := by decide +kernel
theorem dX3_two_182 : decode cX3_two 182 = .ok (.ireturn, 1) := by decide +kernel
theorem dX3_rain_0 : decode cX3_rain 0 = .ok (.aload_n 0, 1) := by decide +kernel
theorem dX3_rain_1 : decode cX3_rain 1 = .ok (.iload_n 1, 1) := by decide +kernel
theorem dX3_rain_2 : decode cX3_rain 2 = .ok (.invokevirtual 131, 3) := by decide +kernel
theorem dX3_rain_5 : decode cX3_rain 5 = .ok (.iload_n 2, 1) := by decide +kernel
theorem dX3_rain_6 : decode cX3_rain 6 = .ok (.iload_n 3, 1) := by decide +kernel
theorem dX3_rain_7 : decode cX3_rain 7 = .ok (.iload 4, 2) := by decide +kernel
theorem dX3_rain_9 : decode cX3_rain 9 = .ok (.invokestatic 211, 3) := by decide +kernel
theorem dX3_rain_12 : decode cX3_rain 12 = .ok (.iload 5, 2) := by decide +kernel
theorem dX3_rain_14 : decode cX3_rain 14 = .ok (.iconst 2, 1) := by decide +kernel
theorem dX3_rain_15 : decode cX3_rain 15 = .ok (.invokestatic 101, 3) := by decide +kernel
theorem dX3_rain_18 : decode cX3_rain 18 = .ok (.invokestatic 104, 3) := by decide +kernel
theorem dX3_rain_21 : decode cX3_rain 21 = .ok (.istore 6, 2) := by decide +kernel
theorem dX3_rain_23 : decode cX3_rain 23 = .ok (.iload 6, 2) := by decide +kernel
theorem dX3_rain_25 : decode cX3_rain 25 = .ok (.ifCond .eq 15, 3) := by decide +kernel
theorem dX3_rain_28 : decode cX3_rain 28 = .ok (.ldc2_w 214, 3) := by decide +kernel
theorem dX3_rain_31 : decode cX3_rain 31 = .ok (.aload_n 0, 1) := by decide +kernel
theorem dX3_rain_32 : decode cX3_rain 32 = .ok (.iload 6, 2) := by decide +kernel
theorem dX3_rain_34 : decode cX3_rain 34 = .ok (.invokevirtual 67, 3) := by decide +kernel
theorem dX3_rain_37 : decode cX3_rain 37 = .ok (.i2l, 1) := by decide +kernel
theorem dX3_rain_38 : decode cX3_rain 38 = .ok (.lsub, 1) := by decide +kernel
theorem dX3_rain_39 : decode cX3_rain 39 = .ok (.lreturn, 1) := by decide +kernel
theorem dX3_rain_40 : decode cX3_rain 40 = .ok (.lconst 1, 1) := by decide +kernel
theorem dX3_rain_41 : decode cX3_rain 41 = .ok (.lstore 7, 2) := by decide +kernel
theorem dX3_rain_43 : decode cX3_rain 43 = .ok (.iconst 0, 1) := by decide +kernel
theorem dX3_rain_44 : decode cX3_rain 44 = .ok (.istore 9, 2) := by decide +kernel
theorem dX3_rain_46 : decode cX3_rain 46 = .ok (.iload 9, 2) := by decide +kernel
theorem dX3_rain_48 : decode cX3_rain 48 = .ok (.iload_n 2, 1) := by decide +kernel
theorem dX3_rain_49 : decode cX3_rain 49 = .ok (.if_icmp .ge 16, 3) := by decide +kernel
theorem dX3_rain_52 : decode cX3_rain 52 = .ok (.lload 7, 2) := by decide +kernel
theorem dX3_rain_54 : decode cX3_rain 54 = .ok (.iload_n 3, 1) := by decide +kernel
theorem dX3_rain_55 : decode cX3_rain 55 = .ok (.i2l, 1) := by decide +kernel
theorem dX3_rain_56 : decode cX3_rain 56 = .ok (.lmul, 1) := by decide +kernel
theorem dX3_rain_57 : decode cX3_rain 57 = .ok (.lstore 7, 2) := by decide +kernel
theorem dX3_rain_59 : decode cX3_rain 59 = .ok (.iinc 9 1, 3) := by decide +kernel
theorem dX3_rain_62 : decode cX3_rain 62 = .ok (.goto (-16), 3) := by decide +kernel
theorem dX3_rain_65 : decode cX3_rain 65 = .ok (.lconst 0, 1) := by decide +kernel
theorem dX3_rain_66 : decode cX3_rain 66 = .ok (.lstore 9, 2) := by decide +kernel
theorem dX3_rain_68 : decode cX3_rain 68 = .ok (.iconst 0, 1) := by decide +kernel
theorem dX3_rain_69 : decode cX3_rain 69 = .ok (.istore 11, 2) := by decide +kernel
theorem dX3_rain_71 : decode cX3_rain 71 = .ok (.iload 11, 2) := by decide +kernel
theorem dX3_rain_73 : decode cX3_rain 73 = .ok (.iconst 1, 1) := by decide +kernel
theorem dX3_rain_74 : decode cX3_rain 74 = .ok (.iload_n 2, 1) := by decide +kernel
theorem dX3_rain_75 : decode cX3_rain 75 = .ok (.ishl, 1) := by decide +kernel
theorem dX3_rain_76 : decode cX3_rain 76 = .ok (.if_icmp .ge 34, 3) := by decide +kernel
theorem dX3_rain_79 : decode cX3_rain 79 = .ok (.aload_n 0, 1) := by decide +kernel
theorem dX3_rain_80 : decode cX3_rain 80 = .ok (.iload_n 1, 1) := by decide +kernel
theorem dX3_rain_81 : decode cX3_rain 81 = .ok (.iload_n 2, 1) := by decide +kernel
theorem dX3_rain_82 : decode cX3_rain 82 = .ok (.iload 11, 2) := by decide +kernel
theorem dX3_rain_84 : decode cX3_rain 84 = .ok (.invokevirtual 216, 3) := by decide +kernel
theorem dX3_rain_87 : decode cX3_rain 87 = .ok (.iload 4, 2) := by decide +kernel
theorem dX3_rain_89 : decode cX3_rain 89 = .ok (.if_icmp .lt 15, 3) := by decide +kernel
theorem dX3_rain_92 : decode cX3_rain 92 = .ok (.lload 9, 2) := by decide +kernel
theorem dX3_rain_94 : decode cX3_rain 94 = .ok (.iload_n 2, 1) := by decide +kernel
theorem dX3_rain_95 : decode cX3_rain 95 = .ok (.iload_n 3, 1) := by decide +kernel
theorem dX3_rain_96 : decode cX3_rain 96 = .ok (.iload 11, 2) := by decide +kernel
theorem dX3_rain_98 : decode cX3_rain 98 = .ok (.invokestatic 219, 3) := by decide +kernel
theorem dX3_rain_101 : decode cX3_rain 101 = .ok (.ladd, 1) := by decide +kernel
theorem dX3_rain_102 : decode cX3_rain 102 = .ok (.lstore 9, 2) := by decide +kernel
theorem dX3_rain_104 : decode cX3_rain 104 = .ok (.iinc 11 1, 3) := by decide +kernel
theorem dX3_rain_107 : decode cX3_rain 107 = .ok (.goto (-36), 3) := by decide +kernel
theorem dX3_rain_110 : decode cX3_rain 110 = .ok (.lload 9, 2) := by decide +kernel
theorem dX3_rain_112 : decode cX3_rain 112 = .ok (.lload 7, 2) := by decide +kernel
theorem dX3_rain_114 : decode cX3_rain 114 = .ok (.iload 5, 2) := by decide +kernel
theorem dX3_rain_116 : decode cX3_rain 116 = .ok (.invokestatic 223, 3) := by decide +kernel
theorem dX3_rain_119 : decode cX3_rain 119 = .ok (.lreturn, 1) := by decide +kernel
theorem dX3_mean_0 : decode cX3_mean 0 = .ok (.iload_n 1, 1) := by decide +kernel
theorem dX3_mean_1 : decode cX3_mean 1 = .ok (.iconst 2, 1) := by decide +kernel
theorem dX3_mean_2 : decode cX3_mean 2 = .ok (.invokestatic 101, 3) := by decide +kernel
theorem dX3_mean_5 : decode cX3_mean 5 = .ok (.istore_n 2, 1) := by decide +kernel
theorem dX3_mean_6 : decode cX3_mean 6 = .ok (.iload_n 2, 1) := by decide +kernel
theorem dX3_mean_7 : decode cX3_mean 7 = .ok (.ifCond .eq 14, 3) := by decide +kernel
theorem dX3_mean_10 : decode cX3_mean 10 = .ok (.ldc2_w 214, 3) := by decide +kernel
theorem dX3_mean_13 : decode cX3_mean 13 = .ok (.aload_n 0, 1) := by decide +kernel
theorem dX3_mean_14 : decode cX3_mean 14 = .ok (.iload_n 2, 1) := by decide +kernel
theorem dX3_mean_15 : decode cX3_mean 15 = .ok (.invokevirtual 67, 3) := by decide +kernel
theorem dX3_mean_18 : decode cX3_mean 18 = .ok (.i2l, 1) := by decide +kernel
theorem dX3_mean_19 : decode cX3_mean 19 = .ok (.lsub, 1) := by decide +kernel
theorem dX3_mean_20 : decode cX3_mean 20 = .ok (.lreturn, 1) := by decide +kernel
theorem dX3_mean_21 : decode cX3_mean 21 = .ok (.aload_n 0, 1) := by decide +kernel
theorem dX3_mean_22 : decode cX3_mean 22 = .ok (.getfield 10, 3) := by decide +kernel
theorem dX3_mean_25 : decode cX3_mean 25 = .ok (.getfield 191, 3) := by decide +kernel
theorem dX3_mean_28 : decode cX3_mean 28 = .ok (.ifCond .ne 6, 3) := by decide +kernel
theorem dX3_mean_31 : decode cX3_mean 31 = .ok (.iload_n 1, 1) := by decide +kernel
theorem dX3_mean_32 : decode cX3_mean 32 = .ok (.i2l, 1) := by decide +kernel
theorem dX3_mean_33 : decode cX3_mean 33 = .ok (.lreturn, 1) := by decide +kernel
theorem dX3_mean_34 : decode cX3_mean 34 = .ok (.lconst 0, 1) := by decide +kernel
theorem dX3_mean_35 : decode cX3_mean 35 = .ok (.lstore_n 3, 1) := by decide +kernel
theorem dX3_mean_36 : decode cX3_mean 36 = .ok (.iconst 0, 1) := by decide +kernel
theorem dX3_mean_37 : decode cX3_mean 37 = .ok (.istore 5, 2) := by decide +kernel
theorem dX3_mean_39 : decode cX3_mean 39 = .ok (.iload 5, 2) := by decide +kernel
theorem dX3_mean_41 : decode cX3_mean 41 = .ok (.aload_n 0, 1) := by decide +kernel
theorem dX3_mean_42 : decode cX3_mean 42 = .ok (.getfield 10, 3) := by decide +kernel
theorem dX3_mean_45 : decode cX3_mean 45 = .ok (.getfield 191, 3) := by decide +kernel
theorem dX3_mean_48 : decode cX3_mean 48 = .ok (.if_icmp .ge 25, 3) := by decide +kernel
theorem dX3_mean_51 : decode cX3_mean 51 = .ok (.lload_n 3, 1) := by decide +kernel
theorem dX3_mean_52 : decode cX3_mean 52 = .ok (.aload_n 0, 1) := by decide +kernel
theorem dX3_mean_53 : decode cX3_mean 53 = .ok (.getfield 10, 3) := by decide +kernel
theorem dX3_mean_56 : decode cX3_mean 56 = .ok (.iload 5, 2) := by decide +kernel
theorem dX3_mean_58 : decode cX3_mean 58 = .ok (.invokevirtual 154, 3) := by decide +kernel
theorem dX3_mean_61 : decode cX3_mean 61 = .ok (.bipush 50, 2) := by decide +kernel
theorem dX3_mean_63 : decode cX3_mean 63 = .ok (.iadd, 1) := by decide +kernel
theorem dX3_mean_64 : decode cX3_mean 64 = .ok (.i2l, 1) := by decide +kernel
theorem dX3_mean_65 : decode cX3_mean 65 = .ok (.ladd, 1) := by decide +kernel
theorem dX3_mean_66 : decode cX3_mean 66 = .ok (.lstore_n 3, 1) := by decide +kernel
theorem dX3_mean_67 : decode cX3_mean 67 = .ok (.iinc 5 1, 3) := by decide +kernel
theorem dX3_mean_70 : decode cX3_mean 70 = .ok (.goto (-31), 3) := by decide +kernel
theorem dX3_mean_73 : decode cX3_mean 73 = .ok (.lload_n 3, 1) := by decide +kernel
theorem dX3_mean_74 : decode cX3_mean 74 = .ok (.aload_n 0, 1) := by decide +kernel
theorem dX3_mean_75 : decode cX3_mean 75 = .ok (.getfield 10, 3) := by decide +kernel
theorem dX3_mean_78 : decode cX3_mean 78 = .ok (.getfield 191, 3) := by decide +kernel
theorem dX3_mean_81 : decode cX3_mean 81 = .ok (.i2l, 1) := by decide +kernel
theorem dX3_mean_82 : decode cX3_mean 82 = .ok (.iload_n 1, 1) := by decide +kernel
theorem dX3_mean_83 : decode cX3_mean 83 = .ok (.invokestatic 223, 3) := by decide +kernel
theorem dX3_mean_86 : decode cX3_mean 86 = .ok (.lreturn, 1) := by decide +kernel
theorem dX3_whatIs_0 : decode cX3_whatIs 0 = .ok (.aload_n 0, 1) := by decide +kernel
theorem dX3_whatIs_1 : decode cX3_whatIs 1 = .ok (.iload_n 1, 1) := by decide +kernel
theorem dX3_whatIs_2 : decode cX3_whatIs 2 = .ok (.invokevirtual 98, 3) := by decide +kernel
theorem dX3_whatIs_5 : decode cX3_whatIs 5 = .ok (.iload_n 2, 1) := by decide +kernel
theorem dX3_whatIs_6 : decode cX3_whatIs 6 = .ok (.iconst 2, 1) := by decide +kernel
theorem dX3_whatIs_7 : decode cX3_whatIs 7 = .ok (.invokestatic 101, 3) := by decide +kernel
theorem dX3_whatIs_10 : decode cX3_whatIs 10 = .ok (.iconst 0, 1) := by decide +kernel
theorem dX3_whatIs_11 : decode cX3_whatIs 11 = .ok (.invokestatic 104, 3) := by decide +kernel
theorem dX3_whatIs_14 : decode cX3_whatIs 14 = .ok (.istore_n 3, 1) := by decide +kernel
theorem dX3_whatIs_15 : decode cX3_whatIs 15 = .ok (.iload_n 3, 1) := by decide +kernel
theorem dX3_whatIs_16 : decode cX3_whatIs 16 = .ok (.ifCond .eq 9, 3) := by decide +kernel
theorem dX3_whatIs_19 : decode cX3_whatIs 19 = .ok (.aload_n 0, 1) := by decide +kernel
theorem dX3_whatIs_20 : decode cX3_whatIs 20 = .ok (.iload_n 3, 1) := by decide +kernel
theorem dX3_whatIs_21 : decode cX3_whatIs 21 = .ok (.invokevirtual 67, 3) := by decide +kernel
theorem dX3_whatIs_24 : decode cX3_whatIs 24 = .ok (.ireturn, 1) := by decide +kernel
theorem dX3_whatIs_25 : decode cX3_whatIs 25 = .ok (.aload_n 0, 1) := by decide +kernel
theorem dX3_whatIs_26 : decode cX3_whatIs 26 = .ok (.getfield 10, 3) := by decide +kernel
theorem dX3_whatIs_29 : decode cX3_whatIs 29 = .ok (.iload_n 1, 1) := by decide +kernel
theorem dX3_whatIs_30 : decode cX3_whatIs 30 = .ok (.invokevirtual 128, 3) := by decide +kernel
theorem dX3_whatIs_33 : decode cX3_whatIs 33 = .ok (.istore 4, 2) := by decide +kernel
theorem dX3_whatIs_35 : decode cX3_whatIs 35 = .ok (.iload 4, 2) := by decide +kernel
theorem dX3_whatIs_37 : decode cX3_whatIs 37 = .ok (.bipush (-9), 2) := by decide +kernel
theorem dX3_whatIs_39 : decode cX3_whatIs 39 = .ok (.if_icmp .ne 5, 3) := by decide +kernel
theorem dX3_whatIs_42 : decode cX3_whatIs 42 = .ok (.iconst 0, 1) := by decide +kernel
theorem dX3_whatIs_43 : decode cX3_whatIs 43 = .ok (.ireturn, 1) := by decide +kernel
theorem dX3_whatIs_44 : decode cX3_whatIs 44 = .ok (.iconst 0, 1) := by decide +kernel
theorem dX3_whatIs_45 : decode cX3_whatIs 45 = .ok (.istore 5, 2) := by decide +kernel
theorem dX3_whatIs_47 : decode cX3_whatIs 47 = .ok (.iload_n 2, 1) := by decide +kernel
theorem dX3_whatIs_48 : decode cX3_whatIs 48 = .ok (.ifCond .ne 8, 3) := by decide +kernel
theorem dX3_whatIs_51 : decode cX3_whatIs 51 = .ok (.bipush 6, 2) := by decide +kernel
theorem dX3_whatIs_53 : decode cX3_whatIs 53 = .ok (.goto 5, 3) := by decide +kernel
theorem dX3_whatIs_56 : decode cX3_whatIs 56 = .ok (.bipush 10, 2) := by decide +kernel
theorem dX3_whatIs_58 : decode cX3_whatIs 58 = .ok (.istore 6, 2) := by decide +kernel
theorem dX3_whatIs_60 : decode cX3_whatIs 60 = .ok (.iconst 0, 1) := by decide +kernel
theorem dX3_whatIs_61 : decode cX3_whatIs 61 = .ok (.istore 7, 2) := by decide +kernel
theorem dX3_whatIs_63 : decode cX3_whatIs 63 = .ok (.iload 7, 2) := by decide +kernel
theorem dX3_whatIs_65 : decode cX3_whatIs 65 = .ok (.iload 6, 2) := by decide +kernel
theorem dX3_whatIs_67 : decode cX3_whatIs 67 = .ok (.if_icmp .ge 60, 3) := by decide +kernel
theorem dX3_whatIs_70 : decode cX3_whatIs 70 = .ok (.aload_n 0, 1) := by decide +kernel
theorem dX3_whatIs_71 : decode cX3_whatIs 71 = .ok (.invokevirtual 78, 3) := by decide +kernel
theorem dX3_whatIs_74 : decode cX3_whatIs 74 = .ok (.iload_n 2, 1) := by decide +kernel
theorem dX3_whatIs_75 : decode cX3_whatIs 75 = .ok (.ifCond .ne 17, 3) := by decide +kernel
theorem dX3_whatIs_78 : decode cX3_whatIs 78 = .ok (.aload_n 0, 1) := by decide +kernel
theorem dX3_whatIs_79 : decode cX3_whatIs 79 = .ok (.getfield 16, 3) := by decide +kernel
theorem dX3_whatIs_82 : decode cX3_whatIs 82 = .ok (.getfield 107, 3) := by decide +kernel
theorem dX3_whatIs_85 : decode cX3_whatIs 85 = .ok (.iload_n 1, 1) := by decide +kernel
theorem dX3_whatIs_86 : decode cX3_whatIs 86 = .ok (.iload 7, 2) := by decide +kernel
theorem dX3_whatIs_88 : decode cX3_whatIs 88 = .ok (.iastore, 1) := by decide +kernel
theorem dX3_whatIs_89 : decode cX3_whatIs 89 = .ok (.goto 14, 3) := by decide +kernel
theorem dX3_whatIs_92 : decode cX3_whatIs 92 = .ok (.aload_n 0, 1) := by decide +kernel
theorem dX3_whatIs_93 : decode cX3_whatIs 93 = .ok (.getfield 16, 3) := by decide +kernel
theorem dX3_whatIs_96 : decode cX3_whatIs 96 = .ok (.getfield 110, 3) := by decide +kernel
theorem dX3_whatIs_99 : decode cX3_whatIs 99 = .ok (.iload_n 1, 1) := by decide +kernel
theorem dX3_whatIs_100 : decode cX3_whatIs 100 = .ok (.iload 7, 2) := by decide +kernel
theorem dX3_whatIs_102 : decode cX3_whatIs 102 = .ok (.iastore, 1) := by decide +kernel
theorem dX3_whatIs_103 : decode cX3_whatIs 103 = .ok (.aload_n 0, 1) := by decide +kernel
theorem dX3_whatIs_104 : decode cX3_whatIs 104 = .ok (.iload 4, 2) := by decide +kernel
theorem dX3_whatIs_106 : decode cX3_whatIs 106 = .ok (.invokevirtual 227, 3) := by decide +kernel
theorem dX3_whatIs_109 : decode cX3_whatIs 109 = .ok (.ifCond .eq 12, 3) := by decide +kernel
theorem dX3_whatIs_112 : decode cX3_whatIs 112 = .ok (.iload 5, 2) := by decide +kernel
theorem dX3_whatIs_114 : decode cX3_whatIs 114 = .ok (.iconst 1, 1) := by decide +kernel
theorem dX3_whatIs_115 : decode cX3_whatIs 115 = .ok (.iload 7, 2) := by decide +kernel
theorem dX3_whatIs_117 : decode cX3_whatIs 117 = .ok (.ishl, 1) := by decide +kernel
theorem dX3_whatIs_118 : decode cX3_whatIs 118 = .ok (.ior, 1) := by decide +kernel
theorem dX3_whatIs_119 : decode cX3_whatIs 119 = .ok (.istore 5, 2) := by decide +kernel
theorem dX3_whatIs_121 : decode cX3_whatIs 121 = .ok (.iinc 7 1, 3) := by decide +kernel
theorem dX3_whatIs_124 : decode cX3_whatIs 124 = .ok (.goto (-61), 3) := by decide +kernel
theorem dX3_whatIs_127 : decode cX3_whatIs 127 = .ok (.iload 5, 2) := by decide +kernel
theorem dX3_whatIs_129 : decode cX3_whatIs 129 = .ok (.ireturn, 1) := by decide +kernel
theorem dX3_row_0 : decode cX3_row 0 = .ok (.iload_n 1, 1) := by decide +kernel
theorem dX3_row_1 : decode cX3_row 1 = .ok (.iconst 0, 1) := by decide +kernel
theorem dX3_row_2 : decode cX3_row 2 = .ok (.bipush 99, 2) := by decide +kernel
theorem dX3_row_4 : decode cX3_row 4 = .ok (.invokestatic 60, 3) := by decide +kernel
theorem dX3_row_7 : decode cX3_row 7 = .ok (.istore_n 2, 1) := by decide +kernel
theorem dX3_row_8 : decode cX3_row 8 = .ok (.iload_n 2, 1) := by decide +kernel
theorem dX3_row_9 : decode cX3_row 9 = .ok (.ifCond .ne 15, 3) := by decide +kernel
theorem dX3_row_12 : decode cX3_row 12 = .ok (.aload_n 0, 1) := by decide +kernel
theorem dX3_row_13 : decode cX3_row 13 = .ok (.getfield 44, 3) := by decide +kernel
theorem dX3_row_16 : decode cX3_row 16 = .ok (.bipush 16, 2) := by decide +kernel
theorem dX3_row_18 : decode cX3_row 18 = .ok (.if_icmp .lt 6, 3) := by decide +kernel
theorem dX3_row_21 : decode cX3_row 21 = .ok (.bipush (-6), 2) := by decide +kernel
theorem dX3_row_23 : decode cX3_row 23 = .ok (.istore_n 2, 1) := by decide +kernel
theorem dX3_row_24 : decode cX3_row 24 = .ok (.iload_n 2, 1) := by decide +kernel
theorem dX3_row_25 : decode cX3_row 25 = .ok (.ifCond .eq 9, 3) := by decide +kernel
theorem dX3_row_28 : decode cX3_row 28 = .ok (.aload_n 0, 1) := by decide +kernel
theorem dX3_row_29 : decode cX3_row 29 = .ok (.iload_n 2, 1) := by decide +kernel
theorem dX3_row_30 : decode cX3_row 30 = .ok (.invokevirtual 67, 3) := by decide +kernel
theorem dX3_row_33 : decode cX3_row 33 = .ok (.ireturn, 1) := by decide +kernel
theorem dX3_row_34 : decode cX3_row 34 = .ok (.aload_n 0, 1) := by decide +kernel
theorem dX3_row_35 : decode cX3_row 35 = .ok (.getfield 40, 3) := by decide +kernel
theorem dX3_row_38 : decode cX3_row 38 = .ok (.aload_n 0, 1) := by decide +kernel
theorem dX3_row_39 : decode cX3_row 39 = .ok (.getfield 44, 3) := by decide +kernel
theorem dX3_row_42 : decode cX3_row 42 = .ok (.iload_n 1, 1) := by decide +kernel
theorem dX3_row_43 : decode cX3_row 43 = .ok (.iastore, 1) := by decide +kernel
theorem dX3_row_44 : decode cX3_row 44 = .ok (.aload_n 0, 1) := by decide +kernel
theorem dX3_row_45 : decode cX3_row 45 = .ok (.dup, 1) := by decide +kernel
theorem dX3_row_46 : decode cX3_row 46 = .ok (.getfield 44, 3) := by decide +kernel
theorem dX3_row_49 : decode cX3_row 49 = .ok (.iconst 1, 1) := by decide +kernel
theorem dX3_row_50 : decode cX3_row 50 = .ok (.iadd, 1) := by decide +kernel
theorem dX3_row_51 : decode cX3_row 51 = .ok (.putfield 44, 3) := by decide +kernel
theorem dX3_row_54 : decode cX3_row 54 = .ok (.aload_n 0, 1) := by decide +kernel
theorem dX3_row_55 : decode cX3_row 55 = .ok (.getfield 44, 3) := by decide +kernel
theorem dX3_row_58 : decode cX3_row 58 = .ok (.ireturn, 1) := by decide +kernel
theorem dX3_judge_0 : decode cX3_judge 0 = .ok (.bipush (-9), 2) := by decide +kernel
theorem dX3_judge_2 : decode cX3_judge 2 = .ok (.istore_n 1, 1) := by decide +kernel
theorem dX3_judge_3 : decode cX3_judge 3 = .ok (.aload_n 0, 1) := by decide +kernel
theorem dX3_judge_4 : decode cX3_judge 4 = .ok (.getfield 44, 3) := by decide +kernel
theorem dX3_judge_7 : decode cX3_judge 7 = .ok (.iconst 1, 1) := by decide +kernel
theorem dX3_judge_8 : decode cX3_judge 8 = .ok (.isub, 1) := by decide +kernel
theorem dX3_judge_9 : decode cX3_judge 9 = .ok (.istore_n 2, 1) := by decide +kernel
theorem dX3_judge_10 : decode cX3_judge 10 = .ok (.iload_n 2, 1) := by decide +kernel
theorem dX3_judge_11 : decode cX3_judge 11 = .ok (.ifCond .lt 40, 3) := by decide +kernel
theorem dX3_judge_14 : decode cX3_judge 14 = .ok (.iload_n 2, 1) := by decide +kernel
theorem dX3_judge_15 : decode cX3_judge 15 = .ok (.aload_n 0, 1) := by decide +kernel
theorem dX3_judge_16 : decode cX3_judge 16 = .ok (.getfield 10, 3) := by decide +kernel
theorem dX3_judge_19 : decode cX3_judge 19 = .ok (.getfield 191, 3) := by decide +kernel
theorem dX3_judge_22 : decode cX3_judge 22 = .ok (.if_icmp .ge 21, 3) := by decide +kernel
theorem dX3_judge_25 : decode cX3_judge 25 = .ok (.aload_n 0, 1) := by decide +kernel
theorem dX3_judge_26 : decode cX3_judge 26 = .ok (.getfield 10, 3) := by decide +kernel
theorem dX3_judge_29 : decode cX3_judge 29 = .ok (.getfield 134, 3) := by decide +kernel
theorem dX3_judge_32 : decode cX3_judge 32 = .ok (.iload_n 2, 1) := by decide +kernel
theorem dX3_judge_33 : decode cX3_judge 33 = .ok (.iaload, 1) := by decide +kernel
theorem dX3_judge_34 : decode cX3_judge 34 = .ok (.aload_n 0, 1) := by decide +kernel
theorem dX3_judge_35 : decode cX3_judge 35 = .ok (.getfield 40, 3) := by decide +kernel
theorem dX3_judge_38 : decode cX3_judge 38 = .ok (.iload_n 2, 1) := by decide +kernel
theorem dX3_judge_39 : decode cX3_judge 39 = .ok (.iaload, 1) := by decide +kernel
theorem dX3_judge_40 : decode cX3_judge 40 = .ok (.if_icmp .eq 5, 3) := by decide +kernel
theorem dX3_judge_43 : decode cX3_judge 43 = .ok (.iload_n 2, 1) := by decide +kernel
theorem dX3_judge_44 : decode cX3_judge 44 = .ok (.istore_n 1, 1) := by decide +kernel
theorem dX3_judge_45 : decode cX3_judge 45 = .ok (.iinc 2 (-1), 3) := by decide +kernel
theorem dX3_judge_48 : decode cX3_judge 48 = .ok (.goto (-38), 3) := by decide +kernel
theorem dX3_judge_51 : decode cX3_judge 51 = .ok (.aload_n 0, 1) := by decide +kernel
theorem dX3_judge_52 : decode cX3_judge 52 = .ok (.iconst 0, 1) := by decide +kernel
theorem dX3_judge_53 : decode cX3_judge 53 = .ok (.putfield 44, 3) := by decide +kernel
theorem dX3_judge_56 : decode cX3_judge 56 = .ok (.iload_n 1, 1) := by decide +kernel
theorem dX3_judge_57 : decode cX3_judge 57 = .ok (.ireturn, 1) := by decide +kernel
theorem dX3_clear_0 : decode cX3_clear 0 = .ok (.aload_n 0, 1) := by decide +kernel
theorem dX3_clear_1 : decode cX3_clear 1 = .ok (.getfield 44, 3) := by decide +kernel
theorem dX3_clear_4 : decode cX3_clear 4 = .ok (.istore_n 1, 1) := by decide +kernel
theorem dX3_clear_5 : decode cX3_clear 5 = .ok (.aload_n 0, 1) := by decide +kernel
theorem dX3_clear_6 : decode cX3_clear 6 = .ok (.iconst 0, 1) := by decide +kernel
theorem dX3_clear_7 : decode cX3_clear 7 = .ok (.putfield 44, 3) := by decide +kernel
theorem dX3_clear_10 : decode cX3_clear 10 = .ok (.iload_n 1, 1) := by decide +kernel
theorem dX3_clear_11 : decode cX3_clear 11 = .ok (.ireturn, 1) := by decide +kernel
theorem dX3_lots_0 : decode cX3_lots 0 = .ok (.iload_n 1, 1) := by decide +kernel
theorem dX3_lots_1 : decode cX3_lots 1 = .ok (.iconst 1, 1) := by decide +kernel
theorem dX3_lots_2 : decode cX3_lots 2 = .ok (.bipush 20, 2) := by decide +kernel
theorem dX3_lots_4 : decode cX3_lots 4 = .ok (.invokestatic 60, 3) := by decide +kernel
theorem dX3_lots_7 : decode cX3_lots 7 = .ok (.iload_n 3, 1) := by decide +kernel
theorem dX3_lots_8 : decode cX3_lots 8 = .ok (.iconst 2, 1) := by decide +kernel
theorem dX3_lots_9 : decode cX3_lots 9 = .ok (.invokestatic 101, 3) := by decide +kernel
theorem dX3_lots_12 : decode cX3_lots 12 = .ok (.iconst 0, 1) := by decide +kernel
theorem dX3_lots_13 : decode cX3_lots 13 = .ok (.invokestatic 104, 3) := by decide +kernel
theorem dX3_lots_16 : decode cX3_lots 16 = .ok (.istore 4, 2) := by decide +kernel
theorem dX3_lots_18 : decode cX3_lots 18 = .ok (.iload 4, 2) := by decide +kernel
theorem dX3_lots_20 : decode cX3_lots 20 = .ok (.ifCond .eq 10, 3) := by decide +kernel
theorem dX3_lots_23 : decode cX3_lots 23 = .ok (.aload_n 0, 1) := by decide +kernel
theorem dX3_lots_24 : decode cX3_lots 24 = .ok (.iload 4, 2) := by decide +kernel
theorem dX3_lots_26 : decode cX3_lots 26 = .ok (.invokevirtual 67, 3) := by decide +kernel
theorem dX3_lots_29 : decode cX3_lots 29 = .ok (.ireturn, 1) := by decide +kernel
theorem dX3_lots_30 : decode cX3_lots 30 = .ok (.iload_n 2, 1) := by decide +kernel
theorem dX3_lots_31 : decode cX3_lots 31 = .ok (.istore 5, 2) := by decide +kernel
theorem dX3_lots_33 : decode cX3_lots 33 = .ok (.iconst 0, 1) := by decide +kernel
theorem dX3_lots_34 : decode cX3_lots 34 = .ok (.istore 6, 2) := by decide +kernel
theorem dX3_lots_36 : decode cX3_lots 36 = .ok (.iconst 0, 1) := by decide +kernel
theorem dX3_lots_37 : decode cX3_lots 37 = .ok (.istore 7, 2) := by decide +kernel
theorem dX3_lots_39 : decode cX3_lots 39 = .ok (.iconst 0, 1) := by decide +kernel
theorem dX3_lots_40 : decode cX3_lots 40 = .ok (.istore 8, 2) := by decide +kernel
theorem dX3_lots_42 : decode cX3_lots 42 = .ok (.iload 8, 2) := by decide +kernel
theorem dX3_lots_44 : decode cX3_lots 44 = .ok (.iload_n 1, 1) := by decide +kernel
theorem dX3_lots_45 : decode cX3_lots 45 = .ok (.if_icmp .ge 119, 3) := by decide +kernel
theorem dX3_lots_48 : decode cX3_lots 48 = .ok (.aload_n 0, 1) := by decide +kernel
theorem dX3_lots_49 : decode cX3_lots 49 = .ok (.invokevirtual 78, 3) := by decide +kernel
theorem dX3_lots_52 : decode cX3_lots 52 = .ok (.iconst 0, 1) := by decide +kernel
theorem dX3_lots_53 : decode cX3_lots 53 = .ok (.istore 9, 2) := by decide +kernel
theorem dX3_lots_55 : decode cX3_lots 55 = .ok (.iload 9, 2) := by decide +kernel
theorem dX3_lots_57 : decode cX3_lots 57 = .ok (.aload_n 0, 1) := by decide +kernel
theorem dX3_lots_58 : decode cX3_lots 58 = .ok (.getfield 10, 3) := by decide +kernel
theorem dX3_lots_61 : decode cX3_lots 61 = .ok (.getfield 191, 3) := by decide +kernel
theorem dX3_lots_64 : decode cX3_lots 64 = .ok (.if_icmp .ge 63, 3) := by decide +kernel
theorem dX3_lots_67 : decode cX3_lots 67 = .ok (.iload 5, 2) := by decide +kernel
theorem dX3_lots_69 : decode cX3_lots 69 = .ok (.ldc 230, 2) := by decide +kernel
theorem dX3_lots_71 : decode cX3_lots 71 = .ok (.imul, 1) := by decide +kernel
theorem dX3_lots_72 : decode cX3_lots 72 = .ok (.ldc 231, 2) := by decide +kernel
theorem dX3_lots_74 : decode cX3_lots 74 = .ok (.iadd, 1) := by decide +kernel
theorem dX3_lots_75 : decode cX3_lots 75 = .ok (.istore 5, 2) := by decide +kernel
theorem dX3_lots_77 : decode cX3_lots 77 = .ok (.aload_n 0, 1) := by decide +kernel
theorem dX3_lots_78 : decode cX3_lots 78 = .ok (.getfield 16, 3) := by decide +kernel
theorem dX3_lots_81 : decode cX3_lots 81 = .ok (.getfield 134, 3) := by decide +kernel
theorem dX3_lots_84 : decode cX3_lots 84 = .ok (.iload 9, 2) := by decide +kernel
theorem dX3_lots_86 : decode cX3_lots 86 = .ok (.iload 5, 2) := by decide +kernel
theorem dX3_lots_88 : decode cX3_lots 88 = .ok (.ldc 232, 2) := by decide +kernel
theorem dX3_lots_90 : decode cX3_lots 90 = .ok (.iand, 1) := by decide +kernel
theorem dX3_lots_91 : decode cX3_lots 91 = .ok (.sipush 256, 3) := by decide +kernel
theorem dX3_lots_94 : decode cX3_lots 94 = .ok (.idiv, 1) := by decide +kernel
theorem dX3_lots_95 : decode cX3_lots 95 = .ok (.bipush 21, 2) := by decide +kernel
theorem dX3_lots_97 : decode cX3_lots 97 = .ok (.irem, 1) := by decide +kernel
theorem dX3_lots_98 : decode cX3_lots 98 = .ok (.iastore, 1) := by decide +kernel
theorem dX3_lots_99 : decode cX3_lots 99 = .ok (.aload_n 0, 1) := by decide +kernel
theorem dX3_lots_100 : decode cX3_lots 100 = .ok (.getfield 16, 3) := by decide +kernel
theorem dX3_lots_103 : decode cX3_lots 103 = .ok (.getfield 137, 3) := by decide +kernel
theorem dX3_lots_106 : decode cX3_lots 106 = .ok (.iload 9, 2) := by decide +kernel
theorem dX3_lots_108 : decode cX3_lots 108 = .ok (.iconst 0, 1) := by decide +kernel
theorem dX3_lots_109 : decode cX3_lots 109 = .ok (.iastore, 1) := by decide +kernel
theorem dX3_lots_110 : decode cX3_lots 110 = .ok (.aload_n 0, 1) := by decide +kernel
theorem dX3_lots_111 : decode cX3_lots 111 = .ok (.getfield 16, 3) := by decide +kernel
theorem dX3_lots_114 : decode cX3_lots 114 = .ok (.getfield 140, 3) := by decide +kernel
theorem dX3_lots_117 : decode cX3_lots 117 = .ok (.iload 9, 2) := by decide +kernel
theorem dX3_lots_119 : decode cX3_lots 119 = .ok (.iconst 0, 1) := by decide +kernel
theorem dX3_lots_120 : decode cX3_lots 120 = .ok (.iastore, 1) := by decide +kernel
theorem dX3_lots_121 : decode cX3_lots 121 = .ok (.iinc 9 1, 3) := by decide +kernel
theorem dX3_lots_124 : decode cX3_lots 124 = .ok (.goto (-69), 3) := by decide +kernel
theorem dX3_lots_127 : decode cX3_lots 127 = .ok (.iload 6, 2) := by decide +kernel
theorem dX3_lots_129 : decode cX3_lots 129 = .ok (.aload_n 0, 1) := by decide +kernel
theorem dX3_lots_130 : decode cX3_lots 130 = .ok (.bipush 8, 2) := by decide +kernel
theorem dX3_lots_132 : decode cX3_lots 132 = .ok (.invokevirtual 177, 3) := by decide +kernel
theorem dX3_lots_135 : decode cX3_lots 135 = .ok (.iadd, 1) := by decide +kernel
theorem dX3_lots_136 : decode cX3_lots 136 = .ok (.istore 6, 2) := by decide +kernel
theorem dX3_lots_138 : decode cX3_lots 138 = .ok (.iload 7, 2) := by decide +kernel
theorem dX3_lots_140 : decode cX3_lots 140 = .ok (.aload_n 0, 1) := by decide +kernel
theorem dX3_lots_141 : decode cX3_lots 141 = .ok (.getfield 16, 3) := by decide +kernel
theorem dX3_lots_144 : decode cX3_lots 144 = .ok (.getfield 171, 3) := by decide +kernel
theorem dX3_lots_147 : decode cX3_lots 147 = .ok (.aload_n 0, 1) := by decide +kernel
theorem dX3_lots_148 : decode cX3_lots 148 = .ok (.getfield 10, 3) := by decide +kernel
theorem dX3_lots_151 : decode cX3_lots 151 = .ok (.getfield 171, 3) := by decide +kernel
theorem dX3_lots_154 : decode cX3_lots 154 = .ok (.isub, 1) := by decide +kernel
theorem dX3_lots_155 : decode cX3_lots 155 = .ok (.iadd, 1) := by decide +kernel
theorem dX3_lots_156 : decode cX3_lots 156 = .ok (.istore 7, 2) := by decide +kernel
theorem dX3_lots_158 : decode cX3_lots 158 = .ok (.iinc 8 1, 3) := by decide +kernel
theorem dX3_lots_161 : decode cX3_lots 161 = .ok (.goto (-119), 3) := by decide +kernel
theorem dX3_lots_164 : decode cX3_lots 164 = .ok (.iload_n 3, 1) := by decide +kernel
theorem dX3_lots_165 : decode cX3_lots 165 = .ok (.ifCond .ne 8, 3) := by decide +kernel
theorem dX3_lots_168 : decode cX3_lots 168 = .ok (.iload 6, 2) := by decide +kernel
theorem dX3_lots_170 : decode cX3_lots 170 = .ok (.goto 5, 3) := by decide +kernel
theorem dX3_lots_173 : decode cX3_lots 173 = .ok (.iload 7, 2) := by decide +kernel
theorem dX3_lots_175 : decode cX3_lots 175 = .ok (.ireturn, 1) := by decide +kernel
theorem dX3_image_0 : decode cX3_image 0 = .ok (.aload_n 0, 1) := by decide +kernel
theorem dX3_image_1 : decode cX3_image 1 = .ok (.getfield 19, 3) := by decide +kernel
theorem dX3_image_4 : decode cX3_image 4 = .ok (.aload_n 0, 1) := by decide +kernel
theorem dX3_image_5 : decode cX3_image 5 = .ok (.getfield 10, 3) := by decide +kernel
theorem dX3_image_8 : decode cX3_image 8 = .ok (.invokevirtual 94, 3) := by decide +kernel
theorem dX3_image_11 : decode cX3_image 11 = .ok (.aload_n 0, 1) := by decide +kernel
theorem dX3_image_12 : decode cX3_image 12 = .ok (.iconst 1, 1) := by decide +kernel
theorem dX3_image_13 : decode cX3_image 13 = .ok (.putfield 22, 3) := by decide +kernel
theorem dX3_image_16 : decode cX3_image 16 = .ok (.aload_n 0, 1) := by decide +kernel
theorem dX3_image_17 : decode cX3_image 17 = .ok (.getfield 10, 3) := by decide +kernel
theorem dX3_image_20 : decode cX3_image 20 = .ok (.getfield 119, 3) := by decide +kernel
theorem dX3_image_23 : decode cX3_image 23 = .ok (.ireturn, 1) := by decide +kernel
theorem dX3_on_0 : decode cX3_on 0 = .ok (.aload_n 0, 1) := by decide +kernel
theorem dX3_on_1 : decode cX3_on 1 = .ok (.getfield 22, 3) := by decide +kernel
theorem dX3_on_4 : decode cX3_on 4 = .ok (.ifCond .ne 10, 3) := by decide +kernel
theorem dX3_on_7 : decode cX3_on 7 = .ok (.aload_n 0, 1) := by decide +kernel
theorem dX3_on_8 : decode cX3_on 8 = .ok (.bipush (-3), 2) := by decide +kernel
theorem dX3_on_10 : decode cX3_on 10 = .ok (.invokevirtual 67, 3) := by decide +kernel
theorem dX3_on_13 : decode cX3_on 13 = .ok (.ireturn, 1) := by decide +kernel
theorem dX3_on_14 : decode cX3_on 14 = .ok (.aload_n 0, 1) := by decide +kernel
theorem dX3_on_15 : decode cX3_on 15 = .ok (.getfield 10, 3) := by decide +kernel
theorem dX3_on_18 : decode cX3_on 18 = .ok (.aload_n 0, 1) := by decide +kernel
theorem dX3_on_19 : decode cX3_on 19 = .ok (.getfield 19, 3) := by decide +kernel
theorem dX3_on_22 : decode cX3_on 22 = .ok (.invokevirtual 94, 3) := by decide +kernel
theorem dX3_on_25 : decode cX3_on 25 = .ok (.aload_n 0, 1) := by decide +kernel
theorem dX3_on_26 : decode cX3_on 26 = .ok (.getfield 10, 3) := by decide +kernel
theorem dX3_on_29 : decode cX3_on 29 = .ok (.getfield 119, 3) := by decide +kernel
theorem dX3_on_32 : decode cX3_on 32 = .ok (.ireturn, 1) := by decide +kernel
theorem dX3_count_0 : decode cX3_count 0 = .ok (.iload_n 1, 1) := by decide +kernel
theorem dX3_count_1 : decode cX3_count 1 = .ok (.tableswitch 108 0 7 #[47, 55, 63, 71, 79, 87, 95, 100], 47) := by decide +kernel
theorem dX3_count_48 : decode cX3_count 48 = .ok (.aload_n 0, 1) := by decide +kernel
theorem dX3_count_49 : decode cX3_count 49 = .ok (.getfield 10, 3) := by decide +kernel
theorem dX3_count_52 : decode cX3_count 52 = .ok (.getfield 188, 3) := by decide +kernel
theorem dX3_count_55 : decode cX3_count 55 = .ok (.ireturn, 1) := by decide +kernel
theorem dX3_count_56 : decode cX3_count 56 = .ok (.aload_n 0, 1) := by decide +kernel
theorem dX3_count_57 : decode cX3_count 57 = .ok (.getfield 10, 3) := by decide +kernel
theorem dX3_count_60 : decode cX3_count 60 = .ok (.getfield 191, 3) := by decide +kernel
theorem dX3_count_63 : decode cX3_count 63 = .ok (.ireturn, 1) := by decide +kernel
theorem dX3_count_64 : decode cX3_count 64 = .ok (.aload_n 0, 1) := by decide +kernel
theorem dX3_count_65 : decode cX3_count 65 = .ok (.getfield 10, 3) := by decide +kernel
theorem dX3_count_68 : decode cX3_count 68 = .ok (.getfield 119, 3) := by decide +kernel
theorem dX3_count_71 : decode cX3_count 71 = .ok (.ireturn, 1) := by decide +kernel
theorem dX3_count_72 : decode cX3_count 72 = .ok (.aload_n 0, 1) := by decide +kernel
theorem dX3_count_73 : decode cX3_count 73 = .ok (.getfield 10, 3) := by decide +kernel
theorem dX3_count_76 : decode cX3_count 76 = .ok (.getfield 171, 3) := by decide +kernel
theorem dX3_count_79 : decode cX3_count 79 = .ok (.ireturn, 1) := by decide +kernel
theorem dX3_count_80 : decode cX3_count 80 = .ok (.aload_n 0, 1) := by decide +kernel
theorem dX3_count_81 : decode cX3_count 81 = .ok (.getfield 10, 3) := by decide +kernel
theorem dX3_count_84 : decode cX3_count 84 = .ok (.invokevirtual 168, 3) := by decide +kernel
theorem dX3_count_87 : decode cX3_count 87 = .ok (.ireturn, 1) := by decide +kernel
theorem dX3_count_88 : decode cX3_count 88 = .ok (.aload_n 0, 1) := by decide +kernel
theorem dX3_count_89 : decode cX3_count 89 = .ok (.getfield 10, 3) := by decide +kernel
theorem dX3_count_92 : decode cX3_count 92 = .ok (.invokevirtual 233, 3) := by decide +kernel
theorem dX3_count_95 : decode cX3_count 95 = .ok (.ireturn, 1) := by decide +kernel
theorem dX3_count_96 : decode cX3_count 96 = .ok (.aload_n 0, 1) := by decide +kernel
theorem dX3_count_97 : decode cX3_count 97 = .ok (.getfield 44, 3) := by decide +kernel
theorem dX3_count_100 : decode cX3_count 100 = .ok (.ireturn, 1) := by decide +kernel
theorem dX3_count_101 : decode cX3_count 101 = .ok (.aload_n 0, 1) := by decide +kernel
theorem dX3_count_102 : decode cX3_count 102 = .ok (.getfield 29, 3) := by decide +kernel
theorem dX3_count_105 : decode cX3_count 105 = .ok (.getfield 64, 3) := by decide +kernel
theorem dX3_count_108 : decode cX3_count 108 = .ok (.ireturn, 1) := by decide +kernel
theorem dX3_count_109 : decode cX3_count 109 = .ok (.iload_n 1, 1) := by decide +kernel
theorem dX3_count_110 : decode cX3_count 110 = .ok (.bipush 11, 2) := by decide +kernel
theorem dX3_count_112 : decode cX3_count 112 = .ok (.if_icmp .lt 21, 3) := by decide +kernel
theorem dX3_count_115 : decode cX3_count 115 = .ok (.iload_n 1, 1) := by decide +kernel
theorem dX3_count_116 : decode cX3_count 116 = .ok (.bipush 16, 2) := by decide +kernel
theorem dX3_count_118 : decode cX3_count 118 = .ok (.if_icmp .gt 15, 3) := by decide +kernel
theorem dX3_count_121 : decode cX3_count 121 = .ok (.aload_n 0, 1) := by decide +kernel
theorem dX3_count_122 : decode cX3_count 122 = .ok (.getfield 48, 3) := by decide +kernel
theorem dX3_count_125 : decode cX3_count 125 = .ok (.iload_n 1, 1) := by decide +kernel
theorem dX3_count_126 : decode cX3_count 126 = .ok (.bipush 10, 2) := by decide +kernel
theorem dX3_count_128 : decode cX3_count 128 = .ok (.isub, 1) := by decide +kernel
theorem dX3_count_129 : decode cX3_count 129 = .ok (.iaload, 1) := by decide +kernel
theorem dX3_count_130 : decode cX3_count 130 = .ok (.goto 5, 3) := by decide +kernel
theorem dX3_count_133 : decode cX3_count 133 = .ok (.bipush (-9), 2) := by decide +kernel
theorem dX3_count_135 : decode cX3_count 135 = .ok (.ireturn, 1) := by decide +kernel
theorem dX3_refuse_0 : decode cX3_refuse 0 = .ok (.aload_n 0, 1) := by decide +kernel
theorem dX3_refuse_1 : decode cX3_refuse 1 = .ok (.getfield 48, 3) := by decide +kernel
theorem dX3_refuse_4 : decode cX3_refuse 4 = .ok (.iload_n 1, 1) := by decide +kernel
theorem dX3_refuse_5 : decode cX3_refuse 5 = .ok (.ineg, 1) := by decide +kernel
theorem dX3_refuse_6 : decode cX3_refuse 6 = .ok (.dup2, 1) := by decide +kernel
theorem dX3_refuse_7 : decode cX3_refuse 7 = .ok (.iaload, 1) := by decide +kernel
theorem dX3_refuse_8 : decode cX3_refuse 8 = .ok (.iconst 1, 1) := by decide +kernel
theorem dX3_refuse_9 : decode cX3_refuse 9 = .ok (.iadd, 1) := by decide +kernel
theorem dX3_refuse_10 : decode cX3_refuse 10 = .ok (.iastore, 1) := by decide +kernel
theorem dX3_refuse_11 : decode cX3_refuse 11 = .ok (.iload_n 1, 1) := by decide +kernel
theorem dX3_refuse_12 : decode cX3_refuse 12 = .ok (.ireturn, 1) := by decide +kernel
theorem dX3_firstOf_0 : decode cX3_firstOf 0 = .ok (.iload_n 0, 1) := by decide +kernel
theorem dX3_firstOf_1 : decode cX3_firstOf 1 = .ok (.ifCond .eq 5, 3) := by decide +kernel
theorem dX3_firstOf_4 : decode cX3_firstOf 4 = .ok (.iload_n 0, 1) := by decide +kernel
theorem dX3_firstOf_5 : decode cX3_firstOf 5 = .ok (.ireturn, 1) := by decide +kernel
theorem dX3_firstOf_6 : decode cX3_firstOf 6 = .ok (.iload_n 1, 1) := by decide +kernel
theorem dX3_firstOf_7 : decode cX3_firstOf 7 = .ok (.ifCond .eq 7, 3) := by decide +kernel
theorem dX3_firstOf_10 : decode cX3_firstOf 10 = .ok (.iload_n 1, 1) := by decide +kernel
theorem dX3_firstOf_11 : decode cX3_firstOf 11 = .ok (.goto 4, 3) := by decide +kernel
theorem dX3_firstOf_14 : decode cX3_firstOf 14 = .ok (.iload_n 2, 1) := by decide +kernel
theorem dX3_firstOf_15 : decode cX3_firstOf 15 = .ok (.ireturn, 1) := by decide +kernel
theorem dX3_range_0 : decode cX3_range 0 = .ok (.iload_n 0, 1) := by decide +kernel
theorem dX3_range_1 : decode cX3_range 1 = .ok (.iload_n 1, 1) := by decide +kernel
theorem dX3_range_2 : decode cX3_range 2 = .ok (.if_icmp .ge 6, 3) := by decide +kernel
theorem dX3_range_5 : decode cX3_range 5 = .ok (.bipush (-4), 2) := by decide +kernel
theorem dX3_range_7 : decode cX3_range 7 = .ok (.ireturn, 1) := by decide +kernel
theorem dX3_range_8 : decode cX3_range 8 = .ok (.iload_n 0, 1) := by decide +kernel
theorem dX3_range_9 : decode cX3_range 9 = .ok (.iload_n 2, 1) := by decide +kernel
theorem dX3_range_10 : decode cX3_range 10 = .ok (.if_icmp .le 8, 3) := by decide +kernel
theorem dX3_range_13 : decode cX3_range 13 = .ok (.bipush (-6), 2) := by decide +kernel
theorem dX3_range_15 : decode cX3_range 15 = .ok (.goto 4, 3) := by decide +kernel
theorem dX3_range_18 : decode cX3_range 18 = .ok (.iconst 0, 1) := by decide +kernel
theorem dX3_range_19 : decode cX3_range 19 = .ok (.ireturn, 1) := by decide +kernel
theorem dX3_anyOf_0 : decode cX3_anyOf 0 = .ok (.iload_n 0, 1) := by decide +kernel
theorem dX3_anyOf_1 : decode cX3_anyOf 1 = .ok (.ifCond .lt 12, 3) := by decide +kernel
theorem dX3_anyOf_4 : decode cX3_anyOf 4 = .ok (.iload_n 0, 1) := by decide +kernel
theorem dX3_anyOf_5 : decode cX3_anyOf 5 = .ok (.iload_n 1, 1) := by decide +kernel
theorem dX3_anyOf_6 : decode cX3_anyOf 6 = .ok (.if_icmp .ge 7, 3) := by decide +kernel
theorem dX3_anyOf_9 : decode cX3_anyOf 9 = .ok (.iconst 0, 1) := by decide +kernel
theorem dX3_anyOf_10 : decode cX3_anyOf 10 = .ok (.goto 5, 3) := by decide +kernel
theorem dX3_anyOf_13 : decode cX3_anyOf 13 = .ok (.bipush (-2), 2) := by decide +kernel
theorem dX3_anyOf_15 : decode cX3_anyOf 15 = .ok (.ireturn, 1) := by decide +kernel
theorem dX3_anySuit_0 : decode cX3_anySuit 0 = .ok (.iload_n 1, 1) := by decide +kernel
theorem dX3_anySuit_1 : decode cX3_anySuit 1 = .ok (.ifCond .lt 18, 3) := by decide +kernel
theorem dX3_anySuit_4 : decode cX3_anySuit 4 = .ok (.iload_n 1, 1) := by decide +kernel
theorem dX3_anySuit_5 : decode cX3_anySuit 5 = .ok (.aload_n 0, 1) := by decide +kernel
theorem dX3_anySuit_6 : decode cX3_anySuit 6 = .ok (.getfield 10, 3) := by decide +kernel
theorem dX3_anySuit_9 : decode cX3_anySuit 9 = .ok (.getfield 188, 3) := by decide +kernel
theorem dX3_anySuit_12 : decode cX3_anySuit 12 = .ok (.if_icmp .ge 7, 3) := by decide +kernel
theorem dX3_anySuit_15 : decode cX3_anySuit 15 = .ok (.iconst 0, 1) := by decide +kernel
theorem dX3_anySuit_16 : decode cX3_anySuit 16 = .ok (.goto 4, 3) := by decide +kernel
theorem dX3_anySuit_19 : decode cX3_anySuit 19 = .ok (.iconst (-1), 1) := by decide +kernel
theorem dX3_anySuit_20 : decode cX3_anySuit 20 = .ok (.ireturn, 1) := by decide +kernel
theorem dX3_anyCaller_0 : decode cX3_anyCaller 0 = .ok (.iload_n 1, 1) := by decide +kernel
theorem dX3_anyCaller_1 : decode cX3_anyCaller 1 = .ok (.ifCond .lt 18, 3) := by decide +kernel
theorem dX3_anyCaller_4 : decode cX3_anyCaller 4 = .ok (.iload_n 1, 1) := by decide +kernel
theorem dX3_anyCaller_5 : decode cX3_anyCaller 5 = .ok (.aload_n 0, 1) := by decide +kernel
theorem dX3_anyCaller_6 : decode cX3_anyCaller 6 = .ok (.getfield 10, 3) := by decide +kernel
theorem dX3_anyCaller_9 : decode cX3_anyCaller 9 = .ok (.getfield 191, 3) := by decide +kernel
theorem dX3_anyCaller_12 : decode cX3_anyCaller 12 = .ok (.if_icmp .ge 7, 3) := by decide +kernel
theorem dX3_anyCaller_15 : decode cX3_anyCaller 15 = .ok (.iconst 0, 1) := by decide +kernel
theorem dX3_anyCaller_16 : decode cX3_anyCaller 16 = .ok (.goto 4, 3) := by decide +kernel
theorem dX3_anyCaller_19 : decode cX3_anyCaller 19 = .ok (.iconst (-1), 1) := by decide +kernel
theorem dX3_anyCaller_20 : decode cX3_anyCaller 20 = .ok (.ireturn, 1) := by decide +kernel
theorem dX3_inSuit_0 : decode cX3_inSuit 0 = .ok (.aload_n 0, 1) := by decide +kernel
theorem dX3_inSuit_1 : decode cX3_inSuit 1 = .ok (.iload_n 1, 1) := by decide +kernel
theorem dX3_inSuit_2 : decode cX3_inSuit 2 = .ok (.invokevirtual 131, 3) := by decide +kernel
theorem dX3_inSuit_5 : decode cX3_inSuit 5 = .ok (.ifCond .ne 21, 3) := by decide +kernel
theorem dX3_inSuit_8 : decode cX3_inSuit 8 = .ok (.aload_n 0, 1) := by decide +kernel
theorem dX3_inSuit_9 : decode cX3_inSuit 9 = .ok (.getfield 10, 3) := by decide +kernel
theorem dX3_inSuit_12 : decode cX3_inSuit 12 = .ok (.getfield 143, 3) := by decide +kernel
theorem dX3_inSuit_15 : decode cX3_inSuit 15 = .ok (.iload_n 1, 1) := by decide +kernel
theorem dX3_inSuit_16 : decode cX3_inSuit 16 = .ok (.iaload, 1) := by decide +kernel
theorem dX3_inSuit_17 : decode cX3_inSuit 17 = .ok (.bipush (-9), 2) := by decide +kernel
theorem dX3_inSuit_19 : decode cX3_inSuit 19 = .ok (.if_icmp .eq 7, 3) := by decide +kernel
theorem dX3_inSuit_22 : decode cX3_inSuit 22 = .ok (.iconst 1, 1) := by decide +kernel
theorem dX3_inSuit_23 : decode cX3_inSuit 23 = .ok (.goto 4, 3) := by decide +kernel
theorem dX3_inSuit_26 : decode cX3_inSuit 26 = .ok (.iconst 0, 1) := by decide +kernel
theorem dX3_inSuit_27 : decode cX3_inSuit 27 = .ok (.istore_n 2, 1) := by decide +kernel
theorem dX3_inSuit_28 : decode cX3_inSuit 28 = .ok (.iload_n 2, 1) := by decide +kernel
theorem dX3_inSuit_29 : decode cX3_inSuit 29 = .ok (.ifCond .eq 7, 3) := by decide +kernel
theorem dX3_inSuit_32 : decode cX3_inSuit 32 = .ok (.iconst 0, 1) := by decide +kernel
theorem dX3_inSuit_33 : decode cX3_inSuit 33 = .ok (.goto 5, 3) := by decide +kernel
theorem dX3_inSuit_36 : decode cX3_inSuit 36 = .ok (.bipush (-3), 2) := by decide +kernel
theorem dX3_inSuit_38 : decode cX3_inSuit 38 = .ok (.ireturn, 1) := by decide +kernel
theorem dX3_rainRange_0 : decode cX3_rainRange 0 = .ok (.iload_n 0, 1) := by decide +kernel
theorem dX3_rainRange_1 : decode cX3_rainRange 1 = .ok (.ifCond .lt 12, 3) := by decide +kernel
theorem dX3_rainRange_4 : decode cX3_rainRange 4 = .ok (.iload_n 2, 1) := by decide +kernel
theorem dX3_rainRange_5 : decode cX3_rainRange 5 = .ok (.ifCond .lt 8, 3) := by decide +kernel
theorem dX3_rainRange_8 : decode cX3_rainRange 8 = .ok (.iload_n 1, 1) := by decide +kernel
theorem dX3_rainRange_9 : decode cX3_rainRange 9 = .ok (.iconst 2, 1) := by decide +kernel
theorem dX3_rainRange_10 : decode cX3_rainRange 10 = .ok (.if_icmp .ge 6, 3) := by decide +kernel
theorem dX3_rainRange_13 : decode cX3_rainRange 13 = .ok (.bipush (-4), 2) := by decide +kernel
theorem dX3_rainRange_15 : decode cX3_rainRange 15 = .ok (.ireturn, 1) := by decide +kernel
theorem dX3_rainRange_16 : decode cX3_rainRange 16 = .ok (.iload_n 0, 1) := by decide +kernel
theorem dX3_rainRange_17 : decode cX3_rainRange 17 = .ok (.bipush 7, 2) := by decide +kernel
theorem dX3_rainRange_19 : decode cX3_rainRange 19 = .ok (.if_icmp .gt 15, 3) := by decide +kernel
theorem dX3_rainRange_22 : decode cX3_rainRange 22 = .ok (.iload_n 1, 1) := by decide +kernel
theorem dX3_rainRange_23 : decode cX3_rainRange 23 = .ok (.bipush 20, 2) := by decide +kernel
theorem dX3_rainRange_25 : decode cX3_rainRange 25 = .ok (.if_icmp .gt 9, 3) := by decide +kernel
theorem dX3_rainRange_28 : decode cX3_rainRange 28 = .ok (.iload_n 2, 1) := by decide +kernel
theorem dX3_rainRange_29 : decode cX3_rainRange 29 = .ok (.bipush 6, 2) := by decide +kernel
theorem dX3_rainRange_31 : decode cX3_rainRange 31 = .ok (.if_icmp .le 8, 3) := by decide +kernel
theorem dX3_rainRange_34 : decode cX3_rainRange 34 = .ok (.bipush (-6), 2) := by decide +kernel
theorem dX3_rainRange_36 : decode cX3_rainRange 36 = .ok (.goto 4, 3) := by decide +kernel
theorem dX3_rainRange_39 : decode cX3_rainRange 39 = .ok (.iconst 0, 1) := by decide +kernel
theorem dX3_rainRange_40 : decode cX3_rainRange 40 = .ok (.ireturn, 1) := by decide +kernel
theorem dX3_think_0 : decode cX3_think 0 = .ok (.aload_n 0, 1) := by decide +kernel
theorem dX3_think_1 : decode cX3_think 1 = .ok (.getfield 16, 3) := by decide +kernel
theorem dX3_think_4 : decode cX3_think 4 = .ok (.aload_n 0, 1) := by decide +kernel
theorem dX3_think_5 : decode cX3_think 5 = .ok (.getfield 10, 3) := by decide +kernel
theorem dX3_think_8 : decode cX3_think 8 = .ok (.invokevirtual 94, 3) := by decide +kernel
theorem dX3_think_11 : decode cX3_think 11 = .ok (.return_, 1) := by decide +kernel
theorem dX3_allSaidBehind_0 : decode cX3_allSaidBehind 0 = .ok (.aload_n 0, 1) := by decide +kernel
theorem dX3_allSaidBehind_1 : decode cX3_allSaidBehind 1 = .ok (.getfield 16, 3) := by decide +kernel
theorem dX3_allSaidBehind_4 : decode cX3_allSaidBehind 4 = .ok (.iload_n 1, 1) := by decide +kernel
theorem dX3_allSaidBehind_5 : decode cX3_allSaidBehind 5 = .ok (.invokevirtual 164, 3) := by decide +kernel
theorem dX3_allSaidBehind_8 : decode cX3_allSaidBehind 8 = .ok (.aload_n 0, 1) := by decide +kernel
theorem dX3_allSaidBehind_9 : decode cX3_allSaidBehind 9 = .ok (.getfield 16, 3) := by decide +kernel
theorem dX3_allSaidBehind_12 : decode cX3_allSaidBehind 12 = .ok (.invokevirtual 168, 3) := by decide +kernel
theorem dX3_allSaidBehind_15 : decode cX3_allSaidBehind 15 = .ok (.ireturn, 1) := by decide +kernel
theorem dX3_firstToPropose_0 : decode cX3_firstToPropose 0 = .ok (.aload_n 0, 1) := by decide +kernel
theorem dX3_firstToPropose_1 : decode cX3_firstToPropose 1 = .ok (.invokevirtual 78, 3) := by decide +kernel
theorem dX3_firstToPropose_4 : decode cX3_firstToPropose 4 = .ok (.iconst 0, 1) := by decide +kernel
theorem dX3_firstToPropose_5 : decode cX3_firstToPropose 5 = .ok (.istore_n 1, 1) := by decide +kernel
theorem dX3_firstToPropose_6 : decode cX3_firstToPropose 6 = .ok (.iload_n 1, 1) := by decide +kernel
theorem dX3_firstToPropose_7 : decode cX3_firstToPropose 7 = .ok (.bipush 60, 2) := by decide +kernel
theorem dX3_firstToPropose_9 : decode cX3_firstToPropose 9 = .ok (.if_icmp .gt 52, 3) := by decide +kernel
theorem dX3_firstToPropose_12 : decode cX3_firstToPropose 12 = .ok (.iconst 0, 1) := by decide +kernel
theorem dX3_firstToPropose_13 : decode cX3_firstToPropose 13 = .ok (.istore_n 2, 1) := by decide +kernel
theorem dX3_firstToPropose_14 : decode cX3_firstToPropose 14 = .ok (.iload_n 2, 1) := by decide +kernel
theorem dX3_firstToPropose_15 : decode cX3_firstToPropose 15 = .ok (.aload_n 0, 1) := by decide +kernel
theorem dX3_firstToPropose_16 : decode cX3_firstToPropose 16 = .ok (.getfield 16, 3) := by decide +kernel
theorem dX3_firstToPropose_19 : decode cX3_firstToPropose 19 = .ok (.getfield 191, 3) := by decide +kernel
theorem dX3_firstToPropose_22 : decode cX3_firstToPropose 22 = .ok (.if_icmp .ge 25, 3) := by decide +kernel
theorem dX3_firstToPropose_25 : decode cX3_firstToPropose 25 = .ok (.aload_n 0, 1) := by decide +kernel
theorem dX3_firstToPropose_26 : decode cX3_firstToPropose 26 = .ok (.getfield 16, 3) := by decide +kernel
theorem dX3_firstToPropose_29 : decode cX3_firstToPropose 29 = .ok (.getfield 140, 3) := by decide +kernel
theorem dX3_firstToPropose_32 : decode cX3_firstToPropose 32 = .ok (.iload_n 2, 1) := by decide +kernel
theorem dX3_firstToPropose_33 : decode cX3_firstToPropose 33 = .ok (.iaload, 1) := by decide +kernel
theorem dX3_firstToPropose_34 : decode cX3_firstToPropose 34 = .ok (.bipush 6, 2) := by decide +kernel
theorem dX3_firstToPropose_36 : decode cX3_firstToPropose 36 = .ok (.if_icmp .lt 5, 3) := by decide +kernel
theorem dX3_firstToPropose_39 : decode cX3_firstToPropose 39 = .ok (.iload_n 2, 1) := by decide +kernel
theorem dX3_firstToPropose_40 : decode cX3_firstToPropose 40 = .ok (.ireturn, 1) := by decide +kernel
theorem dX3_firstToPropose_41 : decode cX3_firstToPropose 41 = .ok (.iinc 2 1, 3) := by decide +kernel
theorem dX3_firstToPropose_44 : decode cX3_firstToPropose 44 = .ok (.goto (-30), 3) := by decide +kernel
theorem dX3_firstToPropose_47 : decode cX3_firstToPropose 47 = .ok (.aload_n 0, 1) := by decide +kernel
theorem dX3_firstToPropose_48 : decode cX3_firstToPropose 48 = .ok (.getfield 16, 3) := by decide +kernel
theorem dX3_firstToPropose_51 : decode cX3_firstToPropose 51 = .ok (.iconst 1, 1) := by decide +kernel
theorem dX3_firstToPropose_52 : decode cX3_firstToPropose 52 = .ok (.invokevirtual 164, 3) := by decide +kernel
theorem dX3_firstToPropose_55 : decode cX3_firstToPropose 55 = .ok (.iinc 1 1, 3) := by decide +kernel
theorem dX3_firstToPropose_58 : decode cX3_firstToPropose 58 = .ok (.goto (-52), 3) := by decide +kernel
theorem dX3_firstToPropose_61 : decode cX3_firstToPropose 61 = .ok (.bipush (-9), 2) := by decide +kernel
theorem dX3_firstToPropose_63 : decode cX3_firstToPropose 63 = .ok (.ireturn, 1) := by decide +kernel
theorem dX3_suitsAhead_0 : decode cX3_suitsAhead 0 = .ok (.iconst 0, 1) := by decide +kernel
theorem dX3_suitsAhead_1 : decode cX3_suitsAhead 1 = .ok (.istore_n 2, 1) := by decide +kernel
theorem dX3_suitsAhead_2 : decode cX3_suitsAhead 2 = .ok (.aload_n 0, 1) := by decide +kernel
theorem dX3_suitsAhead_3 : decode cX3_suitsAhead 3 = .ok (.getfield 10, 3) := by decide +kernel
theorem dX3_suitsAhead_6 : decode cX3_suitsAhead 6 = .ok (.iload_n 1, 1) := by decide +kernel
theorem dX3_suitsAhead_7 : decode cX3_suitsAhead 7 = .ok (.invokevirtual 116, 3) := by decide +kernel
theorem dX3_suitsAhead_10 : decode cX3_suitsAhead 10 = .ok (.istore_n 3, 1) := by decide +kernel
theorem dX3_suitsAhead_11 : decode cX3_suitsAhead 11 = .ok (.iconst 0, 1) := by decide +kernel
theorem dX3_suitsAhead_12 : decode cX3_suitsAhead 12 = .ok (.istore 4, 2) := by decide +kernel
theorem dX3_suitsAhead_14 : decode cX3_suitsAhead 14 = .ok (.iload 4, 2) := by decide +kernel
theorem dX3_suitsAhead_16 : decode cX3_suitsAhead 16 = .ok (.aload_n 0, 1) := by decide +kernel
theorem dX3_suitsAhead_17 : decode cX3_suitsAhead 17 = .ok (.getfield 10, 3) := by decide +kernel
theorem dX3_suitsAhead_20 : decode cX3_suitsAhead 20 = .ok (.getfield 188, 3) := by decide +kernel
theorem dX3_suitsAhead_23 : decode cX3_suitsAhead 23 = .ok (.if_icmp .ge 41, 3) := by decide +kernel
theorem dX3_suitsAhead_26 : decode cX3_suitsAhead 26 = .ok (.aload_n 0, 1) := by decide +kernel
theorem dX3_suitsAhead_27 : decode cX3_suitsAhead 27 = .ok (.getfield 10, 3) := by decide +kernel
theorem dX3_suitsAhead_30 : decode cX3_suitsAhead 30 = .ok (.iload 4, 2) := by decide +kernel
theorem dX3_suitsAhead_32 : decode cX3_suitsAhead 32 = .ok (.invokevirtual 116, 3) := by decide +kernel
theorem dX3_suitsAhead_35 : decode cX3_suitsAhead 35 = .ok (.istore 5, 2) := by decide +kernel
theorem dX3_suitsAhead_37 : decode cX3_suitsAhead 37 = .ok (.iload 5, 2) := by decide +kernel
theorem dX3_suitsAhead_39 : decode cX3_suitsAhead 39 = .ok (.iload_n 3, 1) := by decide +kernel
theorem dX3_suitsAhead_40 : decode cX3_suitsAhead 40 = .ok (.if_icmp .gt 15, 3) := by decide +kernel
theorem dX3_suitsAhead_43 : decode cX3_suitsAhead 43 = .ok (.iload 5, 2) := by decide +kernel
theorem dX3_suitsAhead_45 : decode cX3_suitsAhead 45 = .ok (.iload_n 3, 1) := by decide +kernel
theorem dX3_suitsAhead_46 : decode cX3_suitsAhead 46 = .ok (.if_icmp .ne 12, 3) := by decide +kernel
theorem dX3_suitsAhead_49 : decode cX3_suitsAhead 49 = .ok (.iload 4, 2) := by decide +kernel
theorem dX3_suitsAhead_51 : decode cX3_suitsAhead 51 = .ok (.iload_n 1, 1) := by decide +kernel
theorem dX3_suitsAhead_52 : decode cX3_suitsAhead 52 = .ok (.if_icmp .ge 6, 3) := by decide +kernel
theorem dX3_suitsAhead_55 : decode cX3_suitsAhead 55 = .ok (.iinc 2 1, 3) := by decide +kernel
theorem dX3_suitsAhead_58 : decode cX3_suitsAhead 58 = .ok (.iinc 4 1, 3) := by decide +kernel
theorem dX3_suitsAhead_61 : decode cX3_suitsAhead 61 = .ok (.goto (-47), 3) := by decide +kernel
theorem dX3_suitsAhead_64 : decode cX3_suitsAhead 64 = .ok (.iload_n 2, 1) := by decide +kernel
theorem dX3_suitsAhead_65 : decode cX3_suitsAhead 65 = .ok (.ireturn, 1) := by decide +kernel
theorem dX3_thinkPair_0 : decode cX3_thinkPair 0 = .ok (.aload_n 0, 1) := by decide +kernel
theorem dX3_thinkPair_1 : decode cX3_thinkPair 1 = .ok (.invokevirtual 78, 3) := by decide +kernel
theorem dX3_thinkPair_4 : decode cX3_thinkPair 4 = .ok (.iload_n 3, 1) := by decide +kernel
theorem dX3_thinkPair_5 : decode cX3_thinkPair 5 = .ok (.iconst 2, 1) := by decide +kernel
theorem dX3_thinkPair_6 : decode cX3_thinkPair 6 = .ok (.iand, 1) := by decide +kernel
theorem dX3_thinkPair_7 : decode cX3_thinkPair 7 = .ok (.ifCond .ne 14, 3) := by decide +kernel
theorem dX3_thinkPair_10 : decode cX3_thinkPair 10 = .ok (.aload_n 0, 1) := by decide +kernel
theorem dX3_thinkPair_11 : decode cX3_thinkPair 11 = .ok (.getfield 16, 3) := by decide +kernel
theorem dX3_thinkPair_14 : decode cX3_thinkPair 14 = .ok (.getfield 143, 3) := by decide +kernel
theorem dX3_thinkPair_17 : decode cX3_thinkPair 17 = .ok (.iload_n 1, 1) := by decide +kernel
theorem dX3_thinkPair_18 : decode cX3_thinkPair 18 = .ok (.bipush (-9), 2) := by decide +kernel
theorem dX3_thinkPair_20 : decode cX3_thinkPair 20 = .ok (.iastore, 1) := by decide +kernel
theorem dX3_thinkPair_21 : decode cX3_thinkPair 21 = .ok (.iload_n 3, 1) := by decide +kernel
theorem dX3_thinkPair_22 : decode cX3_thinkPair 22 = .ok (.iconst 1, 1) := by decide +kernel
theorem dX3_thinkPair_23 : decode cX3_thinkPair 23 = .ok (.iand, 1) := by decide +kernel
theorem dX3_thinkPair_24 : decode cX3_thinkPair 24 = .ok (.ifCond .ne 14, 3) := by decide +kernel
theorem dX3_thinkPair_27 : decode cX3_thinkPair 27 = .ok (.aload_n 0, 1) := by decide +kernel
theorem dX3_thinkPair_28 : decode cX3_thinkPair 28 = .ok (.getfield 16, 3) := by decide +kernel
theorem dX3_thinkPair_31 : decode cX3_thinkPair 31 = .ok (.getfield 143, 3) := by decide +kernel
theorem dX3_thinkPair_34 : decode cX3_thinkPair 34 = .ok (.iload_n 2, 1) := by decide +kernel
theorem dX3_thinkPair_35 : decode cX3_thinkPair 35 = .ok (.bipush (-9), 2) := by decide +kernel
theorem dX3_thinkPair_37 : decode cX3_thinkPair 37 = .ok (.iastore, 1) := by decide +kernel
theorem dX3_thinkPair_38 : decode cX3_thinkPair 38 = .ok (.aload_n 0, 1) := by decide +kernel
theorem dX3_thinkPair_39 : decode cX3_thinkPair 39 = .ok (.getfield 16, 3) := by decide +kernel
theorem dX3_thinkPair_42 : decode cX3_thinkPair 42 = .ok (.iload 4, 2) := by decide +kernel
theorem dX3_thinkPair_44 : decode cX3_thinkPair 44 = .ok (.invokevirtual 164, 3) := by decide +kernel
theorem dX3_thinkPair_47 : decode cX3_thinkPair 47 = .ok (.return_, 1) := by decide +kernel
theorem dX3_wish_0 : decode cX3_wish 0 = .ok (.aload_n 0, 1) := by decide +kernel
theorem dX3_wish_1 : decode cX3_wish 1 = .ok (.getfield 16, 3) := by decide +kernel
theorem dX3_wish_4 : decode cX3_wish 4 = .ok (.getfield 140, 3) := by decide +kernel
theorem dX3_wish_7 : decode cX3_wish 7 = .ok (.iload_n 2, 1) := by decide +kernel
theorem dX3_wish_8 : decode cX3_wish 8 = .ok (.iaload, 1) := by decide +kernel
theorem dX3_wish_9 : decode cX3_wish 9 = .ok (.aload_n 0, 1) := by decide +kernel
theorem dX3_wish_10 : decode cX3_wish 10 = .ok (.getfield 16, 3) := by decide +kernel
theorem dX3_wish_13 : decode cX3_wish 13 = .ok (.getfield 140, 3) := by decide +kernel
theorem dX3_wish_16 : decode cX3_wish 16 = .ok (.iload_n 1, 1) := by decide +kernel
theorem dX3_wish_17 : decode cX3_wish 17 = .ok (.iaload, 1) := by decide +kernel
theorem dX3_wish_18 : decode cX3_wish 18 = .ok (.if_icmp .lt 7, 3) := by decide +kernel
theorem dX3_wish_21 : decode cX3_wish 21 = .ok (.iconst 2, 1) := by decide +kernel
theorem dX3_wish_22 : decode cX3_wish 22 = .ok (.goto 4, 3) := by decide +kernel
theorem dX3_wish_25 : decode cX3_wish 25 = .ok (.iconst 0, 1) := by decide +kernel
theorem dX3_wish_26 : decode cX3_wish 26 = .ok (.istore_n 3, 1) := by decide +kernel
theorem dX3_wish_27 : decode cX3_wish 27 = .ok (.aload_n 0, 1) := by decide +kernel
theorem dX3_wish_28 : decode cX3_wish 28 = .ok (.getfield 16, 3) := by decide +kernel
theorem dX3_wish_31 : decode cX3_wish 31 = .ok (.getfield 140, 3) := by decide +kernel
theorem dX3_wish_34 : decode cX3_wish 34 = .ok (.iload_n 1, 1) := by decide +kernel
theorem dX3_wish_35 : decode cX3_wish 35 = .ok (.iaload, 1) := by decide +kernel
theorem dX3_wish_36 : decode cX3_wish 36 = .ok (.iload_n 3, 1) := by decide +kernel
theorem dX3_wish_37 : decode cX3_wish 37 = .ok (.iadd, 1) := by decide +kernel
theorem dX3_wish_38 : decode cX3_wish 38 = .ok (.aload_n 0, 1) := by decide +kernel
theorem dX3_wish_39 : decode cX3_wish 39 = .ok (.getfield 16, 3) := by decide +kernel
theorem dX3_wish_42 : decode cX3_wish 42 = .ok (.getfield 137, 3) := by decide +kernel
theorem dX3_wish_45 : decode cX3_wish 45 = .ok (.iload_n 1, 1) := by decide +kernel
theorem dX3_wish_46 : decode cX3_wish 46 = .ok (.iaload, 1) := by decide +kernel
theorem dX3_wish_47 : decode cX3_wish 47 = .ok (.bipush 6, 2) := by decide +kernel
theorem dX3_wish_49 : decode cX3_wish 49 = .ok (.idiv, 1) := by decide +kernel
theorem dX3_wish_50 : decode cX3_wish 50 = .ok (.isub, 1) := by decide +kernel
theorem dX3_wish_51 : decode cX3_wish 51 = .ok (.ireturn, 1) := by decide +kernel
theorem dX3_saidInRain_0 : decode cX3_saidInRain 0 = .ok (.aload_n 0, 1) := by decide +kernel
theorem dX3_saidInRain_1 : decode cX3_saidInRain 1 = .ok (.invokevirtual 78, 3) := by decide +kernel
theorem dX3_saidInRain_4 : decode cX3_saidInRain 4 = .ok (.iconst 0, 1) := by decide +kernel
theorem dX3_saidInRain_5 : decode cX3_saidInRain 5 = .ok (.istore 4, 2) := by decide +kernel
theorem dX3_saidInRain_7 : decode cX3_saidInRain 7 = .ok (.iload 4, 2) := by decide +kernel
theorem dX3_saidInRain_9 : decode cX3_saidInRain 9 = .ok (.iload_n 2, 1) := by decide +kernel
theorem dX3_saidInRain_10 : decode cX3_saidInRain 10 = .ok (.if_icmp .ge 34, 3) := by decide +kernel
theorem dX3_saidInRain_13 : decode cX3_saidInRain 13 = .ok (.iload_n 3, 1) := by decide +kernel
theorem dX3_saidInRain_14 : decode cX3_saidInRain 14 = .ok (.iload 4, 2) := by decide +kernel
theorem dX3_saidInRain_16 : decode cX3_saidInRain 16 = .ok (.ishr, 1) := by decide +kernel
theorem dX3_saidInRain_17 : decode cX3_saidInRain 17 = .ok (.iconst 1, 1) := by decide +kernel
theorem dX3_saidInRain_18 : decode cX3_saidInRain 18 = .ok (.iand, 1) := by decide +kernel
theorem dX3_saidInRain_19 : decode cX3_saidInRain 19 = .ok (.iconst 1, 1) := by decide +kernel
theorem dX3_saidInRain_20 : decode cX3_saidInRain 20 = .ok (.if_icmp .ne 10, 3) := by decide +kernel
theorem dX3_saidInRain_23 : decode cX3_saidInRain 23 = .ok (.aload_n 0, 1) := by decide +kernel
theorem dX3_saidInRain_24 : decode cX3_saidInRain 24 = .ok (.getfield 16, 3) := by decide +kernel
theorem dX3_saidInRain_27 : decode cX3_saidInRain 27 = .ok (.invokevirtual 236, 3) := by decide +kernel
theorem dX3_saidInRain_30 : decode cX3_saidInRain 30 = .ok (.aload_n 0, 1) := by decide +kernel
theorem dX3_saidInRain_31 : decode cX3_saidInRain 31 = .ok (.getfield 16, 3) := by decide +kernel
theorem dX3_saidInRain_34 : decode cX3_saidInRain 34 = .ok (.iload_n 1, 1) := by decide +kernel
theorem dX3_saidInRain_35 : decode cX3_saidInRain 35 = .ok (.invokevirtual 239, 3) := by decide +kernel
theorem dX3_saidInRain_38 : decode cX3_saidInRain 38 = .ok (.iinc 4 1, 3) := by decide +kernel
theorem dX3_saidInRain_41 : decode cX3_saidInRain 41 = .ok (.goto (-34), 3) := by decide +kernel
theorem dX3_saidInRain_44 : decode cX3_saidInRain 44 = .ok (.aload_n 0, 1) := by decide +kernel
theorem dX3_saidInRain_45 : decode cX3_saidInRain 45 = .ok (.getfield 16, 3) := by decide +kernel
theorem dX3_saidInRain_48 : decode cX3_saidInRain 48 = .ok (.getfield 140, 3) := by decide +kernel
theorem dX3_saidInRain_51 : decode cX3_saidInRain 51 = .ok (.iload_n 1, 1) := by decide +kernel
theorem dX3_saidInRain_52 : decode cX3_saidInRain 52 = .ok (.iaload, 1) := by decide +kernel
theorem dX3_saidInRain_53 : decode cX3_saidInRain 53 = .ok (.ireturn, 1) := by decide +kernel
theorem dX3_waysOfRain_0 : decode cX3_waysOfRain 0 = .ok (.lconst 1, 1) := by decide +kernel
theorem dX3_waysOfRain_1 : decode cX3_waysOfRain 1 = .ok (.lstore_n 3, 1) := by decide +kernel
theorem dX3_waysOfRain_2 : decode cX3_waysOfRain 2 = .ok (.iconst 0, 1) := by decide +kernel
theorem dX3_waysOfRain_3 : decode cX3_waysOfRain 3 = .ok (.istore 5, 2) := by decide +kernel
theorem dX3_waysOfRain_5 : decode cX3_waysOfRain 5 = .ok (.iload 5, 2) := by decide +kernel
theorem dX3_waysOfRain_7 : decode cX3_waysOfRain 7 = .ok (.iload_n 0, 1) := by decide +kernel
theorem dX3_waysOfRain_8 : decode cX3_waysOfRain 8 = .ok (.if_icmp .ge 25, 3) := by decide +kernel
theorem dX3_waysOfRain_11 : decode cX3_waysOfRain 11 = .ok (.iload_n 2, 1) := by decide +kernel
theorem dX3_waysOfRain_12 : decode cX3_waysOfRain 12 = .ok (.iload 5, 2) := by decide +kernel
theorem dX3_waysOfRain_14 : decode cX3_waysOfRain 14 = .ok (.ishr, 1) := by decide +kernel
theorem dX3_waysOfRain_15 : decode cX3_waysOfRain 15 = .ok (.iconst 1, 1) := by decide +kernel
theorem dX3_waysOfRain_16 : decode cX3_waysOfRain 16 = .ok (.iand, 1) := by decide +kernel
theorem dX3_waysOfRain_17 : decode cX3_waysOfRain 17 = .ok (.ifCond .ne 10, 3) := by decide +kernel
theorem dX3_waysOfRain_20 : decode cX3_waysOfRain 20 = .ok (.lload_n 3, 1) := by decide +kernel
theorem dX3_waysOfRain_21 : decode cX3_waysOfRain 21 = .ok (.iload_n 1, 1) := by decide +kernel
theorem dX3_waysOfRain_22 : decode cX3_waysOfRain 22 = .ok (.iconst 1, 1) := by decide +kernel
theorem dX3_waysOfRain_23 : decode cX3_waysOfRain 23 = .ok (.isub, 1) := by decide +kernel
theorem dX3_waysOfRain_24 : decode cX3_waysOfRain 24 = .ok (.i2l, 1) := by decide +kernel
theorem dX3_waysOfRain_25 : decode cX3_waysOfRain 25 = .ok (.lmul, 1) := by decide +kernel
theorem dX3_waysOfRain_26 : decode cX3_waysOfRain 26 = .ok (.lstore_n 3, 1) := by decide +kernel
theorem dX3_waysOfRain_27 : decode cX3_waysOfRain 27 = .ok (.iinc 5 1, 3) := by decide +kernel
theorem dX3_waysOfRain_30 : decode cX3_waysOfRain 30 = .ok (.goto (-25), 3) := by decide +kernel
theorem dX3_waysOfRain_33 : decode cX3_waysOfRain 33 = .ok (.lload_n 3, 1) := by decide +kernel
theorem dX3_waysOfRain_34 : decode cX3_waysOfRain 34 = .ok (.lreturn, 1) := by decide +kernel
theorem dX3_partOf_0 : decode cX3_partOf 0 = .ok (.lload_n 0, 1) := by decide +kernel
theorem dX3_partOf_1 : decode cX3_partOf 1 = .ok (.lstore 5, 2) := by decide +kernel
theorem dX3_partOf_3 : decode cX3_partOf 3 = .ok (.lload_n 2, 1) := by decide +kernel
theorem dX3_partOf_4 : decode cX3_partOf 4 = .ok (.lstore 7, 2) := by decide +kernel
theorem dX3_partOf_6 : decode cX3_partOf 6 = .ok (.iconst 0, 1) := by decide +kernel
theorem dX3_partOf_7 : decode cX3_partOf 7 = .ok (.istore 9, 2) := by decide +kernel
theorem dX3_partOf_9 : decode cX3_partOf 9 = .ok (.iload 9, 2) := by decide +kernel
theorem dX3_partOf_11 : decode cX3_partOf 11 = .ok (.sipush 200, 3) := by decide +kernel
theorem dX3_partOf_14 : decode cX3_partOf 14 = .ok (.if_icmp .ge 31, 3) := by decide +kernel
theorem dX3_partOf_17 : decode cX3_partOf 17 = .ok (.lload 7, 2) := by decide +kernel
theorem dX3_partOf_19 : decode cX3_partOf 19 = .ok (.lconst 0, 1) := by decide +kernel
theorem dX3_partOf_20 : decode cX3_partOf 20 = .ok (.lcmp, 1) := by decide +kernel
theorem dX3_partOf_21 : decode cX3_partOf 21 = .ok (.ifCond .eq 24, 3) := by decide +kernel
theorem dX3_partOf_24 : decode cX3_partOf 24 = .ok (.lload 5, 2) := by decide +kernel
theorem dX3_partOf_26 : decode cX3_partOf 26 = .ok (.lload 7, 2) := by decide +kernel
theorem dX3_partOf_28 : decode cX3_partOf 28 = .ok (.lrem, 1) := by decide +kernel
theorem dX3_partOf_29 : decode cX3_partOf 29 = .ok (.lstore 10, 2) := by decide +kernel
theorem dX3_partOf_31 : decode cX3_partOf 31 = .ok (.lload 7, 2) := by decide +kernel
theorem dX3_partOf_33 : decode cX3_partOf 33 = .ok (.lstore 5, 2) := by decide +kernel
theorem dX3_partOf_35 : decode cX3_partOf 35 = .ok (.lload 10, 2) := by decide +kernel
theorem dX3_partOf_37 : decode cX3_partOf 37 = .ok (.lstore 7, 2) := by decide +kernel
theorem dX3_partOf_39 : decode cX3_partOf 39 = .ok (.iinc 9 1, 3) := by decide +kernel
theorem dX3_partOf_42 : decode cX3_partOf 42 = .ok (.goto (-33), 3) := by decide +kernel
theorem dX3_partOf_45 : decode cX3_partOf 45 = .ok (.lload 5, 2) := by decide +kernel
theorem dX3_partOf_47 : decode cX3_partOf 47 = .ok (.lconst 0, 1) := by decide +kernel
theorem dX3_partOf_48 : decode cX3_partOf 48 = .ok (.lcmp, 1) := by decide +kernel
theorem dX3_partOf_49 : decode cX3_partOf 49 = .ok (.ifCond .ne 7, 3) := by decide +kernel
theorem dX3_partOf_52 : decode cX3_partOf 52 = .ok (.iload 4, 2) := by decide +kernel
theorem dX3_partOf_54 : decode cX3_partOf 54 = .ok (.i2l, 1) := by decide +kernel
theorem dX3_partOf_55 : decode cX3_partOf 55 = .ok (.lreturn, 1) := by decide +kernel
theorem dX3_partOf_56 : decode cX3_partOf 56 = .ok (.iload 4, 2) := by decide +kernel
theorem dX3_partOf_58 : decode cX3_partOf 58 = .ok (.ifCond .ne 10, 3) := by decide +kernel
theorem dX3_partOf_61 : decode cX3_partOf 61 = .ok (.lload_n 0, 1) := by decide +kernel
theorem dX3_partOf_62 : decode cX3_partOf 62 = .ok (.lload 5, 2) := by decide +kernel
theorem dX3_partOf_64 : decode cX3_partOf 64 = .ok (.ldiv, 1) := by decide +kernel
theorem dX3_partOf_65 : decode cX3_partOf 65 = .ok (.goto 7, 3) := by decide +kernel
theorem dX3_partOf_68 : decode cX3_partOf 68 = .ok (.lload_n 2, 1) := by decide +kernel
theorem dX3_partOf_69 : decode cX3_partOf 69 = .ok (.lload 5, 2) := by decide +kernel
theorem dX3_partOf_71 : decode cX3_partOf 71 = .ok (.ldiv, 1) := by decide +kernel
theorem dX3_partOf_72 : decode cX3_partOf 72 = .ok (.lreturn, 1) := by decide +kernel
theorem dX3_saysTheRow_0 : decode cX3_saysTheRow 0 = .ok (.iconst 0, 1) := by decide +kernel
theorem dX3_saysTheRow_1 : decode cX3_saysTheRow 1 = .ok (.istore_n 2, 1) := by decide +kernel
theorem dX3_saysTheRow_2 : decode cX3_saysTheRow 2 = .ok (.iload_n 2, 1) := by decide +kernel
theorem dX3_saysTheRow_3 : decode cX3_saysTheRow 3 = .ok (.aload_n 0, 1) := by decide +kernel
theorem dX3_saysTheRow_4 : decode cX3_saysTheRow 4 = .ok (.getfield 44, 3) := by decide +kernel
theorem dX3_saysTheRow_7 : decode cX3_saysTheRow 7 = .ok (.if_icmp .ge 41, 3) := by decide +kernel
theorem dX3_saysTheRow_10 : decode cX3_saysTheRow 10 = .ok (.iload_n 2, 1) := by decide +kernel
theorem dX3_saysTheRow_11 : decode cX3_saysTheRow 11 = .ok (.ifCond .le 11, 3) := by decide +kernel
theorem dX3_saysTheRow_14 : decode cX3_saysTheRow 14 = .ok (.aload_n 0, 1) := by decide +kernel
theorem dX3_saysTheRow_15 : decode cX3_saysTheRow 15 = .ok (.getfield 16, 3) := by decide +kernel
theorem dX3_saysTheRow_18 : decode cX3_saysTheRow 18 = .ok (.iload_n 1, 1) := by decide +kernel
theorem dX3_saysTheRow_19 : decode cX3_saysTheRow 19 = .ok (.invokevirtual 239, 3) := by decide +kernel
theorem dX3_saysTheRow_22 : decode cX3_saysTheRow 22 = .ok (.aload_n 0, 1) := by decide +kernel
theorem dX3_saysTheRow_23 : decode cX3_saysTheRow 23 = .ok (.getfield 16, 3) := by decide +kernel
theorem dX3_saysTheRow_26 : decode cX3_saysTheRow 26 = .ok (.getfield 140, 3) := by decide +kernel
theorem dX3_saysTheRow_29 : decode cX3_saysTheRow 29 = .ok (.iload_n 1, 1) := by decide +kernel
theorem dX3_saysTheRow_30 : decode cX3_saysTheRow 30 = .ok (.iaload, 1) := by decide +kernel
theorem dX3_saysTheRow_31 : decode cX3_saysTheRow 31 = .ok (.aload_n 0, 1) := by decide +kernel
theorem dX3_saysTheRow_32 : decode cX3_saysTheRow 32 = .ok (.getfield 40, 3) := by decide +kernel
theorem dX3_saysTheRow_35 : decode cX3_saysTheRow 35 = .ok (.iload_n 2, 1) := by decide +kernel
theorem dX3_saysTheRow_36 : decode cX3_saysTheRow 36 = .ok (.iaload, 1) := by decide +kernel
theorem dX3_saysTheRow_37 : decode cX3_saysTheRow 37 = .ok (.if_icmp .eq 5, 3) := by decide +kernel
theorem dX3_saysTheRow_40 : decode cX3_saysTheRow 40 = .ok (.iconst 0, 1) := by decide +kernel
theorem dX3_saysTheRow_41 : decode cX3_saysTheRow 41 = .ok (.ireturn, 1) := by decide +kernel
theorem dX3_saysTheRow_42 : decode cX3_saysTheRow 42 = .ok (.iinc 2 1, 3) := by decide +kernel
theorem dX3_saysTheRow_45 : decode cX3_saysTheRow 45 = .ok (.goto (-43), 3) := by decide +kernel
theorem dX3_saysTheRow_48 : decode cX3_saysTheRow 48 = .ok (.iconst 1, 1) := by decide +kernel
theorem dX3_saysTheRow_49 : decode cX3_saysTheRow 49 = .ok (.ireturn, 1) := by decide +kernel
