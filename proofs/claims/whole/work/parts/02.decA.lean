theorem dX0_init_0 : decode cX0_init 0 = .ok (.aload_n 0, 1) := by decide +kernel
theorem dX0_init_1 : decode cX0_init 1 = .ok (.invokespecial 3, 3) := by decide +kernel
theorem dX0_init_4 : decode cX0_init 4 = .ok (.aload_n 0, 1) := by decide +kernel
theorem dX0_init_5 : decode cX0_init 5 = .ok (.bipush 6, 2) := by decide +kernel
theorem dX0_init_7 : decode cX0_init 7 = .ok (.newarray .int, 2) := by decide +kernel
theorem dX0_init_9 : decode cX0_init 9 = .ok (.putfield 9, 3) := by decide +kernel
theorem dX0_init_12 : decode cX0_init 12 = .ok (.aload_n 0, 1) := by decide +kernel
theorem dX0_init_13 : decode cX0_init 13 = .ok (.bipush 6, 2) := by decide +kernel
theorem dX0_init_15 : decode cX0_init 15 = .ok (.newarray .int, 2) := by decide +kernel
theorem dX0_init_17 : decode cX0_init 17 = .ok (.putfield 15, 3) := by decide +kernel
theorem dX0_init_20 : decode cX0_init 20 = .ok (.aload_n 0, 1) := by decide +kernel
theorem dX0_init_21 : decode cX0_init 21 = .ok (.bipush 6, 2) := by decide +kernel
theorem dX0_init_23 : decode cX0_init 23 = .ok (.newarray .int, 2) := by decide +kernel
theorem dX0_init_25 : decode cX0_init 25 = .ok (.putfield 18, 3) := by decide +kernel
theorem dX0_init_28 : decode cX0_init 28 = .ok (.aload_n 0, 1) := by decide +kernel
theorem dX0_init_29 : decode cX0_init 29 = .ok (.iconst 5, 1) := by decide +kernel
theorem dX0_init_30 : decode cX0_init 30 = .ok (.newarray .int, 2) := by decide +kernel
theorem dX0_init_32 : decode cX0_init 32 = .ok (.putfield 21, 3) := by decide +kernel
theorem dX0_init_35 : decode cX0_init 35 = .ok (.aload_n 0, 1) := by decide +kernel
theorem dX0_init_36 : decode cX0_init 36 = .ok (.iconst 5, 1) := by decide +kernel
theorem dX0_init_37 : decode cX0_init 37 = .ok (.newarray .int, 2) := by decide +kernel
theorem dX0_init_39 : decode cX0_init 39 = .ok (.putfield 24, 3) := by decide +kernel
theorem dX0_init_42 : decode cX0_init 42 = .ok (.aload_n 0, 1) := by decide +kernel
theorem dX0_init_43 : decode cX0_init 43 = .ok (.iconst 5, 1) := by decide +kernel
theorem dX0_init_44 : decode cX0_init 44 = .ok (.newarray .int, 2) := by decide +kernel
theorem dX0_init_46 : decode cX0_init 46 = .ok (.putfield 27, 3) := by decide +kernel
theorem dX0_init_49 : decode cX0_init 49 = .ok (.aload_n 0, 1) := by decide +kernel
theorem dX0_init_50 : decode cX0_init 50 = .ok (.iconst 5, 1) := by decide +kernel
theorem dX0_init_51 : decode cX0_init 51 = .ok (.newarray .int, 2) := by decide +kernel
theorem dX0_init_53 : decode cX0_init 53 = .ok (.putfield 30, 3) := by decide +kernel
theorem dX0_init_56 : decode cX0_init 56 = .ok (.aload_n 0, 1) := by decide +kernel
theorem dX0_init_57 : decode cX0_init 57 = .ok (.iconst 0, 1) := by decide +kernel
theorem dX0_init_58 : decode cX0_init 58 = .ok (.putfield 33, 3) := by decide +kernel
theorem dX0_init_61 : decode cX0_init 61 = .ok (.aload_n 0, 1) := by decide +kernel
theorem dX0_init_62 : decode cX0_init 62 = .ok (.iconst 0, 1) := by decide +kernel
theorem dX0_init_63 : decode cX0_init 63 = .ok (.putfield 37, 3) := by decide +kernel
theorem dX0_init_66 : decode cX0_init 66 = .ok (.aload_n 0, 1) := by decide +kernel
theorem dX0_init_67 : decode cX0_init 67 = .ok (.iconst 0, 1) := by decide +kernel
theorem dX0_init_68 : decode cX0_init 68 = .ok (.putfield 40, 3) := by decide +kernel
theorem dX0_init_71 : decode cX0_init 71 = .ok (.aload_n 0, 1) := by decide +kernel
theorem dX0_init_72 : decode cX0_init 72 = .ok (.iconst 0, 1) := by decide +kernel
theorem dX0_init_73 : decode cX0_init 73 = .ok (.putfield 43, 3) := by decide +kernel
theorem dX0_init_76 : decode cX0_init 76 = .ok (.return_, 1) := by decide +kernel
theorem dX0_copyFrom_0 : decode cX0_copyFrom 0 = .ok (.aload_n 1, 1) := by decide +kernel
theorem dX0_copyFrom_1 : decode cX0_copyFrom 1 = .ok (.getfield 9, 3) := by decide +kernel
theorem dX0_copyFrom_4 : decode cX0_copyFrom 4 = .ok (.iconst 0, 1) := by decide +kernel
theorem dX0_copyFrom_5 : decode cX0_copyFrom 5 = .ok (.aload_n 0, 1) := by decide +kernel
theorem dX0_copyFrom_6 : decode cX0_copyFrom 6 = .ok (.getfield 9, 3) := by decide +kernel
theorem dX0_copyFrom_9 : decode cX0_copyFrom 9 = .ok (.iconst 0, 1) := by decide +kernel
theorem dX0_copyFrom_10 : decode cX0_copyFrom 10 = .ok (.bipush 6, 2) := by decide +kernel
theorem dX0_copyFrom_12 : decode cX0_copyFrom 12 = .ok (.invokestatic 46, 3) := by decide +kernel
theorem dX0_copyFrom_15 : decode cX0_copyFrom 15 = .ok (.aload_n 1, 1) := by decide +kernel
theorem dX0_copyFrom_16 : decode cX0_copyFrom 16 = .ok (.getfield 15, 3) := by decide +kernel
theorem dX0_copyFrom_19 : decode cX0_copyFrom 19 = .ok (.iconst 0, 1) := by decide +kernel
theorem dX0_copyFrom_20 : decode cX0_copyFrom 20 = .ok (.aload_n 0, 1) := by decide +kernel
theorem dX0_copyFrom_21 : decode cX0_copyFrom 21 = .ok (.getfield 15, 3) := by decide +kernel
theorem dX0_copyFrom_24 : decode cX0_copyFrom 24 = .ok (.iconst 0, 1) := by decide +kernel
theorem dX0_copyFrom_25 : decode cX0_copyFrom 25 = .ok (.bipush 6, 2) := by decide +kernel
theorem dX0_copyFrom_27 : decode cX0_copyFrom 27 = .ok (.invokestatic 46, 3) := by decide +kernel
theorem dX0_copyFrom_30 : decode cX0_copyFrom 30 = .ok (.aload_n 1, 1) := by decide +kernel
theorem dX0_copyFrom_31 : decode cX0_copyFrom 31 = .ok (.getfield 18, 3) := by decide +kernel
theorem dX0_copyFrom_34 : decode cX0_copyFrom 34 = .ok (.iconst 0, 1) := by decide +kernel
theorem dX0_copyFrom_35 : decode cX0_copyFrom 35 = .ok (.aload_n 0, 1) := by decide +kernel
theorem dX0_copyFrom_36 : decode cX0_copyFrom 36 = .ok (.getfield 18, 3) := by decide +kernel
theorem dX0_copyFrom_39 : decode cX0_copyFrom 39 = .ok (.iconst 0, 1) := by decide +kernel
theorem dX0_copyFrom_40 : decode cX0_copyFrom 40 = .ok (.bipush 6, 2) := by decide +kernel
theorem dX0_copyFrom_42 : decode cX0_copyFrom 42 = .ok (.invokestatic 46, 3) := by decide +kernel
theorem dX0_copyFrom_45 : decode cX0_copyFrom 45 = .ok (.aload_n 1, 1) := by decide +kernel
theorem dX0_copyFrom_46 : decode cX0_copyFrom 46 = .ok (.getfield 21, 3) := by decide +kernel
theorem dX0_copyFrom_49 : decode cX0_copyFrom 49 = .ok (.iconst 0, 1) := by decide +kernel
theorem dX0_copyFrom_50 : decode cX0_copyFrom 50 = .ok (.aload_n 0, 1) := by decide +kernel
theorem dX0_copyFrom_51 : decode cX0_copyFrom 51 = .ok (.getfield 21, 3) := by decide +kernel
theorem dX0_copyFrom_54 : decode cX0_copyFrom 54 = .ok (.iconst 0, 1) := by decide +kernel
theorem dX0_copyFrom_55 : decode cX0_copyFrom 55 = .ok (.iconst 5, 1) := by decide +kernel
theorem dX0_copyFrom_56 : decode cX0_copyFrom 56 = .ok (.invokestatic 46, 3) := by decide +kernel
theorem dX0_copyFrom_59 : decode cX0_copyFrom 59 = .ok (.aload_n 1, 1) := by decide +kernel
theorem dX0_copyFrom_60 : decode cX0_copyFrom 60 = .ok (.getfield 24, 3) := by decide +kernel
theorem dX0_copyFrom_63 : decode cX0_copyFrom 63 = .ok (.iconst 0, 1) := by decide +kernel
theorem dX0_copyFrom_64 : decode cX0_copyFrom 64 = .ok (.aload_n 0, 1) := by decide +kernel
theorem dX0_copyFrom_65 : decode cX0_copyFrom 65 = .ok (.getfield 24, 3) := by decide +kernel
theorem dX0_copyFrom_68 : decode cX0_copyFrom 68 = .ok (.iconst 0, 1) := by decide +kernel
theorem dX0_copyFrom_69 : decode cX0_copyFrom 69 = .ok (.iconst 5, 1) := by decide +kernel
theorem dX0_copyFrom_70 : decode cX0_copyFrom 70 = .ok (.invokestatic 46, 3) := by decide +kernel
theorem dX0_copyFrom_73 : decode cX0_copyFrom 73 = .ok (.aload_n 1, 1) := by decide +kernel
theorem dX0_copyFrom_74 : decode cX0_copyFrom 74 = .ok (.getfield 27, 3) := by decide +kernel
theorem dX0_copyFrom_77 : decode cX0_copyFrom 77 = .ok (.iconst 0, 1) := by decide +kernel
theorem dX0_copyFrom_78 : decode cX0_copyFrom 78 = .ok (.aload_n 0, 1) := by decide +kernel
theorem dX0_copyFrom_79 : decode cX0_copyFrom 79 = .ok (.getfield 27, 3) := by decide +kernel
theorem dX0_copyFrom_82 : decode cX0_copyFrom 82 = .ok (.iconst 0, 1) := by decide +kernel
theorem dX0_copyFrom_83 : decode cX0_copyFrom 83 = .ok (.iconst 5, 1) := by decide +kernel
theorem dX0_copyFrom_84 : decode cX0_copyFrom 84 = .ok (.invokestatic 46, 3) := by decide +kernel
theorem dX0_copyFrom_87 : decode cX0_copyFrom 87 = .ok (.aload_n 1, 1) := by decide +kernel
theorem dX0_copyFrom_88 : decode cX0_copyFrom 88 = .ok (.getfield 30, 3) := by decide +kernel
theorem dX0_copyFrom_91 : decode cX0_copyFrom 91 = .ok (.iconst 0, 1) := by decide +kernel
theorem dX0_copyFrom_92 : decode cX0_copyFrom 92 = .ok (.aload_n 0, 1) := by decide +kernel
theorem dX0_copyFrom_93 : decode cX0_copyFrom 93 = .ok (.getfield 30, 3) := by decide +kernel
theorem dX0_copyFrom_96 : decode cX0_copyFrom 96 = .ok (.iconst 0, 1) := by decide +kernel
theorem dX0_copyFrom_97 : decode cX0_copyFrom 97 = .ok (.iconst 5, 1) := by decide +kernel
theorem dX0_copyFrom_98 : decode cX0_copyFrom 98 = .ok (.invokestatic 46, 3) := by decide +kernel
theorem dX0_copyFrom_101 : decode cX0_copyFrom 101 = .ok (.aload_n 0, 1) := by decide +kernel
theorem dX0_copyFrom_102 : decode cX0_copyFrom 102 = .ok (.aload_n 1, 1) := by decide +kernel
theorem dX0_copyFrom_103 : decode cX0_copyFrom 103 = .ok (.getfield 33, 3) := by decide +kernel
theorem dX0_copyFrom_106 : decode cX0_copyFrom 106 = .ok (.putfield 33, 3) := by decide +kernel
theorem dX0_copyFrom_109 : decode cX0_copyFrom 109 = .ok (.aload_n 0, 1) := by decide +kernel
theorem dX0_copyFrom_110 : decode cX0_copyFrom 110 = .ok (.aload_n 1, 1) := by decide +kernel
theorem dX0_copyFrom_111 : decode cX0_copyFrom 111 = .ok (.getfield 37, 3) := by decide +kernel
theorem dX0_copyFrom_114 : decode cX0_copyFrom 114 = .ok (.putfield 37, 3) := by decide +kernel
theorem dX0_copyFrom_117 : decode cX0_copyFrom 117 = .ok (.aload_n 0, 1) := by decide +kernel
theorem dX0_copyFrom_118 : decode cX0_copyFrom 118 = .ok (.aload_n 1, 1) := by decide +kernel
theorem dX0_copyFrom_119 : decode cX0_copyFrom 119 = .ok (.getfield 40, 3) := by decide +kernel
theorem dX0_copyFrom_122 : decode cX0_copyFrom 122 = .ok (.putfield 40, 3) := by decide +kernel
theorem dX0_copyFrom_125 : decode cX0_copyFrom 125 = .ok (.aload_n 0, 1) := by decide +kernel
theorem dX0_copyFrom_126 : decode cX0_copyFrom 126 = .ok (.aload_n 1, 1) := by decide +kernel
theorem dX0_copyFrom_127 : decode cX0_copyFrom 127 = .ok (.getfield 43, 3) := by decide +kernel
theorem dX0_copyFrom_130 : decode cX0_copyFrom 130 = .ok (.putfield 43, 3) := by decide +kernel
theorem dX0_copyFrom_133 : decode cX0_copyFrom 133 = .ok (.return_, 1) := by decide +kernel
theorem dX0_addSuit_0 : decode cX0_addSuit 0 = .ok (.aload_n 0, 1) := by decide +kernel
theorem dX0_addSuit_1 : decode cX0_addSuit 1 = .ok (.getfield 33, 3) := by decide +kernel
theorem dX0_addSuit_4 : decode cX0_addSuit 4 = .ok (.bipush 6, 2) := by decide +kernel
theorem dX0_addSuit_6 : decode cX0_addSuit 6 = .ok (.if_icmp .lt 5, 3) := by decide +kernel
theorem dX0_addSuit_9 : decode cX0_addSuit 9 = .ok (.iconst 0, 1) := by decide +kernel
theorem dX0_addSuit_10 : decode cX0_addSuit 10 = .ok (.ireturn, 1) := by decide +kernel
theorem dX0_addSuit_11 : decode cX0_addSuit 11 = .ok (.aload_n 0, 1) := by decide +kernel
theorem dX0_addSuit_12 : decode cX0_addSuit 12 = .ok (.getfield 9, 3) := by decide +kernel
theorem dX0_addSuit_15 : decode cX0_addSuit 15 = .ok (.aload_n 0, 1) := by decide +kernel
theorem dX0_addSuit_16 : decode cX0_addSuit 16 = .ok (.getfield 33, 3) := by decide +kernel
theorem dX0_addSuit_19 : decode cX0_addSuit 19 = .ok (.iload_n 1, 1) := by decide +kernel
theorem dX0_addSuit_20 : decode cX0_addSuit 20 = .ok (.iastore, 1) := by decide +kernel
theorem dX0_addSuit_21 : decode cX0_addSuit 21 = .ok (.aload_n 0, 1) := by decide +kernel
theorem dX0_addSuit_22 : decode cX0_addSuit 22 = .ok (.getfield 15, 3) := by decide +kernel
theorem dX0_addSuit_25 : decode cX0_addSuit 25 = .ok (.aload_n 0, 1) := by decide +kernel
theorem dX0_addSuit_26 : decode cX0_addSuit 26 = .ok (.getfield 33, 3) := by decide +kernel
theorem dX0_addSuit_29 : decode cX0_addSuit 29 = .ok (.iload_n 2, 1) := by decide +kernel
theorem dX0_addSuit_30 : decode cX0_addSuit 30 = .ok (.iastore, 1) := by decide +kernel
theorem dX0_addSuit_31 : decode cX0_addSuit 31 = .ok (.aload_n 0, 1) := by decide +kernel
theorem dX0_addSuit_32 : decode cX0_addSuit 32 = .ok (.getfield 18, 3) := by decide +kernel
theorem dX0_addSuit_35 : decode cX0_addSuit 35 = .ok (.aload_n 0, 1) := by decide +kernel
theorem dX0_addSuit_36 : decode cX0_addSuit 36 = .ok (.getfield 33, 3) := by decide +kernel
theorem dX0_addSuit_39 : decode cX0_addSuit 39 = .ok (.iconst 0, 1) := by decide +kernel
theorem dX0_addSuit_40 : decode cX0_addSuit 40 = .ok (.iastore, 1) := by decide +kernel
theorem dX0_addSuit_41 : decode cX0_addSuit 41 = .ok (.aload_n 0, 1) := by decide +kernel
theorem dX0_addSuit_42 : decode cX0_addSuit 42 = .ok (.dup, 1) := by decide +kernel
theorem dX0_addSuit_43 : decode cX0_addSuit 43 = .ok (.getfield 33, 3) := by decide +kernel
theorem dX0_addSuit_46 : decode cX0_addSuit 46 = .ok (.iconst 1, 1) := by decide +kernel
theorem dX0_addSuit_47 : decode cX0_addSuit 47 = .ok (.iadd, 1) := by decide +kernel
theorem dX0_addSuit_48 : decode cX0_addSuit 48 = .ok (.putfield 33, 3) := by decide +kernel
theorem dX0_addSuit_51 : decode cX0_addSuit 51 = .ok (.iconst 1, 1) := by decide +kernel
theorem dX0_addSuit_52 : decode cX0_addSuit 52 = .ok (.ireturn, 1) := by decide +kernel
theorem dX0_addCaller_0 : decode cX0_addCaller 0 = .ok (.aload_n 0, 1) := by decide +kernel
theorem dX0_addCaller_1 : decode cX0_addCaller 1 = .ok (.getfield 37, 3) := by decide +kernel
theorem dX0_addCaller_4 : decode cX0_addCaller 4 = .ok (.iconst 5, 1) := by decide +kernel
theorem dX0_addCaller_5 : decode cX0_addCaller 5 = .ok (.if_icmp .ge 9, 3) := by decide +kernel
theorem dX0_addCaller_8 : decode cX0_addCaller 8 = .ok (.iload_n 1, 1) := by decide +kernel
theorem dX0_addCaller_9 : decode cX0_addCaller 9 = .ok (.bipush 20, 2) := by decide +kernel
theorem dX0_addCaller_11 : decode cX0_addCaller 11 = .ok (.if_icmp .le 5, 3) := by decide +kernel
theorem dX0_addCaller_14 : decode cX0_addCaller 14 = .ok (.iconst 0, 1) := by decide +kernel
theorem dX0_addCaller_15 : decode cX0_addCaller 15 = .ok (.ireturn, 1) := by decide +kernel
theorem dX0_addCaller_16 : decode cX0_addCaller 16 = .ok (.aload_n 0, 1) := by decide +kernel
theorem dX0_addCaller_17 : decode cX0_addCaller 17 = .ok (.getfield 21, 3) := by decide +kernel
theorem dX0_addCaller_20 : decode cX0_addCaller 20 = .ok (.aload_n 0, 1) := by decide +kernel
theorem dX0_addCaller_21 : decode cX0_addCaller 21 = .ok (.getfield 37, 3) := by decide +kernel
theorem dX0_addCaller_24 : decode cX0_addCaller 24 = .ok (.iload_n 1, 1) := by decide +kernel
theorem dX0_addCaller_25 : decode cX0_addCaller 25 = .ok (.iastore, 1) := by decide +kernel
theorem dX0_addCaller_26 : decode cX0_addCaller 26 = .ok (.aload_n 0, 1) := by decide +kernel
theorem dX0_addCaller_27 : decode cX0_addCaller 27 = .ok (.getfield 24, 3) := by decide +kernel
theorem dX0_addCaller_30 : decode cX0_addCaller 30 = .ok (.aload_n 0, 1) := by decide +kernel
theorem dX0_addCaller_31 : decode cX0_addCaller 31 = .ok (.getfield 37, 3) := by decide +kernel
theorem dX0_addCaller_34 : decode cX0_addCaller 34 = .ok (.iconst 0, 1) := by decide +kernel
theorem dX0_addCaller_35 : decode cX0_addCaller 35 = .ok (.iastore, 1) := by decide +kernel
theorem dX0_addCaller_36 : decode cX0_addCaller 36 = .ok (.aload_n 0, 1) := by decide +kernel
theorem dX0_addCaller_37 : decode cX0_addCaller 37 = .ok (.getfield 27, 3) := by decide +kernel
theorem dX0_addCaller_40 : decode cX0_addCaller 40 = .ok (.aload_n 0, 1) := by decide +kernel
theorem dX0_addCaller_41 : decode cX0_addCaller 41 = .ok (.getfield 37, 3) := by decide +kernel
theorem dX0_addCaller_44 : decode cX0_addCaller 44 = .ok (.iconst 0, 1) := by decide +kernel
theorem dX0_addCaller_45 : decode cX0_addCaller 45 = .ok (.iastore, 1) := by decide +kernel
theorem dX0_addCaller_46 : decode cX0_addCaller 46 = .ok (.aload_n 0, 1) := by decide +kernel
theorem dX0_addCaller_47 : decode cX0_addCaller 47 = .ok (.getfield 30, 3) := by decide +kernel
theorem dX0_addCaller_50 : decode cX0_addCaller 50 = .ok (.aload_n 0, 1) := by decide +kernel
theorem dX0_addCaller_51 : decode cX0_addCaller 51 = .ok (.getfield 37, 3) := by decide +kernel
theorem dX0_addCaller_54 : decode cX0_addCaller 54 = .ok (.bipush (-9), 2) := by decide +kernel
theorem dX0_addCaller_56 : decode cX0_addCaller 56 = .ok (.iastore, 1) := by decide +kernel
theorem dX0_addCaller_57 : decode cX0_addCaller 57 = .ok (.aload_n 0, 1) := by decide +kernel
theorem dX0_addCaller_58 : decode cX0_addCaller 58 = .ok (.dup, 1) := by decide +kernel
theorem dX0_addCaller_59 : decode cX0_addCaller 59 = .ok (.getfield 37, 3) := by decide +kernel
theorem dX0_addCaller_62 : decode cX0_addCaller 62 = .ok (.iconst 1, 1) := by decide +kernel
theorem dX0_addCaller_63 : decode cX0_addCaller 63 = .ok (.iadd, 1) := by decide +kernel
theorem dX0_addCaller_64 : decode cX0_addCaller 64 = .ok (.putfield 37, 3) := by decide +kernel
theorem dX0_addCaller_67 : decode cX0_addCaller 67 = .ok (.iconst 1, 1) := by decide +kernel
theorem dX0_addCaller_68 : decode cX0_addCaller 68 = .ok (.ireturn, 1) := by decide +kernel
theorem dX0_putIn_0 : decode cX0_putIn 0 = .ok (.aload_n 0, 1) := by decide +kernel
theorem dX0_putIn_1 : decode cX0_putIn 1 = .ok (.iload_n 2, 1) := by decide +kernel
theorem dX0_putIn_2 : decode cX0_putIn 2 = .ok (.invokevirtual 52, 3) := by decide +kernel
theorem dX0_putIn_5 : decode cX0_putIn 5 = .ok (.istore_n 3, 1) := by decide +kernel
theorem dX0_putIn_6 : decode cX0_putIn 6 = .ok (.iload_n 3, 1) := by decide +kernel
theorem dX0_putIn_7 : decode cX0_putIn 7 = .ok (.bipush (-9), 2) := by decide +kernel
theorem dX0_putIn_9 : decode cX0_putIn 9 = .ok (.if_icmp .eq 11, 3) := by decide +kernel
theorem dX0_putIn_12 : decode cX0_putIn 12 = .ok (.aload_n 0, 1) := by decide +kernel
theorem dX0_putIn_13 : decode cX0_putIn 13 = .ok (.getfield 30, 3) := by decide +kernel
theorem dX0_putIn_16 : decode cX0_putIn 16 = .ok (.iload_n 3, 1) := by decide +kernel
theorem dX0_putIn_17 : decode cX0_putIn 17 = .ok (.bipush (-9), 2) := by decide +kernel
theorem dX0_putIn_19 : decode cX0_putIn 19 = .ok (.iastore, 1) := by decide +kernel
theorem dX0_putIn_20 : decode cX0_putIn 20 = .ok (.aload_n 0, 1) := by decide +kernel
theorem dX0_putIn_21 : decode cX0_putIn 21 = .ok (.getfield 30, 3) := by decide +kernel
theorem dX0_putIn_24 : decode cX0_putIn 24 = .ok (.iload_n 1, 1) := by decide +kernel
theorem dX0_putIn_25 : decode cX0_putIn 25 = .ok (.iload_n 2, 1) := by decide +kernel
theorem dX0_putIn_26 : decode cX0_putIn 26 = .ok (.iastore, 1) := by decide +kernel
theorem dX0_putIn_27 : decode cX0_putIn 27 = .ok (.return_, 1) := by decide +kernel
theorem dX0_wearer_0 : decode cX0_wearer 0 = .ok (.iconst 0, 1) := by decide +kernel
theorem dX0_wearer_1 : decode cX0_wearer 1 = .ok (.istore_n 2, 1) := by decide +kernel
theorem dX0_wearer_2 : decode cX0_wearer 2 = .ok (.iload_n 2, 1) := by decide +kernel
theorem dX0_wearer_3 : decode cX0_wearer 3 = .ok (.aload_n 0, 1) := by decide +kernel
theorem dX0_wearer_4 : decode cX0_wearer 4 = .ok (.getfield 37, 3) := by decide +kernel
theorem dX0_wearer_7 : decode cX0_wearer 7 = .ok (.if_icmp .ge 21, 3) := by decide +kernel
theorem dX0_wearer_10 : decode cX0_wearer 10 = .ok (.aload_n 0, 1) := by decide +kernel
theorem dX0_wearer_11 : decode cX0_wearer 11 = .ok (.getfield 30, 3) := by decide +kernel
theorem dX0_wearer_14 : decode cX0_wearer 14 = .ok (.iload_n 2, 1) := by decide +kernel
theorem dX0_wearer_15 : decode cX0_wearer 15 = .ok (.iaload, 1) := by decide +kernel
theorem dX0_wearer_16 : decode cX0_wearer 16 = .ok (.iload_n 1, 1) := by decide +kernel
theorem dX0_wearer_17 : decode cX0_wearer 17 = .ok (.if_icmp .ne 5, 3) := by decide +kernel
theorem dX0_wearer_20 : decode cX0_wearer 20 = .ok (.iload_n 2, 1) := by decide +kernel
theorem dX0_wearer_21 : decode cX0_wearer 21 = .ok (.ireturn, 1) := by decide +kernel
theorem dX0_wearer_22 : decode cX0_wearer 22 = .ok (.iinc 2 1, 3) := by decide +kernel
theorem dX0_wearer_25 : decode cX0_wearer 25 = .ok (.goto (-23), 3) := by decide +kernel
theorem dX0_wearer_28 : decode cX0_wearer 28 = .ok (.bipush (-9), 2) := by decide +kernel
theorem dX0_wearer_30 : decode cX0_wearer 30 = .ok (.ireturn, 1) := by decide +kernel
theorem dX0_covers_0 : decode cX0_covers 0 = .ok (.aload_n 0, 1) := by decide +kernel
theorem dX0_covers_1 : decode cX0_covers 1 = .ok (.iload_n 1, 1) := by decide +kernel
theorem dX0_covers_2 : decode cX0_covers 2 = .ok (.aload_n 0, 1) := by decide +kernel
theorem dX0_covers_3 : decode cX0_covers 3 = .ok (.getfield 18, 3) := by decide +kernel
theorem dX0_covers_6 : decode cX0_covers 6 = .ok (.iload_n 1, 1) := by decide +kernel
theorem dX0_covers_7 : decode cX0_covers 7 = .ok (.iaload, 1) := by decide +kernel
theorem dX0_covers_8 : decode cX0_covers 8 = .ok (.invokevirtual 56, 3) := by decide +kernel
theorem dX0_covers_11 : decode cX0_covers 11 = .ok (.ireturn, 1) := by decide +kernel
theorem dX0_coversWith_0 : decode cX0_coversWith 0 = .ok (.aload_n 0, 1) := by decide +kernel
theorem dX0_coversWith_1 : decode cX0_coversWith 1 = .ok (.getfield 15, 3) := by decide +kernel
theorem dX0_coversWith_4 : decode cX0_coversWith 4 = .ok (.iload_n 1, 1) := by decide +kernel
theorem dX0_coversWith_5 : decode cX0_coversWith 5 = .ok (.iaload, 1) := by decide +kernel
theorem dX0_coversWith_6 : decode cX0_coversWith 6 = .ok (.iconst 4, 1) := by decide +kernel
theorem dX0_coversWith_7 : decode cX0_coversWith 7 = .ok (.iadd, 1) := by decide +kernel
theorem dX0_coversWith_8 : decode cX0_coversWith 8 = .ok (.iload_n 2, 1) := by decide +kernel
theorem dX0_coversWith_9 : decode cX0_coversWith 9 = .ok (.isub, 1) := by decide +kernel
theorem dX0_coversWith_10 : decode cX0_coversWith 10 = .ok (.istore_n 3, 1) := by decide +kernel
theorem dX0_coversWith_11 : decode cX0_coversWith 11 = .ok (.iload_n 3, 1) := by decide +kernel
theorem dX0_coversWith_12 : decode cX0_coversWith 12 = .ok (.ifCond .ge 5, 3) := by decide +kernel
theorem dX0_coversWith_15 : decode cX0_coversWith 15 = .ok (.iconst 0, 1) := by decide +kernel
theorem dX0_coversWith_16 : decode cX0_coversWith 16 = .ok (.istore_n 3, 1) := by decide +kernel
theorem dX0_coversWith_17 : decode cX0_coversWith 17 = .ok (.iload_n 3, 1) := by decide +kernel
theorem dX0_coversWith_18 : decode cX0_coversWith 18 = .ok (.getstatic 60, 3) := by decide +kernel
theorem dX0_coversWith_21 : decode cX0_coversWith 21 = .ok (.aload_n 0, 1) := by decide +kernel
theorem dX0_coversWith_22 : decode cX0_coversWith 22 = .ok (.getfield 9, 3) := by decide +kernel
theorem dX0_coversWith_25 : decode cX0_coversWith 25 = .ok (.iload_n 1, 1) := by decide +kernel
theorem dX0_coversWith_26 : decode cX0_coversWith 26 = .ok (.iaload, 1) := by decide +kernel
theorem dX0_coversWith_27 : decode cX0_coversWith 27 = .ok (.iaload, 1) := by decide +kernel
theorem dX0_coversWith_28 : decode cX0_coversWith 28 = .ok (.imul, 1) := by decide +kernel
theorem dX0_coversWith_29 : decode cX0_coversWith 29 = .ok (.iconst 2, 1) := by decide +kernel
theorem dX0_coversWith_30 : decode cX0_coversWith 30 = .ok (.idiv, 1) := by decide +kernel
theorem dX0_coversWith_31 : decode cX0_coversWith 31 = .ok (.getstatic 63, 3) := by decide +kernel
theorem dX0_coversWith_34 : decode cX0_coversWith 34 = .ok (.aload_n 0, 1) := by decide +kernel
theorem dX0_coversWith_35 : decode cX0_coversWith 35 = .ok (.getfield 9, 3) := by decide +kernel
theorem dX0_coversWith_38 : decode cX0_coversWith 38 = .ok (.iload_n 1, 1) := by decide +kernel
theorem dX0_coversWith_39 : decode cX0_coversWith 39 = .ok (.iaload, 1) := by decide +kernel
theorem dX0_coversWith_40 : decode cX0_coversWith 40 = .ok (.iaload, 1) := by decide +kernel
theorem dX0_coversWith_41 : decode cX0_coversWith 41 = .ok (.iadd, 1) := by decide +kernel
theorem dX0_coversWith_42 : decode cX0_coversWith 42 = .ok (.istore 4, 2) := by decide +kernel
theorem dX0_coversWith_44 : decode cX0_coversWith 44 = .ok (.iload 4, 2) := by decide +kernel
theorem dX0_coversWith_46 : decode cX0_coversWith 46 = .ok (.ifCond .ge 7, 3) := by decide +kernel
theorem dX0_coversWith_49 : decode cX0_coversWith 49 = .ok (.iconst 0, 1) := by decide +kernel
theorem dX0_coversWith_50 : decode cX0_coversWith 50 = .ok (.goto 5, 3) := by decide +kernel
theorem dX0_coversWith_53 : decode cX0_coversWith 53 = .ok (.iload 4, 2) := by decide +kernel
theorem dX0_coversWith_55 : decode cX0_coversWith 55 = .ok (.ireturn, 1) := by decide +kernel
theorem dX0_chafe_0 : decode cX0_chafe 0 = .ok (.getstatic 66, 3) := by decide +kernel
theorem dX0_chafe_3 : decode cX0_chafe 3 = .ok (.aload_n 0, 1) := by decide +kernel
theorem dX0_chafe_4 : decode cX0_chafe 4 = .ok (.getfield 9, 3) := by decide +kernel
theorem dX0_chafe_7 : decode cX0_chafe 7 = .ok (.iload_n 1, 1) := by decide +kernel
theorem dX0_chafe_8 : decode cX0_chafe 8 = .ok (.iaload, 1) := by decide +kernel
theorem dX0_chafe_9 : decode cX0_chafe 9 = .ok (.iaload, 1) := by decide +kernel
theorem dX0_chafe_10 : decode cX0_chafe 10 = .ok (.istore_n 3, 1) := by decide +kernel
theorem dX0_chafe_11 : decode cX0_chafe 11 = .ok (.aload_n 0, 1) := by decide +kernel
theorem dX0_chafe_12 : decode cX0_chafe 12 = .ok (.getfield 9, 3) := by decide +kernel
theorem dX0_chafe_15 : decode cX0_chafe 15 = .ok (.iload_n 1, 1) := by decide +kernel
theorem dX0_chafe_16 : decode cX0_chafe 16 = .ok (.iaload, 1) := by decide +kernel
theorem dX0_chafe_17 : decode cX0_chafe 17 = .ok (.iconst 4, 1) := by decide +kernel
theorem dX0_chafe_18 : decode cX0_chafe 18 = .ok (.if_icmp .ne 14, 3) := by decide +kernel
theorem dX0_chafe_21 : decode cX0_chafe 21 = .ok (.iload_n 3, 1) := by decide +kernel
theorem dX0_chafe_22 : decode cX0_chafe 22 = .ok (.aload_n 0, 1) := by decide +kernel
theorem dX0_chafe_23 : decode cX0_chafe 23 = .ok (.getfield 18, 3) := by decide +kernel
theorem dX0_chafe_26 : decode cX0_chafe 26 = .ok (.iload_n 1, 1) := by decide +kernel
theorem dX0_chafe_27 : decode cX0_chafe 27 = .ok (.iaload, 1) := by decide +kernel
theorem dX0_chafe_28 : decode cX0_chafe 28 = .ok (.iconst 3, 1) := by decide +kernel
theorem dX0_chafe_29 : decode cX0_chafe 29 = .ok (.idiv, 1) := by decide +kernel
theorem dX0_chafe_30 : decode cX0_chafe 30 = .ok (.iadd, 1) := by decide +kernel
theorem dX0_chafe_31 : decode cX0_chafe 31 = .ok (.ireturn, 1) := by decide +kernel
theorem dX0_chafe_32 : decode cX0_chafe 32 = .ok (.aload_n 0, 1) := by decide +kernel
theorem dX0_chafe_33 : decode cX0_chafe 33 = .ok (.getfield 9, 3) := by decide +kernel
theorem dX0_chafe_36 : decode cX0_chafe 36 = .ok (.iload_n 1, 1) := by decide +kernel
theorem dX0_chafe_37 : decode cX0_chafe 37 = .ok (.iaload, 1) := by decide +kernel
theorem dX0_chafe_38 : decode cX0_chafe 38 = .ok (.iconst 5, 1) := by decide +kernel
theorem dX0_chafe_39 : decode cX0_chafe 39 = .ok (.if_icmp .ne 11, 3) := by decide +kernel
theorem dX0_chafe_42 : decode cX0_chafe 42 = .ok (.iload_n 3, 1) := by decide +kernel
theorem dX0_chafe_43 : decode cX0_chafe 43 = .ok (.iload_n 2, 1) := by decide +kernel
theorem dX0_chafe_44 : decode cX0_chafe 44 = .ok (.iconst 2, 1) := by decide +kernel
theorem dX0_chafe_45 : decode cX0_chafe 45 = .ok (.irem, 1) := by decide +kernel
theorem dX0_chafe_46 : decode cX0_chafe 46 = .ok (.iadd, 1) := by decide +kernel
theorem dX0_chafe_47 : decode cX0_chafe 47 = .ok (.goto 4, 3) := by decide +kernel
theorem dX0_chafe_50 : decode cX0_chafe 50 = .ok (.iload_n 3, 1) := by decide +kernel
theorem dX0_chafe_51 : decode cX0_chafe 51 = .ok (.ireturn, 1) := by decide +kernel
theorem dX0_bravery_0 : decode cX0_bravery 0 = .ok (.aload_n 0, 1) := by decide +kernel
theorem dX0_bravery_1 : decode cX0_bravery 1 = .ok (.getfield 30, 3) := by decide +kernel
theorem dX0_bravery_4 : decode cX0_bravery 4 = .ok (.iload_n 1, 1) := by decide +kernel
theorem dX0_bravery_5 : decode cX0_bravery 5 = .ok (.iaload, 1) := by decide +kernel
theorem dX0_bravery_6 : decode cX0_bravery 6 = .ok (.istore_n 2, 1) := by decide +kernel
theorem dX0_bravery_7 : decode cX0_bravery 7 = .ok (.aload_n 0, 1) := by decide +kernel
theorem dX0_bravery_8 : decode cX0_bravery 8 = .ok (.iload_n 1, 1) := by decide +kernel
theorem dX0_bravery_9 : decode cX0_bravery 9 = .ok (.iload_n 2, 1) := by decide +kernel
theorem dX0_bravery_10 : decode cX0_bravery 10 = .ok (.bipush (-9), 2) := by decide +kernel
theorem dX0_bravery_12 : decode cX0_bravery 12 = .ok (.if_icmp .ne 7, 3) := by decide +kernel
theorem dX0_bravery_15 : decode cX0_bravery 15 = .ok (.iconst 0, 1) := by decide +kernel
theorem dX0_bravery_16 : decode cX0_bravery 16 = .ok (.goto 14, 3) := by decide +kernel
theorem dX0_bravery_19 : decode cX0_bravery 19 = .ok (.aload_n 0, 1) := by decide +kernel
theorem dX0_bravery_20 : decode cX0_bravery 20 = .ok (.iload_n 2, 1) := by decide +kernel
theorem dX0_bravery_21 : decode cX0_bravery 21 = .ok (.aload_n 0, 1) := by decide +kernel
theorem dX0_bravery_22 : decode cX0_bravery 22 = .ok (.getfield 18, 3) := by decide +kernel
theorem dX0_bravery_25 : decode cX0_bravery 25 = .ok (.iload_n 2, 1) := by decide +kernel
theorem dX0_bravery_26 : decode cX0_bravery 26 = .ok (.iaload, 1) := by decide +kernel
theorem dX0_bravery_27 : decode cX0_bravery 27 = .ok (.invokevirtual 56, 3) := by decide +kernel
theorem dX0_bravery_30 : decode cX0_bravery 30 = .ok (.invokevirtual 69, 3) := by decide +kernel
theorem dX0_bravery_33 : decode cX0_bravery 33 = .ok (.ireturn, 1) := by decide +kernel
theorem dX0_braveryCovered_0 : decode cX0_braveryCovered 0 = .ok (.iload_n 2, 1) := by decide +kernel
theorem dX0_braveryCovered_1 : decode cX0_braveryCovered 1 = .ok (.aload_n 0, 1) := by decide +kernel
theorem dX0_braveryCovered_2 : decode cX0_braveryCovered 2 = .ok (.getfield 27, 3) := by decide +kernel
theorem dX0_braveryCovered_5 : decode cX0_braveryCovered 5 = .ok (.iload_n 1, 1) := by decide +kernel
theorem dX0_braveryCovered_6 : decode cX0_braveryCovered 6 = .ok (.iaload, 1) := by decide +kernel
theorem dX0_braveryCovered_7 : decode cX0_braveryCovered 7 = .ok (.iadd, 1) := by decide +kernel
theorem dX0_braveryCovered_8 : decode cX0_braveryCovered 8 = .ok (.aload_n 0, 1) := by decide +kernel
theorem dX0_braveryCovered_9 : decode cX0_braveryCovered 9 = .ok (.getfield 21, 3) := by decide +kernel
theorem dX0_braveryCovered_12 : decode cX0_braveryCovered 12 = .ok (.iload_n 1, 1) := by decide +kernel
theorem dX0_braveryCovered_13 : decode cX0_braveryCovered 13 = .ok (.iaload, 1) := by decide +kernel
theorem dX0_braveryCovered_14 : decode cX0_braveryCovered 14 = .ok (.isub, 1) := by decide +kernel
theorem dX0_braveryCovered_15 : decode cX0_braveryCovered 15 = .ok (.aload_n 0, 1) := by decide +kernel
theorem dX0_braveryCovered_16 : decode cX0_braveryCovered 16 = .ok (.getfield 24, 3) := by decide +kernel
theorem dX0_braveryCovered_19 : decode cX0_braveryCovered 19 = .ok (.iload_n 1, 1) := by decide +kernel
theorem dX0_braveryCovered_20 : decode cX0_braveryCovered 20 = .ok (.iaload, 1) := by decide +kernel
theorem dX0_braveryCovered_21 : decode cX0_braveryCovered 21 = .ok (.iconst 3, 1) := by decide +kernel
theorem dX0_braveryCovered_22 : decode cX0_braveryCovered 22 = .ok (.idiv, 1) := by decide +kernel
theorem dX0_braveryCovered_23 : decode cX0_braveryCovered 23 = .ok (.isub, 1) := by decide +kernel
theorem dX0_braveryCovered_24 : decode cX0_braveryCovered 24 = .ok (.ireturn, 1) := by decide +kernel
theorem dX0_can_0 : decode cX0_can 0 = .ok (.aload_n 0, 1) := by decide +kernel
theorem dX0_can_1 : decode cX0_can 1 = .ok (.getfield 27, 3) := by decide +kernel
theorem dX0_can_4 : decode cX0_can 4 = .ok (.iload_n 1, 1) := by decide +kernel
theorem dX0_can_5 : decode cX0_can 5 = .ok (.iaload, 1) := by decide +kernel
theorem dX0_can_6 : decode cX0_can 6 = .ok (.bipush 6, 2) := by decide +kernel
theorem dX0_can_8 : decode cX0_can 8 = .ok (.if_icmp .ge 20, 3) := by decide +kernel
theorem dX0_can_11 : decode cX0_can 11 = .ok (.aload_n 0, 1) := by decide +kernel
theorem dX0_can_12 : decode cX0_can 12 = .ok (.iload_n 1, 1) := by decide +kernel
theorem dX0_can_13 : decode cX0_can 13 = .ok (.invokevirtual 72, 3) := by decide +kernel
theorem dX0_can_16 : decode cX0_can 16 = .ok (.aload_n 0, 1) := by decide +kernel
theorem dX0_can_17 : decode cX0_can 17 = .ok (.iload_n 1, 1) := by decide +kernel
theorem dX0_can_18 : decode cX0_can 18 = .ok (.invokevirtual 75, 3) := by decide +kernel
theorem dX0_can_21 : decode cX0_can 21 = .ok (.if_icmp .lt 7, 3) := by decide +kernel
theorem dX0_can_24 : decode cX0_can 24 = .ok (.iconst 1, 1) := by decide +kernel
theorem dX0_can_25 : decode cX0_can 25 = .ok (.goto 4, 3) := by decide +kernel
theorem dX0_can_28 : decode cX0_can 28 = .ok (.iconst 0, 1) := by decide +kernel
theorem dX0_can_29 : decode cX0_can 29 = .ok (.ireturn, 1) := by decide +kernel
theorem dX0_canCovered_0 : decode cX0_canCovered 0 = .ok (.aload_n 0, 1) := by decide +kernel
theorem dX0_canCovered_1 : decode cX0_canCovered 1 = .ok (.getfield 27, 3) := by decide +kernel
theorem dX0_canCovered_4 : decode cX0_canCovered 4 = .ok (.iload_n 1, 1) := by decide +kernel
theorem dX0_canCovered_5 : decode cX0_canCovered 5 = .ok (.iaload, 1) := by decide +kernel
theorem dX0_canCovered_6 : decode cX0_canCovered 6 = .ok (.bipush 6, 2) := by decide +kernel
theorem dX0_canCovered_8 : decode cX0_canCovered 8 = .ok (.if_icmp .ge 21, 3) := by decide +kernel
theorem dX0_canCovered_11 : decode cX0_canCovered 11 = .ok (.aload_n 0, 1) := by decide +kernel
theorem dX0_canCovered_12 : decode cX0_canCovered 12 = .ok (.iload_n 1, 1) := by decide +kernel
theorem dX0_canCovered_13 : decode cX0_canCovered 13 = .ok (.iload_n 2, 1) := by decide +kernel
theorem dX0_canCovered_14 : decode cX0_canCovered 14 = .ok (.invokevirtual 69, 3) := by decide +kernel
theorem dX0_canCovered_17 : decode cX0_canCovered 17 = .ok (.aload_n 0, 1) := by decide +kernel
theorem dX0_canCovered_18 : decode cX0_canCovered 18 = .ok (.iload_n 1, 1) := by decide +kernel
theorem dX0_canCovered_19 : decode cX0_canCovered 19 = .ok (.invokevirtual 75, 3) := by decide +kernel
theorem dX0_canCovered_22 : decode cX0_canCovered 22 = .ok (.if_icmp .lt 7, 3) := by decide +kernel
theorem dX0_canCovered_25 : decode cX0_canCovered 25 = .ok (.iconst 1, 1) := by decide +kernel
theorem dX0_canCovered_26 : decode cX0_canCovered 26 = .ok (.goto 4, 3) := by decide +kernel
theorem dX0_canCovered_29 : decode cX0_canCovered 29 = .ok (.iconst 0, 1) := by decide +kernel
theorem dX0_canCovered_30 : decode cX0_canCovered 30 = .ok (.ireturn, 1) := by decide +kernel
theorem dX0_needs_0 : decode cX0_needs 0 = .ok (.iconst 2, 1) := by decide +kernel
theorem dX0_needs_1 : decode cX0_needs 1 = .ok (.aload_n 0, 1) := by decide +kernel
theorem dX0_needs_2 : decode cX0_needs 2 = .ok (.getfield 27, 3) := by decide +kernel
theorem dX0_needs_5 : decode cX0_needs 5 = .ok (.iload_n 1, 1) := by decide +kernel
theorem dX0_needs_6 : decode cX0_needs 6 = .ok (.iaload, 1) := by decide +kernel
theorem dX0_needs_7 : decode cX0_needs 7 = .ok (.imul, 1) := by decide +kernel
theorem dX0_needs_8 : decode cX0_needs 8 = .ok (.iconst 2, 1) := by decide +kernel
theorem dX0_needs_9 : decode cX0_needs 9 = .ok (.iadd, 1) := by decide +kernel
theorem dX0_needs_10 : decode cX0_needs 10 = .ok (.bipush 6, 2) := by decide +kernel
theorem dX0_needs_12 : decode cX0_needs 12 = .ok (.isub, 1) := by decide +kernel
theorem dX0_needs_13 : decode cX0_needs 13 = .ok (.ireturn, 1) := by decide +kernel
theorem dX0_lacks_0 : decode cX0_lacks 0 = .ok (.aload_n 0, 1) := by decide +kernel
theorem dX0_lacks_1 : decode cX0_lacks 1 = .ok (.getfield 27, 3) := by decide +kernel
theorem dX0_lacks_4 : decode cX0_lacks 4 = .ok (.iload_n 1, 1) := by decide +kernel
theorem dX0_lacks_5 : decode cX0_lacks 5 = .ok (.iaload, 1) := by decide +kernel
theorem dX0_lacks_6 : decode cX0_lacks 6 = .ok (.bipush 6, 2) := by decide +kernel
theorem dX0_lacks_8 : decode cX0_lacks 8 = .ok (.if_icmp .lt 7, 3) := by decide +kernel
theorem dX0_lacks_11 : decode cX0_lacks 11 = .ok (.iconst 0, 1) := by decide +kernel
theorem dX0_lacks_12 : decode cX0_lacks 12 = .ok (.goto 18, 3) := by decide +kernel
theorem dX0_lacks_15 : decode cX0_lacks 15 = .ok (.aload_n 0, 1) := by decide +kernel
theorem dX0_lacks_16 : decode cX0_lacks 16 = .ok (.iload_n 1, 1) := by decide +kernel
theorem dX0_lacks_17 : decode cX0_lacks 17 = .ok (.invokevirtual 75, 3) := by decide +kernel
theorem dX0_lacks_20 : decode cX0_lacks 20 = .ok (.aload_n 0, 1) := by decide +kernel
theorem dX0_lacks_21 : decode cX0_lacks 21 = .ok (.iload_n 1, 1) := by decide +kernel
theorem dX0_lacks_22 : decode cX0_lacks 22 = .ok (.invokevirtual 72, 3) := by decide +kernel
theorem dX0_lacks_25 : decode cX0_lacks 25 = .ok (.isub, 1) := by decide +kernel
theorem dX0_lacks_26 : decode cX0_lacks 26 = .ok (.iconst 0, 1) := by decide +kernel
theorem dX0_lacks_27 : decode cX0_lacks 27 = .ok (.invokestatic 78, 3) := by decide +kernel
theorem dX0_lacks_30 : decode cX0_lacks 30 = .ok (.ireturn, 1) := by decide +kernel
theorem dX0_passDays_0 : decode cX0_passDays 0 = .ok (.iconst 0, 1) := by decide +kernel
theorem dX0_passDays_1 : decode cX0_passDays 1 = .ok (.istore_n 2, 1) := by decide +kernel
theorem dX0_passDays_2 : decode cX0_passDays 2 = .ok (.iload_n 2, 1) := by decide +kernel
theorem dX0_passDays_3 : decode cX0_passDays 3 = .ok (.iload_n 1, 1) := by decide +kernel
theorem dX0_passDays_4 : decode cX0_passDays 4 = .ok (.if_icmp .ge 53, 3) := by decide +kernel
theorem dX0_passDays_7 : decode cX0_passDays 7 = .ok (.aload_n 0, 1) := by decide +kernel
theorem dX0_passDays_8 : decode cX0_passDays 8 = .ok (.dup, 1) := by decide +kernel
theorem dX0_passDays_9 : decode cX0_passDays 9 = .ok (.getfield 43, 3) := by decide +kernel
theorem dX0_passDays_12 : decode cX0_passDays 12 = .ok (.iconst 1, 1) := by decide +kernel
theorem dX0_passDays_13 : decode cX0_passDays 13 = .ok (.iadd, 1) := by decide +kernel
theorem dX0_passDays_14 : decode cX0_passDays 14 = .ok (.putfield 43, 3) := by decide +kernel
theorem dX0_passDays_17 : decode cX0_passDays 17 = .ok (.iconst 0, 1) := by decide +kernel
theorem dX0_passDays_18 : decode cX0_passDays 18 = .ok (.istore_n 3, 1) := by decide +kernel
theorem dX0_passDays_19 : decode cX0_passDays 19 = .ok (.iload_n 3, 1) := by decide +kernel
theorem dX0_passDays_20 : decode cX0_passDays 20 = .ok (.aload_n 0, 1) := by decide +kernel
theorem dX0_passDays_21 : decode cX0_passDays 21 = .ok (.getfield 37, 3) := by decide +kernel
theorem dX0_passDays_24 : decode cX0_passDays 24 = .ok (.if_icmp .ge 14, 3) := by decide +kernel
theorem dX0_passDays_27 : decode cX0_passDays 27 = .ok (.aload_n 0, 1) := by decide +kernel
theorem dX0_passDays_28 : decode cX0_passDays 28 = .ok (.iload_n 3, 1) := by decide +kernel
theorem dX0_passDays_29 : decode cX0_passDays 29 = .ok (.invokevirtual 83, 3) := by decide +kernel
theorem dX0_passDays_32 : decode cX0_passDays 32 = .ok (.iinc 3 1, 3) := by decide +kernel
theorem dX0_passDays_35 : decode cX0_passDays 35 = .ok (.goto (-16), 3) := by decide +kernel
theorem dX0_passDays_38 : decode cX0_passDays 38 = .ok (.aload_n 0, 1) := by decide +kernel
theorem dX0_passDays_39 : decode cX0_passDays 39 = .ok (.getfield 43, 3) := by decide +kernel
theorem dX0_passDays_42 : decode cX0_passDays 42 = .ok (.iconst 5, 1) := by decide +kernel
theorem dX0_passDays_43 : decode cX0_passDays 43 = .ok (.irem, 1) := by decide +kernel
theorem dX0_passDays_44 : decode cX0_passDays 44 = .ok (.ifCond .ne 7, 3) := by decide +kernel
theorem dX0_passDays_47 : decode cX0_passDays 47 = .ok (.aload_n 0, 1) := by decide +kernel
theorem dX0_passDays_48 : decode cX0_passDays 48 = .ok (.invokevirtual 87, 3) := by decide +kernel
theorem dX0_passDays_51 : decode cX0_passDays 51 = .ok (.iinc 2 1, 3) := by decide +kernel
theorem dX0_passDays_54 : decode cX0_passDays 54 = .ok (.goto (-52), 3) := by decide +kernel
theorem dX0_passDays_57 : decode cX0_passDays 57 = .ok (.return_, 1) := by decide +kernel
theorem dX0_passDayOf_0 : decode cX0_passDayOf 0 = .ok (.aload_n 0, 1) := by decide +kernel
theorem dX0_passDayOf_1 : decode cX0_passDayOf 1 = .ok (.dup, 1) := by decide +kernel
theorem dX0_passDayOf_2 : decode cX0_passDayOf 2 = .ok (.getfield 43, 3) := by decide +kernel
theorem dX0_passDayOf_5 : decode cX0_passDayOf 5 = .ok (.iconst 1, 1) := by decide +kernel
theorem dX0_passDayOf_6 : decode cX0_passDayOf 6 = .ok (.iadd, 1) := by decide +kernel
theorem dX0_passDayOf_7 : decode cX0_passDayOf 7 = .ok (.putfield 43, 3) := by decide +kernel
theorem dX0_passDayOf_10 : decode cX0_passDayOf 10 = .ok (.aload_n 0, 1) := by decide +kernel
theorem dX0_passDayOf_11 : decode cX0_passDayOf 11 = .ok (.iload_n 1, 1) := by decide +kernel
theorem dX0_passDayOf_12 : decode cX0_passDayOf 12 = .ok (.invokevirtual 83, 3) := by decide +kernel
theorem dX0_passDayOf_15 : decode cX0_passDayOf 15 = .ok (.return_, 1) := by decide +kernel
theorem dX0_liveDay_0 : decode cX0_liveDay 0 = .ok (.aload_n 0, 1) := by decide +kernel
theorem dX0_liveDay_1 : decode cX0_liveDay 1 = .ok (.getfield 30, 3) := by decide +kernel
theorem dX0_liveDay_4 : decode cX0_liveDay 4 = .ok (.iload_n 1, 1) := by decide +kernel
theorem dX0_liveDay_5 : decode cX0_liveDay 5 = .ok (.iaload, 1) := by decide +kernel
theorem dX0_liveDay_6 : decode cX0_liveDay 6 = .ok (.istore_n 2, 1) := by decide +kernel
theorem dX0_liveDay_7 : decode cX0_liveDay 7 = .ok (.iload_n 2, 1) := by decide +kernel
theorem dX0_liveDay_8 : decode cX0_liveDay 8 = .ok (.bipush (-9), 2) := by decide +kernel
theorem dX0_liveDay_10 : decode cX0_liveDay 10 = .ok (.if_icmp .ne 22, 3) := by decide +kernel
theorem dX0_liveDay_13 : decode cX0_liveDay 13 = .ok (.aload_n 0, 1) := by decide +kernel
theorem dX0_liveDay_14 : decode cX0_liveDay 14 = .ok (.getfield 24, 3) := by decide +kernel
theorem dX0_liveDay_17 : decode cX0_liveDay 17 = .ok (.iload_n 1, 1) := by decide +kernel
theorem dX0_liveDay_18 : decode cX0_liveDay 18 = .ok (.aload_n 0, 1) := by decide +kernel
theorem dX0_liveDay_19 : decode cX0_liveDay 19 = .ok (.getfield 24, 3) := by decide +kernel
theorem dX0_liveDay_22 : decode cX0_liveDay 22 = .ok (.iload_n 1, 1) := by decide +kernel
theorem dX0_liveDay_23 : decode cX0_liveDay 23 = .ok (.iaload, 1) := by decide +kernel
theorem dX0_liveDay_24 : decode cX0_liveDay 24 = .ok (.iconst 1, 1) := by decide +kernel
theorem dX0_liveDay_25 : decode cX0_liveDay 25 = .ok (.isub, 1) := by decide +kernel
theorem dX0_liveDay_26 : decode cX0_liveDay 26 = .ok (.iconst 0, 1) := by decide +kernel
theorem dX0_liveDay_27 : decode cX0_liveDay 27 = .ok (.invokestatic 78, 3) := by decide +kernel
theorem dX0_liveDay_30 : decode cX0_liveDay 30 = .ok (.iastore, 1) := by decide +kernel
theorem dX0_liveDay_31 : decode cX0_liveDay 31 = .ok (.return_, 1) := by decide +kernel
theorem dX0_liveDay_32 : decode cX0_liveDay 32 = .ok (.aload_n 0, 1) := by decide +kernel
theorem dX0_liveDay_33 : decode cX0_liveDay 33 = .ok (.aload_n 0, 1) := by decide +kernel
theorem dX0_liveDay_34 : decode cX0_liveDay 34 = .ok (.getfield 40, 3) := by decide +kernel
theorem dX0_liveDay_37 : decode cX0_liveDay 37 = .ok (.getstatic 90, 3) := by decide +kernel
theorem dX0_liveDay_40 : decode cX0_liveDay 40 = .ok (.aload_n 0, 1) := by decide +kernel
theorem dX0_liveDay_41 : decode cX0_liveDay 41 = .ok (.getfield 9, 3) := by decide +kernel
theorem dX0_liveDay_44 : decode cX0_liveDay 44 = .ok (.iload_n 2, 1) := by decide +kernel
theorem dX0_liveDay_45 : decode cX0_liveDay 45 = .ok (.iaload, 1) := by decide +kernel
theorem dX0_liveDay_46 : decode cX0_liveDay 46 = .ok (.iaload, 1) := by decide +kernel
theorem dX0_liveDay_47 : decode cX0_liveDay 47 = .ok (.iadd, 1) := by decide +kernel
theorem dX0_liveDay_48 : decode cX0_liveDay 48 = .ok (.sipush 9999, 3) := by decide +kernel
theorem dX0_liveDay_51 : decode cX0_liveDay 51 = .ok (.invokestatic 93, 3) := by decide +kernel
theorem dX0_liveDay_54 : decode cX0_liveDay 54 = .ok (.putfield 40, 3) := by decide +kernel
theorem dX0_liveDay_57 : decode cX0_liveDay 57 = .ok (.aload_n 0, 1) := by decide +kernel
theorem dX0_liveDay_58 : decode cX0_liveDay 58 = .ok (.iload_n 1, 1) := by decide +kernel
theorem dX0_liveDay_59 : decode cX0_liveDay 59 = .ok (.invokevirtual 96, 3) := by decide +kernel
theorem dX0_liveDay_62 : decode cX0_liveDay 62 = .ok (.ifCond .eq 34, 3) := by decide +kernel
theorem dX0_liveDay_65 : decode cX0_liveDay 65 = .ok (.aload_n 0, 1) := by decide +kernel
theorem dX0_liveDay_66 : decode cX0_liveDay 66 = .ok (.getfield 27, 3) := by decide +kernel
theorem dX0_liveDay_69 : decode cX0_liveDay 69 = .ok (.iload_n 1, 1) := by decide +kernel
theorem dX0_liveDay_70 : decode cX0_liveDay 70 = .ok (.dup2, 1) := by decide +kernel
theorem dX0_liveDay_71 : decode cX0_liveDay 71 = .ok (.iaload, 1) := by decide +kernel
theorem dX0_liveDay_72 : decode cX0_liveDay 72 = .ok (.iconst 1, 1) := by decide +kernel
theorem dX0_liveDay_73 : decode cX0_liveDay 73 = .ok (.iadd, 1) := by decide +kernel
theorem dX0_liveDay_74 : decode cX0_liveDay 74 = .ok (.iastore, 1) := by decide +kernel
theorem dX0_liveDay_75 : decode cX0_liveDay 75 = .ok (.aload_n 0, 1) := by decide +kernel
theorem dX0_liveDay_76 : decode cX0_liveDay 76 = .ok (.getfield 21, 3) := by decide +kernel
theorem dX0_liveDay_79 : decode cX0_liveDay 79 = .ok (.iload_n 1, 1) := by decide +kernel
theorem dX0_liveDay_80 : decode cX0_liveDay 80 = .ok (.aload_n 0, 1) := by decide +kernel
theorem dX0_liveDay_81 : decode cX0_liveDay 81 = .ok (.getfield 21, 3) := by decide +kernel
theorem dX0_liveDay_84 : decode cX0_liveDay 84 = .ok (.iload_n 1, 1) := by decide +kernel
theorem dX0_liveDay_85 : decode cX0_liveDay 85 = .ok (.iaload, 1) := by decide +kernel
theorem dX0_liveDay_86 : decode cX0_liveDay 86 = .ok (.iconst 1, 1) := by decide +kernel
theorem dX0_liveDay_87 : decode cX0_liveDay 87 = .ok (.isub, 1) := by decide +kernel
theorem dX0_liveDay_88 : decode cX0_liveDay 88 = .ok (.iconst 0, 1) := by decide +kernel
theorem dX0_liveDay_89 : decode cX0_liveDay 89 = .ok (.invokestatic 78, 3) := by decide +kernel
theorem dX0_liveDay_92 : decode cX0_liveDay 92 = .ok (.iastore, 1) := by decide +kernel
theorem dX0_liveDay_93 : decode cX0_liveDay 93 = .ok (.goto 22, 3) := by decide +kernel
theorem dX0_liveDay_96 : decode cX0_liveDay 96 = .ok (.aload_n 0, 1) := by decide +kernel
theorem dX0_liveDay_97 : decode cX0_liveDay 97 = .ok (.getfield 21, 3) := by decide +kernel
theorem dX0_liveDay_100 : decode cX0_liveDay 100 = .ok (.iload_n 1, 1) := by decide +kernel
theorem dX0_liveDay_101 : decode cX0_liveDay 101 = .ok (.aload_n 0, 1) := by decide +kernel
theorem dX0_liveDay_102 : decode cX0_liveDay 102 = .ok (.getfield 21, 3) := by decide +kernel
theorem dX0_liveDay_105 : decode cX0_liveDay 105 = .ok (.iload_n 1, 1) := by decide +kernel
theorem dX0_liveDay_106 : decode cX0_liveDay 106 = .ok (.iaload, 1) := by decide +kernel
theorem dX0_liveDay_107 : decode cX0_liveDay 107 = .ok (.iconst 1, 1) := by decide +kernel
theorem dX0_liveDay_108 : decode cX0_liveDay 108 = .ok (.iadd, 1) := by decide +kernel
theorem dX0_liveDay_109 : decode cX0_liveDay 109 = .ok (.bipush 20, 2) := by decide +kernel
theorem dX0_liveDay_111 : decode cX0_liveDay 111 = .ok (.invokestatic 93, 3) := by decide +kernel
theorem dX0_liveDay_114 : decode cX0_liveDay 114 = .ok (.iastore, 1) := by decide +kernel
theorem dX0_liveDay_115 : decode cX0_liveDay 115 = .ok (.aload_n 0, 1) := by decide +kernel
theorem dX0_liveDay_116 : decode cX0_liveDay 116 = .ok (.getfield 24, 3) := by decide +kernel
theorem dX0_liveDay_119 : decode cX0_liveDay 119 = .ok (.iload_n 1, 1) := by decide +kernel
theorem dX0_liveDay_120 : decode cX0_liveDay 120 = .ok (.aload_n 0, 1) := by decide +kernel
theorem dX0_liveDay_121 : decode cX0_liveDay 121 = .ok (.getfield 24, 3) := by decide +kernel
theorem dX0_liveDay_124 : decode cX0_liveDay 124 = .ok (.iload_n 1, 1) := by decide +kernel
theorem dX0_liveDay_125 : decode cX0_liveDay 125 = .ok (.iaload, 1) := by decide +kernel
theorem dX0_liveDay_126 : decode cX0_liveDay 126 = .ok (.aload_n 0, 1) := by decide +kernel
theorem dX0_liveDay_127 : decode cX0_liveDay 127 = .ok (.iload_n 2, 1) := by decide +kernel
theorem dX0_liveDay_128 : decode cX0_liveDay 128 = .ok (.aload_n 0, 1) := by decide +kernel
theorem dX0_liveDay_129 : decode cX0_liveDay 129 = .ok (.getfield 43, 3) := by decide +kernel
theorem dX0_liveDay_132 : decode cX0_liveDay 132 = .ok (.invokevirtual 100, 3) := by decide +kernel
theorem dX0_liveDay_135 : decode cX0_liveDay 135 = .ok (.iadd, 1) := by decide +kernel
theorem dX0_liveDay_136 : decode cX0_liveDay 136 = .ok (.bipush 20, 2) := by decide +kernel
theorem dX0_liveDay_138 : decode cX0_liveDay 138 = .ok (.invokestatic 93, 3) := by decide +kernel
theorem dX0_liveDay_141 : decode cX0_liveDay 141 = .ok (.iastore, 1) := by decide +kernel
theorem dX0_liveDay_142 : decode cX0_liveDay 142 = .ok (.aload_n 0, 1) := by decide +kernel
theorem dX0_liveDay_143 : decode cX0_liveDay 143 = .ok (.getfield 24, 3) := by decide +kernel
theorem dX0_liveDay_146 : decode cX0_liveDay 146 = .ok (.iload_n 1, 1) := by decide +kernel
theorem dX0_liveDay_147 : decode cX0_liveDay 147 = .ok (.iaload, 1) := by decide +kernel
theorem dX0_liveDay_148 : decode cX0_liveDay 148 = .ok (.bipush 15, 2) := by decide +kernel
theorem dX0_liveDay_150 : decode cX0_liveDay 150 = .ok (.if_icmp .lt 11, 3) := by decide +kernel
theorem dX0_liveDay_153 : decode cX0_liveDay 153 = .ok (.aload_n 0, 1) := by decide +kernel
theorem dX0_liveDay_154 : decode cX0_liveDay 154 = .ok (.getfield 30, 3) := by decide +kernel
theorem dX0_liveDay_157 : decode cX0_liveDay 157 = .ok (.iload_n 1, 1) := by decide +kernel
theorem dX0_liveDay_158 : decode cX0_liveDay 158 = .ok (.bipush (-9), 2) := by decide +kernel
theorem dX0_liveDay_160 : decode cX0_liveDay 160 = .ok (.iastore, 1) := by decide +kernel
theorem dX0_liveDay_161 : decode cX0_liveDay 161 = .ok (.return_, 1) := by decide +kernel
theorem dX0_rustUnworn_0 : decode cX0_rustUnworn 0 = .ok (.iconst 0, 1) := by decide +kernel
theorem dX0_rustUnworn_1 : decode cX0_rustUnworn 1 = .ok (.istore_n 1, 1) := by decide +kernel
theorem dX0_rustUnworn_2 : decode cX0_rustUnworn 2 = .ok (.iload_n 1, 1) := by decide +kernel
theorem dX0_rustUnworn_3 : decode cX0_rustUnworn 3 = .ok (.aload_n 0, 1) := by decide +kernel
theorem dX0_rustUnworn_4 : decode cX0_rustUnworn 4 = .ok (.getfield 33, 3) := by decide +kernel
theorem dX0_rustUnworn_7 : decode cX0_rustUnworn 7 = .ok (.if_icmp .ge 38, 3) := by decide +kernel
theorem dX0_rustUnworn_10 : decode cX0_rustUnworn 10 = .ok (.aload_n 0, 1) := by decide +kernel
theorem dX0_rustUnworn_11 : decode cX0_rustUnworn 11 = .ok (.iload_n 1, 1) := by decide +kernel
theorem dX0_rustUnworn_12 : decode cX0_rustUnworn 12 = .ok (.invokevirtual 52, 3) := by decide +kernel
theorem dX0_rustUnworn_15 : decode cX0_rustUnworn 15 = .ok (.bipush (-9), 2) := by decide +kernel
theorem dX0_rustUnworn_17 : decode cX0_rustUnworn 17 = .ok (.if_icmp .ne 22, 3) := by decide +kernel
theorem dX0_rustUnworn_20 : decode cX0_rustUnworn 20 = .ok (.aload_n 0, 1) := by decide +kernel
theorem dX0_rustUnworn_21 : decode cX0_rustUnworn 21 = .ok (.getfield 18, 3) := by decide +kernel
theorem dX0_rustUnworn_24 : decode cX0_rustUnworn 24 = .ok (.iload_n 1, 1) := by decide +kernel
theorem dX0_rustUnworn_25 : decode cX0_rustUnworn 25 = .ok (.aload_n 0, 1) := by decide +kernel
theorem dX0_rustUnworn_26 : decode cX0_rustUnworn 26 = .ok (.getfield 18, 3) := by decide +kernel
theorem dX0_rustUnworn_29 : decode cX0_rustUnworn 29 = .ok (.iload_n 1, 1) := by decide +kernel
theorem dX0_rustUnworn_30 : decode cX0_rustUnworn 30 = .ok (.iaload, 1) := by decide +kernel
theorem dX0_rustUnworn_31 : decode cX0_rustUnworn 31 = .ok (.iconst 1, 1) := by decide +kernel
theorem dX0_rustUnworn_32 : decode cX0_rustUnworn 32 = .ok (.iadd, 1) := by decide +kernel
theorem dX0_rustUnworn_33 : decode cX0_rustUnworn 33 = .ok (.bipush 9, 2) := by decide +kernel
theorem dX0_rustUnworn_35 : decode cX0_rustUnworn 35 = .ok (.invokestatic 93, 3) := by decide +kernel
theorem dX0_rustUnworn_38 : decode cX0_rustUnworn 38 = .ok (.iastore, 1) := by decide +kernel
theorem dX0_rustUnworn_39 : decode cX0_rustUnworn 39 = .ok (.iinc 1 1, 3) := by decide +kernel
theorem dX0_rustUnworn_42 : decode cX0_rustUnworn 42 = .ok (.goto (-40), 3) := by decide +kernel
theorem dX0_rustUnworn_45 : decode cX0_rustUnworn 45 = .ok (.return_, 1) := by decide +kernel
theorem dX0_rainOnAll_0 : decode cX0_rainOnAll 0 = .ok (.iconst 0, 1) := by decide +kernel
theorem dX0_rainOnAll_1 : decode cX0_rainOnAll 1 = .ok (.istore_n 1, 1) := by decide +kernel
theorem dX0_rainOnAll_2 : decode cX0_rainOnAll 2 = .ok (.iload_n 1, 1) := by decide +kernel
theorem dX0_rainOnAll_3 : decode cX0_rainOnAll 3 = .ok (.aload_n 0, 1) := by decide +kernel
theorem dX0_rainOnAll_4 : decode cX0_rainOnAll 4 = .ok (.getfield 33, 3) := by decide +kernel
theorem dX0_rainOnAll_7 : decode cX0_rainOnAll 7 = .ok (.if_icmp .ge 28, 3) := by decide +kernel
theorem dX0_rainOnAll_10 : decode cX0_rainOnAll 10 = .ok (.aload_n 0, 1) := by decide +kernel
theorem dX0_rainOnAll_11 : decode cX0_rainOnAll 11 = .ok (.getfield 18, 3) := by decide +kernel
theorem dX0_rainOnAll_14 : decode cX0_rainOnAll 14 = .ok (.iload_n 1, 1) := by decide +kernel
theorem dX0_rainOnAll_15 : decode cX0_rainOnAll 15 = .ok (.aload_n 0, 1) := by decide +kernel
theorem dX0_rainOnAll_16 : decode cX0_rainOnAll 16 = .ok (.getfield 18, 3) := by decide +kernel
theorem dX0_rainOnAll_19 : decode cX0_rainOnAll 19 = .ok (.iload_n 1, 1) := by decide +kernel
theorem dX0_rainOnAll_20 : decode cX0_rainOnAll 20 = .ok (.iaload, 1) := by decide +kernel
theorem dX0_rainOnAll_21 : decode cX0_rainOnAll 21 = .ok (.iconst 1, 1) := by decide +kernel
theorem dX0_rainOnAll_22 : decode cX0_rainOnAll 22 = .ok (.iadd, 1) := by decide +kernel
theorem dX0_rainOnAll_23 : decode cX0_rainOnAll 23 = .ok (.bipush 9, 2) := by decide +kernel
theorem dX0_rainOnAll_25 : decode cX0_rainOnAll 25 = .ok (.invokestatic 93, 3) := by decide +kernel
theorem dX0_rainOnAll_28 : decode cX0_rainOnAll 28 = .ok (.iastore, 1) := by decide +kernel
theorem dX0_rainOnAll_29 : decode cX0_rainOnAll 29 = .ok (.iinc 1 1, 3) := by decide +kernel
theorem dX0_rainOnAll_32 : decode cX0_rainOnAll 32 = .ok (.goto (-30), 3) := by decide +kernel
theorem dX0_rainOnAll_35 : decode cX0_rainOnAll 35 = .ok (.return_, 1) := by decide +kernel
theorem dX0_allSaid_0 : decode cX0_allSaid 0 = .ok (.iconst 0, 1) := by decide +kernel
theorem dX0_allSaid_1 : decode cX0_allSaid 1 = .ok (.istore_n 1, 1) := by decide +kernel
theorem dX0_allSaid_2 : decode cX0_allSaid 2 = .ok (.iconst 0, 1) := by decide +kernel
theorem dX0_allSaid_3 : decode cX0_allSaid 3 = .ok (.istore_n 2, 1) := by decide +kernel
theorem dX0_allSaid_4 : decode cX0_allSaid 4 = .ok (.iload_n 2, 1) := by decide +kernel
theorem dX0_allSaid_5 : decode cX0_allSaid 5 = .ok (.aload_n 0, 1) := by decide +kernel
theorem dX0_allSaid_6 : decode cX0_allSaid 6 = .ok (.getfield 37, 3) := by decide +kernel
theorem dX0_allSaid_9 : decode cX0_allSaid 9 = .ok (.if_icmp .ge 18, 3) := by decide +kernel
theorem dX0_allSaid_12 : decode cX0_allSaid 12 = .ok (.iload_n 1, 1) := by decide +kernel
theorem dX0_allSaid_13 : decode cX0_allSaid 13 = .ok (.aload_n 0, 1) := by decide +kernel
theorem dX0_allSaid_14 : decode cX0_allSaid 14 = .ok (.getfield 27, 3) := by decide +kernel
theorem dX0_allSaid_17 : decode cX0_allSaid 17 = .ok (.iload_n 2, 1) := by decide +kernel
theorem dX0_allSaid_18 : decode cX0_allSaid 18 = .ok (.iaload, 1) := by decide +kernel
theorem dX0_allSaid_19 : decode cX0_allSaid 19 = .ok (.iadd, 1) := by decide +kernel
theorem dX0_allSaid_20 : decode cX0_allSaid 20 = .ok (.istore_n 1, 1) := by decide +kernel
theorem dX0_allSaid_21 : decode cX0_allSaid 21 = .ok (.iinc 2 1, 3) := by decide +kernel
theorem dX0_allSaid_24 : decode cX0_allSaid 24 = .ok (.goto (-20), 3) := by decide +kernel
theorem dX0_allSaid_27 : decode cX0_allSaid 27 = .ok (.iload_n 1, 1) := by decide +kernel
theorem dX0_allSaid_28 : decode cX0_allSaid 28 = .ok (.ireturn, 1) := by decide +kernel
theorem dX0_allFear_0 : decode cX0_allFear 0 = .ok (.iconst 0, 1) := by decide +kernel
theorem dX0_allFear_1 : decode cX0_allFear 1 = .ok (.istore_n 1, 1) := by decide +kernel
theorem dX0_allFear_2 : decode cX0_allFear 2 = .ok (.iconst 0, 1) := by decide +kernel
theorem dX0_allFear_3 : decode cX0_allFear 3 = .ok (.istore_n 2, 1) := by decide +kernel
theorem dX0_allFear_4 : decode cX0_allFear 4 = .ok (.iload_n 2, 1) := by decide +kernel
theorem dX0_allFear_5 : decode cX0_allFear 5 = .ok (.aload_n 0, 1) := by decide +kernel
theorem dX0_allFear_6 : decode cX0_allFear 6 = .ok (.getfield 37, 3) := by decide +kernel
theorem dX0_allFear_9 : decode cX0_allFear 9 = .ok (.if_icmp .ge 18, 3) := by decide +kernel
theorem dX0_allFear_12 : decode cX0_allFear 12 = .ok (.iload_n 1, 1) := by decide +kernel
theorem dX0_allFear_13 : decode cX0_allFear 13 = .ok (.aload_n 0, 1) := by decide +kernel
theorem dX0_allFear_14 : decode cX0_allFear 14 = .ok (.getfield 21, 3) := by decide +kernel
theorem dX0_allFear_17 : decode cX0_allFear 17 = .ok (.iload_n 2, 1) := by decide +kernel
theorem dX0_allFear_18 : decode cX0_allFear 18 = .ok (.iaload, 1) := by decide +kernel
theorem dX0_allFear_19 : decode cX0_allFear 19 = .ok (.iadd, 1) := by decide +kernel
theorem dX0_allFear_20 : decode cX0_allFear 20 = .ok (.istore_n 1, 1) := by decide +kernel
theorem dX0_allFear_21 : decode cX0_allFear 21 = .ok (.iinc 2 1, 3) := by decide +kernel
theorem dX0_allFear_24 : decode cX0_allFear 24 = .ok (.goto (-20), 3) := by decide +kernel
theorem dX0_allFear_27 : decode cX0_allFear 27 = .ok (.iload_n 1, 1) := by decide +kernel
theorem dX0_allFear_28 : decode cX0_allFear 28 = .ok (.ireturn, 1) := by decide +kernel
theorem dX1_init_0 : decode cX1_init 0 = .ok (.aload_n 0, 1) := by decide +kernel
theorem dX1_init_1 : decode cX1_init 1 = .ok (.invokespecial 3, 3) := by decide +kernel
theorem dX1_init_4 : decode cX1_init 4 = .ok (.aload_n 0, 1) := by decide +kernel
theorem dX1_init_5 : decode cX1_init 5 = .ok (.sipush 384, 3) := by decide +kernel
theorem dX1_init_8 : decode cX1_init 8 = .ok (.newarray .int, 2) := by decide +kernel
theorem dX1_init_10 : decode cX1_init 10 = .ok (.putfield 11, 3) := by decide +kernel
theorem dX1_init_13 : decode cX1_init 13 = .ok (.aload_n 0, 1) := by decide +kernel
theorem dX1_init_14 : decode cX1_init 14 = .ok (.iconst 5, 1) := by decide +kernel
theorem dX1_init_15 : decode cX1_init 15 = .ok (.newarray .int, 2) := by decide +kernel
theorem dX1_init_17 : decode cX1_init 17 = .ok (.putfield 15, 3) := by decide +kernel
theorem dX1_init_20 : decode cX1_init 20 = .ok (.return_, 1) := by decide +kernel
theorem dX1_most_0 : decode cX1_most 0 = .ok (.iconst 0, 1) := by decide +kernel
theorem dX1_most_1 : decode cX1_most 1 = .ok (.istore_n 2, 1) := by decide +kernel
theorem dX1_most_2 : decode cX1_most 2 = .ok (.iload_n 2, 1) := by decide +kernel
theorem dX1_most_3 : decode cX1_most 3 = .ok (.iconst 1, 1) := by decide +kernel
theorem dX1_most_4 : decode cX1_most 4 = .ok (.aload_n 1, 1) := by decide +kernel
theorem dX1_most_5 : decode cX1_most 5 = .ok (.getfield 18, 3) := by decide +kernel
theorem dX1_most_8 : decode cX1_most 8 = .ok (.ishl, 1) := by decide +kernel
theorem dX1_most_9 : decode cX1_most 9 = .ok (.if_icmp .ge 24, 3) := by decide +kernel
theorem dX1_most_12 : decode cX1_most 12 = .ok (.aload_n 0, 1) := by decide +kernel
theorem dX1_most_13 : decode cX1_most 13 = .ok (.getfield 11, 3) := by decide +kernel
theorem dX1_most_16 : decode cX1_most 16 = .ok (.aload_n 1, 1) := by decide +kernel
theorem dX1_most_17 : decode cX1_most 17 = .ok (.getfield 24, 3) := by decide +kernel
theorem dX1_most_20 : decode cX1_most 20 = .ok (.bipush 64, 2) := by decide +kernel
theorem dX1_most_22 : decode cX1_most 22 = .ok (.imul, 1) := by decide +kernel
theorem dX1_most_23 : decode cX1_most 23 = .ok (.iload_n 2, 1) := by decide +kernel
theorem dX1_most_24 : decode cX1_most 24 = .ok (.iadd, 1) := by decide +kernel
theorem dX1_most_25 : decode cX1_most 25 = .ok (.iconst 0, 1) := by decide +kernel
theorem dX1_most_26 : decode cX1_most 26 = .ok (.iastore, 1) := by decide +kernel
theorem dX1_most_27 : decode cX1_most 27 = .ok (.iinc 2 1, 3) := by decide +kernel
theorem dX1_most_30 : decode cX1_most 30 = .ok (.goto (-28), 3) := by decide +kernel
theorem dX1_most_33 : decode cX1_most 33 = .ok (.aload_n 1, 1) := by decide +kernel
theorem dX1_most_34 : decode cX1_most 34 = .ok (.getfield 24, 3) := by decide +kernel
theorem dX1_most_37 : decode cX1_most 37 = .ok (.iconst 1, 1) := by decide +kernel
theorem dX1_most_38 : decode cX1_most 38 = .ok (.isub, 1) := by decide +kernel
theorem dX1_most_39 : decode cX1_most 39 = .ok (.istore_n 2, 1) := by decide +kernel
theorem dX1_most_40 : decode cX1_most 40 = .ok (.iload_n 2, 1) := by decide +kernel
theorem dX1_most_41 : decode cX1_most 41 = .ok (.ifCond .lt 56, 3) := by decide +kernel
theorem dX1_most_44 : decode cX1_most 44 = .ok (.aload_n 0, 1) := by decide +kernel
theorem dX1_most_45 : decode cX1_most 45 = .ok (.getfield 15, 3) := by decide +kernel
theorem dX1_most_48 : decode cX1_most 48 = .ok (.iload_n 2, 1) := by decide +kernel
theorem dX1_most_49 : decode cX1_most 49 = .ok (.aload_n 1, 1) := by decide +kernel
theorem dX1_most_50 : decode cX1_most 50 = .ok (.iload_n 2, 1) := by decide +kernel
theorem dX1_most_51 : decode cX1_most 51 = .ok (.invokestatic 27, 3) := by decide +kernel
theorem dX1_most_54 : decode cX1_most 54 = .ok (.iastore, 1) := by decide +kernel
theorem dX1_most_55 : decode cX1_most 55 = .ok (.iconst 0, 1) := by decide +kernel
theorem dX1_most_56 : decode cX1_most 56 = .ok (.istore_n 3, 1) := by decide +kernel
theorem dX1_most_57 : decode cX1_most 57 = .ok (.iload_n 3, 1) := by decide +kernel
theorem dX1_most_58 : decode cX1_most 58 = .ok (.iconst 1, 1) := by decide +kernel
theorem dX1_most_59 : decode cX1_most 59 = .ok (.aload_n 1, 1) := by decide +kernel
theorem dX1_most_60 : decode cX1_most 60 = .ok (.getfield 18, 3) := by decide +kernel
theorem dX1_most_63 : decode cX1_most 63 = .ok (.ishl, 1) := by decide +kernel
theorem dX1_most_64 : decode cX1_most 64 = .ok (.if_icmp .ge 27, 3) := by decide +kernel
theorem dX1_most_67 : decode cX1_most 67 = .ok (.aload_n 0, 1) := by decide +kernel
theorem dX1_most_68 : decode cX1_most 68 = .ok (.getfield 11, 3) := by decide +kernel
theorem dX1_most_71 : decode cX1_most 71 = .ok (.iload_n 2, 1) := by decide +kernel
theorem dX1_most_72 : decode cX1_most 72 = .ok (.bipush 64, 2) := by decide +kernel
theorem dX1_most_74 : decode cX1_most 74 = .ok (.imul, 1) := by decide +kernel
theorem dX1_most_75 : decode cX1_most 75 = .ok (.iload_n 3, 1) := by decide +kernel
theorem dX1_most_76 : decode cX1_most 76 = .ok (.iadd, 1) := by decide +kernel
theorem dX1_most_77 : decode cX1_most 77 = .ok (.aload_n 0, 1) := by decide +kernel
theorem dX1_most_78 : decode cX1_most 78 = .ok (.aload_n 1, 1) := by decide +kernel
theorem dX1_most_79 : decode cX1_most 79 = .ok (.iload_n 2, 1) := by decide +kernel
theorem dX1_most_80 : decode cX1_most 80 = .ok (.iload_n 3, 1) := by decide +kernel
theorem dX1_most_81 : decode cX1_most 81 = .ok (.invokevirtual 31, 3) := by decide +kernel
theorem dX1_most_84 : decode cX1_most 84 = .ok (.iastore, 1) := by decide +kernel
theorem dX1_most_85 : decode cX1_most 85 = .ok (.iinc 3 1, 3) := by decide +kernel
theorem dX1_most_88 : decode cX1_most 88 = .ok (.goto (-31), 3) := by decide +kernel
theorem dX1_most_91 : decode cX1_most 91 = .ok (.iinc 2 (-1), 3) := by decide +kernel
theorem dX1_most_94 : decode cX1_most 94 = .ok (.goto (-54), 3) := by decide +kernel
theorem dX1_most_97 : decode cX1_most 97 = .ok (.aload_n 0, 1) := by decide +kernel
theorem dX1_most_98 : decode cX1_most 98 = .ok (.getfield 11, 3) := by decide +kernel
theorem dX1_most_101 : decode cX1_most 101 = .ok (.iconst 0, 1) := by decide +kernel
theorem dX1_most_102 : decode cX1_most 102 = .ok (.iaload, 1) := by decide +kernel
theorem dX1_most_103 : decode cX1_most 103 = .ok (.ireturn, 1) := by decide +kernel
theorem dX1_suitFor_0 : decode cX1_suitFor 0 = .ok (.aload_n 0, 1) := by decide +kernel
theorem dX1_suitFor_1 : decode cX1_suitFor 1 = .ok (.aload_n 1, 1) := by decide +kernel
theorem dX1_suitFor_2 : decode cX1_suitFor 2 = .ok (.invokevirtual 35, 3) := by decide +kernel
theorem dX1_suitFor_5 : decode cX1_suitFor 5 = .ok (.pop, 1) := by decide +kernel
theorem dX1_suitFor_6 : decode cX1_suitFor 6 = .ok (.iconst 0, 1) := by decide +kernel
theorem dX1_suitFor_7 : decode cX1_suitFor 7 = .ok (.istore_n 3, 1) := by decide +kernel
theorem dX1_suitFor_8 : decode cX1_suitFor 8 = .ok (.iconst 0, 1) := by decide +kernel
theorem dX1_suitFor_9 : decode cX1_suitFor 9 = .ok (.istore 4, 2) := by decide +kernel
theorem dX1_suitFor_11 : decode cX1_suitFor 11 = .ok (.iload 4, 2) := by decide +kernel
theorem dX1_suitFor_13 : decode cX1_suitFor 13 = .ok (.iload_n 2, 1) := by decide +kernel
theorem dX1_suitFor_14 : decode cX1_suitFor 14 = .ok (.if_icmp .ge 33, 3) := by decide +kernel
theorem dX1_suitFor_17 : decode cX1_suitFor 17 = .ok (.aload_n 0, 1) := by decide +kernel
theorem dX1_suitFor_18 : decode cX1_suitFor 18 = .ok (.aload_n 1, 1) := by decide +kernel
theorem dX1_suitFor_19 : decode cX1_suitFor 19 = .ok (.iload 4, 2) := by decide +kernel
theorem dX1_suitFor_21 : decode cX1_suitFor 21 = .ok (.iload_n 3, 1) := by decide +kernel
theorem dX1_suitFor_22 : decode cX1_suitFor 22 = .ok (.invokevirtual 39, 3) := by decide +kernel
theorem dX1_suitFor_25 : decode cX1_suitFor 25 = .ok (.istore 5, 2) := by decide +kernel
theorem dX1_suitFor_27 : decode cX1_suitFor 27 = .ok (.iload 5, 2) := by decide +kernel
theorem dX1_suitFor_29 : decode cX1_suitFor 29 = .ok (.bipush (-9), 2) := by decide +kernel
theorem dX1_suitFor_31 : decode cX1_suitFor 31 = .ok (.if_icmp .eq 10, 3) := by decide +kernel
theorem dX1_suitFor_34 : decode cX1_suitFor 34 = .ok (.iload_n 3, 1) := by decide +kernel
theorem dX1_suitFor_35 : decode cX1_suitFor 35 = .ok (.iconst 1, 1) := by decide +kernel
theorem dX1_suitFor_36 : decode cX1_suitFor 36 = .ok (.iload 5, 2) := by decide +kernel
theorem dX1_suitFor_38 : decode cX1_suitFor 38 = .ok (.ishl, 1) := by decide +kernel
theorem dX1_suitFor_39 : decode cX1_suitFor 39 = .ok (.ior, 1) := by decide +kernel
theorem dX1_suitFor_40 : decode cX1_suitFor 40 = .ok (.istore_n 3, 1) := by decide +kernel
theorem dX1_suitFor_41 : decode cX1_suitFor 41 = .ok (.iinc 4 1, 3) := by decide +kernel
theorem dX1_suitFor_44 : decode cX1_suitFor 44 = .ok (.goto (-33), 3) := by decide +kernel
theorem dX1_suitFor_47 : decode cX1_suitFor 47 = .ok (.aload_n 0, 1) := by decide +kernel
theorem dX1_suitFor_48 : decode cX1_suitFor 48 = .ok (.aload_n 1, 1) := by decide +kernel
theorem dX1_suitFor_49 : decode cX1_suitFor 49 = .ok (.iload_n 2, 1) := by decide +kernel
theorem dX1_suitFor_50 : decode cX1_suitFor 50 = .ok (.iload_n 3, 1) := by decide +kernel
theorem dX1_suitFor_51 : decode cX1_suitFor 51 = .ok (.invokevirtual 39, 3) := by decide +kernel
theorem dX1_suitFor_54 : decode cX1_suitFor 54 = .ok (.ireturn, 1) := by decide +kernel
theorem dX1_bitsOfCan_0 : decode cX1_bitsOfCan 0 = .ok (.aload_n 0, 1) := by decide +kernel
theorem dX1_bitsOfCan_1 : decode cX1_bitsOfCan 1 = .ok (.iload_n 1, 1) := by decide +kernel
theorem dX1_bitsOfCan_2 : decode cX1_bitsOfCan 2 = .ok (.iconst 0, 1) := by decide +kernel
theorem dX1_bitsOfCan_3 : decode cX1_bitsOfCan 3 = .ok (.invokevirtual 42, 3) := by decide +kernel
theorem dX1_bitsOfCan_6 : decode cX1_bitsOfCan 6 = .ok (.ifCond .eq 12, 3) := by decide +kernel
theorem dX1_bitsOfCan_9 : decode cX1_bitsOfCan 9 = .ok (.iconst 1, 1) := by decide +kernel
theorem dX1_bitsOfCan_10 : decode cX1_bitsOfCan 10 = .ok (.aload_n 0, 1) := by decide +kernel
theorem dX1_bitsOfCan_11 : decode cX1_bitsOfCan 11 = .ok (.getfield 18, 3) := by decide +kernel
theorem dX1_bitsOfCan_14 : decode cX1_bitsOfCan 14 = .ok (.ishl, 1) := by decide +kernel
theorem dX1_bitsOfCan_15 : decode cX1_bitsOfCan 15 = .ok (.goto 4, 3) := by decide +kernel
theorem dX1_bitsOfCan_18 : decode cX1_bitsOfCan 18 = .ok (.iconst 0, 1) := by decide +kernel
theorem dX1_bitsOfCan_19 : decode cX1_bitsOfCan 19 = .ok (.istore_n 2, 1) := by decide +kernel
theorem dX1_bitsOfCan_20 : decode cX1_bitsOfCan 20 = .ok (.iconst 0, 1) := by decide +kernel
theorem dX1_bitsOfCan_21 : decode cX1_bitsOfCan 21 = .ok (.istore_n 3, 1) := by decide +kernel
theorem dX1_bitsOfCan_22 : decode cX1_bitsOfCan 22 = .ok (.iload_n 3, 1) := by decide +kernel
theorem dX1_bitsOfCan_23 : decode cX1_bitsOfCan 23 = .ok (.aload_n 0, 1) := by decide +kernel
theorem dX1_bitsOfCan_24 : decode cX1_bitsOfCan 24 = .ok (.getfield 18, 3) := by decide +kernel
theorem dX1_bitsOfCan_27 : decode cX1_bitsOfCan 27 = .ok (.if_icmp .ge 28, 3) := by decide +kernel
theorem dX1_bitsOfCan_30 : decode cX1_bitsOfCan 30 = .ok (.aload_n 0, 1) := by decide +kernel
theorem dX1_bitsOfCan_31 : decode cX1_bitsOfCan 31 = .ok (.iload_n 1, 1) := by decide +kernel
theorem dX1_bitsOfCan_32 : decode cX1_bitsOfCan 32 = .ok (.aload_n 0, 1) := by decide +kernel
theorem dX1_bitsOfCan_33 : decode cX1_bitsOfCan 33 = .ok (.iload_n 3, 1) := by decide +kernel
theorem dX1_bitsOfCan_34 : decode cX1_bitsOfCan 34 = .ok (.invokevirtual 46, 3) := by decide +kernel
theorem dX1_bitsOfCan_37 : decode cX1_bitsOfCan 37 = .ok (.invokevirtual 42, 3) := by decide +kernel
theorem dX1_bitsOfCan_40 : decode cX1_bitsOfCan 40 = .ok (.ifCond .eq 9, 3) := by decide +kernel
theorem dX1_bitsOfCan_43 : decode cX1_bitsOfCan 43 = .ok (.iload_n 2, 1) := by decide +kernel
theorem dX1_bitsOfCan_44 : decode cX1_bitsOfCan 44 = .ok (.iconst 1, 1) := by decide +kernel
theorem dX1_bitsOfCan_45 : decode cX1_bitsOfCan 45 = .ok (.iload_n 3, 1) := by decide +kernel
theorem dX1_bitsOfCan_46 : decode cX1_bitsOfCan 46 = .ok (.ishl, 1) := by decide +kernel
theorem dX1_bitsOfCan_47 : decode cX1_bitsOfCan 47 = .ok (.ior, 1) := by decide +kernel
theorem dX1_bitsOfCan_48 : decode cX1_bitsOfCan 48 = .ok (.istore_n 2, 1) := by decide +kernel
theorem dX1_bitsOfCan_49 : decode cX1_bitsOfCan 49 = .ok (.iinc 3 1, 3) := by decide +kernel
theorem dX1_bitsOfCan_52 : decode cX1_bitsOfCan 52 = .ok (.goto (-30), 3) := by decide +kernel
theorem dX1_bitsOfCan_55 : decode cX1_bitsOfCan 55 = .ok (.iload_n 2, 1) := by decide +kernel
theorem dX1_bitsOfCan_56 : decode cX1_bitsOfCan 56 = .ok (.ireturn, 1) := by decide +kernel
theorem dX1_mostOn_0 : decode cX1_mostOn 0 = .ok (.aload_n 0, 1) := by decide +kernel
theorem dX1_mostOn_1 : decode cX1_mostOn 1 = .ok (.iload_n 2, 1) := by decide +kernel
theorem dX1_mostOn_2 : decode cX1_mostOn 2 = .ok (.aload_n 1, 1) := by decide +kernel
theorem dX1_mostOn_3 : decode cX1_mostOn 3 = .ok (.getfield 18, 3) := by decide +kernel
theorem dX1_mostOn_6 : decode cX1_mostOn 6 = .ok (.iload_n 3, 1) := by decide +kernel
theorem dX1_mostOn_7 : decode cX1_mostOn 7 = .ok (.invokevirtual 50, 3) := by decide +kernel
theorem dX1_mostOn_10 : decode cX1_mostOn 10 = .ok (.istore 4, 2) := by decide +kernel
theorem dX1_mostOn_12 : decode cX1_mostOn 12 = .ok (.iconst 0, 1) := by decide +kernel
theorem dX1_mostOn_13 : decode cX1_mostOn 13 = .ok (.istore 5, 2) := by decide +kernel
theorem dX1_mostOn_15 : decode cX1_mostOn 15 = .ok (.iload 5, 2) := by decide +kernel
theorem dX1_mostOn_17 : decode cX1_mostOn 17 = .ok (.aload_n 1, 1) := by decide +kernel
theorem dX1_mostOn_18 : decode cX1_mostOn 18 = .ok (.getfield 18, 3) := by decide +kernel
theorem dX1_mostOn_21 : decode cX1_mostOn 21 = .ok (.if_icmp .ge 38, 3) := by decide +kernel
theorem dX1_mostOn_24 : decode cX1_mostOn 24 = .ok (.iload_n 3, 1) := by decide +kernel
theorem dX1_mostOn_25 : decode cX1_mostOn 25 = .ok (.iload 5, 2) := by decide +kernel
theorem dX1_mostOn_27 : decode cX1_mostOn 27 = .ok (.ishr, 1) := by decide +kernel
theorem dX1_mostOn_28 : decode cX1_mostOn 28 = .ok (.iconst 1, 1) := by decide +kernel
theorem dX1_mostOn_29 : decode cX1_mostOn 29 = .ok (.iand, 1) := by decide +kernel
theorem dX1_mostOn_30 : decode cX1_mostOn 30 = .ok (.ifCond .ne 23, 3) := by decide +kernel
theorem dX1_mostOn_33 : decode cX1_mostOn 33 = .ok (.iload 4, 2) := by decide +kernel
theorem dX1_mostOn_35 : decode cX1_mostOn 35 = .ok (.aload_n 0, 1) := by decide +kernel
theorem dX1_mostOn_36 : decode cX1_mostOn 36 = .ok (.iload_n 2, 1) := by decide +kernel
theorem dX1_mostOn_37 : decode cX1_mostOn 37 = .ok (.iload 5, 2) := by decide +kernel
theorem dX1_mostOn_39 : decode cX1_mostOn 39 = .ok (.iload_n 3, 1) := by decide +kernel
theorem dX1_mostOn_40 : decode cX1_mostOn 40 = .ok (.iconst 1, 1) := by decide +kernel
theorem dX1_mostOn_41 : decode cX1_mostOn 41 = .ok (.iload 5, 2) := by decide +kernel
theorem dX1_mostOn_43 : decode cX1_mostOn 43 = .ok (.ishl, 1) := by decide +kernel
theorem dX1_mostOn_44 : decode cX1_mostOn 44 = .ok (.ior, 1) := by decide +kernel
theorem dX1_mostOn_45 : decode cX1_mostOn 45 = .ok (.invokevirtual 50, 3) := by decide +kernel
theorem dX1_mostOn_48 : decode cX1_mostOn 48 = .ok (.invokestatic 54, 3) := by decide +kernel
theorem dX1_mostOn_51 : decode cX1_mostOn 51 = .ok (.istore 4, 2) := by decide +kernel
theorem dX1_mostOn_53 : decode cX1_mostOn 53 = .ok (.iinc 5 1, 3) := by decide +kernel
theorem dX1_mostOn_56 : decode cX1_mostOn 56 = .ok (.goto (-41), 3) := by decide +kernel
theorem dX1_mostOn_59 : decode cX1_mostOn 59 = .ok (.iload 4, 2) := by decide +kernel
theorem dX1_mostOn_61 : decode cX1_mostOn 61 = .ok (.ireturn, 1) := by decide +kernel
theorem dX1_mostWith_0 : decode cX1_mostWith 0 = .ok (.aload_n 0, 1) := by decide +kernel
theorem dX1_mostWith_1 : decode cX1_mostWith 1 = .ok (.getfield 15, 3) := by decide +kernel
theorem dX1_mostWith_4 : decode cX1_mostWith 4 = .ok (.iload_n 1, 1) := by decide +kernel
theorem dX1_mostWith_5 : decode cX1_mostWith 5 = .ok (.iaload, 1) := by decide +kernel
theorem dX1_mostWith_6 : decode cX1_mostWith 6 = .ok (.iload_n 2, 1) := by decide +kernel
theorem dX1_mostWith_7 : decode cX1_mostWith 7 = .ok (.ishr, 1) := by decide +kernel
theorem dX1_mostWith_8 : decode cX1_mostWith 8 = .ok (.iconst 1, 1) := by decide +kernel
theorem dX1_mostWith_9 : decode cX1_mostWith 9 = .ok (.iand, 1) := by decide +kernel
theorem dX1_mostWith_10 : decode cX1_mostWith 10 = .ok (.aload_n 0, 1) := by decide +kernel
theorem dX1_mostWith_11 : decode cX1_mostWith 11 = .ok (.getfield 11, 3) := by decide +kernel
theorem dX1_mostWith_14 : decode cX1_mostWith 14 = .ok (.iload_n 1, 1) := by decide +kernel
theorem dX1_mostWith_15 : decode cX1_mostWith 15 = .ok (.iconst 1, 1) := by decide +kernel
theorem dX1_mostWith_16 : decode cX1_mostWith 16 = .ok (.iadd, 1) := by decide +kernel
theorem dX1_mostWith_17 : decode cX1_mostWith 17 = .ok (.bipush 64, 2) := by decide +kernel
theorem dX1_mostWith_19 : decode cX1_mostWith 19 = .ok (.imul, 1) := by decide +kernel
theorem dX1_mostWith_20 : decode cX1_mostWith 20 = .ok (.iload_n 3, 1) := by decide +kernel
theorem dX1_mostWith_21 : decode cX1_mostWith 21 = .ok (.iadd, 1) := by decide +kernel
theorem dX1_mostWith_22 : decode cX1_mostWith 22 = .ok (.iaload, 1) := by decide +kernel
theorem dX1_mostWith_23 : decode cX1_mostWith 23 = .ok (.iadd, 1) := by decide +kernel
theorem dX1_mostWith_24 : decode cX1_mostWith 24 = .ok (.ireturn, 1) := by decide +kernel
theorem dX1_firstBest_0 : decode cX1_firstBest 0 = .ok (.aload_n 0, 1) := by decide +kernel
theorem dX1_firstBest_1 : decode cX1_firstBest 1 = .ok (.getfield 11, 3) := by decide +kernel
theorem dX1_firstBest_4 : decode cX1_firstBest 4 = .ok (.iload_n 2, 1) := by decide +kernel
theorem dX1_firstBest_5 : decode cX1_firstBest 5 = .ok (.bipush 64, 2) := by decide +kernel
theorem dX1_firstBest_7 : decode cX1_firstBest 7 = .ok (.imul, 1) := by decide +kernel
theorem dX1_firstBest_8 : decode cX1_firstBest 8 = .ok (.iload_n 3, 1) := by decide +kernel
theorem dX1_firstBest_9 : decode cX1_firstBest 9 = .ok (.iadd, 1) := by decide +kernel
theorem dX1_firstBest_10 : decode cX1_firstBest 10 = .ok (.iaload, 1) := by decide +kernel
theorem dX1_firstBest_11 : decode cX1_firstBest 11 = .ok (.istore 4, 2) := by decide +kernel
theorem dX1_firstBest_13 : decode cX1_firstBest 13 = .ok (.iconst 0, 1) := by decide +kernel
theorem dX1_firstBest_14 : decode cX1_firstBest 14 = .ok (.istore 5, 2) := by decide +kernel
theorem dX1_firstBest_16 : decode cX1_firstBest 16 = .ok (.iload 5, 2) := by decide +kernel
theorem dX1_firstBest_18 : decode cX1_firstBest 18 = .ok (.aload_n 1, 1) := by decide +kernel
theorem dX1_firstBest_19 : decode cX1_firstBest 19 = .ok (.getfield 18, 3) := by decide +kernel
theorem dX1_firstBest_22 : decode cX1_firstBest 22 = .ok (.if_icmp .ge 39, 3) := by decide +kernel
theorem dX1_firstBest_25 : decode cX1_firstBest 25 = .ok (.iload_n 3, 1) := by decide +kernel
theorem dX1_firstBest_26 : decode cX1_firstBest 26 = .ok (.iload 5, 2) := by decide +kernel
theorem dX1_firstBest_28 : decode cX1_firstBest 28 = .ok (.ishr, 1) := by decide +kernel
theorem dX1_firstBest_29 : decode cX1_firstBest 29 = .ok (.iconst 1, 1) := by decide +kernel
theorem dX1_firstBest_30 : decode cX1_firstBest 30 = .ok (.iand, 1) := by decide +kernel
theorem dX1_firstBest_31 : decode cX1_firstBest 31 = .ok (.ifCond .ne 24, 3) := by decide +kernel
theorem dX1_firstBest_34 : decode cX1_firstBest 34 = .ok (.aload_n 0, 1) := by decide +kernel
theorem dX1_firstBest_35 : decode cX1_firstBest 35 = .ok (.iload_n 2, 1) := by decide +kernel
theorem dX1_firstBest_36 : decode cX1_firstBest 36 = .ok (.iload 5, 2) := by decide +kernel
theorem dX1_firstBest_38 : decode cX1_firstBest 38 = .ok (.iload_n 3, 1) := by decide +kernel
theorem dX1_firstBest_39 : decode cX1_firstBest 39 = .ok (.iconst 1, 1) := by decide +kernel
theorem dX1_firstBest_40 : decode cX1_firstBest 40 = .ok (.iload 5, 2) := by decide +kernel
theorem dX1_firstBest_42 : decode cX1_firstBest 42 = .ok (.ishl, 1) := by decide +kernel
theorem dX1_firstBest_43 : decode cX1_firstBest 43 = .ok (.ior, 1) := by decide +kernel
theorem dX1_firstBest_44 : decode cX1_firstBest 44 = .ok (.invokevirtual 50, 3) := by decide +kernel
theorem dX1_firstBest_47 : decode cX1_firstBest 47 = .ok (.iload 4, 2) := by decide +kernel
theorem dX1_firstBest_49 : decode cX1_firstBest 49 = .ok (.if_icmp .ne 6, 3) := by decide +kernel
theorem dX1_firstBest_52 : decode cX1_firstBest 52 = .ok (.iload 5, 2) := by decide +kernel
theorem dX1_firstBest_54 : decode cX1_firstBest 54 = .ok (.ireturn, 1) := by decide +kernel
theorem dX1_firstBest_55 : decode cX1_firstBest 55 = .ok (.iinc 5 1, 3) := by decide +kernel
theorem dX1_firstBest_58 : decode cX1_firstBest 58 = .ok (.goto (-42), 3) := by decide +kernel
theorem dX1_firstBest_61 : decode cX1_firstBest 61 = .ok (.bipush (-9), 2) := by decide +kernel
theorem dX1_firstBest_63 : decode cX1_firstBest 63 = .ok (.ireturn, 1) := by decide +kernel
theorem dX2_init_0 : decode cX2_init 0 = .ok (.aload_n 0, 1) := by decide +kernel
theorem dX2_init_1 : decode cX2_init 1 = .ok (.invokespecial 3, 3) := by decide +kernel
theorem dX2_init_4 : decode cX2_init 4 = .ok (.aload_n 0, 1) := by decide +kernel
theorem dX2_init_5 : decode cX2_init 5 = .ok (.bipush 96, 2) := by decide +kernel
theorem dX2_init_7 : decode cX2_init 7 = .ok (.newarray .char, 2) := by decide +kernel
theorem dX2_init_9 : decode cX2_init 9 = .ok (.putfield 9, 3) := by decide +kernel
theorem dX2_init_12 : decode cX2_init 12 = .ok (.aload_n 0, 1) := by decide +kernel
theorem dX2_init_13 : decode cX2_init 13 = .ok (.iconst 0, 1) := by decide +kernel
theorem dX2_init_14 : decode cX2_init 14 = .ok (.putfield 15, 3) := by decide +kernel
theorem dX2_init_17 : decode cX2_init 17 = .ok (.return_, 1) := by decide +kernel
theorem dX2_add_0 : decode cX2_add 0 = .ok (.aload_n 0, 1) := by decide +kernel
theorem dX2_add_1 : decode cX2_add 1 = .ok (.getfield 9, 3) := by decide +kernel
theorem dX2_add_4 : decode cX2_add 4 = .ok (.aload_n 0, 1) := by decide +kernel
theorem dX2_add_5 : decode cX2_add 5 = .ok (.getfield 15, 3) := by decide +kernel
theorem dX2_add_8 : decode cX2_add 8 = .ok (.iload_n 1, 1) := by decide +kernel
theorem dX2_add_9 : decode cX2_add 9 = .ok (.i2c, 1) := by decide +kernel
theorem dX2_add_10 : decode cX2_add 10 = .ok (.castore, 1) := by decide +kernel
theorem dX2_add_11 : decode cX2_add 11 = .ok (.aload_n 0, 1) := by decide +kernel
theorem dX2_add_12 : decode cX2_add 12 = .ok (.dup, 1) := by decide +kernel
theorem dX2_add_13 : decode cX2_add 13 = .ok (.getfield 15, 3) := by decide +kernel
theorem dX2_add_16 : decode cX2_add 16 = .ok (.iconst 1, 1) := by decide +kernel
theorem dX2_add_17 : decode cX2_add 17 = .ok (.iadd, 1) := by decide +kernel
theorem dX2_add_18 : decode cX2_add 18 = .ok (.putfield 15, 3) := by decide +kernel
theorem dX2_add_21 : decode cX2_add 21 = .ok (.aload_n 0, 1) := by decide +kernel
theorem dX2_add_22 : decode cX2_add 22 = .ok (.getfield 15, 3) := by decide +kernel
theorem dX2_add_25 : decode cX2_add 25 = .ok (.ireturn, 1) := by decide +kernel
theorem dX2_wrongPlace_0 : decode cX2_wrongPlace 0 = .ok (.iconst 0, 1) := by decide +kernel
theorem dX2_wrongPlace_1 : decode cX2_wrongPlace 1 = .ok (.istore_n 1, 1) := by decide +kernel
theorem dX2_wrongPlace_2 : decode cX2_wrongPlace 2 = .ok (.iconst 0, 1) := by decide +kernel
theorem dX2_wrongPlace_3 : decode cX2_wrongPlace 3 = .ok (.istore_n 2, 1) := by decide +kernel
theorem dX2_wrongPlace_4 : decode cX2_wrongPlace 4 = .ok (.iload_n 2, 1) := by decide +kernel
theorem dX2_wrongPlace_5 : decode cX2_wrongPlace 5 = .ok (.aload_n 0, 1) := by decide +kernel
theorem dX2_wrongPlace_6 : decode cX2_wrongPlace 6 = .ok (.getfield 15, 3) := by decide +kernel
theorem dX2_wrongPlace_9 : decode cX2_wrongPlace 9 = .ok (.if_icmp .ge 35, 3) := by decide +kernel
theorem dX2_wrongPlace_12 : decode cX2_wrongPlace 12 = .ok (.aload_n 0, 1) := by decide +kernel
theorem dX2_wrongPlace_13 : decode cX2_wrongPlace 13 = .ok (.iload_n 1, 1) := by decide +kernel
theorem dX2_wrongPlace_14 : decode cX2_wrongPlace 14 = .ok (.iload_n 2, 1) := by decide +kernel
theorem dX2_wrongPlace_15 : decode cX2_wrongPlace 15 = .ok (.invokevirtual 19, 3) := by decide +kernel
theorem dX2_wrongPlace_18 : decode cX2_wrongPlace 18 = .ok (.ifCond .ne 5, 3) := by decide +kernel
theorem dX2_wrongPlace_21 : decode cX2_wrongPlace 21 = .ok (.iload_n 2, 1) := by decide +kernel
theorem dX2_wrongPlace_22 : decode cX2_wrongPlace 22 = .ok (.ireturn, 1) := by decide +kernel
theorem dX2_wrongPlace_23 : decode cX2_wrongPlace 23 = .ok (.aload_n 0, 1) := by decide +kernel
theorem dX2_wrongPlace_24 : decode cX2_wrongPlace 24 = .ok (.getfield 9, 3) := by decide +kernel
theorem dX2_wrongPlace_27 : decode cX2_wrongPlace 27 = .ok (.iload_n 2, 1) := by decide +kernel
theorem dX2_wrongPlace_28 : decode cX2_wrongPlace 28 = .ok (.caload, 1) := by decide +kernel
theorem dX2_wrongPlace_29 : decode cX2_wrongPlace 29 = .ok (.bipush 59, 2) := by decide +kernel
theorem dX2_wrongPlace_31 : decode cX2_wrongPlace 31 = .ok (.if_icmp .ne 7, 3) := by decide +kernel
theorem dX2_wrongPlace_34 : decode cX2_wrongPlace 34 = .ok (.iload_n 2, 1) := by decide +kernel
theorem dX2_wrongPlace_35 : decode cX2_wrongPlace 35 = .ok (.iconst 1, 1) := by decide +kernel
theorem dX2_wrongPlace_36 : decode cX2_wrongPlace 36 = .ok (.iadd, 1) := by decide +kernel
theorem dX2_wrongPlace_37 : decode cX2_wrongPlace 37 = .ok (.istore_n 1, 1) := by decide +kernel
theorem dX2_wrongPlace_38 : decode cX2_wrongPlace 38 = .ok (.iinc 2 1, 3) := by decide +kernel
theorem dX2_wrongPlace_41 : decode cX2_wrongPlace 41 = .ok (.goto (-37), 3) := by decide +kernel
theorem dX2_wrongPlace_44 : decode cX2_wrongPlace 44 = .ok (.aload_n 0, 1) := by decide +kernel
theorem dX2_wrongPlace_45 : decode cX2_wrongPlace 45 = .ok (.getfield 15, 3) := by decide +kernel
theorem dX2_wrongPlace_48 : decode cX2_wrongPlace 48 = .ok (.ifCond .eq 11, 3) := by decide +kernel
theorem dX2_wrongPlace_51 : decode cX2_wrongPlace 51 = .ok (.iload_n 1, 1) := by decide +kernel
theorem dX2_wrongPlace_52 : decode cX2_wrongPlace 52 = .ok (.aload_n 0, 1) := by decide +kernel
theorem dX2_wrongPlace_53 : decode cX2_wrongPlace 53 = .ok (.getfield 15, 3) := by decide +kernel
theorem dX2_wrongPlace_56 : decode cX2_wrongPlace 56 = .ok (.if_icmp .ge 10, 3) := by decide +kernel
theorem dX2_wrongPlace_59 : decode cX2_wrongPlace 59 = .ok (.aload_n 0, 1) := by decide +kernel
theorem dX2_wrongPlace_60 : decode cX2_wrongPlace 60 = .ok (.getfield 15, 3) := by decide +kernel
theorem dX2_wrongPlace_63 : decode cX2_wrongPlace 63 = .ok (.goto 5, 3) := by decide +kernel
theorem dX2_wrongPlace_66 : decode cX2_wrongPlace 66 = .ok (.bipush (-9), 2) := by decide +kernel
theorem dX2_wrongPlace_68 : decode cX2_wrongPlace 68 = .ok (.ireturn, 1) := by decide +kernel
theorem dX2_fits_0 : decode cX2_fits 0 = .ok (.aload_n 0, 1) := by decide +kernel
theorem dX2_fits_1 : decode cX2_fits 1 = .ok (.getfield 9, 3) := by decide +kernel
theorem dX2_fits_4 : decode cX2_fits 4 = .ok (.iload_n 1, 1) := by decide +kernel
theorem dX2_fits_5 : decode cX2_fits 5 = .ok (.caload, 1) := by decide +kernel
theorem dX2_fits_6 : decode cX2_fits 6 = .ok (.invokestatic 23, 3) := by decide +kernel
theorem dX2_fits_9 : decode cX2_fits 9 = .ok (.istore_n 3, 1) := by decide +kernel
theorem dX2_fits_10 : decode cX2_fits 10 = .ok (.iload_n 2, 1) := by decide +kernel
theorem dX2_fits_11 : decode cX2_fits 11 = .ok (.iload_n 1, 1) := by decide +kernel
theorem dX2_fits_12 : decode cX2_fits 12 = .ok (.if_icmp .ne 13, 3) := by decide +kernel
theorem dX2_fits_15 : decode cX2_fits 15 = .ok (.iload_n 3, 1) := by decide +kernel
theorem dX2_fits_16 : decode cX2_fits 16 = .ok (.ifCond .le 7, 3) := by decide +kernel
theorem dX2_fits_19 : decode cX2_fits 19 = .ok (.iconst 1, 1) := by decide +kernel
theorem dX2_fits_20 : decode cX2_fits 20 = .ok (.goto 4, 3) := by decide +kernel
theorem dX2_fits_23 : decode cX2_fits 23 = .ok (.iconst 0, 1) := by decide +kernel
theorem dX2_fits_24 : decode cX2_fits 24 = .ok (.ireturn, 1) := by decide +kernel
theorem dX2_fits_25 : decode cX2_fits 25 = .ok (.iload_n 2, 1) := by decide +kernel
theorem dX2_fits_26 : decode cX2_fits 26 = .ok (.iload_n 1, 1) := by decide +kernel
theorem dX2_fits_27 : decode cX2_fits 27 = .ok (.isub, 1) := by decide +kernel
theorem dX2_fits_28 : decode cX2_fits 28 = .ok (.iload_n 3, 1) := by decide +kernel
theorem dX2_fits_29 : decode cX2_fits 29 = .ok (.if_icmp .le 20, 3) := by decide +kernel
theorem dX2_fits_32 : decode cX2_fits 32 = .ok (.aload_n 0, 1) := by decide +kernel
theorem dX2_fits_33 : decode cX2_fits 33 = .ok (.getfield 9, 3) := by decide +kernel
theorem dX2_fits_36 : decode cX2_fits 36 = .ok (.iload_n 2, 1) := by decide +kernel
theorem dX2_fits_37 : decode cX2_fits 37 = .ok (.caload, 1) := by decide +kernel
theorem dX2_fits_38 : decode cX2_fits 38 = .ok (.bipush 59, 2) := by decide +kernel
theorem dX2_fits_40 : decode cX2_fits 40 = .ok (.if_icmp .ne 7, 3) := by decide +kernel
theorem dX2_fits_43 : decode cX2_fits 43 = .ok (.iconst 1, 1) := by decide +kernel
theorem dX2_fits_44 : decode cX2_fits 44 = .ok (.goto 4, 3) := by decide +kernel
theorem dX2_fits_47 : decode cX2_fits 47 = .ok (.iconst 0, 1) := by decide +kernel
theorem dX2_fits_48 : decode cX2_fits 48 = .ok (.ireturn, 1) := by decide +kernel
theorem dX2_fits_49 : decode cX2_fits 49 = .ok (.iload_n 2, 1) := by decide +kernel
theorem dX2_fits_50 : decode cX2_fits 50 = .ok (.iload_n 1, 1) := by decide +kernel
theorem dX2_fits_51 : decode cX2_fits 51 = .ok (.iconst 1, 1) := by decide +kernel
theorem dX2_fits_52 : decode cX2_fits 52 = .ok (.iadd, 1) := by decide +kernel
theorem dX2_fits_53 : decode cX2_fits 53 = .ok (.if_icmp .ne 34, 3) := by decide +kernel
theorem dX2_fits_56 : decode cX2_fits 56 = .ok (.aload_n 0, 1) := by decide +kernel
theorem dX2_fits_57 : decode cX2_fits 57 = .ok (.getfield 9, 3) := by decide +kernel
theorem dX2_fits_60 : decode cX2_fits 60 = .ok (.iload_n 1, 1) := by decide +kernel
theorem dX2_fits_61 : decode cX2_fits 61 = .ok (.caload, 1) := by decide +kernel
theorem dX2_fits_62 : decode cX2_fits 62 = .ok (.bipush 115, 2) := by decide +kernel
theorem dX2_fits_64 : decode cX2_fits 64 = .ok (.if_icmp .ne 23, 3) := by decide +kernel
theorem dX2_fits_67 : decode cX2_fits 67 = .ok (.ldc 27, 2) := by decide +kernel
theorem dX2_fits_69 : decode cX2_fits 69 = .ok (.aload_n 0, 1) := by decide +kernel
theorem dX2_fits_70 : decode cX2_fits 70 = .ok (.getfield 9, 3) := by decide +kernel
theorem dX2_fits_73 : decode cX2_fits 73 = .ok (.iload_n 2, 1) := by decide +kernel
theorem dX2_fits_74 : decode cX2_fits 74 = .ok (.caload, 1) := by decide +kernel
theorem dX2_fits_75 : decode cX2_fits 75 = .ok (.invokevirtual 29, 3) := by decide +kernel
theorem dX2_fits_78 : decode cX2_fits 78 = .ok (.ifCond .lt 7, 3) := by decide +kernel
theorem dX2_fits_81 : decode cX2_fits 81 = .ok (.iconst 1, 1) := by decide +kernel
theorem dX2_fits_82 : decode cX2_fits 82 = .ok (.goto 4, 3) := by decide +kernel
theorem dX2_fits_85 : decode cX2_fits 85 = .ok (.iconst 0, 1) := by decide +kernel
theorem dX2_fits_86 : decode cX2_fits 86 = .ok (.ireturn, 1) := by decide +kernel
theorem dX2_fits_87 : decode cX2_fits 87 = .ok (.aload_n 0, 1) := by decide +kernel
theorem dX2_fits_88 : decode cX2_fits 88 = .ok (.getfield 9, 3) := by decide +kernel
theorem dX2_fits_91 : decode cX2_fits 91 = .ok (.iload_n 2, 1) := by decide +kernel
theorem dX2_fits_92 : decode cX2_fits 92 = .ok (.caload, 1) := by decide +kernel
theorem dX2_fits_93 : decode cX2_fits 93 = .ok (.bipush 48, 2) := by decide +kernel
theorem dX2_fits_95 : decode cX2_fits 95 = .ok (.if_icmp .lt 18, 3) := by decide +kernel
theorem dX2_fits_98 : decode cX2_fits 98 = .ok (.aload_n 0, 1) := by decide +kernel
theorem dX2_fits_99 : decode cX2_fits 99 = .ok (.getfield 9, 3) := by decide +kernel
theorem dX2_fits_102 : decode cX2_fits 102 = .ok (.iload_n 2, 1) := by decide +kernel
theorem dX2_fits_103 : decode cX2_fits 103 = .ok (.caload, 1) := by decide +kernel
theorem dX2_fits_104 : decode cX2_fits 104 = .ok (.bipush 57, 2) := by decide +kernel
theorem dX2_fits_106 : decode cX2_fits 106 = .ok (.if_icmp .gt 7, 3) := by decide +kernel
theorem dX2_fits_109 : decode cX2_fits 109 = .ok (.iconst 1, 1) := by decide +kernel
theorem dX2_fits_110 : decode cX2_fits 110 = .ok (.goto 4, 3) := by decide +kernel
theorem dX2_fits_113 : decode cX2_fits 113 = .ok (.iconst 0, 1) := by decide +kernel
theorem dX2_fits_114 : decode cX2_fits 114 = .ok (.ireturn, 1) := by decide +kernel
theorem dX2_signsBehind_0 : decode cX2_signsBehind 0 = .ok (.iload_n 0, 1) := by decide +kernel
theorem dX2_signsBehind_1 : decode cX2_signsBehind 1 = .ok (.tableswitch 105 99 119 #[99, 99, 105, 103, 105, 105, 105, 105, 105, 105, 105, 105, 101, 105, 105, 99, 99, 105, 105, 105, 99], 99) := by decide +kernel
theorem dX2_signsBehind_100 : decode cX2_signsBehind 100 = .ok (.iconst 2, 1) := by decide +kernel
theorem dX2_signsBehind_101 : decode cX2_signsBehind 101 = .ok (.ireturn, 1) := by decide +kernel
theorem dX2_signsBehind_102 : decode cX2_signsBehind 102 = .ok (.iconst 1, 1) := by decide +kernel
theorem dX2_signsBehind_103 : decode cX2_signsBehind 103 = .ok (.ireturn, 1) := by decide +kernel
theorem dX2_signsBehind_104 : decode cX2_signsBehind 104 = .ok (.iconst 3, 1) := by decide +kernel
theorem dX2_signsBehind_105 : decode cX2_signsBehind 105 = .ok (.ireturn, 1) := by decide +kernel
theorem dX2_signsBehind_106 : decode cX2_signsBehind 106 = .ok (.iconst 0, 1) := by decide +kernel
theorem dX2_signsBehind_107 : decode cX2_signsBehind 107 = .ok (.ireturn, 1) := by decide +kernel
theorem dX2_lengthAt_0 : decode cX2_lengthAt 0 = .ok (.aload_n 0, 1) := by decide +kernel
theorem dX2_lengthAt_1 : decode cX2_lengthAt 1 = .ok (.getfield 9, 3) := by decide +kernel
theorem dX2_lengthAt_4 : decode cX2_lengthAt 4 = .ok (.iload_n 1, 1) := by decide +kernel
theorem dX2_lengthAt_5 : decode cX2_lengthAt 5 = .ok (.caload, 1) := by decide +kernel
theorem dX2_lengthAt_6 : decode cX2_lengthAt 6 = .ok (.invokestatic 23, 3) := by decide +kernel
theorem dX2_lengthAt_9 : decode cX2_lengthAt 9 = .ok (.iconst 2, 1) := by decide +kernel
theorem dX2_lengthAt_10 : decode cX2_lengthAt 10 = .ok (.iadd, 1) := by decide +kernel
theorem dX2_lengthAt_11 : decode cX2_lengthAt 11 = .ok (.ireturn, 1) := by decide +kernel
theorem dX2_takes_0 : decode cX2_takes 0 = .ok (.aload_n 0, 1) := by decide +kernel
theorem dX2_takes_1 : decode cX2_takes 1 = .ok (.getfield 9, 3) := by decide +kernel
theorem dX2_takes_4 : decode cX2_takes 4 = .ok (.iload_n 2, 1) := by decide +kernel
theorem dX2_takes_5 : decode cX2_takes 5 = .ok (.caload, 1) := by decide +kernel
theorem dX2_takes_6 : decode cX2_takes 6 = .ok (.istore_n 3, 1) := by decide +kernel
theorem dX2_takes_7 : decode cX2_takes 7 = .ok (.iload_n 3, 1) := by decide +kernel
theorem dX2_takes_8 : decode cX2_takes 8 = .ok (.lookupswitch 166 #[(99, 85), (102, 128), (111, 116), (114, 147), (115, 60), (119, 97)], 60) := by decide +kernel
theorem dX2_takes_68 : decode cX2_takes 68 = .ok (.aload_n 1, 1) := by decide +kernel
theorem dX2_takes_69 : decode cX2_takes 69 = .ok (.ldc 27, 2) := by decide +kernel
theorem dX2_takes_71 : decode cX2_takes 71 = .ok (.aload_n 0, 1) := by decide +kernel
theorem dX2_takes_72 : decode cX2_takes 72 = .ok (.getfield 9, 3) := by decide +kernel
theorem dX2_takes_75 : decode cX2_takes 75 = .ok (.iload_n 2, 1) := by decide +kernel
theorem dX2_takes_76 : decode cX2_takes 76 = .ok (.iconst 1, 1) := by decide +kernel
theorem dX2_takes_77 : decode cX2_takes 77 = .ok (.iadd, 1) := by decide +kernel
theorem dX2_takes_78 : decode cX2_takes 78 = .ok (.caload, 1) := by decide +kernel
theorem dX2_takes_79 : decode cX2_takes 79 = .ok (.invokevirtual 29, 3) := by decide +kernel
theorem dX2_takes_82 : decode cX2_takes 82 = .ok (.aload_n 0, 1) := by decide +kernel
theorem dX2_takes_83 : decode cX2_takes 83 = .ok (.iload_n 2, 1) := by decide +kernel
theorem dX2_takes_84 : decode cX2_takes 84 = .ok (.iconst 2, 1) := by decide +kernel
theorem dX2_takes_85 : decode cX2_takes 85 = .ok (.iadd, 1) := by decide +kernel
theorem dX2_takes_86 : decode cX2_takes 86 = .ok (.invokevirtual 34, 3) := by decide +kernel
theorem dX2_takes_89 : decode cX2_takes 89 = .ok (.invokevirtual 37, 3) := by decide +kernel
theorem dX2_takes_92 : decode cX2_takes 92 = .ok (.ireturn, 1) := by decide +kernel
theorem dX2_takes_93 : decode cX2_takes 93 = .ok (.aload_n 1, 1) := by decide +kernel
theorem dX2_takes_94 : decode cX2_takes 94 = .ok (.aload_n 0, 1) := by decide +kernel
theorem dX2_takes_95 : decode cX2_takes 95 = .ok (.iload_n 2, 1) := by decide +kernel
theorem dX2_takes_96 : decode cX2_takes 96 = .ok (.iconst 1, 1) := by decide +kernel
theorem dX2_takes_97 : decode cX2_takes 97 = .ok (.iadd, 1) := by decide +kernel
theorem dX2_takes_98 : decode cX2_takes 98 = .ok (.invokevirtual 42, 3) := by decide +kernel
theorem dX2_takes_101 : decode cX2_takes 101 = .ok (.invokevirtual 45, 3) := by decide +kernel
theorem dX2_takes_104 : decode cX2_takes 104 = .ok (.ireturn, 1) := by decide +kernel
theorem dX2_takes_105 : decode cX2_takes 105 = .ok (.aload_n 1, 1) := by decide +kernel
theorem dX2_takes_106 : decode cX2_takes 106 = .ok (.aload_n 0, 1) := by decide +kernel
theorem dX2_takes_107 : decode cX2_takes 107 = .ok (.iload_n 2, 1) := by decide +kernel
theorem dX2_takes_108 : decode cX2_takes 108 = .ok (.iconst 1, 1) := by decide +kernel
theorem dX2_takes_109 : decode cX2_takes 109 = .ok (.iadd, 1) := by decide +kernel
theorem dX2_takes_110 : decode cX2_takes 110 = .ok (.invokevirtual 34, 3) := by decide +kernel
theorem dX2_takes_113 : decode cX2_takes 113 = .ok (.aload_n 0, 1) := by decide +kernel
theorem dX2_takes_114 : decode cX2_takes 114 = .ok (.iload_n 2, 1) := by decide +kernel
theorem dX2_takes_115 : decode cX2_takes 115 = .ok (.iconst 2, 1) := by decide +kernel
theorem dX2_takes_116 : decode cX2_takes 116 = .ok (.iadd, 1) := by decide +kernel
theorem dX2_takes_117 : decode cX2_takes 117 = .ok (.invokevirtual 34, 3) := by decide +kernel
theorem dX2_takes_120 : decode cX2_takes 120 = .ok (.invokestatic 49, 3) := by decide +kernel
theorem dX2_takes_123 : decode cX2_takes 123 = .ok (.ireturn, 1) := by decide +kernel
theorem dX2_takes_124 : decode cX2_takes 124 = .ok (.aload_n 1, 1) := by decide +kernel
theorem dX2_takes_125 : decode cX2_takes 125 = .ok (.aload_n 0, 1) := by decide +kernel
theorem dX2_takes_126 : decode cX2_takes 126 = .ok (.iload_n 2, 1) := by decide +kernel
theorem dX2_takes_127 : decode cX2_takes 127 = .ok (.iconst 1, 1) := by decide +kernel
theorem dX2_takes_128 : decode cX2_takes 128 = .ok (.iadd, 1) := by decide +kernel
theorem dX2_takes_129 : decode cX2_takes 129 = .ok (.invokevirtual 34, 3) := by decide +kernel
theorem dX2_takes_132 : decode cX2_takes 132 = .ok (.invokestatic 53, 3) := by decide +kernel
theorem dX2_takes_135 : decode cX2_takes 135 = .ok (.ireturn, 1) := by decide +kernel
theorem dX2_takes_136 : decode cX2_takes 136 = .ok (.aload_n 1, 1) := by decide +kernel
theorem dX2_takes_137 : decode cX2_takes 137 = .ok (.aload_n 0, 1) := by decide +kernel
theorem dX2_takes_138 : decode cX2_takes 138 = .ok (.iload_n 2, 1) := by decide +kernel
theorem dX2_takes_139 : decode cX2_takes 139 = .ok (.iconst 1, 1) := by decide +kernel
theorem dX2_takes_140 : decode cX2_takes 140 = .ok (.iadd, 1) := by decide +kernel
theorem dX2_takes_141 : decode cX2_takes 141 = .ok (.invokevirtual 34, 3) := by decide +kernel
theorem dX2_takes_144 : decode cX2_takes 144 = .ok (.aload_n 0, 1) := by decide +kernel
theorem dX2_takes_145 : decode cX2_takes 145 = .ok (.iload_n 2, 1) := by decide +kernel
theorem dX2_takes_146 : decode cX2_takes 146 = .ok (.iconst 2, 1) := by decide +kernel
theorem dX2_takes_147 : decode cX2_takes 147 = .ok (.iadd, 1) := by decide +kernel
theorem dX2_takes_148 : decode cX2_takes 148 = .ok (.invokevirtual 42, 3) := by decide +kernel
theorem dX2_takes_151 : decode cX2_takes 151 = .ok (.invokestatic 57, 3) := by decide +kernel
theorem dX2_takes_154 : decode cX2_takes 154 = .ok (.ireturn, 1) := by decide +kernel
theorem dX2_takes_155 : decode cX2_takes 155 = .ok (.aload_n 1, 1) := by decide +kernel
theorem dX2_takes_156 : decode cX2_takes 156 = .ok (.aload_n 0, 1) := by decide +kernel
theorem dX2_takes_157 : decode cX2_takes 157 = .ok (.iload_n 2, 1) := by decide +kernel
theorem dX2_takes_158 : decode cX2_takes 158 = .ok (.iconst 1, 1) := by decide +kernel
theorem dX2_takes_159 : decode cX2_takes 159 = .ok (.iadd, 1) := by decide +kernel
theorem dX2_takes_160 : decode cX2_takes 160 = .ok (.invokevirtual 34, 3) := by decide +kernel
theorem dX2_takes_163 : decode cX2_takes 163 = .ok (.aload_n 0, 1) := by decide +kernel
theorem dX2_takes_164 : decode cX2_takes 164 = .ok (.iload_n 2, 1) := by decide +kernel
theorem dX2_takes_165 : decode cX2_takes 165 = .ok (.iconst 2, 1) := by decide +kernel
theorem dX2_takes_166 : decode cX2_takes 166 = .ok (.iadd, 1) := by decide +kernel
theorem dX2_takes_167 : decode cX2_takes 167 = .ok (.invokevirtual 34, 3) := by decide +kernel
theorem dX2_takes_170 : decode cX2_takes 170 = .ok (.invokestatic 60, 3) := by decide +kernel
theorem dX2_takes_173 : decode cX2_takes 173 = .ok (.ireturn, 1) := by decide +kernel
theorem dX2_takes_174 : decode cX2_takes 174 = .ok (.aload_n 0, 1) := by decide +kernel
theorem dX2_takes_175 : decode cX2_takes 175 = .ok (.iload_n 2, 1) := by decide +kernel
theorem dX2_takes_176 : decode cX2_takes 176 = .ok (.iconst 1, 1) := by decide +kernel
theorem dX2_takes_177 : decode cX2_takes 177 = .ok (.iadd, 1) := by decide +kernel
theorem dX2_takes_178 : decode cX2_takes 178 = .ok (.invokevirtual 42, 3) := by decide +kernel
theorem dX2_takes_181 : decode cX2_takes 181 = .ok (.istore 4, 2) := by decide +kernel
theorem dX2_takes_183 : decode cX2_takes 183 = .ok (.iload 4, 2) := by decide +kernel
theorem dX2_takes_185 : decode cX2_takes 185 = .ok (.iconst 1, 1) := by decide +kernel
theorem dX2_takes_186 : decode cX2_takes 186 = .ok (.if_icmp .lt 27, 3) := by decide +kernel
theorem dX2_takes_189 : decode cX2_takes 189 = .ok (.iload 4, 2) := by decide +kernel
theorem dX2_takes_191 : decode cX2_takes 191 = .ok (.bipush 60, 2) := by decide +kernel
theorem dX2_takes_193 : decode cX2_takes 193 = .ok (.if_icmp .gt 20, 3) := by decide +kernel
theorem dX2_takes_196 : decode cX2_takes 196 = .ok (.aload_n 1, 1) := by decide +kernel
theorem dX2_takes_197 : decode cX2_takes 197 = .ok (.getfield 63, 3) := by decide +kernel
theorem dX2_takes_200 : decode cX2_takes 200 = .ok (.iload 4, 2) := by decide +kernel
theorem dX2_takes_202 : decode cX2_takes 202 = .ok (.iadd, 1) := by decide +kernel
theorem dX2_takes_203 : decode cX2_takes 203 = .ok (.sipush 999, 3) := by decide +kernel
theorem dX2_takes_206 : decode cX2_takes 206 = .ok (.if_icmp .gt 7, 3) := by decide +kernel
theorem dX2_takes_209 : decode cX2_takes 209 = .ok (.iconst 1, 1) := by decide +kernel
theorem dX2_takes_210 : decode cX2_takes 210 = .ok (.goto 4, 3) := by decide +kernel
theorem dX2_takes_213 : decode cX2_takes 213 = .ok (.iconst 0, 1) := by decide +kernel
theorem dX2_takes_214 : decode cX2_takes 214 = .ok (.istore 5, 2) := by decide +kernel
theorem dX2_takes_216 : decode cX2_takes 216 = .ok (.aload_n 1, 1) := by decide +kernel
theorem dX2_takes_217 : decode cX2_takes 217 = .ok (.iload 5, 2) := by decide +kernel
theorem dX2_takes_219 : decode cX2_takes 219 = .ok (.ifCond .eq 8, 3) := by decide +kernel
theorem dX2_takes_222 : decode cX2_takes 222 = .ok (.iload 4, 2) := by decide +kernel
theorem dX2_takes_224 : decode cX2_takes 224 = .ok (.goto 4, 3) := by decide +kernel
theorem dX2_takes_227 : decode cX2_takes 227 = .ok (.iconst 0, 1) := by decide +kernel
theorem dX2_takes_228 : decode cX2_takes 228 = .ok (.invokevirtual 66, 3) := by decide +kernel
theorem dX2_takes_231 : decode cX2_takes 231 = .ok (.iload 5, 2) := by decide +kernel
theorem dX2_takes_233 : decode cX2_takes 233 = .ok (.ireturn, 1) := by decide +kernel
theorem dX2_digit_0 : decode cX2_digit 0 = .ok (.aload_n 0, 1) := by decide +kernel
theorem dX2_digit_1 : decode cX2_digit 1 = .ok (.getfield 9, 3) := by decide +kernel
theorem dX2_digit_4 : decode cX2_digit 4 = .ok (.iload_n 1, 1) := by decide +kernel
theorem dX2_digit_5 : decode cX2_digit 5 = .ok (.caload, 1) := by decide +kernel
theorem dX2_digit_6 : decode cX2_digit 6 = .ok (.bipush 48, 2) := by decide +kernel
theorem dX2_digit_8 : decode cX2_digit 8 = .ok (.isub, 1) := by decide +kernel
theorem dX2_digit_9 : decode cX2_digit 9 = .ok (.ireturn, 1) := by decide +kernel
theorem dX2_number_0 : decode cX2_number 0 = .ok (.bipush 10, 2) := by decide +kernel
theorem dX2_number_2 : decode cX2_number 2 = .ok (.aload_n 0, 1) := by decide +kernel
theorem dX2_number_3 : decode cX2_number 3 = .ok (.iload_n 1, 1) := by decide +kernel
theorem dX2_number_4 : decode cX2_number 4 = .ok (.invokevirtual 34, 3) := by decide +kernel
theorem dX2_number_7 : decode cX2_number 7 = .ok (.imul, 1) := by decide +kernel
theorem dX2_number_8 : decode cX2_number 8 = .ok (.aload_n 0, 1) := by decide +kernel
theorem dX2_number_9 : decode cX2_number 9 = .ok (.iload_n 1, 1) := by decide +kernel
theorem dX2_number_10 : decode cX2_number 10 = .ok (.iconst 1, 1) := by decide +kernel
theorem dX2_number_11 : decode cX2_number 11 = .ok (.iadd, 1) := by decide +kernel
theorem dX2_number_12 : decode cX2_number 12 = .ok (.invokevirtual 34, 3) := by decide +kernel
theorem dX2_number_15 : decode cX2_number 15 = .ok (.iadd, 1) := by decide +kernel
theorem dX2_number_16 : decode cX2_number 16 = .ok (.ireturn, 1) := by decide +kernel
theorem dX2_takesWearing_0 : decode cX2_takesWearing 0 = .ok (.iload_n 1, 1) := by decide +kernel
theorem dX2_takesWearing_1 : decode cX2_takesWearing 1 = .ok (.aload_n 0, 1) := by decide +kernel
theorem dX2_takesWearing_2 : decode cX2_takesWearing 2 = .ok (.getfield 70, 3) := by decide +kernel
theorem dX2_takesWearing_5 : decode cX2_takesWearing 5 = .ok (.if_icmp .ge 11, 3) := by decide +kernel
theorem dX2_takesWearing_8 : decode cX2_takesWearing 8 = .ok (.iload_n 2, 1) := by decide +kernel
theorem dX2_takesWearing_9 : decode cX2_takesWearing 9 = .ok (.aload_n 0, 1) := by decide +kernel
theorem dX2_takesWearing_10 : decode cX2_takesWearing 10 = .ok (.getfield 73, 3) := by decide +kernel
theorem dX2_takesWearing_13 : decode cX2_takesWearing 13 = .ok (.if_icmp .lt 5, 3) := by decide +kernel
theorem dX2_takesWearing_16 : decode cX2_takesWearing 16 = .ok (.iconst 0, 1) := by decide +kernel
theorem dX2_takesWearing_17 : decode cX2_takesWearing 17 = .ok (.ireturn, 1) := by decide +kernel
theorem dX2_takesWearing_18 : decode cX2_takesWearing 18 = .ok (.aload_n 0, 1) := by decide +kernel
theorem dX2_takesWearing_19 : decode cX2_takesWearing 19 = .ok (.iload_n 1, 1) := by decide +kernel
theorem dX2_takesWearing_20 : decode cX2_takesWearing 20 = .ok (.iload_n 2, 1) := by decide +kernel
theorem dX2_takesWearing_21 : decode cX2_takesWearing 21 = .ok (.invokevirtual 76, 3) := by decide +kernel
theorem dX2_takesWearing_24 : decode cX2_takesWearing 24 = .ok (.iconst 1, 1) := by decide +kernel
theorem dX2_takesWearing_25 : decode cX2_takesWearing 25 = .ok (.ireturn, 1) := by decide +kernel
theorem dX2_takesUndressing_0 : decode cX2_takesUndressing 0 = .ok (.iload_n 1, 1) := by decide +kernel
theorem dX2_takesUndressing_1 : decode cX2_takesUndressing 1 = .ok (.aload_n 0, 1) := by decide +kernel
theorem dX2_takesUndressing_2 : decode cX2_takesUndressing 2 = .ok (.getfield 70, 3) := by decide +kernel
theorem dX2_takesUndressing_5 : decode cX2_takesUndressing 5 = .ok (.if_icmp .lt 5, 3) := by decide +kernel
theorem dX2_takesUndressing_8 : decode cX2_takesUndressing 8 = .ok (.iconst 0, 1) := by decide +kernel
theorem dX2_takesUndressing_9 : decode cX2_takesUndressing 9 = .ok (.ireturn, 1) := by decide +kernel
theorem dX2_takesUndressing_10 : decode cX2_takesUndressing 10 = .ok (.aload_n 0, 1) := by decide +kernel
theorem dX2_takesUndressing_11 : decode cX2_takesUndressing 11 = .ok (.getfield 80, 3) := by decide +kernel
theorem dX2_takesUndressing_14 : decode cX2_takesUndressing 14 = .ok (.iload_n 1, 1) := by decide +kernel
theorem dX2_takesUndressing_15 : decode cX2_takesUndressing 15 = .ok (.bipush (-9), 2) := by decide +kernel
theorem dX2_takesUndressing_17 : decode cX2_takesUndressing 17 = .ok (.iastore, 1) := by decide +kernel
theorem dX2_takesUndressing_18 : decode cX2_takesUndressing 18 = .ok (.iconst 1, 1) := by decide +kernel
theorem dX2_takesUndressing_19 : decode cX2_takesUndressing 19 = .ok (.ireturn, 1) := by decide +kernel
theorem dX2_takesFear_0 : decode cX2_takesFear 0 = .ok (.iload_n 1, 1) := by decide +kernel
theorem dX2_takesFear_1 : decode cX2_takesFear 1 = .ok (.aload_n 0, 1) := by decide +kernel
theorem dX2_takesFear_2 : decode cX2_takesFear 2 = .ok (.getfield 70, 3) := by decide +kernel
theorem dX2_takesFear_5 : decode cX2_takesFear 5 = .ok (.if_icmp .ge 9, 3) := by decide +kernel
theorem dX2_takesFear_8 : decode cX2_takesFear 8 = .ok (.iload_n 2, 1) := by decide +kernel
theorem dX2_takesFear_9 : decode cX2_takesFear 9 = .ok (.bipush 20, 2) := by decide +kernel
theorem dX2_takesFear_11 : decode cX2_takesFear 11 = .ok (.if_icmp .le 5, 3) := by decide +kernel
theorem dX2_takesFear_14 : decode cX2_takesFear 14 = .ok (.iconst 0, 1) := by decide +kernel
theorem dX2_takesFear_15 : decode cX2_takesFear 15 = .ok (.ireturn, 1) := by decide +kernel
theorem dX2_takesFear_16 : decode cX2_takesFear 16 = .ok (.aload_n 0, 1) := by decide +kernel
theorem dX2_takesFear_17 : decode cX2_takesFear 17 = .ok (.getfield 84, 3) := by decide +kernel
theorem dX2_takesFear_20 : decode cX2_takesFear 20 = .ok (.iload_n 1, 1) := by decide +kernel
theorem dX2_takesFear_21 : decode cX2_takesFear 21 = .ok (.iload_n 2, 1) := by decide +kernel
theorem dX2_takesFear_22 : decode cX2_takesFear 22 = .ok (.iastore, 1) := by decide +kernel
theorem dX2_takesFear_23 : decode cX2_takesFear 23 = .ok (.iconst 1, 1) := by decide +kernel
theorem dX2_takesFear_24 : decode cX2_takesFear 24 = .ok (.ireturn, 1) := by decide +kernel
theorem dX2_takesRust_0 : decode cX2_takesRust 0 = .ok (.iload_n 1, 1) := by decide +kernel
theorem dX2_takesRust_1 : decode cX2_takesRust 1 = .ok (.aload_n 0, 1) := by decide +kernel
theorem dX2_takesRust_2 : decode cX2_takesRust 2 = .ok (.getfield 73, 3) := by decide +kernel
theorem dX2_takesRust_5 : decode cX2_takesRust 5 = .ok (.if_icmp .lt 5, 3) := by decide +kernel
theorem dX2_takesRust_8 : decode cX2_takesRust 8 = .ok (.iconst 0, 1) := by decide +kernel
theorem dX2_takesRust_9 : decode cX2_takesRust 9 = .ok (.ireturn, 1) := by decide +kernel
theorem dX2_takesRust_10 : decode cX2_takesRust 10 = .ok (.aload_n 0, 1) := by decide +kernel
theorem dX2_takesRust_11 : decode cX2_takesRust 11 = .ok (.getfield 87, 3) := by decide +kernel
theorem dX2_takesRust_14 : decode cX2_takesRust 14 = .ok (.iload_n 1, 1) := by decide +kernel
theorem dX2_takesRust_15 : decode cX2_takesRust 15 = .ok (.iload_n 2, 1) := by decide +kernel
theorem dX2_takesRust_16 : decode cX2_takesRust 16 = .ok (.iastore, 1) := by decide +kernel
theorem dX2_takesRust_17 : decode cX2_takesRust 17 = .ok (.iconst 1, 1) := by decide +kernel
theorem dX2_takesRust_18 : decode cX2_takesRust 18 = .ok (.ireturn, 1) := by decide +kernel
theorem dJ11_isValidCodePoint_9a6ad_0 : decode cJ11_isValidCodePoint_9a6ad 0 = .ok (.iload_n 0, 1) := by decide +kernel
theorem dJ11_isValidCodePoint_9a6ad_1 : decode cJ11_isValidCodePoint_9a6ad 1 = .ok (.bipush 16, 2) := by decide +kernel
theorem dJ11_isValidCodePoint_9a6ad_3 : decode cJ11_isValidCodePoint_9a6ad 3 = .ok (.iushr, 1) := by decide +kernel
theorem dJ11_isValidCodePoint_9a6ad_4 : decode cJ11_isValidCodePoint_9a6ad 4 = .ok (.istore_n 1, 1) := by decide +kernel
theorem dJ11_isValidCodePoint_9a6ad_5 : decode cJ11_isValidCodePoint_9a6ad 5 = .ok (.iload_n 1, 1) := by decide +kernel
theorem dJ11_isValidCodePoint_9a6ad_6 : decode cJ11_isValidCodePoint_9a6ad 6 = .ok (.bipush 17, 2) := by decide +kernel
theorem dJ11_isValidCodePoint_9a6ad_8 : decode cJ11_isValidCodePoint_9a6ad 8 = .ok (.if_icmp .ge 7, 3) := by decide +kernel
theorem dJ11_isValidCodePoint_9a6ad_11 : decode cJ11_isValidCodePoint_9a6ad 11 = .ok (.iconst 1, 1) := by decide +kernel
theorem dJ11_isValidCodePoint_9a6ad_12 : decode cJ11_isValidCodePoint_9a6ad 12 = .ok (.goto 4, 3) := by decide +kernel
theorem dJ11_isValidCodePoint_9a6ad_15 : decode cJ11_isValidCodePoint_9a6ad 15 = .ok (.iconst 0, 1) := by decide +kernel
theorem dJ11_isValidCodePoint_9a6ad_16 : decode cJ11_isValidCodePoint_9a6ad 16 = .ok (.ireturn, 1) := by decide +kernel
theorem dJ11_highSurrogate_5068e_0 : decode cJ11_highSurrogate_5068e 0 = .ok (.iload_n 0, 1) := by decide +kernel
theorem dJ11_highSurrogate_5068e_1 : decode cJ11_highSurrogate_5068e 1 = .ok (.bipush 10, 2) := by decide +kernel
theorem dJ11_highSurrogate_5068e_3 : decode cJ11_highSurrogate_5068e 3 = .ok (.iushr, 1) := by decide +kernel
theorem dJ11_highSurrogate_5068e_4 : decode cJ11_highSurrogate_5068e 4 = .ok (.ldc 110, 2) := by decide +kernel
theorem dJ11_highSurrogate_5068e_6 : decode cJ11_highSurrogate_5068e 6 = .ok (.iadd, 1) := by decide +kernel
theorem dJ11_highSurrogate_5068e_7 : decode cJ11_highSurrogate_5068e 7 = .ok (.i2c, 1) := by decide +kernel
theorem dJ11_highSurrogate_5068e_8 : decode cJ11_highSurrogate_5068e 8 = .ok (.ireturn, 1) := by decide +kernel
theorem dJ11_lowSurrogate_5068e_0 : decode cJ11_lowSurrogate_5068e 0 = .ok (.iload_n 0, 1) := by decide +kernel
theorem dJ11_lowSurrogate_5068e_1 : decode cJ11_lowSurrogate_5068e 1 = .ok (.sipush 1023, 3) := by decide +kernel
theorem dJ11_lowSurrogate_5068e_4 : decode cJ11_lowSurrogate_5068e 4 = .ok (.iand, 1) := by decide +kernel
theorem dJ11_lowSurrogate_5068e_5 : decode cJ11_lowSurrogate_5068e 5 = .ok (.ldc 76, 2) := by decide +kernel
theorem dJ11_lowSurrogate_5068e_7 : decode cJ11_lowSurrogate_5068e 7 = .ok (.iadd, 1) := by decide +kernel
theorem dJ11_lowSurrogate_5068e_8 : decode cJ11_lowSurrogate_5068e 8 = .ok (.i2c, 1) := by decide +kernel
theorem dJ11_lowSurrogate_5068e_9 : decode cJ11_lowSurrogate_5068e 9 = .ok (.ireturn, 1) := by decide +kernel
theorem dJ9_max_7cf53_0 : decode cJ9_max_7cf53 0 = .ok (.iload_n 0, 1) := by decide +kernel
theorem dJ9_max_7cf53_1 : decode cJ9_max_7cf53 1 = .ok (.iload_n 1, 1) := by decide +kernel
theorem dJ9_max_7cf53_2 : decode cJ9_max_7cf53 2 = .ok (.if_icmp .lt 7, 3) := by decide +kernel
theorem dJ9_max_7cf53_5 : decode cJ9_max_7cf53 5 = .ok (.iload_n 0, 1) := by decide +kernel
theorem dJ9_max_7cf53_6 : decode cJ9_max_7cf53 6 = .ok (.goto 4, 3) := by decide +kernel
theorem dJ9_max_7cf53_9 : decode cJ9_max_7cf53 9 = .ok (.iload_n 1, 1) := by decide +kernel
theorem dJ9_max_7cf53_10 : decode cJ9_max_7cf53 10 = .ok (.ireturn, 1) := by decide +kernel
theorem dJ9_min_7cf53_0 : decode cJ9_min_7cf53 0 = .ok (.iload_n 0, 1) := by decide +kernel
theorem dJ9_min_7cf53_1 : decode cJ9_min_7cf53 1 = .ok (.iload_n 1, 1) := by decide +kernel
theorem dJ9_min_7cf53_2 : decode cJ9_min_7cf53 2 = .ok (.if_icmp .gt 7, 3) := by decide +kernel
theorem dJ9_min_7cf53_5 : decode cJ9_min_7cf53 5 = .ok (.iload_n 0, 1) := by decide +kernel
theorem dJ9_min_7cf53_6 : decode cJ9_min_7cf53 6 = .ok (.goto 4, 3) := by decide +kernel
theorem dJ9_min_7cf53_9 : decode cJ9_min_7cf53 9 = .ok (.iload_n 1, 1) := by decide +kernel
theorem dJ9_min_7cf53_10 : decode cJ9_min_7cf53 10 = .ok (.ireturn, 1) := by decide +kernel
theorem dJ0_length_8abf5_0 : decode cJ0_length_8abf5 0 = .ok (.aload_n 0, 1) := by decide +kernel
theorem dJ0_length_8abf5_1 : decode cJ0_length_8abf5 1 = .ok (.getfield 9, 3) := by decide +kernel
theorem dJ0_length_8abf5_4 : decode cJ0_length_8abf5 4 = .ok (.arraylength, 1) := by decide +kernel
theorem dJ0_length_8abf5_5 : decode cJ0_length_8abf5 5 = .ok (.aload_n 0, 1) := by decide +kernel
theorem dJ0_length_8abf5_6 : decode cJ0_length_8abf5 6 = .ok (.invokevirtual 335, 3) := by decide +kernel
theorem dJ0_length_8abf5_9 : decode cJ0_length_8abf5 9 = .ok (.ishr, 1) := by decide +kernel
theorem dJ0_length_8abf5_10 : decode cJ0_length_8abf5 10 = .ok (.ireturn, 1) := by decide +kernel
theorem dJ0_indexOf_0f7a4_0 : decode cJ0_indexOf_0f7a4 0 = .ok (.aload_n 0, 1) := by decide +kernel
theorem dJ0_indexOf_0f7a4_1 : decode cJ0_indexOf_0f7a4 1 = .ok (.iload_n 1, 1) := by decide +kernel
theorem dJ0_indexOf_0f7a4_2 : decode cJ0_indexOf_0f7a4 2 = .ok (.iconst 0, 1) := by decide +kernel
theorem dJ0_indexOf_0f7a4_3 : decode cJ0_indexOf_0f7a4 3 = .ok (.invokevirtual 633, 3) := by decide +kernel
theorem dJ0_indexOf_0f7a4_6 : decode cJ0_indexOf_0f7a4 6 = .ok (.ireturn, 1) := by decide +kernel
theorem dJ0_indexOf_7cf53_0 : decode cJ0_indexOf_7cf53 0 = .ok (.aload_n 0, 1) := by decide +kernel
theorem dJ0_indexOf_7cf53_1 : decode cJ0_indexOf_7cf53 1 = .ok (.invokevirtual 492, 3) := by decide +kernel
theorem dJ0_indexOf_7cf53_4 : decode cJ0_indexOf_7cf53 4 = .ok (.ifCond .eq 19, 3) := by decide +kernel
theorem dJ0_indexOf_7cf53_7 : decode cJ0_indexOf_7cf53 7 = .ok (.aload_n 0, 1) := by decide +kernel
theorem dJ0_indexOf_7cf53_8 : decode cJ0_indexOf_7cf53 8 = .ok (.getfield 9, 3) := by decide +kernel
theorem dJ0_indexOf_7cf53_11 : decode cJ0_indexOf_7cf53 11 = .ok (.iload_n 1, 1) := by decide +kernel
theorem dJ0_indexOf_7cf53_12 : decode cJ0_indexOf_7cf53 12 = .ok (.iload_n 2, 1) := by decide +kernel
theorem dJ0_indexOf_7cf53_13 : decode cJ0_indexOf_7cf53 13 = .ok (.aload_n 0, 1) := by decide +kernel
theorem dJ0_indexOf_7cf53_14 : decode cJ0_indexOf_7cf53 14 = .ok (.invokevirtual 505, 3) := by decide +kernel
theorem dJ0_indexOf_7cf53_17 : decode cJ0_indexOf_7cf53 17 = .ok (.invokestatic 637, 3) := by decide +kernel
theorem dJ0_indexOf_7cf53_20 : decode cJ0_indexOf_7cf53 20 = .ok (.goto 16, 3) := by decide +kernel
theorem dJ0_indexOf_7cf53_23 : decode cJ0_indexOf_7cf53 23 = .ok (.aload_n 0, 1) := by decide +kernel
theorem dJ0_indexOf_7cf53_24 : decode cJ0_indexOf_7cf53 24 = .ok (.getfield 9, 3) := by decide +kernel
theorem dJ0_indexOf_7cf53_27 : decode cJ0_indexOf_7cf53 27 = .ok (.iload_n 1, 1) := by decide +kernel
theorem dJ0_indexOf_7cf53_28 : decode cJ0_indexOf_7cf53 28 = .ok (.iload_n 2, 1) := by decide +kernel
theorem dJ0_indexOf_7cf53_29 : decode cJ0_indexOf_7cf53 29 = .ok (.aload_n 0, 1) := by decide +kernel
theorem dJ0_indexOf_7cf53_30 : decode cJ0_indexOf_7cf53 30 = .ok (.invokevirtual 505, 3) := by decide +kernel
theorem dJ0_indexOf_7cf53_33 : decode cJ0_indexOf_7cf53 33 = .ok (.invokestatic 640, 3) := by decide +kernel
theorem dJ0_indexOf_7cf53_36 : decode cJ0_indexOf_7cf53 36 = .ok (.ireturn, 1) := by decide +kernel
theorem dJ0_coder_7d493_0 : decode cJ0_coder_7d493 0 = .ok (.getstatic 38, 3) := by decide +kernel
theorem dJ0_coder_7d493_3 : decode cJ0_coder_7d493 3 = .ok (.ifCond .eq 10, 3) := by decide +kernel
theorem dJ0_coder_7d493_6 : decode cJ0_coder_7d493 6 = .ok (.aload_n 0, 1) := by decide +kernel
theorem dJ0_coder_7d493_7 : decode cJ0_coder_7d493 7 = .ok (.getfield 15, 3) := by decide +kernel
theorem dJ0_coder_7d493_10 : decode cJ0_coder_7d493 10 = .ok (.goto 4, 3) := by decide +kernel
theorem dJ0_coder_7d493_13 : decode cJ0_coder_7d493 13 = .ok (.iconst 1, 1) := by decide +kernel
theorem dJ0_coder_7d493_14 : decode cJ0_coder_7d493 14 = .ok (.ireturn, 1) := by decide +kernel
theorem dJ0_isLatin1_aae02_0 : decode cJ0_isLatin1_aae02 0 = .ok (.getstatic 38, 3) := by decide +kernel
theorem dJ0_isLatin1_aae02_3 : decode cJ0_isLatin1_aae02 3 = .ok (.ifCond .eq 14, 3) := by decide +kernel
theorem dJ0_isLatin1_aae02_6 : decode cJ0_isLatin1_aae02 6 = .ok (.aload_n 0, 1) := by decide +kernel
theorem dJ0_isLatin1_aae02_7 : decode cJ0_isLatin1_aae02 7 = .ok (.getfield 15, 3) := by decide +kernel
theorem dJ0_isLatin1_aae02_10 : decode cJ0_isLatin1_aae02 10 = .ok (.ifCond .ne 7, 3) := by decide +kernel
theorem dJ0_isLatin1_aae02_13 : decode cJ0_isLatin1_aae02 13 = .ok (.iconst 1, 1) := by decide +kernel
theorem dJ0_isLatin1_aae02_14 : decode cJ0_isLatin1_aae02 14 = .ok (.goto 4, 3) := by decide +kernel
theorem dJ0_isLatin1_aae02_17 : decode cJ0_isLatin1_aae02 17 = .ok (.iconst 0, 1) := by decide +kernel
theorem dJ0_isLatin1_aae02_18 : decode cJ0_isLatin1_aae02 18 = .ok (.ireturn, 1) := by decide +kernel
theorem dJ0_checkBoundsBeginEnd_23922_0 : decode cJ0_checkBoundsBeginEnd_23922 0 = .ok (.iload_n 0, 1) := by decide +kernel
theorem dJ0_checkBoundsBeginEnd_23922_1 : decode cJ0_checkBoundsBeginEnd_23922 1 = .ok (.iload_n 1, 1) := by decide +kernel
theorem dJ0_checkBoundsBeginEnd_23922_2 : decode cJ0_checkBoundsBeginEnd_23922 2 = .ok (.iload_n 2, 1) := by decide +kernel
theorem dJ0_checkBoundsBeginEnd_23922_3 : decode cJ0_checkBoundsBeginEnd_23922 3 = .ok (.getstatic 1053, 3) := by decide +kernel
theorem dJ0_checkBoundsBeginEnd_23922_6 : decode cJ0_checkBoundsBeginEnd_23922 6 = .ok (.invokestatic 1062, 3) := by decide +kernel
theorem dJ0_checkBoundsBeginEnd_23922_9 : decode cJ0_checkBoundsBeginEnd_23922 9 = .ok (.pop, 1) := by decide +kernel
theorem dJ0_checkBoundsBeginEnd_23922_10 : decode cJ0_checkBoundsBeginEnd_23922 10 = .ok (.return_, 1) := by decide +kernel
theorem dJ1_canEncode_9a6ad_0 : decode cJ1_canEncode_9a6ad 0 = .ok (.iload_n 0, 1) := by decide +kernel
theorem dJ1_canEncode_9a6ad_1 : decode cJ1_canEncode_9a6ad 1 = .ok (.ifCond .lt 14, 3) := by decide +kernel
theorem dJ1_canEncode_9a6ad_4 : decode cJ1_canEncode_9a6ad 4 = .ok (.iload_n 0, 1) := by decide +kernel
theorem dJ1_canEncode_9a6ad_5 : decode cJ1_canEncode_9a6ad 5 = .ok (.sipush 255, 3) := by decide +kernel
theorem dJ1_canEncode_9a6ad_8 : decode cJ1_canEncode_9a6ad 8 = .ok (.if_icmp .gt 7, 3) := by decide +kernel
theorem dJ1_canEncode_9a6ad_11 : decode cJ1_canEncode_9a6ad 11 = .ok (.iconst 1, 1) := by decide +kernel
theorem dJ1_canEncode_9a6ad_12 : decode cJ1_canEncode_9a6ad 12 = .ok (.goto 4, 3) := by decide +kernel
theorem dJ1_canEncode_9a6ad_15 : decode cJ1_canEncode_9a6ad 15 = .ok (.iconst 0, 1) := by decide +kernel
theorem dJ1_canEncode_9a6ad_16 : decode cJ1_canEncode_9a6ad 16 = .ok (.ireturn, 1) := by decide +kernel
theorem dJ1_indexOf_4cfef_0 : decode cJ1_indexOf_4cfef 0 = .ok (.iload_n 1, 1) := by decide +kernel
theorem dJ1_indexOf_4cfef_1 : decode cJ1_indexOf_4cfef 1 = .ok (.invokestatic 88, 3) := by decide +kernel
theorem dJ1_indexOf_4cfef_4 : decode cJ1_indexOf_4cfef 4 = .ok (.ifCond .ne 5, 3) := by decide +kernel
theorem dJ1_indexOf_4cfef_7 : decode cJ1_indexOf_4cfef 7 = .ok (.iconst (-1), 1) := by decide +kernel
theorem dJ1_indexOf_4cfef_8 : decode cJ1_indexOf_4cfef 8 = .ok (.ireturn, 1) := by decide +kernel
theorem dJ1_indexOf_4cfef_9 : decode cJ1_indexOf_4cfef 9 = .ok (.iload_n 2, 1) := by decide +kernel
theorem dJ1_indexOf_4cfef_10 : decode cJ1_indexOf_4cfef 10 = .ok (.iconst 0, 1) := by decide +kernel
theorem dJ1_indexOf_4cfef_11 : decode cJ1_indexOf_4cfef 11 = .ok (.invokestatic 92, 3) := by decide +kernel
theorem dJ1_indexOf_4cfef_14 : decode cJ1_indexOf_4cfef 14 = .ok (.istore_n 2, 1) := by decide +kernel
theorem dJ1_indexOf_4cfef_15 : decode cJ1_indexOf_4cfef 15 = .ok (.iload_n 3, 1) := by decide +kernel
theorem dJ1_indexOf_4cfef_16 : decode cJ1_indexOf_4cfef 16 = .ok (.aload_n 0, 1) := by decide +kernel
theorem dJ1_indexOf_4cfef_17 : decode cJ1_indexOf_4cfef 17 = .ok (.arraylength, 1) := by decide +kernel
theorem dJ1_indexOf_4cfef_18 : decode cJ1_indexOf_4cfef 18 = .ok (.invokestatic 38, 3) := by decide +kernel
theorem dJ1_indexOf_4cfef_21 : decode cJ1_indexOf_4cfef 21 = .ok (.istore_n 3, 1) := by decide +kernel
theorem dJ1_indexOf_4cfef_22 : decode cJ1_indexOf_4cfef 22 = .ok (.iload_n 2, 1) := by decide +kernel
theorem dJ1_indexOf_4cfef_23 : decode cJ1_indexOf_4cfef 23 = .ok (.iload_n 3, 1) := by decide +kernel
theorem dJ1_indexOf_4cfef_24 : decode cJ1_indexOf_4cfef 24 = .ok (.if_icmp .lt 5, 3) := by decide +kernel
theorem dJ1_indexOf_4cfef_27 : decode cJ1_indexOf_4cfef 27 = .ok (.iconst (-1), 1) := by decide +kernel
theorem dJ1_indexOf_4cfef_28 : decode cJ1_indexOf_4cfef 28 = .ok (.ireturn, 1) := by decide +kernel
theorem dJ1_indexOf_4cfef_29 : decode cJ1_indexOf_4cfef 29 = .ok (.aload_n 0, 1) := by decide +kernel
theorem dJ1_indexOf_4cfef_30 : decode cJ1_indexOf_4cfef 30 = .ok (.iload_n 1, 1) := by decide +kernel
theorem dJ1_indexOf_4cfef_31 : decode cJ1_indexOf_4cfef 31 = .ok (.iload_n 2, 1) := by decide +kernel
theorem dJ1_indexOf_4cfef_32 : decode cJ1_indexOf_4cfef 32 = .ok (.iload_n 3, 1) := by decide +kernel
theorem dJ1_indexOf_4cfef_33 : decode cJ1_indexOf_4cfef 33 = .ok (.invokestatic 95, 3) := by decide +kernel
theorem dJ1_indexOf_4cfef_36 : decode cJ1_indexOf_4cfef 36 = .ok (.ireturn, 1) := by decide +kernel
theorem dJ1_indexOfChar_4cfef_0 : decode cJ1_indexOfChar_4cfef 0 = .ok (.iload_n 1, 1) := by decide +kernel
theorem dJ1_indexOfChar_4cfef_1 : decode cJ1_indexOfChar_4cfef 1 = .ok (.i2b, 1) := by decide +kernel
theorem dJ1_indexOfChar_4cfef_2 : decode cJ1_indexOfChar_4cfef 2 = .ok (.istore 4, 2) := by decide +kernel
theorem dJ1_indexOfChar_4cfef_4 : decode cJ1_indexOfChar_4cfef 4 = .ok (.iload_n 2, 1) := by decide +kernel
theorem dJ1_indexOfChar_4cfef_5 : decode cJ1_indexOfChar_4cfef 5 = .ok (.istore 5, 2) := by decide +kernel
theorem dJ1_indexOfChar_4cfef_7 : decode cJ1_indexOfChar_4cfef 7 = .ok (.iload 5, 2) := by decide +kernel
theorem dJ1_indexOfChar_4cfef_9 : decode cJ1_indexOfChar_4cfef 9 = .ok (.iload_n 3, 1) := by decide +kernel
theorem dJ1_indexOfChar_4cfef_10 : decode cJ1_indexOfChar_4cfef 10 = .ok (.if_icmp .ge 21, 3) := by decide +kernel
theorem dJ1_indexOfChar_4cfef_13 : decode cJ1_indexOfChar_4cfef 13 = .ok (.aload_n 0, 1) := by decide +kernel
theorem dJ1_indexOfChar_4cfef_14 : decode cJ1_indexOfChar_4cfef 14 = .ok (.iload 5, 2) := by decide +kernel
theorem dJ1_indexOfChar_4cfef_16 : decode cJ1_indexOfChar_4cfef 16 = .ok (.baload, 1) := by decide +kernel
theorem dJ1_indexOfChar_4cfef_17 : decode cJ1_indexOfChar_4cfef 17 = .ok (.iload 4, 2) := by decide +kernel
theorem dJ1_indexOfChar_4cfef_19 : decode cJ1_indexOfChar_4cfef 19 = .ok (.if_icmp .ne 6, 3) := by decide +kernel
theorem dJ1_indexOfChar_4cfef_22 : decode cJ1_indexOfChar_4cfef 22 = .ok (.iload 5, 2) := by decide +kernel
theorem dJ1_indexOfChar_4cfef_24 : decode cJ1_indexOfChar_4cfef 24 = .ok (.ireturn, 1) := by decide +kernel
theorem dJ1_indexOfChar_4cfef_25 : decode cJ1_indexOfChar_4cfef 25 = .ok (.iinc 5 1, 3) := by decide +kernel
theorem dJ1_indexOfChar_4cfef_28 : decode cJ1_indexOfChar_4cfef 28 = .ok (.goto (-21), 3) := by decide +kernel
theorem dJ1_indexOfChar_4cfef_31 : decode cJ1_indexOfChar_4cfef 31 = .ok (.iconst (-1), 1) := by decide +kernel
theorem dJ1_indexOfChar_4cfef_32 : decode cJ1_indexOfChar_4cfef 32 = .ok (.ireturn, 1) := by decide +kernel
theorem dJ2_getChar_3b067_0 : decode cJ2_getChar_3b067 0 = .ok (.getstatic 44, 3) := by decide +kernel
theorem dJ2_getChar_3b067_3 : decode cJ2_getChar_3b067 3 = .ok (.ifCond .ne 25, 3) := by decide +kernel
theorem dJ2_getChar_3b067_6 : decode cJ2_getChar_3b067 6 = .ok (.iload_n 1, 1) := by decide +kernel
theorem dJ2_getChar_3b067_7 : decode cJ2_getChar_3b067 7 = .ok (.ifCond .lt 11, 3) := by decide +kernel
theorem dJ2_getChar_3b067_10 : decode cJ2_getChar_3b067 10 = .ok (.iload_n 1, 1) := by decide +kernel
theorem dJ2_getChar_3b067_11 : decode cJ2_getChar_3b067 11 = .ok (.aload_n 0, 1) := by decide +kernel
theorem dJ2_getChar_3b067_12 : decode cJ2_getChar_3b067 12 = .ok (.invokestatic 48, 3) := by decide +kernel
theorem dJ2_getChar_3b067_15 : decode cJ2_getChar_3b067 15 = .ok (.if_icmp .lt 13, 3) := by decide +kernel
theorem dJ2_getChar_3b067_18 : decode cJ2_getChar_3b067 18 = .ok (.new 52, 3) := by decide +kernel
theorem dJ2_getChar_3b067_21 : decode cJ2_getChar_3b067 21 = .ok (.dup, 1) := by decide +kernel
theorem dJ2_getChar_3b067_22 : decode cJ2_getChar_3b067 22 = .ok (.ldc 54, 2) := by decide +kernel
theorem dJ2_getChar_3b067_24 : decode cJ2_getChar_3b067 24 = .ok (.invokespecial 56, 3) := by decide +kernel
theorem dJ2_getChar_3b067_27 : decode cJ2_getChar_3b067 27 = .ok (.athrow, 1) := by decide +kernel
theorem dJ2_getChar_3b067_28 : decode cJ2_getChar_3b067 28 = .ok (.iload_n 1, 1) := by decide +kernel
theorem dJ2_getChar_3b067_29 : decode cJ2_getChar_3b067 29 = .ok (.iconst 1, 1) := by decide +kernel
theorem dJ2_getChar_3b067_30 : decode cJ2_getChar_3b067 30 = .ok (.ishl, 1) := by decide +kernel
theorem dJ2_getChar_3b067_31 : decode cJ2_getChar_3b067 31 = .ok (.istore_n 1, 1) := by decide +kernel
theorem dJ2_getChar_3b067_32 : decode cJ2_getChar_3b067 32 = .ok (.aload_n 0, 1) := by decide +kernel
theorem dJ2_getChar_3b067_33 : decode cJ2_getChar_3b067 33 = .ok (.iload_n 1, 1) := by decide +kernel
theorem dJ2_getChar_3b067_34 : decode cJ2_getChar_3b067 34 = .ok (.iinc 1 1, 3) := by decide +kernel
theorem dJ2_getChar_3b067_37 : decode cJ2_getChar_3b067 37 = .ok (.baload, 1) := by decide +kernel
theorem dJ2_getChar_3b067_38 : decode cJ2_getChar_3b067 38 = .ok (.sipush 255, 3) := by decide +kernel
theorem dJ2_getChar_3b067_41 : decode cJ2_getChar_3b067 41 = .ok (.iand, 1) := by decide +kernel
theorem dJ2_getChar_3b067_42 : decode cJ2_getChar_3b067 42 = .ok (.getstatic 59, 3) := by decide +kernel
theorem dJ2_getChar_3b067_45 : decode cJ2_getChar_3b067 45 = .ok (.ishl, 1) := by decide +kernel
theorem dJ2_getChar_3b067_46 : decode cJ2_getChar_3b067 46 = .ok (.aload_n 0, 1) := by decide +kernel
theorem dJ2_getChar_3b067_47 : decode cJ2_getChar_3b067 47 = .ok (.iload_n 1, 1) := by decide +kernel
theorem dJ2_getChar_3b067_48 : decode cJ2_getChar_3b067 48 = .ok (.baload, 1) := by decide +kernel
theorem dJ2_getChar_3b067_49 : decode cJ2_getChar_3b067 49 = .ok (.sipush 255, 3) := by decide +kernel
theorem dJ2_getChar_3b067_52 : decode cJ2_getChar_3b067 52 = .ok (.iand, 1) := by decide +kernel
theorem dJ2_getChar_3b067_53 : decode cJ2_getChar_3b067 53 = .ok (.getstatic 63, 3) := by decide +kernel
theorem dJ2_getChar_3b067_56 : decode cJ2_getChar_3b067 56 = .ok (.ishl, 1) := by decide +kernel
theorem dJ2_getChar_3b067_57 : decode cJ2_getChar_3b067 57 = .ok (.ior, 1) := by decide +kernel
theorem dJ2_getChar_3b067_58 : decode cJ2_getChar_3b067 58 = .ok (.i2c, 1) := by decide +kernel
theorem dJ2_getChar_3b067_59 : decode cJ2_getChar_3b067 59 = .ok (.ireturn, 1) := by decide +kernel
theorem dJ2_length_9d52b_0 : decode cJ2_length_9d52b 0 = .ok (.aload_n 0, 1) := by decide +kernel
theorem dJ2_length_9d52b_1 : decode cJ2_length_9d52b 1 = .ok (.arraylength, 1) := by decide +kernel
theorem dJ2_length_9d52b_2 : decode cJ2_length_9d52b 2 = .ok (.iconst 1, 1) := by decide +kernel
theorem dJ2_length_9d52b_3 : decode cJ2_length_9d52b 3 = .ok (.ishr, 1) := by decide +kernel
theorem dJ2_length_9d52b_4 : decode cJ2_length_9d52b 4 = .ok (.ireturn, 1) := by decide +kernel
theorem dJ2_indexOf_4cfef_0 : decode cJ2_indexOf_4cfef 0 = .ok (.iload_n 2, 1) := by decide +kernel
theorem dJ2_indexOf_4cfef_1 : decode cJ2_indexOf_4cfef 1 = .ok (.iconst 0, 1) := by decide +kernel
theorem dJ2_indexOf_4cfef_2 : decode cJ2_indexOf_4cfef 2 = .ok (.invokestatic 224, 3) := by decide +kernel
theorem dJ2_indexOf_4cfef_5 : decode cJ2_indexOf_4cfef 5 = .ok (.istore_n 2, 1) := by decide +kernel
theorem dJ2_indexOf_4cfef_6 : decode cJ2_indexOf_4cfef 6 = .ok (.iload_n 3, 1) := by decide +kernel
theorem dJ2_indexOf_4cfef_7 : decode cJ2_indexOf_4cfef 7 = .ok (.aload_n 0, 1) := by decide +kernel
theorem dJ2_indexOf_4cfef_8 : decode cJ2_indexOf_4cfef 8 = .ok (.arraylength, 1) := by decide +kernel
theorem dJ2_indexOf_4cfef_9 : decode cJ2_indexOf_4cfef 9 = .ok (.iconst 1, 1) := by decide +kernel
theorem dJ2_indexOf_4cfef_10 : decode cJ2_indexOf_4cfef 10 = .ok (.ishr, 1) := by decide +kernel
theorem dJ2_indexOf_4cfef_11 : decode cJ2_indexOf_4cfef 11 = .ok (.invokestatic 183, 3) := by decide +kernel
theorem dJ2_indexOf_4cfef_14 : decode cJ2_indexOf_4cfef 14 = .ok (.istore_n 3, 1) := by decide +kernel
theorem dJ2_indexOf_4cfef_15 : decode cJ2_indexOf_4cfef 15 = .ok (.iload_n 2, 1) := by decide +kernel
theorem dJ2_indexOf_4cfef_16 : decode cJ2_indexOf_4cfef 16 = .ok (.iload_n 3, 1) := by decide +kernel
theorem dJ2_indexOf_4cfef_17 : decode cJ2_indexOf_4cfef 17 = .ok (.if_icmp .lt 5, 3) := by decide +kernel
theorem dJ2_indexOf_4cfef_20 : decode cJ2_indexOf_4cfef 20 = .ok (.iconst (-1), 1) := by decide +kernel
theorem dJ2_indexOf_4cfef_21 : decode cJ2_indexOf_4cfef 21 = .ok (.ireturn, 1) := by decide +kernel
theorem dJ2_indexOf_4cfef_22 : decode cJ2_indexOf_4cfef 22 = .ok (.iload_n 1, 1) := by decide +kernel
theorem dJ2_indexOf_4cfef_23 : decode cJ2_indexOf_4cfef 23 = .ok (.ldc 227, 2) := by decide +kernel
theorem dJ2_indexOf_4cfef_25 : decode cJ2_indexOf_4cfef 25 = .ok (.if_icmp .ge 11, 3) := by decide +kernel
theorem dJ2_indexOf_4cfef_28 : decode cJ2_indexOf_4cfef 28 = .ok (.aload_n 0, 1) := by decide +kernel
theorem dJ2_indexOf_4cfef_29 : decode cJ2_indexOf_4cfef 29 = .ok (.iload_n 1, 1) := by decide +kernel
theorem dJ2_indexOf_4cfef_30 : decode cJ2_indexOf_4cfef 30 = .ok (.iload_n 2, 1) := by decide +kernel
theorem dJ2_indexOf_4cfef_31 : decode cJ2_indexOf_4cfef 31 = .ok (.iload_n 3, 1) := by decide +kernel
theorem dJ2_indexOf_4cfef_32 : decode cJ2_indexOf_4cfef 32 = .ok (.invokestatic 228, 3) := by decide +kernel
theorem dJ2_indexOf_4cfef_35 : decode cJ2_indexOf_4cfef 35 = .ok (.ireturn, 1) := by decide +kernel
theorem dJ2_indexOf_4cfef_36 : decode cJ2_indexOf_4cfef 36 = .ok (.aload_n 0, 1) := by decide +kernel
theorem dJ2_indexOf_4cfef_37 : decode cJ2_indexOf_4cfef 37 = .ok (.iload_n 1, 1) := by decide +kernel
theorem dJ2_indexOf_4cfef_38 : decode cJ2_indexOf_4cfef 38 = .ok (.iload_n 2, 1) := by decide +kernel
theorem dJ2_indexOf_4cfef_39 : decode cJ2_indexOf_4cfef 39 = .ok (.iload_n 3, 1) := by decide +kernel
theorem dJ2_indexOf_4cfef_40 : decode cJ2_indexOf_4cfef 40 = .ok (.invokestatic 232, 3) := by decide +kernel
theorem dJ2_indexOf_4cfef_43 : decode cJ2_indexOf_4cfef 43 = .ok (.ireturn, 1) := by decide +kernel
theorem dJ2_indexOfChar_4cfef_0 : decode cJ2_indexOfChar_4cfef 0 = .ok (.iload_n 2, 1) := by decide +kernel
theorem dJ2_indexOfChar_4cfef_1 : decode cJ2_indexOfChar_4cfef 1 = .ok (.iload_n 3, 1) := by decide +kernel
theorem dJ2_indexOfChar_4cfef_2 : decode cJ2_indexOfChar_4cfef 2 = .ok (.aload_n 0, 1) := by decide +kernel
theorem dJ2_indexOfChar_4cfef_3 : decode cJ2_indexOfChar_4cfef 3 = .ok (.invokestatic 96, 3) := by decide +kernel
theorem dJ2_indexOfChar_4cfef_6 : decode cJ2_indexOfChar_4cfef 6 = .ok (.aload_n 0, 1) := by decide +kernel
theorem dJ2_indexOfChar_4cfef_7 : decode cJ2_indexOfChar_4cfef 7 = .ok (.iload_n 1, 1) := by decide +kernel
theorem dJ2_indexOfChar_4cfef_8 : decode cJ2_indexOfChar_4cfef 8 = .ok (.iload_n 2, 1) := by decide +kernel
theorem dJ2_indexOfChar_4cfef_9 : decode cJ2_indexOfChar_4cfef 9 = .ok (.iload_n 3, 1) := by decide +kernel
theorem dJ2_indexOfChar_4cfef_10 : decode cJ2_indexOfChar_4cfef 10 = .ok (.invokestatic 244, 3) := by decide +kernel
theorem dJ2_indexOfChar_4cfef_13 : decode cJ2_indexOfChar_4cfef 13 = .ok (.ireturn, 1) := by decide +kernel
theorem dJ2_indexOfCharUnsafe_4cfef_0 : decode cJ2_indexOfCharUnsafe_4cfef 0 = .ok (.iload_n 2, 1) := by decide +kernel
theorem dJ2_indexOfCharUnsafe_4cfef_1 : decode cJ2_indexOfCharUnsafe_4cfef 1 = .ok (.istore 4, 2) := by decide +kernel
theorem dJ2_indexOfCharUnsafe_4cfef_3 : decode cJ2_indexOfCharUnsafe_4cfef 3 = .ok (.iload 4, 2) := by decide +kernel
theorem dJ2_indexOfCharUnsafe_4cfef_5 : decode cJ2_indexOfCharUnsafe_4cfef 5 = .ok (.iload_n 3, 1) := by decide +kernel
theorem dJ2_indexOfCharUnsafe_4cfef_6 : decode cJ2_indexOfCharUnsafe_4cfef 6 = .ok (.if_icmp .ge 22, 3) := by decide +kernel
theorem dJ2_indexOfCharUnsafe_4cfef_9 : decode cJ2_indexOfCharUnsafe_4cfef 9 = .ok (.aload_n 0, 1) := by decide +kernel
theorem dJ2_indexOfCharUnsafe_4cfef_10 : decode cJ2_indexOfCharUnsafe_4cfef 10 = .ok (.iload 4, 2) := by decide +kernel
theorem dJ2_indexOfCharUnsafe_4cfef_12 : decode cJ2_indexOfCharUnsafe_4cfef 12 = .ok (.invokestatic 71, 3) := by decide +kernel
theorem dJ2_indexOfCharUnsafe_4cfef_15 : decode cJ2_indexOfCharUnsafe_4cfef 15 = .ok (.iload_n 1, 1) := by decide +kernel
theorem dJ2_indexOfCharUnsafe_4cfef_16 : decode cJ2_indexOfCharUnsafe_4cfef 16 = .ok (.if_icmp .ne 6, 3) := by decide +kernel
theorem dJ2_indexOfCharUnsafe_4cfef_19 : decode cJ2_indexOfCharUnsafe_4cfef 19 = .ok (.iload 4, 2) := by decide +kernel
theorem dJ2_indexOfCharUnsafe_4cfef_21 : decode cJ2_indexOfCharUnsafe_4cfef 21 = .ok (.ireturn, 1) := by decide +kernel
theorem dJ2_indexOfCharUnsafe_4cfef_22 : decode cJ2_indexOfCharUnsafe_4cfef 22 = .ok (.iinc 4 1, 3) := by decide +kernel
theorem dJ2_indexOfCharUnsafe_4cfef_25 : decode cJ2_indexOfCharUnsafe_4cfef 25 = .ok (.goto (-22), 3) := by decide +kernel
theorem dJ2_indexOfCharUnsafe_4cfef_28 : decode cJ2_indexOfCharUnsafe_4cfef 28 = .ok (.iconst (-1), 1) := by decide +kernel
theorem dJ2_indexOfCharUnsafe_4cfef_29 : decode cJ2_indexOfCharUnsafe_4cfef 29 = .ok (.ireturn, 1) := by decide +kernel
theorem dJ2_indexOfSupplementary_4cfef_0 : decode cJ2_indexOfSupplementary_4cfef 0 = .ok (.iload_n 1, 1) := by decide +kernel
theorem dJ2_indexOfSupplementary_4cfef_1 : decode cJ2_indexOfSupplementary_4cfef 1 = .ok (.invokestatic 164, 3) := by decide +kernel
theorem dJ2_indexOfSupplementary_4cfef_4 : decode cJ2_indexOfSupplementary_4cfef 4 = .ok (.ifCond .eq 65, 3) := by decide +kernel
theorem dJ2_indexOfSupplementary_4cfef_7 : decode cJ2_indexOfSupplementary_4cfef 7 = .ok (.iload_n 1, 1) := by decide +kernel
theorem dJ2_indexOfSupplementary_4cfef_8 : decode cJ2_indexOfSupplementary_4cfef 8 = .ok (.invokestatic 157, 3) := by decide +kernel
theorem dJ2_indexOfSupplementary_4cfef_11 : decode cJ2_indexOfSupplementary_4cfef 11 = .ok (.istore 4, 2) := by decide +kernel
theorem dJ2_indexOfSupplementary_4cfef_13 : decode cJ2_indexOfSupplementary_4cfef 13 = .ok (.iload_n 1, 1) := by decide +kernel
theorem dJ2_indexOfSupplementary_4cfef_14 : decode cJ2_indexOfSupplementary_4cfef 14 = .ok (.invokestatic 161, 3) := by decide +kernel
theorem dJ2_indexOfSupplementary_4cfef_17 : decode cJ2_indexOfSupplementary_4cfef 17 = .ok (.istore 5, 2) := by decide +kernel
theorem dJ2_indexOfSupplementary_4cfef_19 : decode cJ2_indexOfSupplementary_4cfef 19 = .ok (.iload_n 2, 1) := by decide +kernel
theorem dJ2_indexOfSupplementary_4cfef_20 : decode cJ2_indexOfSupplementary_4cfef 20 = .ok (.iload_n 3, 1) := by decide +kernel
theorem dJ2_indexOfSupplementary_4cfef_21 : decode cJ2_indexOfSupplementary_4cfef 21 = .ok (.aload_n 0, 1) := by decide +kernel
theorem dJ2_indexOfSupplementary_4cfef_22 : decode cJ2_indexOfSupplementary_4cfef 22 = .ok (.invokestatic 96, 3) := by decide +kernel
theorem dJ2_indexOfSupplementary_4cfef_25 : decode cJ2_indexOfSupplementary_4cfef 25 = .ok (.iload_n 2, 1) := by decide +kernel
theorem dJ2_indexOfSupplementary_4cfef_26 : decode cJ2_indexOfSupplementary_4cfef 26 = .ok (.istore 6, 2) := by decide +kernel
theorem dJ2_indexOfSupplementary_4cfef_28 : decode cJ2_indexOfSupplementary_4cfef 28 = .ok (.iload 6, 2) := by decide +kernel
theorem dJ2_indexOfSupplementary_4cfef_30 : decode cJ2_indexOfSupplementary_4cfef 30 = .ok (.iload_n 3, 1) := by decide +kernel
theorem dJ2_indexOfSupplementary_4cfef_31 : decode cJ2_indexOfSupplementary_4cfef 31 = .ok (.iconst 1, 1) := by decide +kernel
theorem dJ2_indexOfSupplementary_4cfef_32 : decode cJ2_indexOfSupplementary_4cfef 32 = .ok (.isub, 1) := by decide +kernel
theorem dJ2_indexOfSupplementary_4cfef_33 : decode cJ2_indexOfSupplementary_4cfef 33 = .ok (.if_icmp .ge 36, 3) := by decide +kernel
theorem dJ2_indexOfSupplementary_4cfef_36 : decode cJ2_indexOfSupplementary_4cfef 36 = .ok (.aload_n 0, 1) := by decide +kernel
theorem dJ2_indexOfSupplementary_4cfef_37 : decode cJ2_indexOfSupplementary_4cfef 37 = .ok (.iload 6, 2) := by decide +kernel
theorem dJ2_indexOfSupplementary_4cfef_39 : decode cJ2_indexOfSupplementary_4cfef 39 = .ok (.invokestatic 71, 3) := by decide +kernel
theorem dJ2_indexOfSupplementary_4cfef_42 : decode cJ2_indexOfSupplementary_4cfef 42 = .ok (.iload 4, 2) := by decide +kernel
theorem dJ2_indexOfSupplementary_4cfef_44 : decode cJ2_indexOfSupplementary_4cfef 44 = .ok (.if_icmp .ne 19, 3) := by decide +kernel
theorem dJ2_indexOfSupplementary_4cfef_47 : decode cJ2_indexOfSupplementary_4cfef 47 = .ok (.aload_n 0, 1) := by decide +kernel
theorem dJ2_indexOfSupplementary_4cfef_48 : decode cJ2_indexOfSupplementary_4cfef 48 = .ok (.iload 6, 2) := by decide +kernel
theorem dJ2_indexOfSupplementary_4cfef_50 : decode cJ2_indexOfSupplementary_4cfef 50 = .ok (.iconst 1, 1) := by decide +kernel
theorem dJ2_indexOfSupplementary_4cfef_51 : decode cJ2_indexOfSupplementary_4cfef 51 = .ok (.iadd, 1) := by decide +kernel
theorem dJ2_indexOfSupplementary_4cfef_52 : decode cJ2_indexOfSupplementary_4cfef 52 = .ok (.invokestatic 71, 3) := by decide +kernel
theorem dJ2_indexOfSupplementary_4cfef_55 : decode cJ2_indexOfSupplementary_4cfef 55 = .ok (.iload 5, 2) := by decide +kernel
theorem dJ2_indexOfSupplementary_4cfef_57 : decode cJ2_indexOfSupplementary_4cfef 57 = .ok (.if_icmp .ne 6, 3) := by decide +kernel
theorem dJ2_indexOfSupplementary_4cfef_60 : decode cJ2_indexOfSupplementary_4cfef 60 = .ok (.iload 6, 2) := by decide +kernel
theorem dJ2_indexOfSupplementary_4cfef_62 : decode cJ2_indexOfSupplementary_4cfef 62 = .ok (.ireturn, 1) := by decide +kernel
theorem dJ2_indexOfSupplementary_4cfef_63 : decode cJ2_indexOfSupplementary_4cfef 63 = .ok (.iinc 6 1, 3) := by decide +kernel
theorem dJ2_indexOfSupplementary_4cfef_66 : decode cJ2_indexOfSupplementary_4cfef 66 = .ok (.goto (-38), 3) := by decide +kernel
theorem dJ2_indexOfSupplementary_4cfef_69 : decode cJ2_indexOfSupplementary_4cfef 69 = .ok (.iconst (-1), 1) := by decide +kernel
theorem dJ2_indexOfSupplementary_4cfef_70 : decode cJ2_indexOfSupplementary_4cfef 70 = .ok (.ireturn, 1) := by decide +kernel
theorem dJ2_checkBoundsBeginEnd_d044e_0 : decode cJ2_checkBoundsBeginEnd_d044e 0 = .ok (.iload_n 0, 1) := by decide +kernel
theorem dJ2_checkBoundsBeginEnd_d044e_1 : decode cJ2_checkBoundsBeginEnd_d044e 1 = .ok (.iload_n 1, 1) := by decide +kernel
theorem dJ2_checkBoundsBeginEnd_d044e_2 : decode cJ2_checkBoundsBeginEnd_d044e 2 = .ok (.aload_n 2, 1) := by decide +kernel
theorem dJ2_checkBoundsBeginEnd_d044e_3 : decode cJ2_checkBoundsBeginEnd_d044e 3 = .ok (.invokestatic 48, 3) := by decide +kernel
theorem dJ2_checkBoundsBeginEnd_d044e_6 : decode cJ2_checkBoundsBeginEnd_d044e 6 = .ok (.invokestatic 241, 3) := by decide +kernel
theorem dJ2_checkBoundsBeginEnd_d044e_9 : decode cJ2_checkBoundsBeginEnd_d044e 9 = .ok (.return_, 1) := by decide +kernel
theorem dJ3_checkFromToIndex_8c36e_0 : decode cJ3_checkFromToIndex_8c36e 0 = .ok (.iload_n 0, 1) := by decide +kernel
theorem dJ3_checkFromToIndex_8c36e_1 : decode cJ3_checkFromToIndex_8c36e 1 = .ok (.ifCond .lt 13, 3) := by decide +kernel
theorem dJ3_checkFromToIndex_8c36e_4 : decode cJ3_checkFromToIndex_8c36e 4 = .ok (.iload_n 0, 1) := by decide +kernel
theorem dJ3_checkFromToIndex_8c36e_5 : decode cJ3_checkFromToIndex_8c36e 5 = .ok (.iload_n 1, 1) := by decide +kernel
theorem dJ3_checkFromToIndex_8c36e_6 : decode cJ3_checkFromToIndex_8c36e 6 = .ok (.if_icmp .gt 8, 3) := by decide +kernel
theorem dJ3_checkFromToIndex_8c36e_9 : decode cJ3_checkFromToIndex_8c36e 9 = .ok (.iload_n 1, 1) := by decide +kernel
theorem dJ3_checkFromToIndex_8c36e_10 : decode cJ3_checkFromToIndex_8c36e 10 = .ok (.iload_n 2, 1) := by decide +kernel
theorem dJ3_checkFromToIndex_8c36e_11 : decode cJ3_checkFromToIndex_8c36e 11 = .ok (.if_icmp .le 11, 3) := by decide +kernel
theorem dJ3_checkFromToIndex_8c36e_14 : decode cJ3_checkFromToIndex_8c36e 14 = .ok (.aload_n 3, 1) := by decide +kernel
theorem dJ3_checkFromToIndex_8c36e_15 : decode cJ3_checkFromToIndex_8c36e 15 = .ok (.iload_n 0, 1) := by decide +kernel
theorem dJ3_checkFromToIndex_8c36e_16 : decode cJ3_checkFromToIndex_8c36e 16 = .ok (.iload_n 1, 1) := by decide +kernel
theorem dJ3_checkFromToIndex_8c36e_17 : decode cJ3_checkFromToIndex_8c36e 17 = .ok (.iload_n 2, 1) := by decide +kernel
theorem dJ3_checkFromToIndex_8c36e_18 : decode cJ3_checkFromToIndex_8c36e 18 = .ok (.invokestatic 99, 3) := by decide +kernel
theorem dJ3_checkFromToIndex_8c36e_21 : decode cJ3_checkFromToIndex_8c36e 21 = .ok (.athrow, 1) := by decide +kernel
theorem dJ3_checkFromToIndex_8c36e_22 : decode cJ3_checkFromToIndex_8c36e 22 = .ok (.iload_n 0, 1) := by decide +kernel
theorem dJ3_checkFromToIndex_8c36e_23 : decode cJ3_checkFromToIndex_8c36e 23 = .ok (.ireturn, 1) := by decide +kernel
