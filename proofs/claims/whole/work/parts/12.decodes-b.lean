theorem dJ6_bitCount_0f7a4_0 : decode cJ6_bitCount_0f7a4 0 = .ok (.iload_n 0, 1) := by decide +kernel
theorem dJ6_bitCount_0f7a4_1 : decode cJ6_bitCount_0f7a4 1 = .ok (.iload_n 0, 1) := by decide +kernel
theorem dJ6_bitCount_0f7a4_2 : decode cJ6_bitCount_0f7a4 2 = .ok (.iconst 1, 1) := by decide +kernel
theorem dJ6_bitCount_0f7a4_3 : decode cJ6_bitCount_0f7a4 3 = .ok (.iushr, 1) := by decide +kernel
theorem dJ6_bitCount_0f7a4_4 : decode cJ6_bitCount_0f7a4 4 = .ok (.ldc_w 265, 3) := by decide +kernel
theorem dJ6_bitCount_0f7a4_7 : decode cJ6_bitCount_0f7a4 7 = .ok (.iand, 1) := by decide +kernel
theorem dJ6_bitCount_0f7a4_8 : decode cJ6_bitCount_0f7a4 8 = .ok (.isub, 1) := by decide +kernel
theorem dJ6_bitCount_0f7a4_9 : decode cJ6_bitCount_0f7a4 9 = .ok (.istore_n 0, 1) := by decide +kernel
theorem dJ6_bitCount_0f7a4_10 : decode cJ6_bitCount_0f7a4 10 = .ok (.iload_n 0, 1) := by decide +kernel
theorem dJ6_bitCount_0f7a4_11 : decode cJ6_bitCount_0f7a4 11 = .ok (.ldc_w 266, 3) := by decide +kernel
theorem dJ6_bitCount_0f7a4_14 : decode cJ6_bitCount_0f7a4 14 = .ok (.iand, 1) := by decide +kernel
theorem dJ6_bitCount_0f7a4_15 : decode cJ6_bitCount_0f7a4 15 = .ok (.iload_n 0, 1) := by decide +kernel
theorem dJ6_bitCount_0f7a4_16 : decode cJ6_bitCount_0f7a4 16 = .ok (.iconst 2, 1) := by decide +kernel
theorem dJ6_bitCount_0f7a4_17 : decode cJ6_bitCount_0f7a4 17 = .ok (.iushr, 1) := by decide +kernel
theorem dJ6_bitCount_0f7a4_18 : decode cJ6_bitCount_0f7a4 18 = .ok (.ldc_w 266, 3) := by decide +kernel
theorem dJ6_bitCount_0f7a4_21 : decode cJ6_bitCount_0f7a4 21 = .ok (.iand, 1) := by decide +kernel
theorem dJ6_bitCount_0f7a4_22 : decode cJ6_bitCount_0f7a4 22 = .ok (.iadd, 1) := by decide +kernel
theorem dJ6_bitCount_0f7a4_23 : decode cJ6_bitCount_0f7a4 23 = .ok (.istore_n 0, 1) := by decide +kernel
theorem dJ6_bitCount_0f7a4_24 : decode cJ6_bitCount_0f7a4 24 = .ok (.iload_n 0, 1) := by decide +kernel
theorem dJ6_bitCount_0f7a4_25 : decode cJ6_bitCount_0f7a4 25 = .ok (.iload_n 0, 1) := by decide +kernel
theorem dJ6_bitCount_0f7a4_26 : decode cJ6_bitCount_0f7a4 26 = .ok (.iconst 4, 1) := by decide +kernel
theorem dJ6_bitCount_0f7a4_27 : decode cJ6_bitCount_0f7a4 27 = .ok (.iushr, 1) := by decide +kernel
theorem dJ6_bitCount_0f7a4_28 : decode cJ6_bitCount_0f7a4 28 = .ok (.iadd, 1) := by decide +kernel
theorem dJ6_bitCount_0f7a4_29 : decode cJ6_bitCount_0f7a4 29 = .ok (.ldc_w 267, 3) := by decide +kernel
theorem dJ6_bitCount_0f7a4_32 : decode cJ6_bitCount_0f7a4 32 = .ok (.iand, 1) := by decide +kernel
theorem dJ6_bitCount_0f7a4_33 : decode cJ6_bitCount_0f7a4 33 = .ok (.istore_n 0, 1) := by decide +kernel
theorem dJ6_bitCount_0f7a4_34 : decode cJ6_bitCount_0f7a4 34 = .ok (.iload_n 0, 1) := by decide +kernel
theorem dJ6_bitCount_0f7a4_35 : decode cJ6_bitCount_0f7a4 35 = .ok (.iload_n 0, 1) := by decide +kernel
theorem dJ6_bitCount_0f7a4_36 : decode cJ6_bitCount_0f7a4 36 = .ok (.bipush 8, 2) := by decide +kernel
theorem dJ6_bitCount_0f7a4_38 : decode cJ6_bitCount_0f7a4 38 = .ok (.iushr, 1) := by decide +kernel
theorem dJ6_bitCount_0f7a4_39 : decode cJ6_bitCount_0f7a4 39 = .ok (.iadd, 1) := by decide +kernel
theorem dJ6_bitCount_0f7a4_40 : decode cJ6_bitCount_0f7a4 40 = .ok (.istore_n 0, 1) := by decide +kernel
theorem dJ6_bitCount_0f7a4_41 : decode cJ6_bitCount_0f7a4 41 = .ok (.iload_n 0, 1) := by decide +kernel
theorem dJ6_bitCount_0f7a4_42 : decode cJ6_bitCount_0f7a4 42 = .ok (.iload_n 0, 1) := by decide +kernel
theorem dJ6_bitCount_0f7a4_43 : decode cJ6_bitCount_0f7a4 43 = .ok (.bipush 16, 2) := by decide +kernel
theorem dJ6_bitCount_0f7a4_45 : decode cJ6_bitCount_0f7a4 45 = .ok (.iushr, 1) := by decide +kernel
theorem dJ6_bitCount_0f7a4_46 : decode cJ6_bitCount_0f7a4 46 = .ok (.iadd, 1) := by decide +kernel
theorem dJ6_bitCount_0f7a4_47 : decode cJ6_bitCount_0f7a4 47 = .ok (.istore_n 0, 1) := by decide +kernel
theorem dJ6_bitCount_0f7a4_48 : decode cJ6_bitCount_0f7a4 48 = .ok (.iload_n 0, 1) := by decide +kernel
theorem dJ6_bitCount_0f7a4_49 : decode cJ6_bitCount_0f7a4 49 = .ok (.bipush 63, 2) := by decide +kernel
theorem dJ6_bitCount_0f7a4_51 : decode cJ6_bitCount_0f7a4 51 = .ok (.iand, 1) := by decide +kernel
theorem dJ6_bitCount_0f7a4_52 : decode cJ6_bitCount_0f7a4 52 = .ok (.ireturn, 1) := by decide +kernel
theorem dJ7_fill_53178_0 : decode cJ7_fill_53178 0 = .ok (.iconst 0, 1) := by decide +kernel
theorem dJ7_fill_53178_1 : decode cJ7_fill_53178 1 = .ok (.istore_n 2, 1) := by decide +kernel
theorem dJ7_fill_53178_2 : decode cJ7_fill_53178 2 = .ok (.aload_n 0, 1) := by decide +kernel
theorem dJ7_fill_53178_3 : decode cJ7_fill_53178 3 = .ok (.arraylength, 1) := by decide +kernel
theorem dJ7_fill_53178_4 : decode cJ7_fill_53178 4 = .ok (.istore_n 3, 1) := by decide +kernel
theorem dJ7_fill_53178_5 : decode cJ7_fill_53178 5 = .ok (.iload_n 2, 1) := by decide +kernel
theorem dJ7_fill_53178_6 : decode cJ7_fill_53178 6 = .ok (.iload_n 3, 1) := by decide +kernel
theorem dJ7_fill_53178_7 : decode cJ7_fill_53178 7 = .ok (.if_icmp .ge 13, 3) := by decide +kernel
theorem dJ7_fill_53178_10 : decode cJ7_fill_53178 10 = .ok (.aload_n 0, 1) := by decide +kernel
theorem dJ7_fill_53178_11 : decode cJ7_fill_53178 11 = .ok (.iload_n 2, 1) := by decide +kernel
theorem dJ7_fill_53178_12 : decode cJ7_fill_53178 12 = .ok (.iload_n 1, 1) := by decide +kernel
theorem dJ7_fill_53178_13 : decode cJ7_fill_53178 13 = .ok (.iastore, 1) := by decide +kernel
theorem dJ7_fill_53178_14 : decode cJ7_fill_53178 14 = .ok (.iinc 2 1, 3) := by decide +kernel
theorem dJ7_fill_53178_17 : decode cJ7_fill_53178 17 = .ok (.goto (-12), 3) := by decide +kernel
theorem dJ7_fill_53178_20 : decode cJ7_fill_53178 20 = .ok (.return_, 1) := by decide +kernel
theorem dJ9_abs_0f7a4_0 : decode cJ9_abs_0f7a4 0 = .ok (.iload_n 0, 1) := by decide +kernel
theorem dJ9_abs_0f7a4_1 : decode cJ9_abs_0f7a4 1 = .ok (.ifCond .ge 8, 3) := by decide +kernel
theorem dJ9_abs_0f7a4_4 : decode cJ9_abs_0f7a4 4 = .ok (.iload_n 0, 1) := by decide +kernel
theorem dJ9_abs_0f7a4_5 : decode cJ9_abs_0f7a4 5 = .ok (.ineg, 1) := by decide +kernel
theorem dJ9_abs_0f7a4_6 : decode cJ9_abs_0f7a4 6 = .ok (.goto 4, 3) := by decide +kernel
theorem dJ9_abs_0f7a4_9 : decode cJ9_abs_0f7a4 9 = .ok (.iload_n 0, 1) := by decide +kernel
theorem dJ9_abs_0f7a4_10 : decode cJ9_abs_0f7a4 10 = .ok (.ireturn, 1) := by decide +kernel
theorem dX0_clear_0 : decode cX0_clear 0 = .ok (.aload_n 0, 1) := by decide +kernel
theorem dX0_clear_1 : decode cX0_clear 1 = .ok (.iconst 4, 1) := by decide +kernel
theorem dX0_clear_2 : decode cX0_clear 2 = .ok (.putfield 9, 3) := by decide +kernel
theorem dX0_clear_5 : decode cX0_clear 5 = .ok (.aload_n 0, 1) := by decide +kernel
theorem dX0_clear_6 : decode cX0_clear 6 = .ok (.iconst 4, 1) := by decide +kernel
theorem dX0_clear_7 : decode cX0_clear 7 = .ok (.putfield 15, 3) := by decide +kernel
theorem dX0_clear_10 : decode cX0_clear 10 = .ok (.aload_n 0, 1) := by decide +kernel
theorem dX0_clear_11 : decode cX0_clear 11 = .ok (.iconst 0, 1) := by decide +kernel
theorem dX0_clear_12 : decode cX0_clear 12 = .ok (.putfield 52, 3) := by decide +kernel
theorem dX0_clear_15 : decode cX0_clear 15 = .ok (.aload_n 0, 1) := by decide +kernel
theorem dX0_clear_16 : decode cX0_clear 16 = .ok (.iconst 1, 1) := by decide +kernel
theorem dX0_clear_17 : decode cX0_clear 17 = .ok (.putfield 18, 3) := by decide +kernel
theorem dX0_clear_20 : decode cX0_clear 20 = .ok (.aload_n 0, 1) := by decide +kernel
theorem dX0_clear_21 : decode cX0_clear 21 = .ok (.getfield 28, 3) := by decide +kernel
theorem dX0_clear_24 : decode cX0_clear 24 = .ok (.iconst 0, 1) := by decide +kernel
theorem dX0_clear_25 : decode cX0_clear 25 = .ok (.invokestatic 74, 3) := by decide +kernel
theorem dX0_clear_28 : decode cX0_clear 28 = .ok (.aload_n 0, 1) := by decide +kernel
theorem dX0_clear_29 : decode cX0_clear 29 = .ok (.getfield 34, 3) := by decide +kernel
theorem dX0_clear_32 : decode cX0_clear 32 = .ok (.iconst 0, 1) := by decide +kernel
theorem dX0_clear_33 : decode cX0_clear 33 = .ok (.invokestatic 74, 3) := by decide +kernel
theorem dX0_clear_36 : decode cX0_clear 36 = .ok (.aload_n 0, 1) := by decide +kernel
theorem dX0_clear_37 : decode cX0_clear 37 = .ok (.getfield 37, 3) := by decide +kernel
theorem dX0_clear_40 : decode cX0_clear 40 = .ok (.iconst 1, 1) := by decide +kernel
theorem dX0_clear_41 : decode cX0_clear 41 = .ok (.invokestatic 74, 3) := by decide +kernel
theorem dX0_clear_44 : decode cX0_clear 44 = .ok (.aload_n 0, 1) := by decide +kernel
theorem dX0_clear_45 : decode cX0_clear 45 = .ok (.getfield 40, 3) := by decide +kernel
theorem dX0_clear_48 : decode cX0_clear 48 = .ok (.iconst 0, 1) := by decide +kernel
theorem dX0_clear_49 : decode cX0_clear 49 = .ok (.invokestatic 74, 3) := by decide +kernel
theorem dX0_clear_52 : decode cX0_clear 52 = .ok (.return_, 1) := by decide +kernel
theorem dX0_copyFrom_0 : decode cX0_copyFrom 0 = .ok (.aload_n 0, 1) := by decide +kernel
theorem dX0_copyFrom_1 : decode cX0_copyFrom 1 = .ok (.aload_n 1, 1) := by decide +kernel
theorem dX0_copyFrom_2 : decode cX0_copyFrom 2 = .ok (.getfield 9, 3) := by decide +kernel
theorem dX0_copyFrom_5 : decode cX0_copyFrom 5 = .ok (.putfield 9, 3) := by decide +kernel
theorem dX0_copyFrom_8 : decode cX0_copyFrom 8 = .ok (.aload_n 0, 1) := by decide +kernel
theorem dX0_copyFrom_9 : decode cX0_copyFrom 9 = .ok (.aload_n 1, 1) := by decide +kernel
theorem dX0_copyFrom_10 : decode cX0_copyFrom 10 = .ok (.getfield 15, 3) := by decide +kernel
theorem dX0_copyFrom_13 : decode cX0_copyFrom 13 = .ok (.putfield 15, 3) := by decide +kernel
theorem dX0_copyFrom_16 : decode cX0_copyFrom 16 = .ok (.aload_n 0, 1) := by decide +kernel
theorem dX0_copyFrom_17 : decode cX0_copyFrom 17 = .ok (.aload_n 1, 1) := by decide +kernel
theorem dX0_copyFrom_18 : decode cX0_copyFrom 18 = .ok (.getfield 52, 3) := by decide +kernel
theorem dX0_copyFrom_21 : decode cX0_copyFrom 21 = .ok (.putfield 52, 3) := by decide +kernel
theorem dX0_copyFrom_24 : decode cX0_copyFrom 24 = .ok (.aload_n 0, 1) := by decide +kernel
theorem dX0_copyFrom_25 : decode cX0_copyFrom 25 = .ok (.aload_n 1, 1) := by decide +kernel
theorem dX0_copyFrom_26 : decode cX0_copyFrom 26 = .ok (.getfield 18, 3) := by decide +kernel
theorem dX0_copyFrom_29 : decode cX0_copyFrom 29 = .ok (.putfield 18, 3) := by decide +kernel
theorem dX0_copyFrom_32 : decode cX0_copyFrom 32 = .ok (.aload_n 1, 1) := by decide +kernel
theorem dX0_copyFrom_33 : decode cX0_copyFrom 33 = .ok (.getfield 21, 3) := by decide +kernel
theorem dX0_copyFrom_36 : decode cX0_copyFrom 36 = .ok (.iconst 0, 1) := by decide +kernel
theorem dX0_copyFrom_37 : decode cX0_copyFrom 37 = .ok (.aload_n 0, 1) := by decide +kernel
theorem dX0_copyFrom_38 : decode cX0_copyFrom 38 = .ok (.getfield 21, 3) := by decide +kernel
theorem dX0_copyFrom_41 : decode cX0_copyFrom 41 = .ok (.iconst 0, 1) := by decide +kernel
theorem dX0_copyFrom_42 : decode cX0_copyFrom 42 = .ok (.bipush 6, 2) := by decide +kernel
theorem dX0_copyFrom_44 : decode cX0_copyFrom 44 = .ok (.invokestatic 55, 3) := by decide +kernel
theorem dX0_copyFrom_47 : decode cX0_copyFrom 47 = .ok (.aload_n 1, 1) := by decide +kernel
theorem dX0_copyFrom_48 : decode cX0_copyFrom 48 = .ok (.getfield 25, 3) := by decide +kernel
theorem dX0_copyFrom_51 : decode cX0_copyFrom 51 = .ok (.iconst 0, 1) := by decide +kernel
theorem dX0_copyFrom_52 : decode cX0_copyFrom 52 = .ok (.aload_n 0, 1) := by decide +kernel
theorem dX0_copyFrom_53 : decode cX0_copyFrom 53 = .ok (.getfield 25, 3) := by decide +kernel
theorem dX0_copyFrom_56 : decode cX0_copyFrom 56 = .ok (.iconst 0, 1) := by decide +kernel
theorem dX0_copyFrom_57 : decode cX0_copyFrom 57 = .ok (.bipush 6, 2) := by decide +kernel
theorem dX0_copyFrom_59 : decode cX0_copyFrom 59 = .ok (.invokestatic 55, 3) := by decide +kernel
theorem dX0_copyFrom_62 : decode cX0_copyFrom 62 = .ok (.aload_n 1, 1) := by decide +kernel
theorem dX0_copyFrom_63 : decode cX0_copyFrom 63 = .ok (.getfield 28, 3) := by decide +kernel
theorem dX0_copyFrom_66 : decode cX0_copyFrom 66 = .ok (.iconst 0, 1) := by decide +kernel
theorem dX0_copyFrom_67 : decode cX0_copyFrom 67 = .ok (.aload_n 0, 1) := by decide +kernel
theorem dX0_copyFrom_68 : decode cX0_copyFrom 68 = .ok (.getfield 28, 3) := by decide +kernel
theorem dX0_copyFrom_71 : decode cX0_copyFrom 71 = .ok (.iconst 0, 1) := by decide +kernel
theorem dX0_copyFrom_72 : decode cX0_copyFrom 72 = .ok (.bipush 6, 2) := by decide +kernel
theorem dX0_copyFrom_74 : decode cX0_copyFrom 74 = .ok (.invokestatic 55, 3) := by decide +kernel
theorem dX0_copyFrom_77 : decode cX0_copyFrom 77 = .ok (.aload_n 1, 1) := by decide +kernel
theorem dX0_copyFrom_78 : decode cX0_copyFrom 78 = .ok (.getfield 31, 3) := by decide +kernel
theorem dX0_copyFrom_81 : decode cX0_copyFrom 81 = .ok (.iconst 0, 1) := by decide +kernel
theorem dX0_copyFrom_82 : decode cX0_copyFrom 82 = .ok (.aload_n 0, 1) := by decide +kernel
theorem dX0_copyFrom_83 : decode cX0_copyFrom 83 = .ok (.getfield 31, 3) := by decide +kernel
theorem dX0_copyFrom_86 : decode cX0_copyFrom 86 = .ok (.iconst 0, 1) := by decide +kernel
theorem dX0_copyFrom_87 : decode cX0_copyFrom 87 = .ok (.bipush 24, 2) := by decide +kernel
theorem dX0_copyFrom_89 : decode cX0_copyFrom 89 = .ok (.invokestatic 55, 3) := by decide +kernel
theorem dX0_copyFrom_92 : decode cX0_copyFrom 92 = .ok (.aload_n 1, 1) := by decide +kernel
theorem dX0_copyFrom_93 : decode cX0_copyFrom 93 = .ok (.getfield 34, 3) := by decide +kernel
theorem dX0_copyFrom_96 : decode cX0_copyFrom 96 = .ok (.iconst 0, 1) := by decide +kernel
theorem dX0_copyFrom_97 : decode cX0_copyFrom 97 = .ok (.aload_n 0, 1) := by decide +kernel
theorem dX0_copyFrom_98 : decode cX0_copyFrom 98 = .ok (.getfield 34, 3) := by decide +kernel
theorem dX0_copyFrom_101 : decode cX0_copyFrom 101 = .ok (.iconst 0, 1) := by decide +kernel
theorem dX0_copyFrom_102 : decode cX0_copyFrom 102 = .ok (.bipush 64, 2) := by decide +kernel
theorem dX0_copyFrom_104 : decode cX0_copyFrom 104 = .ok (.invokestatic 55, 3) := by decide +kernel
theorem dX0_copyFrom_107 : decode cX0_copyFrom 107 = .ok (.aload_n 1, 1) := by decide +kernel
theorem dX0_copyFrom_108 : decode cX0_copyFrom 108 = .ok (.getfield 37, 3) := by decide +kernel
theorem dX0_copyFrom_111 : decode cX0_copyFrom 111 = .ok (.iconst 0, 1) := by decide +kernel
theorem dX0_copyFrom_112 : decode cX0_copyFrom 112 = .ok (.aload_n 0, 1) := by decide +kernel
theorem dX0_copyFrom_113 : decode cX0_copyFrom 113 = .ok (.getfield 37, 3) := by decide +kernel
theorem dX0_copyFrom_116 : decode cX0_copyFrom 116 = .ok (.iconst 0, 1) := by decide +kernel
theorem dX0_copyFrom_117 : decode cX0_copyFrom 117 = .ok (.bipush 64, 2) := by decide +kernel
theorem dX0_copyFrom_119 : decode cX0_copyFrom 119 = .ok (.invokestatic 55, 3) := by decide +kernel
theorem dX0_copyFrom_122 : decode cX0_copyFrom 122 = .ok (.aload_n 1, 1) := by decide +kernel
theorem dX0_copyFrom_123 : decode cX0_copyFrom 123 = .ok (.getfield 40, 3) := by decide +kernel
theorem dX0_copyFrom_126 : decode cX0_copyFrom 126 = .ok (.iconst 0, 1) := by decide +kernel
theorem dX0_copyFrom_127 : decode cX0_copyFrom 127 = .ok (.aload_n 0, 1) := by decide +kernel
theorem dX0_copyFrom_128 : decode cX0_copyFrom 128 = .ok (.getfield 40, 3) := by decide +kernel
theorem dX0_copyFrom_131 : decode cX0_copyFrom 131 = .ok (.iconst 0, 1) := by decide +kernel
theorem dX0_copyFrom_132 : decode cX0_copyFrom 132 = .ok (.bipush 64, 2) := by decide +kernel
theorem dX0_copyFrom_134 : decode cX0_copyFrom 134 = .ok (.invokestatic 55, 3) := by decide +kernel
theorem dX0_copyFrom_137 : decode cX0_copyFrom 137 = .ok (.aload_n 1, 1) := by decide +kernel
theorem dX0_copyFrom_138 : decode cX0_copyFrom 138 = .ok (.getfield 43, 3) := by decide +kernel
theorem dX0_copyFrom_141 : decode cX0_copyFrom 141 = .ok (.iconst 0, 1) := by decide +kernel
theorem dX0_copyFrom_142 : decode cX0_copyFrom 142 = .ok (.aload_n 0, 1) := by decide +kernel
theorem dX0_copyFrom_143 : decode cX0_copyFrom 143 = .ok (.getfield 43, 3) := by decide +kernel
theorem dX0_copyFrom_146 : decode cX0_copyFrom 146 = .ok (.iconst 0, 1) := by decide +kernel
theorem dX0_copyFrom_147 : decode cX0_copyFrom 147 = .ok (.sipush 256, 3) := by decide +kernel
theorem dX0_copyFrom_150 : decode cX0_copyFrom 150 = .ok (.invokestatic 55, 3) := by decide +kernel
theorem dX0_copyFrom_153 : decode cX0_copyFrom 153 = .ok (.return_, 1) := by decide +kernel
theorem dX0_findBeside_0 : decode cX0_findBeside 0 = .ok (.iload_n 1, 1) := by decide +kernel
theorem dX0_findBeside_1 : decode cX0_findBeside 1 = .ok (.bipush 8, 2) := by decide +kernel
theorem dX0_findBeside_3 : decode cX0_findBeside 3 = .ok (.irem, 1) := by decide +kernel
theorem dX0_findBeside_4 : decode cX0_findBeside 4 = .ok (.istore_n 2, 1) := by decide +kernel
theorem dX0_findBeside_5 : decode cX0_findBeside 5 = .ok (.iload_n 1, 1) := by decide +kernel
theorem dX0_findBeside_6 : decode cX0_findBeside 6 = .ok (.bipush 8, 2) := by decide +kernel
theorem dX0_findBeside_8 : decode cX0_findBeside 8 = .ok (.idiv, 1) := by decide +kernel
theorem dX0_findBeside_9 : decode cX0_findBeside 9 = .ok (.istore_n 3, 1) := by decide +kernel
theorem dX0_findBeside_10 : decode cX0_findBeside 10 = .ok (.aload_n 0, 1) := by decide +kernel
theorem dX0_findBeside_11 : decode cX0_findBeside 11 = .ok (.getfield 43, 3) := by decide +kernel
theorem dX0_findBeside_14 : decode cX0_findBeside 14 = .ok (.iload_n 1, 1) := by decide +kernel
theorem dX0_findBeside_15 : decode cX0_findBeside 15 = .ok (.iconst 4, 1) := by decide +kernel
theorem dX0_findBeside_16 : decode cX0_findBeside 16 = .ok (.imul, 1) := by decide +kernel
theorem dX0_findBeside_17 : decode cX0_findBeside 17 = .ok (.iload_n 3, 1) := by decide +kernel
theorem dX0_findBeside_18 : decode cX0_findBeside 18 = .ok (.ifCond .le 10, 3) := by decide +kernel
theorem dX0_findBeside_21 : decode cX0_findBeside 21 = .ok (.iload_n 1, 1) := by decide +kernel
theorem dX0_findBeside_22 : decode cX0_findBeside 22 = .ok (.bipush 8, 2) := by decide +kernel
theorem dX0_findBeside_24 : decode cX0_findBeside 24 = .ok (.isub, 1) := by decide +kernel
theorem dX0_findBeside_25 : decode cX0_findBeside 25 = .ok (.goto 4, 3) := by decide +kernel
theorem dX0_findBeside_28 : decode cX0_findBeside 28 = .ok (.iconst (-1), 1) := by decide +kernel
theorem dX0_findBeside_29 : decode cX0_findBeside 29 = .ok (.iastore, 1) := by decide +kernel
theorem dX0_findBeside_30 : decode cX0_findBeside 30 = .ok (.aload_n 0, 1) := by decide +kernel
theorem dX0_findBeside_31 : decode cX0_findBeside 31 = .ok (.getfield 43, 3) := by decide +kernel
theorem dX0_findBeside_34 : decode cX0_findBeside 34 = .ok (.iload_n 1, 1) := by decide +kernel
theorem dX0_findBeside_35 : decode cX0_findBeside 35 = .ok (.iconst 4, 1) := by decide +kernel
theorem dX0_findBeside_36 : decode cX0_findBeside 36 = .ok (.imul, 1) := by decide +kernel
theorem dX0_findBeside_37 : decode cX0_findBeside 37 = .ok (.iconst 1, 1) := by decide +kernel
theorem dX0_findBeside_38 : decode cX0_findBeside 38 = .ok (.iadd, 1) := by decide +kernel
theorem dX0_findBeside_39 : decode cX0_findBeside 39 = .ok (.iload_n 2, 1) := by decide +kernel
theorem dX0_findBeside_40 : decode cX0_findBeside 40 = .ok (.iconst 1, 1) := by decide +kernel
theorem dX0_findBeside_41 : decode cX0_findBeside 41 = .ok (.iadd, 1) := by decide +kernel
theorem dX0_findBeside_42 : decode cX0_findBeside 42 = .ok (.aload_n 0, 1) := by decide +kernel
theorem dX0_findBeside_43 : decode cX0_findBeside 43 = .ok (.getfield 9, 3) := by decide +kernel
theorem dX0_findBeside_46 : decode cX0_findBeside 46 = .ok (.if_icmp .ge 9, 3) := by decide +kernel
theorem dX0_findBeside_49 : decode cX0_findBeside 49 = .ok (.iload_n 1, 1) := by decide +kernel
theorem dX0_findBeside_50 : decode cX0_findBeside 50 = .ok (.iconst 1, 1) := by decide +kernel
theorem dX0_findBeside_51 : decode cX0_findBeside 51 = .ok (.iadd, 1) := by decide +kernel
theorem dX0_findBeside_52 : decode cX0_findBeside 52 = .ok (.goto 4, 3) := by decide +kernel
theorem dX0_findBeside_55 : decode cX0_findBeside 55 = .ok (.iconst (-1), 1) := by decide +kernel
theorem dX0_findBeside_56 : decode cX0_findBeside 56 = .ok (.iastore, 1) := by decide +kernel
theorem dX0_findBeside_57 : decode cX0_findBeside 57 = .ok (.aload_n 0, 1) := by decide +kernel
theorem dX0_findBeside_58 : decode cX0_findBeside 58 = .ok (.getfield 43, 3) := by decide +kernel
theorem dX0_findBeside_61 : decode cX0_findBeside 61 = .ok (.iload_n 1, 1) := by decide +kernel
theorem dX0_findBeside_62 : decode cX0_findBeside 62 = .ok (.iconst 4, 1) := by decide +kernel
theorem dX0_findBeside_63 : decode cX0_findBeside 63 = .ok (.imul, 1) := by decide +kernel
theorem dX0_findBeside_64 : decode cX0_findBeside 64 = .ok (.iconst 2, 1) := by decide +kernel
theorem dX0_findBeside_65 : decode cX0_findBeside 65 = .ok (.iadd, 1) := by decide +kernel
theorem dX0_findBeside_66 : decode cX0_findBeside 66 = .ok (.iload_n 3, 1) := by decide +kernel
theorem dX0_findBeside_67 : decode cX0_findBeside 67 = .ok (.iconst 1, 1) := by decide +kernel
theorem dX0_findBeside_68 : decode cX0_findBeside 68 = .ok (.iadd, 1) := by decide +kernel
theorem dX0_findBeside_69 : decode cX0_findBeside 69 = .ok (.aload_n 0, 1) := by decide +kernel
theorem dX0_findBeside_70 : decode cX0_findBeside 70 = .ok (.getfield 15, 3) := by decide +kernel
theorem dX0_findBeside_73 : decode cX0_findBeside 73 = .ok (.if_icmp .ge 10, 3) := by decide +kernel
theorem dX0_findBeside_76 : decode cX0_findBeside 76 = .ok (.iload_n 1, 1) := by decide +kernel
theorem dX0_findBeside_77 : decode cX0_findBeside 77 = .ok (.bipush 8, 2) := by decide +kernel
theorem dX0_findBeside_79 : decode cX0_findBeside 79 = .ok (.iadd, 1) := by decide +kernel
theorem dX0_findBeside_80 : decode cX0_findBeside 80 = .ok (.goto 4, 3) := by decide +kernel
theorem dX0_findBeside_83 : decode cX0_findBeside 83 = .ok (.iconst (-1), 1) := by decide +kernel
theorem dX0_findBeside_84 : decode cX0_findBeside 84 = .ok (.iastore, 1) := by decide +kernel
theorem dX0_findBeside_85 : decode cX0_findBeside 85 = .ok (.aload_n 0, 1) := by decide +kernel
theorem dX0_findBeside_86 : decode cX0_findBeside 86 = .ok (.getfield 43, 3) := by decide +kernel
theorem dX0_findBeside_89 : decode cX0_findBeside 89 = .ok (.iload_n 1, 1) := by decide +kernel
theorem dX0_findBeside_90 : decode cX0_findBeside 90 = .ok (.iconst 4, 1) := by decide +kernel
theorem dX0_findBeside_91 : decode cX0_findBeside 91 = .ok (.imul, 1) := by decide +kernel
theorem dX0_findBeside_92 : decode cX0_findBeside 92 = .ok (.iconst 3, 1) := by decide +kernel
theorem dX0_findBeside_93 : decode cX0_findBeside 93 = .ok (.iadd, 1) := by decide +kernel
theorem dX0_findBeside_94 : decode cX0_findBeside 94 = .ok (.iload_n 2, 1) := by decide +kernel
theorem dX0_findBeside_95 : decode cX0_findBeside 95 = .ok (.ifCond .le 9, 3) := by decide +kernel
theorem dX0_findBeside_98 : decode cX0_findBeside 98 = .ok (.iload_n 1, 1) := by decide +kernel
theorem dX0_findBeside_99 : decode cX0_findBeside 99 = .ok (.iconst 1, 1) := by decide +kernel
theorem dX0_findBeside_100 : decode cX0_findBeside 100 = .ok (.isub, 1) := by decide +kernel
theorem dX0_findBeside_101 : decode cX0_findBeside 101 = .ok (.goto 4, 3) := by decide +kernel
theorem dX0_findBeside_104 : decode cX0_findBeside 104 = .ok (.iconst (-1), 1) := by decide +kernel
theorem dX0_findBeside_105 : decode cX0_findBeside 105 = .ok (.iastore, 1) := by decide +kernel
theorem dX0_findBeside_106 : decode cX0_findBeside 106 = .ok (.return_, 1) := by decide +kernel
theorem dX0_finish_0 : decode cX0_finish 0 = .ok (.iconst 0, 1) := by decide +kernel
theorem dX0_finish_1 : decode cX0_finish 1 = .ok (.istore_n 1, 1) := by decide +kernel
theorem dX0_finish_2 : decode cX0_finish 2 = .ok (.iload_n 1, 1) := by decide +kernel
theorem dX0_finish_3 : decode cX0_finish 3 = .ok (.aload_n 0, 1) := by decide +kernel
theorem dX0_finish_4 : decode cX0_finish 4 = .ok (.getfield 52, 3) := by decide +kernel
theorem dX0_finish_7 : decode cX0_finish 7 = .ok (.if_icmp .ge 14, 3) := by decide +kernel
theorem dX0_finish_10 : decode cX0_finish 10 = .ok (.aload_n 0, 1) := by decide +kernel
theorem dX0_finish_11 : decode cX0_finish 11 = .ok (.iload_n 1, 1) := by decide +kernel
theorem dX0_finish_12 : decode cX0_finish 12 = .ok (.invokevirtual 127, 3) := by decide +kernel
theorem dX0_finish_15 : decode cX0_finish 15 = .ok (.iinc 1 1, 3) := by decide +kernel
theorem dX0_finish_18 : decode cX0_finish 18 = .ok (.goto (-16), 3) := by decide +kernel
theorem dX0_finish_21 : decode cX0_finish 21 = .ok (.iconst 0, 1) := by decide +kernel
theorem dX0_finish_22 : decode cX0_finish 22 = .ok (.istore_n 1, 1) := by decide +kernel
theorem dX0_finish_23 : decode cX0_finish 23 = .ok (.iload_n 1, 1) := by decide +kernel
theorem dX0_finish_24 : decode cX0_finish 24 = .ok (.bipush 64, 2) := by decide +kernel
theorem dX0_finish_26 : decode cX0_finish 26 = .ok (.if_icmp .ge 38, 3) := by decide +kernel
theorem dX0_finish_29 : decode cX0_finish 29 = .ok (.aload_n 0, 1) := by decide +kernel
theorem dX0_finish_30 : decode cX0_finish 30 = .ok (.iload_n 1, 1) := by decide +kernel
theorem dX0_finish_31 : decode cX0_finish 31 = .ok (.invokevirtual 131, 3) := by decide +kernel
theorem dX0_finish_34 : decode cX0_finish 34 = .ok (.ifCond .eq 12, 3) := by decide +kernel
theorem dX0_finish_37 : decode cX0_finish 37 = .ok (.aload_n 0, 1) := by decide +kernel
theorem dX0_finish_38 : decode cX0_finish 38 = .ok (.getfield 34, 3) := by decide +kernel
theorem dX0_finish_41 : decode cX0_finish 41 = .ok (.iload_n 1, 1) := by decide +kernel
theorem dX0_finish_42 : decode cX0_finish 42 = .ok (.iaload, 1) := by decide +kernel
theorem dX0_finish_43 : decode cX0_finish 43 = .ok (.ifCond .eq 10, 3) := by decide +kernel
theorem dX0_finish_46 : decode cX0_finish 46 = .ok (.aload_n 0, 1) := by decide +kernel
theorem dX0_finish_47 : decode cX0_finish 47 = .ok (.getfield 40, 3) := by decide +kernel
theorem dX0_finish_50 : decode cX0_finish 50 = .ok (.iload_n 1, 1) := by decide +kernel
theorem dX0_finish_51 : decode cX0_finish 51 = .ok (.iconst 0, 1) := by decide +kernel
theorem dX0_finish_52 : decode cX0_finish 52 = .ok (.iastore, 1) := by decide +kernel
theorem dX0_finish_53 : decode cX0_finish 53 = .ok (.aload_n 0, 1) := by decide +kernel
theorem dX0_finish_54 : decode cX0_finish 54 = .ok (.iload_n 1, 1) := by decide +kernel
theorem dX0_finish_55 : decode cX0_finish 55 = .ok (.invokevirtual 135, 3) := by decide +kernel
theorem dX0_finish_58 : decode cX0_finish 58 = .ok (.iinc 1 1, 3) := by decide +kernel
theorem dX0_finish_61 : decode cX0_finish 61 = .ok (.goto (-38), 3) := by decide +kernel
theorem dX0_finish_64 : decode cX0_finish 64 = .ok (.return_, 1) := by decide +kernel
theorem dX0_hasPin_0 : decode cX0_hasPin 0 = .ok (.aload_n 0, 1) := by decide +kernel
theorem dX0_hasPin_1 : decode cX0_hasPin 1 = .ok (.getfield 34, 3) := by decide +kernel
theorem dX0_hasPin_4 : decode cX0_hasPin 4 = .ok (.iload_n 2, 1) := by decide +kernel
theorem dX0_hasPin_5 : decode cX0_hasPin 5 = .ok (.iaload, 1) := by decide +kernel
theorem dX0_hasPin_6 : decode cX0_hasPin 6 = .ok (.iload_n 1, 1) := by decide +kernel
theorem dX0_hasPin_7 : decode cX0_hasPin 7 = .ok (.ishr, 1) := by decide +kernel
theorem dX0_hasPin_8 : decode cX0_hasPin 8 = .ok (.iconst 1, 1) := by decide +kernel
theorem dX0_hasPin_9 : decode cX0_hasPin 9 = .ok (.iand, 1) := by decide +kernel
theorem dX0_hasPin_10 : decode cX0_hasPin 10 = .ok (.ifCond .eq 7, 3) := by decide +kernel
theorem dX0_hasPin_13 : decode cX0_hasPin 13 = .ok (.iconst 1, 1) := by decide +kernel
theorem dX0_hasPin_14 : decode cX0_hasPin 14 = .ok (.goto 4, 3) := by decide +kernel
theorem dX0_hasPin_17 : decode cX0_hasPin 17 = .ok (.iconst 0, 1) := by decide +kernel
theorem dX0_hasPin_18 : decode cX0_hasPin 18 = .ok (.ireturn, 1) := by decide +kernel
theorem dX0_init_0 : decode cX0_init 0 = .ok (.aload_n 0, 1) := by decide +kernel
theorem dX0_init_1 : decode cX0_init 1 = .ok (.invokespecial 3, 3) := by decide +kernel
theorem dX0_init_4 : decode cX0_init 4 = .ok (.aload_n 0, 1) := by decide +kernel
theorem dX0_init_5 : decode cX0_init 5 = .ok (.iconst 4, 1) := by decide +kernel
theorem dX0_init_6 : decode cX0_init 6 = .ok (.putfield 9, 3) := by decide +kernel
theorem dX0_init_9 : decode cX0_init 9 = .ok (.aload_n 0, 1) := by decide +kernel
theorem dX0_init_10 : decode cX0_init 10 = .ok (.iconst 4, 1) := by decide +kernel
theorem dX0_init_11 : decode cX0_init 11 = .ok (.putfield 15, 3) := by decide +kernel
theorem dX0_init_14 : decode cX0_init 14 = .ok (.aload_n 0, 1) := by decide +kernel
theorem dX0_init_15 : decode cX0_init 15 = .ok (.iconst 1, 1) := by decide +kernel
theorem dX0_init_16 : decode cX0_init 16 = .ok (.putfield 18, 3) := by decide +kernel
theorem dX0_init_19 : decode cX0_init 19 = .ok (.aload_n 0, 1) := by decide +kernel
theorem dX0_init_20 : decode cX0_init 20 = .ok (.bipush 6, 2) := by decide +kernel
theorem dX0_init_22 : decode cX0_init 22 = .ok (.newarray .int, 2) := by decide +kernel
theorem dX0_init_24 : decode cX0_init 24 = .ok (.putfield 21, 3) := by decide +kernel
theorem dX0_init_27 : decode cX0_init 27 = .ok (.aload_n 0, 1) := by decide +kernel
theorem dX0_init_28 : decode cX0_init 28 = .ok (.bipush 6, 2) := by decide +kernel
theorem dX0_init_30 : decode cX0_init 30 = .ok (.newarray .int, 2) := by decide +kernel
theorem dX0_init_32 : decode cX0_init 32 = .ok (.putfield 25, 3) := by decide +kernel
theorem dX0_init_35 : decode cX0_init 35 = .ok (.aload_n 0, 1) := by decide +kernel
theorem dX0_init_36 : decode cX0_init 36 = .ok (.bipush 6, 2) := by decide +kernel
theorem dX0_init_38 : decode cX0_init 38 = .ok (.newarray .int, 2) := by decide +kernel
theorem dX0_init_40 : decode cX0_init 40 = .ok (.putfield 28, 3) := by decide +kernel
theorem dX0_init_43 : decode cX0_init 43 = .ok (.aload_n 0, 1) := by decide +kernel
theorem dX0_init_44 : decode cX0_init 44 = .ok (.bipush 24, 2) := by decide +kernel
theorem dX0_init_46 : decode cX0_init 46 = .ok (.newarray .int, 2) := by decide +kernel
theorem dX0_init_48 : decode cX0_init 48 = .ok (.putfield 31, 3) := by decide +kernel
theorem dX0_init_51 : decode cX0_init 51 = .ok (.aload_n 0, 1) := by decide +kernel
theorem dX0_init_52 : decode cX0_init 52 = .ok (.bipush 64, 2) := by decide +kernel
theorem dX0_init_54 : decode cX0_init 54 = .ok (.newarray .int, 2) := by decide +kernel
theorem dX0_init_56 : decode cX0_init 56 = .ok (.putfield 34, 3) := by decide +kernel
theorem dX0_init_59 : decode cX0_init 59 = .ok (.aload_n 0, 1) := by decide +kernel
theorem dX0_init_60 : decode cX0_init 60 = .ok (.bipush 64, 2) := by decide +kernel
theorem dX0_init_62 : decode cX0_init 62 = .ok (.newarray .int, 2) := by decide +kernel
theorem dX0_init_64 : decode cX0_init 64 = .ok (.putfield 37, 3) := by decide +kernel
theorem dX0_init_67 : decode cX0_init 67 = .ok (.aload_n 0, 1) := by decide +kernel
theorem dX0_init_68 : decode cX0_init 68 = .ok (.bipush 64, 2) := by decide +kernel
theorem dX0_init_70 : decode cX0_init 70 = .ok (.newarray .int, 2) := by decide +kernel
theorem dX0_init_72 : decode cX0_init 72 = .ok (.putfield 40, 3) := by decide +kernel
theorem dX0_init_75 : decode cX0_init 75 = .ok (.aload_n 0, 1) := by decide +kernel
theorem dX0_init_76 : decode cX0_init 76 = .ok (.sipush 256, 3) := by decide +kernel
theorem dX0_init_79 : decode cX0_init 79 = .ok (.newarray .int, 2) := by decide +kernel
theorem dX0_init_81 : decode cX0_init 81 = .ok (.putfield 43, 3) := by decide +kernel
theorem dX0_init_84 : decode cX0_init 84 = .ok (.aload_n 0, 1) := by decide +kernel
theorem dX0_init_85 : decode cX0_init 85 = .ok (.invokevirtual 46, 3) := by decide +kernel
theorem dX0_init_88 : decode cX0_init 88 = .ok (.aload_n 0, 1) := by decide +kernel
theorem dX0_init_89 : decode cX0_init 89 = .ok (.invokevirtual 49, 3) := by decide +kernel
theorem dX0_init_92 : decode cX0_init 92 = .ok (.return_, 1) := by decide +kernel
theorem dX0_isInside_0 : decode cX0_isInside 0 = .ok (.iload_n 1, 1) := by decide +kernel
theorem dX0_isInside_1 : decode cX0_isInside 1 = .ok (.bipush 8, 2) := by decide +kernel
theorem dX0_isInside_3 : decode cX0_isInside 3 = .ok (.irem, 1) := by decide +kernel
theorem dX0_isInside_4 : decode cX0_isInside 4 = .ok (.aload_n 0, 1) := by decide +kernel
theorem dX0_isInside_5 : decode cX0_isInside 5 = .ok (.getfield 9, 3) := by decide +kernel
theorem dX0_isInside_8 : decode cX0_isInside 8 = .ok (.if_icmp .ge 18, 3) := by decide +kernel
theorem dX0_isInside_11 : decode cX0_isInside 11 = .ok (.iload_n 1, 1) := by decide +kernel
theorem dX0_isInside_12 : decode cX0_isInside 12 = .ok (.bipush 8, 2) := by decide +kernel
theorem dX0_isInside_14 : decode cX0_isInside 14 = .ok (.idiv, 1) := by decide +kernel
theorem dX0_isInside_15 : decode cX0_isInside 15 = .ok (.aload_n 0, 1) := by decide +kernel
theorem dX0_isInside_16 : decode cX0_isInside 16 = .ok (.getfield 15, 3) := by decide +kernel
theorem dX0_isInside_19 : decode cX0_isInside 19 = .ok (.if_icmp .ge 7, 3) := by decide +kernel
theorem dX0_isInside_22 : decode cX0_isInside 22 = .ok (.iconst 1, 1) := by decide +kernel
theorem dX0_isInside_23 : decode cX0_isInside 23 = .ok (.goto 4, 3) := by decide +kernel
theorem dX0_isInside_26 : decode cX0_isInside 26 = .ok (.iconst 0, 1) := by decide +kernel
theorem dX0_isInside_27 : decode cX0_isInside 27 = .ok (.ireturn, 1) := by decide +kernel
theorem dX0_keepPins_0 : decode cX0_keepPins 0 = .ok (.aload_n 0, 1) := by decide +kernel
theorem dX0_keepPins_1 : decode cX0_keepPins 1 = .ok (.getfield 28, 3) := by decide +kernel
theorem dX0_keepPins_4 : decode cX0_keepPins 4 = .ok (.iload_n 1, 1) := by decide +kernel
theorem dX0_keepPins_5 : decode cX0_keepPins 5 = .ok (.iaload, 1) := by decide +kernel
theorem dX0_keepPins_6 : decode cX0_keepPins 6 = .ok (.istore_n 2, 1) := by decide +kernel
theorem dX0_keepPins_7 : decode cX0_keepPins 7 = .ok (.iconst 0, 1) := by decide +kernel
theorem dX0_keepPins_8 : decode cX0_keepPins 8 = .ok (.istore_n 3, 1) := by decide +kernel
theorem dX0_keepPins_9 : decode cX0_keepPins 9 = .ok (.iconst 0, 1) := by decide +kernel
theorem dX0_keepPins_10 : decode cX0_keepPins 10 = .ok (.istore 4, 2) := by decide +kernel
theorem dX0_keepPins_12 : decode cX0_keepPins 12 = .ok (.iload 4, 2) := by decide +kernel
theorem dX0_keepPins_14 : decode cX0_keepPins 14 = .ok (.iload_n 2, 1) := by decide +kernel
theorem dX0_keepPins_15 : decode cX0_keepPins 15 = .ok (.if_icmp .ge 69, 3) := by decide +kernel
theorem dX0_keepPins_18 : decode cX0_keepPins 18 = .ok (.aload_n 0, 1) := by decide +kernel
theorem dX0_keepPins_19 : decode cX0_keepPins 19 = .ok (.getfield 31, 3) := by decide +kernel
theorem dX0_keepPins_22 : decode cX0_keepPins 22 = .ok (.iload_n 1, 1) := by decide +kernel
theorem dX0_keepPins_23 : decode cX0_keepPins 23 = .ok (.iconst 4, 1) := by decide +kernel
theorem dX0_keepPins_24 : decode cX0_keepPins 24 = .ok (.imul, 1) := by decide +kernel
theorem dX0_keepPins_25 : decode cX0_keepPins 25 = .ok (.iload 4, 2) := by decide +kernel
theorem dX0_keepPins_27 : decode cX0_keepPins 27 = .ok (.iadd, 1) := by decide +kernel
theorem dX0_keepPins_28 : decode cX0_keepPins 28 = .ok (.iaload, 1) := by decide +kernel
theorem dX0_keepPins_29 : decode cX0_keepPins 29 = .ok (.istore 5, 2) := by decide +kernel
theorem dX0_keepPins_31 : decode cX0_keepPins 31 = .ok (.aload_n 0, 1) := by decide +kernel
theorem dX0_keepPins_32 : decode cX0_keepPins 32 = .ok (.iload 5, 2) := by decide +kernel
theorem dX0_keepPins_34 : decode cX0_keepPins 34 = .ok (.invokevirtual 131, 3) := by decide +kernel
theorem dX0_keepPins_37 : decode cX0_keepPins 37 = .ok (.ifCond .eq 41, 3) := by decide +kernel
theorem dX0_keepPins_40 : decode cX0_keepPins 40 = .ok (.aload_n 0, 1) := by decide +kernel
theorem dX0_keepPins_41 : decode cX0_keepPins 41 = .ok (.iload_n 1, 1) := by decide +kernel
theorem dX0_keepPins_42 : decode cX0_keepPins 42 = .ok (.iload 5, 2) := by decide +kernel
theorem dX0_keepPins_44 : decode cX0_keepPins 44 = .ok (.invokevirtual 138, 3) := by decide +kernel
theorem dX0_keepPins_47 : decode cX0_keepPins 47 = .ok (.ifCond .ne 31, 3) := by decide +kernel
theorem dX0_keepPins_50 : decode cX0_keepPins 50 = .ok (.aload_n 0, 1) := by decide +kernel
theorem dX0_keepPins_51 : decode cX0_keepPins 51 = .ok (.getfield 34, 3) := by decide +kernel
theorem dX0_keepPins_54 : decode cX0_keepPins 54 = .ok (.iload 5, 2) := by decide +kernel
theorem dX0_keepPins_56 : decode cX0_keepPins 56 = .ok (.dup2, 1) := by decide +kernel
theorem dX0_keepPins_57 : decode cX0_keepPins 57 = .ok (.iaload, 1) := by decide +kernel
theorem dX0_keepPins_58 : decode cX0_keepPins 58 = .ok (.iconst 1, 1) := by decide +kernel
theorem dX0_keepPins_59 : decode cX0_keepPins 59 = .ok (.iload_n 1, 1) := by decide +kernel
theorem dX0_keepPins_60 : decode cX0_keepPins 60 = .ok (.ishl, 1) := by decide +kernel
theorem dX0_keepPins_61 : decode cX0_keepPins 61 = .ok (.ior, 1) := by decide +kernel
theorem dX0_keepPins_62 : decode cX0_keepPins 62 = .ok (.iastore, 1) := by decide +kernel
theorem dX0_keepPins_63 : decode cX0_keepPins 63 = .ok (.aload_n 0, 1) := by decide +kernel
theorem dX0_keepPins_64 : decode cX0_keepPins 64 = .ok (.getfield 31, 3) := by decide +kernel
theorem dX0_keepPins_67 : decode cX0_keepPins 67 = .ok (.iload_n 1, 1) := by decide +kernel
theorem dX0_keepPins_68 : decode cX0_keepPins 68 = .ok (.iconst 4, 1) := by decide +kernel
theorem dX0_keepPins_69 : decode cX0_keepPins 69 = .ok (.imul, 1) := by decide +kernel
theorem dX0_keepPins_70 : decode cX0_keepPins 70 = .ok (.iload_n 3, 1) := by decide +kernel
theorem dX0_keepPins_71 : decode cX0_keepPins 71 = .ok (.iadd, 1) := by decide +kernel
theorem dX0_keepPins_72 : decode cX0_keepPins 72 = .ok (.iload 5, 2) := by decide +kernel
theorem dX0_keepPins_74 : decode cX0_keepPins 74 = .ok (.iastore, 1) := by decide +kernel
theorem dX0_keepPins_75 : decode cX0_keepPins 75 = .ok (.iinc 3 1, 3) := by decide +kernel
theorem dX0_keepPins_78 : decode cX0_keepPins 78 = .ok (.iinc 4 1, 3) := by decide +kernel
theorem dX0_keepPins_81 : decode cX0_keepPins 81 = .ok (.goto (-69), 3) := by decide +kernel
theorem dX0_keepPins_84 : decode cX0_keepPins 84 = .ok (.aload_n 0, 1) := by decide +kernel
theorem dX0_keepPins_85 : decode cX0_keepPins 85 = .ok (.getfield 28, 3) := by decide +kernel
theorem dX0_keepPins_88 : decode cX0_keepPins 88 = .ok (.iload_n 1, 1) := by decide +kernel
theorem dX0_keepPins_89 : decode cX0_keepPins 89 = .ok (.iload_n 3, 1) := by decide +kernel
theorem dX0_keepPins_90 : decode cX0_keepPins 90 = .ok (.iastore, 1) := by decide +kernel
theorem dX0_keepPins_91 : decode cX0_keepPins 91 = .ok (.return_, 1) := by decide +kernel
theorem dX0_read_0 : decode cX0_read 0 = .ok (.aload_n 0, 1) := by decide +kernel
theorem dX0_read_1 : decode cX0_read 1 = .ok (.invokevirtual 46, 3) := by decide +kernel
theorem dX0_read_4 : decode cX0_read 4 = .ok (.iconst 0, 1) := by decide +kernel
theorem dX0_read_5 : decode cX0_read 5 = .ok (.istore_n 2, 1) := by decide +kernel
theorem dX0_read_6 : decode cX0_read 6 = .ok (.iload_n 2, 1) := by decide +kernel
theorem dX0_read_7 : decode cX0_read 7 = .ok (.sipush 600, 3) := by decide +kernel
theorem dX0_read_10 : decode cX0_read 10 = .ok (.if_icmp .gt 32, 3) := by decide +kernel
theorem dX0_read_13 : decode cX0_read 13 = .ok (.aload_n 1, 1) := by decide +kernel
theorem dX0_read_14 : decode cX0_read 14 = .ok (.invokevirtual 61, 3) := by decide +kernel
theorem dX0_read_17 : decode cX0_read 17 = .ok (.ifCond .ne 25, 3) := by decide +kernel
theorem dX0_read_20 : decode cX0_read 20 = .ok (.aload_n 1, 1) := by decide +kernel
theorem dX0_read_21 : decode cX0_read 21 = .ok (.invokevirtual 67, 3) := by decide +kernel
theorem dX0_read_24 : decode cX0_read 24 = .ok (.ifCond .eq 6, 3) := by decide +kernel
theorem dX0_read_27 : decode cX0_read 27 = .ok (.goto 15, 3) := by decide +kernel
theorem dX0_read_30 : decode cX0_read 30 = .ok (.aload_n 0, 1) := by decide +kernel
theorem dX0_read_31 : decode cX0_read 31 = .ok (.aload_n 1, 1) := by decide +kernel
theorem dX0_read_32 : decode cX0_read 32 = .ok (.iload_n 2, 1) := by decide +kernel
theorem dX0_read_33 : decode cX0_read 33 = .ok (.invokevirtual 70, 3) := by decide +kernel
theorem dX0_read_36 : decode cX0_read 36 = .ok (.iinc 2 1, 3) := by decide +kernel
theorem dX0_read_39 : decode cX0_read 39 = .ok (.goto (-33), 3) := by decide +kernel
theorem dX0_read_42 : decode cX0_read 42 = .ok (.aload_n 1, 1) := by decide +kernel
theorem dX0_read_43 : decode cX0_read 43 = .ok (.invokevirtual 61, 3) := by decide +kernel
theorem dX0_read_46 : decode cX0_read 46 = .ok (.ifCond .ne 7, 3) := by decide +kernel
theorem dX0_read_49 : decode cX0_read 49 = .ok (.aload_n 0, 1) := by decide +kernel
theorem dX0_read_50 : decode cX0_read 50 = .ok (.invokevirtual 49, 3) := by decide +kernel
theorem dX0_read_53 : decode cX0_read 53 = .ok (.return_, 1) := by decide +kernel
theorem dX0_readClause_0 : decode cX0_readClause 0 = .ok (.aload_n 1, 1) := by decide +kernel
theorem dX0_readClause_1 : decode cX0_readClause 1 = .ok (.invokevirtual 80, 3) := by decide +kernel
theorem dX0_readClause_4 : decode cX0_readClause 4 = .ok (.aload_n 1, 1) := by decide +kernel
theorem dX0_readClause_5 : decode cX0_readClause 5 = .ok (.ldc 83, 2) := by decide +kernel
theorem dX0_readClause_7 : decode cX0_readClause 7 = .ok (.invokevirtual 85, 3) := by decide +kernel
theorem dX0_readClause_10 : decode cX0_readClause 10 = .ok (.istore_n 3, 1) := by decide +kernel
theorem dX0_readClause_11 : decode cX0_readClause 11 = .ok (.aload_n 1, 1) := by decide +kernel
theorem dX0_readClause_12 : decode cX0_readClause 12 = .ok (.ldc 89, 2) := by decide +kernel
theorem dX0_readClause_14 : decode cX0_readClause 14 = .ok (.invokevirtual 85, 3) := by decide +kernel
theorem dX0_readClause_17 : decode cX0_readClause 17 = .ok (.istore 4, 2) := by decide +kernel
theorem dX0_readClause_19 : decode cX0_readClause 19 = .ok (.aload_n 1, 1) := by decide +kernel
theorem dX0_readClause_20 : decode cX0_readClause 20 = .ok (.ldc 91, 2) := by decide +kernel
theorem dX0_readClause_22 : decode cX0_readClause 22 = .ok (.invokevirtual 85, 3) := by decide +kernel
theorem dX0_readClause_25 : decode cX0_readClause 25 = .ok (.istore 5, 2) := by decide +kernel
theorem dX0_readClause_27 : decode cX0_readClause 27 = .ok (.aload_n 1, 1) := by decide +kernel
theorem dX0_readClause_28 : decode cX0_readClause 28 = .ok (.ldc 93, 2) := by decide +kernel
theorem dX0_readClause_30 : decode cX0_readClause 30 = .ok (.invokevirtual 85, 3) := by decide +kernel
theorem dX0_readClause_33 : decode cX0_readClause 33 = .ok (.istore 6, 2) := by decide +kernel
theorem dX0_readClause_35 : decode cX0_readClause 35 = .ok (.aload_n 1, 1) := by decide +kernel
theorem dX0_readClause_36 : decode cX0_readClause 36 = .ok (.ldc 95, 2) := by decide +kernel
theorem dX0_readClause_38 : decode cX0_readClause 38 = .ok (.invokevirtual 85, 3) := by decide +kernel
theorem dX0_readClause_41 : decode cX0_readClause 41 = .ok (.istore 7, 2) := by decide +kernel
theorem dX0_readClause_43 : decode cX0_readClause 43 = .ok (.iload_n 3, 1) := by decide +kernel
theorem dX0_readClause_44 : decode cX0_readClause 44 = .ok (.ifCond .ne 44, 3) := by decide +kernel
theorem dX0_readClause_47 : decode cX0_readClause 47 = .ok (.iload 4, 2) := by decide +kernel
theorem dX0_readClause_49 : decode cX0_readClause 49 = .ok (.ifCond .ne 39, 3) := by decide +kernel
theorem dX0_readClause_52 : decode cX0_readClause 52 = .ok (.iload 5, 2) := by decide +kernel
theorem dX0_readClause_54 : decode cX0_readClause 54 = .ok (.ifCond .ne 34, 3) := by decide +kernel
theorem dX0_readClause_57 : decode cX0_readClause 57 = .ok (.iload 6, 2) := by decide +kernel
theorem dX0_readClause_59 : decode cX0_readClause 59 = .ok (.ifCond .ne 29, 3) := by decide +kernel
theorem dX0_readClause_62 : decode cX0_readClause 62 = .ok (.iload 7, 2) := by decide +kernel
theorem dX0_readClause_64 : decode cX0_readClause 64 = .ok (.ifCond .ne 24, 3) := by decide +kernel
theorem dX0_readClause_67 : decode cX0_readClause 67 = .ok (.aload_n 1, 1) := by decide +kernel
theorem dX0_readClause_68 : decode cX0_readClause 68 = .ok (.ldc 97, 2) := by decide +kernel
theorem dX0_readClause_70 : decode cX0_readClause 70 = .ok (.invokevirtual 85, 3) := by decide +kernel
theorem dX0_readClause_73 : decode cX0_readClause 73 = .ok (.ifCond .ne 15, 3) := by decide +kernel
theorem dX0_readClause_76 : decode cX0_readClause 76 = .ok (.aload_n 1, 1) := by decide +kernel
theorem dX0_readClause_77 : decode cX0_readClause 77 = .ok (.iconst 1, 1) := by decide +kernel
theorem dX0_readClause_78 : decode cX0_readClause 78 = .ok (.aload_n 1, 1) := by decide +kernel
theorem dX0_readClause_79 : decode cX0_readClause 79 = .ok (.getfield 98, 3) := by decide +kernel
theorem dX0_readClause_82 : decode cX0_readClause 82 = .ok (.invokevirtual 101, 3) := by decide +kernel
theorem dX0_readClause_85 : decode cX0_readClause 85 = .ok (.goto 164, 3) := by decide +kernel
theorem dX0_readClause_88 : decode cX0_readClause 88 = .ok (.iload_n 2, 1) := by decide +kernel
theorem dX0_readClause_89 : decode cX0_readClause 89 = .ok (.bipush 60, 2) := by decide +kernel
theorem dX0_readClause_91 : decode cX0_readClause 91 = .ok (.if_icmp .ge 17, 3) := by decide +kernel
theorem dX0_readClause_94 : decode cX0_readClause 94 = .ok (.iload 6, 2) := by decide +kernel
theorem dX0_readClause_96 : decode cX0_readClause 96 = .ok (.ifCond .eq 24, 3) := by decide +kernel
theorem dX0_readClause_99 : decode cX0_readClause 99 = .ok (.aload_n 0, 1) := by decide +kernel
theorem dX0_readClause_100 : decode cX0_readClause 100 = .ok (.getfield 52, 3) := by decide +kernel
theorem dX0_readClause_103 : decode cX0_readClause 103 = .ok (.bipush 6, 2) := by decide +kernel
theorem dX0_readClause_105 : decode cX0_readClause 105 = .ok (.if_icmp .lt 15, 3) := by decide +kernel
theorem dX0_readClause_108 : decode cX0_readClause 108 = .ok (.aload_n 1, 1) := by decide +kernel
theorem dX0_readClause_109 : decode cX0_readClause 109 = .ok (.iconst 3, 1) := by decide +kernel
theorem dX0_readClause_110 : decode cX0_readClause 110 = .ok (.aload_n 1, 1) := by decide +kernel
theorem dX0_readClause_111 : decode cX0_readClause 111 = .ok (.getfield 98, 3) := by decide +kernel
theorem dX0_readClause_114 : decode cX0_readClause 114 = .ok (.invokevirtual 101, 3) := by decide +kernel
theorem dX0_readClause_117 : decode cX0_readClause 117 = .ok (.goto 132, 3) := by decide +kernel
theorem dX0_readClause_120 : decode cX0_readClause 120 = .ok (.iload_n 3, 1) := by decide +kernel
theorem dX0_readClause_121 : decode cX0_readClause 121 = .ok (.ifCond .eq 28, 3) := by decide +kernel
theorem dX0_readClause_124 : decode cX0_readClause 124 = .ok (.aload_n 0, 1) := by decide +kernel
theorem dX0_readClause_125 : decode cX0_readClause 125 = .ok (.aload_n 1, 1) := by decide +kernel
theorem dX0_readClause_126 : decode cX0_readClause 126 = .ok (.iconst 2, 1) := by decide +kernel
theorem dX0_readClause_127 : decode cX0_readClause 127 = .ok (.bipush 8, 2) := by decide +kernel
theorem dX0_readClause_129 : decode cX0_readClause 129 = .ok (.invokevirtual 105, 3) := by decide +kernel
theorem dX0_readClause_132 : decode cX0_readClause 132 = .ok (.putfield 9, 3) := by decide +kernel
theorem dX0_readClause_135 : decode cX0_readClause 135 = .ok (.aload_n 0, 1) := by decide +kernel
theorem dX0_readClause_136 : decode cX0_readClause 136 = .ok (.aload_n 1, 1) := by decide +kernel
theorem dX0_readClause_137 : decode cX0_readClause 137 = .ok (.iconst 2, 1) := by decide +kernel
theorem dX0_readClause_138 : decode cX0_readClause 138 = .ok (.bipush 8, 2) := by decide +kernel
theorem dX0_readClause_140 : decode cX0_readClause 140 = .ok (.invokevirtual 105, 3) := by decide +kernel
theorem dX0_readClause_143 : decode cX0_readClause 143 = .ok (.putfield 15, 3) := by decide +kernel
theorem dX0_readClause_146 : decode cX0_readClause 146 = .ok (.goto 103, 3) := by decide +kernel
theorem dX0_readClause_149 : decode cX0_readClause 149 = .ok (.iload 4, 2) := by decide +kernel
theorem dX0_readClause_151 : decode cX0_readClause 151 = .ok (.ifCond .eq 11, 3) := by decide +kernel
theorem dX0_readClause_154 : decode cX0_readClause 154 = .ok (.aload_n 0, 1) := by decide +kernel
theorem dX0_readClause_155 : decode cX0_readClause 155 = .ok (.aload_n 1, 1) := by decide +kernel
theorem dX0_readClause_156 : decode cX0_readClause 156 = .ok (.invokevirtual 109, 3) := by decide +kernel
theorem dX0_readClause_159 : decode cX0_readClause 159 = .ok (.goto 90, 3) := by decide +kernel
theorem dX0_readClause_162 : decode cX0_readClause 162 = .ok (.iload 5, 2) := by decide +kernel
theorem dX0_readClause_164 : decode cX0_readClause 164 = .ok (.ifCond .eq 11, 3) := by decide +kernel
theorem dX0_readClause_167 : decode cX0_readClause 167 = .ok (.aload_n 0, 1) := by decide +kernel
theorem dX0_readClause_168 : decode cX0_readClause 168 = .ok (.aload_n 1, 1) := by decide +kernel
theorem dX0_readClause_169 : decode cX0_readClause 169 = .ok (.invokevirtual 113, 3) := by decide +kernel
theorem dX0_readClause_172 : decode cX0_readClause 172 = .ok (.goto 77, 3) := by decide +kernel
theorem dX0_readClause_175 : decode cX0_readClause 175 = .ok (.iload 6, 2) := by decide +kernel
theorem dX0_readClause_177 : decode cX0_readClause 177 = .ok (.ifCond .eq 48, 3) := by decide +kernel
theorem dX0_readClause_180 : decode cX0_readClause 180 = .ok (.aload_n 0, 1) := by decide +kernel
theorem dX0_readClause_181 : decode cX0_readClause 181 = .ok (.getfield 21, 3) := by decide +kernel
theorem dX0_readClause_184 : decode cX0_readClause 184 = .ok (.aload_n 0, 1) := by decide +kernel
theorem dX0_readClause_185 : decode cX0_readClause 185 = .ok (.getfield 52, 3) := by decide +kernel
theorem dX0_readClause_188 : decode cX0_readClause 188 = .ok (.aload_n 1, 1) := by decide +kernel
theorem dX0_readClause_189 : decode cX0_readClause 189 = .ok (.iconst 0, 1) := by decide +kernel
theorem dX0_readClause_190 : decode cX0_readClause 190 = .ok (.bipush 9, 2) := by decide +kernel
theorem dX0_readClause_192 : decode cX0_readClause 192 = .ok (.invokevirtual 105, 3) := by decide +kernel
theorem dX0_readClause_195 : decode cX0_readClause 195 = .ok (.iastore, 1) := by decide +kernel
theorem dX0_readClause_196 : decode cX0_readClause 196 = .ok (.aload_n 0, 1) := by decide +kernel
theorem dX0_readClause_197 : decode cX0_readClause 197 = .ok (.getfield 25, 3) := by decide +kernel
theorem dX0_readClause_200 : decode cX0_readClause 200 = .ok (.aload_n 0, 1) := by decide +kernel
theorem dX0_readClause_201 : decode cX0_readClause 201 = .ok (.getfield 52, 3) := by decide +kernel
theorem dX0_readClause_204 : decode cX0_readClause 204 = .ok (.aload_n 1, 1) := by decide +kernel
theorem dX0_readClause_205 : decode cX0_readClause 205 = .ok (.iconst 0, 1) := by decide +kernel
theorem dX0_readClause_206 : decode cX0_readClause 206 = .ok (.bipush 60, 2) := by decide +kernel
theorem dX0_readClause_208 : decode cX0_readClause 208 = .ok (.invokevirtual 105, 3) := by decide +kernel
theorem dX0_readClause_211 : decode cX0_readClause 211 = .ok (.iastore, 1) := by decide +kernel
theorem dX0_readClause_212 : decode cX0_readClause 212 = .ok (.aload_n 0, 1) := by decide +kernel
theorem dX0_readClause_213 : decode cX0_readClause 213 = .ok (.dup, 1) := by decide +kernel
theorem dX0_readClause_214 : decode cX0_readClause 214 = .ok (.getfield 52, 3) := by decide +kernel
theorem dX0_readClause_217 : decode cX0_readClause 217 = .ok (.iconst 1, 1) := by decide +kernel
theorem dX0_readClause_218 : decode cX0_readClause 218 = .ok (.iadd, 1) := by decide +kernel
theorem dX0_readClause_219 : decode cX0_readClause 219 = .ok (.putfield 52, 3) := by decide +kernel
theorem dX0_readClause_222 : decode cX0_readClause 222 = .ok (.goto 27, 3) := by decide +kernel
theorem dX0_readClause_225 : decode cX0_readClause 225 = .ok (.iload 7, 2) := by decide +kernel
theorem dX0_readClause_227 : decode cX0_readClause 227 = .ok (.ifCond .eq 11, 3) := by decide +kernel
theorem dX0_readClause_230 : decode cX0_readClause 230 = .ok (.aload_n 0, 1) := by decide +kernel
theorem dX0_readClause_231 : decode cX0_readClause 231 = .ok (.aload_n 1, 1) := by decide +kernel
theorem dX0_readClause_232 : decode cX0_readClause 232 = .ok (.invokevirtual 116, 3) := by decide +kernel
theorem dX0_readClause_235 : decode cX0_readClause 235 = .ok (.goto 14, 3) := by decide +kernel
theorem dX0_readClause_238 : decode cX0_readClause 238 = .ok (.aload_n 0, 1) := by decide +kernel
theorem dX0_readClause_239 : decode cX0_readClause 239 = .ok (.aload_n 1, 1) := by decide +kernel
theorem dX0_readClause_240 : decode cX0_readClause 240 = .ok (.iconst 0, 1) := by decide +kernel
theorem dX0_readClause_241 : decode cX0_readClause 241 = .ok (.bipush 9, 2) := by decide +kernel
theorem dX0_readClause_243 : decode cX0_readClause 243 = .ok (.invokevirtual 105, 3) := by decide +kernel
theorem dX0_readClause_246 : decode cX0_readClause 246 = .ok (.putfield 18, 3) := by decide +kernel
theorem dX0_readClause_249 : decode cX0_readClause 249 = .ok (.aload_n 1, 1) := by decide +kernel
theorem dX0_readClause_250 : decode cX0_readClause 250 = .ok (.bipush 59, 2) := by decide +kernel
theorem dX0_readClause_252 : decode cX0_readClause 252 = .ok (.invokevirtual 119, 3) := by decide +kernel
theorem dX0_readClause_255 : decode cX0_readClause 255 = .ok (.return_, 1) := by decide +kernel
theorem dX0_readPin_0 : decode cX0_readPin 0 = .ok (.aload_n 1, 1) := by decide +kernel
theorem dX0_readPin_1 : decode cX0_readPin 1 = .ok (.iconst 0, 1) := by decide +kernel
theorem dX0_readPin_2 : decode cX0_readPin 2 = .ok (.aload_n 0, 1) := by decide +kernel
theorem dX0_readPin_3 : decode cX0_readPin 3 = .ok (.getfield 52, 3) := by decide +kernel
theorem dX0_readPin_6 : decode cX0_readPin 6 = .ok (.iconst 1, 1) := by decide +kernel
theorem dX0_readPin_7 : decode cX0_readPin 7 = .ok (.isub, 1) := by decide +kernel
theorem dX0_readPin_8 : decode cX0_readPin 8 = .ok (.invokevirtual 105, 3) := by decide +kernel
theorem dX0_readPin_11 : decode cX0_readPin 11 = .ok (.istore_n 2, 1) := by decide +kernel
theorem dX0_readPin_12 : decode cX0_readPin 12 = .ok (.aload_n 1, 1) := by decide +kernel
theorem dX0_readPin_13 : decode cX0_readPin 13 = .ok (.invokevirtual 61, 3) := by decide +kernel
theorem dX0_readPin_16 : decode cX0_readPin 16 = .ok (.ifCond .eq 4, 3) := by decide +kernel
theorem dX0_readPin_19 : decode cX0_readPin 19 = .ok (.return_, 1) := by decide +kernel
theorem dX0_readPin_20 : decode cX0_readPin 20 = .ok (.aload_n 0, 1) := by decide +kernel
theorem dX0_readPin_21 : decode cX0_readPin 21 = .ok (.getfield 28, 3) := by decide +kernel
theorem dX0_readPin_24 : decode cX0_readPin 24 = .ok (.iload_n 2, 1) := by decide +kernel
theorem dX0_readPin_25 : decode cX0_readPin 25 = .ok (.iaload, 1) := by decide +kernel
theorem dX0_readPin_26 : decode cX0_readPin 26 = .ok (.iconst 4, 1) := by decide +kernel
theorem dX0_readPin_27 : decode cX0_readPin 27 = .ok (.if_icmp .lt 13, 3) := by decide +kernel
theorem dX0_readPin_30 : decode cX0_readPin 30 = .ok (.aload_n 1, 1) := by decide +kernel
theorem dX0_readPin_31 : decode cX0_readPin 31 = .ok (.iconst 3, 1) := by decide +kernel
theorem dX0_readPin_32 : decode cX0_readPin 32 = .ok (.aload_n 1, 1) := by decide +kernel
theorem dX0_readPin_33 : decode cX0_readPin 33 = .ok (.getfield 98, 3) := by decide +kernel
theorem dX0_readPin_36 : decode cX0_readPin 36 = .ok (.invokevirtual 101, 3) := by decide +kernel
theorem dX0_readPin_39 : decode cX0_readPin 39 = .ok (.return_, 1) := by decide +kernel
theorem dX0_readPin_40 : decode cX0_readPin 40 = .ok (.aload_n 0, 1) := by decide +kernel
theorem dX0_readPin_41 : decode cX0_readPin 41 = .ok (.aload_n 1, 1) := by decide +kernel
theorem dX0_readPin_42 : decode cX0_readPin 42 = .ok (.invokevirtual 123, 3) := by decide +kernel
theorem dX0_readPin_45 : decode cX0_readPin 45 = .ok (.istore_n 3, 1) := by decide +kernel
theorem dX0_readPin_46 : decode cX0_readPin 46 = .ok (.aload_n 1, 1) := by decide +kernel
theorem dX0_readPin_47 : decode cX0_readPin 47 = .ok (.invokevirtual 61, 3) := by decide +kernel
theorem dX0_readPin_50 : decode cX0_readPin 50 = .ok (.ifCond .ne 29, 3) := by decide +kernel
theorem dX0_readPin_53 : decode cX0_readPin 53 = .ok (.aload_n 0, 1) := by decide +kernel
theorem dX0_readPin_54 : decode cX0_readPin 54 = .ok (.getfield 31, 3) := by decide +kernel
theorem dX0_readPin_57 : decode cX0_readPin 57 = .ok (.iload_n 2, 1) := by decide +kernel
theorem dX0_readPin_58 : decode cX0_readPin 58 = .ok (.iconst 4, 1) := by decide +kernel
theorem dX0_readPin_59 : decode cX0_readPin 59 = .ok (.imul, 1) := by decide +kernel
theorem dX0_readPin_60 : decode cX0_readPin 60 = .ok (.aload_n 0, 1) := by decide +kernel
theorem dX0_readPin_61 : decode cX0_readPin 61 = .ok (.getfield 28, 3) := by decide +kernel
theorem dX0_readPin_64 : decode cX0_readPin 64 = .ok (.iload_n 2, 1) := by decide +kernel
theorem dX0_readPin_65 : decode cX0_readPin 65 = .ok (.iaload, 1) := by decide +kernel
theorem dX0_readPin_66 : decode cX0_readPin 66 = .ok (.iadd, 1) := by decide +kernel
theorem dX0_readPin_67 : decode cX0_readPin 67 = .ok (.iload_n 3, 1) := by decide +kernel
theorem dX0_readPin_68 : decode cX0_readPin 68 = .ok (.iastore, 1) := by decide +kernel
theorem dX0_readPin_69 : decode cX0_readPin 69 = .ok (.aload_n 0, 1) := by decide +kernel
theorem dX0_readPin_70 : decode cX0_readPin 70 = .ok (.getfield 28, 3) := by decide +kernel
theorem dX0_readPin_73 : decode cX0_readPin 73 = .ok (.iload_n 2, 1) := by decide +kernel
theorem dX0_readPin_74 : decode cX0_readPin 74 = .ok (.dup2, 1) := by decide +kernel
theorem dX0_readPin_75 : decode cX0_readPin 75 = .ok (.iaload, 1) := by decide +kernel
theorem dX0_readPin_76 : decode cX0_readPin 76 = .ok (.iconst 1, 1) := by decide +kernel
theorem dX0_readPin_77 : decode cX0_readPin 77 = .ok (.iadd, 1) := by decide +kernel
theorem dX0_readPin_78 : decode cX0_readPin 78 = .ok (.iastore, 1) := by decide +kernel
theorem dX0_readPin_79 : decode cX0_readPin 79 = .ok (.return_, 1) := by decide +kernel
theorem dX0_readPlace_0 : decode cX0_readPlace 0 = .ok (.aload_n 1, 1) := by decide +kernel
theorem dX0_readPlace_1 : decode cX0_readPlace 1 = .ok (.iconst 0, 1) := by decide +kernel
theorem dX0_readPlace_2 : decode cX0_readPlace 2 = .ok (.bipush 7, 2) := by decide +kernel
theorem dX0_readPlace_4 : decode cX0_readPlace 4 = .ok (.invokevirtual 105, 3) := by decide +kernel
theorem dX0_readPlace_7 : decode cX0_readPlace 7 = .ok (.istore_n 2, 1) := by decide +kernel
theorem dX0_readPlace_8 : decode cX0_readPlace 8 = .ok (.aload_n 1, 1) := by decide +kernel
theorem dX0_readPlace_9 : decode cX0_readPlace 9 = .ok (.iconst 0, 1) := by decide +kernel
theorem dX0_readPlace_10 : decode cX0_readPlace 10 = .ok (.bipush 7, 2) := by decide +kernel
theorem dX0_readPlace_12 : decode cX0_readPlace 12 = .ok (.invokevirtual 105, 3) := by decide +kernel
theorem dX0_readPlace_15 : decode cX0_readPlace 15 = .ok (.istore_n 3, 1) := by decide +kernel
theorem dX0_readPlace_16 : decode cX0_readPlace 16 = .ok (.iload_n 3, 1) := by decide +kernel
theorem dX0_readPlace_17 : decode cX0_readPlace 17 = .ok (.bipush 8, 2) := by decide +kernel
theorem dX0_readPlace_19 : decode cX0_readPlace 19 = .ok (.imul, 1) := by decide +kernel
theorem dX0_readPlace_20 : decode cX0_readPlace 20 = .ok (.iload_n 2, 1) := by decide +kernel
theorem dX0_readPlace_21 : decode cX0_readPlace 21 = .ok (.iadd, 1) := by decide +kernel
theorem dX0_readPlace_22 : decode cX0_readPlace 22 = .ok (.ireturn, 1) := by decide +kernel
theorem dX0_readWall_0 : decode cX0_readWall 0 = .ok (.aload_n 0, 1) := by decide +kernel
theorem dX0_readWall_1 : decode cX0_readWall 1 = .ok (.aload_n 1, 1) := by decide +kernel
theorem dX0_readWall_2 : decode cX0_readWall 2 = .ok (.invokevirtual 123, 3) := by decide +kernel
theorem dX0_readWall_5 : decode cX0_readWall 5 = .ok (.istore_n 2, 1) := by decide +kernel
theorem dX0_readWall_6 : decode cX0_readWall 6 = .ok (.aload_n 1, 1) := by decide +kernel
theorem dX0_readWall_7 : decode cX0_readWall 7 = .ok (.invokevirtual 61, 3) := by decide +kernel
theorem dX0_readWall_10 : decode cX0_readWall 10 = .ok (.ifCond .ne 10, 3) := by decide +kernel
theorem dX0_readWall_13 : decode cX0_readWall 13 = .ok (.aload_n 0, 1) := by decide +kernel
theorem dX0_readWall_14 : decode cX0_readWall 14 = .ok (.getfield 40, 3) := by decide +kernel
theorem dX0_readWall_17 : decode cX0_readWall 17 = .ok (.iload_n 2, 1) := by decide +kernel
theorem dX0_readWall_18 : decode cX0_readWall 18 = .ok (.iconst 1, 1) := by decide +kernel
theorem dX0_readWall_19 : decode cX0_readWall 19 = .ok (.iastore, 1) := by decide +kernel
theorem dX0_readWall_20 : decode cX0_readWall 20 = .ok (.return_, 1) := by decide +kernel
theorem dX0_readWide_0 : decode cX0_readWide 0 = .ok (.aload_n 0, 1) := by decide +kernel
theorem dX0_readWide_1 : decode cX0_readWide 1 = .ok (.aload_n 1, 1) := by decide +kernel
theorem dX0_readWide_2 : decode cX0_readWide 2 = .ok (.invokevirtual 123, 3) := by decide +kernel
theorem dX0_readWide_5 : decode cX0_readWide 5 = .ok (.istore_n 2, 1) := by decide +kernel
theorem dX0_readWide_6 : decode cX0_readWide 6 = .ok (.aload_n 1, 1) := by decide +kernel
theorem dX0_readWide_7 : decode cX0_readWide 7 = .ok (.iconst 1, 1) := by decide +kernel
theorem dX0_readWide_8 : decode cX0_readWide 8 = .ok (.iconst 3, 1) := by decide +kernel
theorem dX0_readWide_9 : decode cX0_readWide 9 = .ok (.invokevirtual 105, 3) := by decide +kernel
theorem dX0_readWide_12 : decode cX0_readWide 12 = .ok (.istore_n 3, 1) := by decide +kernel
theorem dX0_readWide_13 : decode cX0_readWide 13 = .ok (.aload_n 1, 1) := by decide +kernel
theorem dX0_readWide_14 : decode cX0_readWide 14 = .ok (.invokevirtual 61, 3) := by decide +kernel
theorem dX0_readWide_17 : decode cX0_readWide 17 = .ok (.ifCond .ne 10, 3) := by decide +kernel
theorem dX0_readWide_20 : decode cX0_readWide 20 = .ok (.aload_n 0, 1) := by decide +kernel
theorem dX0_readWide_21 : decode cX0_readWide 21 = .ok (.getfield 37, 3) := by decide +kernel
theorem dX0_readWide_24 : decode cX0_readWide 24 = .ok (.iload_n 2, 1) := by decide +kernel
theorem dX0_readWide_25 : decode cX0_readWide 25 = .ok (.iload_n 3, 1) := by decide +kernel
theorem dX0_readWide_26 : decode cX0_readWide 26 = .ok (.iastore, 1) := by decide +kernel
theorem dX0_readWide_27 : decode cX0_readWide 27 = .ok (.return_, 1) := by decide +kernel
theorem dX0_rootOf_0 : decode cX0_rootOf 0 = .ok (.aload_n 0, 1) := by decide +kernel
theorem dX0_rootOf_1 : decode cX0_rootOf 1 = .ok (.getfield 31, 3) := by decide +kernel
theorem dX0_rootOf_4 : decode cX0_rootOf 4 = .ok (.iload_n 1, 1) := by decide +kernel
theorem dX0_rootOf_5 : decode cX0_rootOf 5 = .ok (.iconst 4, 1) := by decide +kernel
theorem dX0_rootOf_6 : decode cX0_rootOf 6 = .ok (.imul, 1) := by decide +kernel
theorem dX0_rootOf_7 : decode cX0_rootOf 7 = .ok (.iaload, 1) := by decide +kernel
theorem dX0_rootOf_8 : decode cX0_rootOf 8 = .ok (.ireturn, 1) := by decide +kernel
theorem dX11_closeAgain_0 : decode cX11_closeAgain 0 = .ok (.aload_n 0, 1) := by decide +kernel
theorem dX11_closeAgain_1 : decode cX11_closeAgain 1 = .ok (.dup, 1) := by decide +kernel
theorem dX11_closeAgain_2 : decode cX11_closeAgain 2 = .ok (.getfield 31, 3) := by decide +kernel
theorem dX11_closeAgain_5 : decode cX11_closeAgain 5 = .ok (.iconst 1, 1) := by decide +kernel
theorem dX11_closeAgain_6 : decode cX11_closeAgain 6 = .ok (.isub, 1) := by decide +kernel
theorem dX11_closeAgain_7 : decode cX11_closeAgain 7 = .ok (.putfield 31, 3) := by decide +kernel
theorem dX11_closeAgain_10 : decode cX11_closeAgain 10 = .ok (.aload_n 0, 1) := by decide +kernel
theorem dX11_closeAgain_11 : decode cX11_closeAgain 11 = .ok (.getfield 18, 3) := by decide +kernel
theorem dX11_closeAgain_14 : decode cX11_closeAgain 14 = .ok (.aload_n 0, 1) := by decide +kernel
theorem dX11_closeAgain_15 : decode cX11_closeAgain 15 = .ok (.getfield 21, 3) := by decide +kernel
theorem dX11_closeAgain_18 : decode cX11_closeAgain 18 = .ok (.aload_n 0, 1) := by decide +kernel
theorem dX11_closeAgain_19 : decode cX11_closeAgain 19 = .ok (.getfield 31, 3) := by decide +kernel
theorem dX11_closeAgain_22 : decode cX11_closeAgain 22 = .ok (.iaload, 1) := by decide +kernel
theorem dX11_closeAgain_23 : decode cX11_closeAgain 23 = .ok (.aload_n 0, 1) := by decide +kernel
theorem dX11_closeAgain_24 : decode cX11_closeAgain 24 = .ok (.getfield 27, 3) := by decide +kernel
theorem dX11_closeAgain_27 : decode cX11_closeAgain 27 = .ok (.iastore, 1) := by decide +kernel
theorem dX11_closeAgain_28 : decode cX11_closeAgain 28 = .ok (.aload_n 0, 1) := by decide +kernel
theorem dX11_closeAgain_29 : decode cX11_closeAgain 29 = .ok (.bipush 7, 2) := by decide +kernel
theorem dX11_closeAgain_31 : decode cX11_closeAgain 31 = .ok (.aload_n 0, 1) := by decide +kernel
theorem dX11_closeAgain_32 : decode cX11_closeAgain 32 = .ok (.getfield 21, 3) := by decide +kernel
theorem dX11_closeAgain_35 : decode cX11_closeAgain 35 = .ok (.aload_n 0, 1) := by decide +kernel
theorem dX11_closeAgain_36 : decode cX11_closeAgain 36 = .ok (.getfield 31, 3) := by decide +kernel
theorem dX11_closeAgain_39 : decode cX11_closeAgain 39 = .ok (.iaload, 1) := by decide +kernel
theorem dX11_closeAgain_40 : decode cX11_closeAgain 40 = .ok (.iconst 0, 1) := by decide +kernel
theorem dX11_closeAgain_41 : decode cX11_closeAgain 41 = .ok (.invokevirtual 73, 3) := by decide +kernel
theorem dX11_closeAgain_44 : decode cX11_closeAgain 44 = .ok (.return_, 1) := by decide +kernel
theorem dX11_emit_0 : decode cX11_emit 0 = .ok (.aload_n 0, 1) := by decide +kernel
theorem dX11_emit_1 : decode cX11_emit 1 = .ok (.getfield 27, 3) := by decide +kernel
theorem dX11_emit_4 : decode cX11_emit 4 = .ok (.aload_n 0, 1) := by decide +kernel
theorem dX11_emit_5 : decode cX11_emit 5 = .ok (.getfield 9, 3) := by decide +kernel
theorem dX11_emit_8 : decode cX11_emit 8 = .ok (.arraylength, 1) := by decide +kernel
theorem dX11_emit_9 : decode cX11_emit 9 = .ok (.if_icmp .ge 43, 3) := by decide +kernel
theorem dX11_emit_12 : decode cX11_emit 12 = .ok (.aload_n 0, 1) := by decide +kernel
theorem dX11_emit_13 : decode cX11_emit 13 = .ok (.getfield 9, 3) := by decide +kernel
theorem dX11_emit_16 : decode cX11_emit 16 = .ok (.aload_n 0, 1) := by decide +kernel
theorem dX11_emit_17 : decode cX11_emit 17 = .ok (.getfield 27, 3) := by decide +kernel
theorem dX11_emit_20 : decode cX11_emit 20 = .ok (.iload_n 1, 1) := by decide +kernel
theorem dX11_emit_21 : decode cX11_emit 21 = .ok (.iastore, 1) := by decide +kernel
theorem dX11_emit_22 : decode cX11_emit 22 = .ok (.aload_n 0, 1) := by decide +kernel
theorem dX11_emit_23 : decode cX11_emit 23 = .ok (.getfield 15, 3) := by decide +kernel
theorem dX11_emit_26 : decode cX11_emit 26 = .ok (.aload_n 0, 1) := by decide +kernel
theorem dX11_emit_27 : decode cX11_emit 27 = .ok (.getfield 27, 3) := by decide +kernel
theorem dX11_emit_30 : decode cX11_emit 30 = .ok (.iload_n 2, 1) := by decide +kernel
theorem dX11_emit_31 : decode cX11_emit 31 = .ok (.iastore, 1) := by decide +kernel
theorem dX11_emit_32 : decode cX11_emit 32 = .ok (.aload_n 0, 1) := by decide +kernel
theorem dX11_emit_33 : decode cX11_emit 33 = .ok (.getfield 18, 3) := by decide +kernel
theorem dX11_emit_36 : decode cX11_emit 36 = .ok (.aload_n 0, 1) := by decide +kernel
theorem dX11_emit_37 : decode cX11_emit 37 = .ok (.getfield 27, 3) := by decide +kernel
theorem dX11_emit_40 : decode cX11_emit 40 = .ok (.iload_n 3, 1) := by decide +kernel
theorem dX11_emit_41 : decode cX11_emit 41 = .ok (.iastore, 1) := by decide +kernel
theorem dX11_emit_42 : decode cX11_emit 42 = .ok (.aload_n 0, 1) := by decide +kernel
theorem dX11_emit_43 : decode cX11_emit 43 = .ok (.dup, 1) := by decide +kernel
theorem dX11_emit_44 : decode cX11_emit 44 = .ok (.getfield 27, 3) := by decide +kernel
theorem dX11_emit_47 : decode cX11_emit 47 = .ok (.iconst 1, 1) := by decide +kernel
theorem dX11_emit_48 : decode cX11_emit 48 = .ok (.iadd, 1) := by decide +kernel
theorem dX11_emit_49 : decode cX11_emit 49 = .ok (.putfield 27, 3) := by decide +kernel
theorem dX11_emit_52 : decode cX11_emit 52 = .ok (.return_, 1) := by decide +kernel
theorem dX11_init_0 : decode cX11_init 0 = .ok (.aload_n 0, 1) := by decide +kernel
theorem dX11_init_1 : decode cX11_init 1 = .ok (.invokespecial 3, 3) := by decide +kernel
theorem dX11_init_4 : decode cX11_init 4 = .ok (.aload_n 0, 1) := by decide +kernel
theorem dX11_init_5 : decode cX11_init 5 = .ok (.sipush 150, 3) := by decide +kernel
theorem dX11_init_8 : decode cX11_init 8 = .ok (.newarray .int, 2) := by decide +kernel
theorem dX11_init_10 : decode cX11_init 10 = .ok (.putfield 9, 3) := by decide +kernel
theorem dX11_init_13 : decode cX11_init 13 = .ok (.aload_n 0, 1) := by decide +kernel
theorem dX11_init_14 : decode cX11_init 14 = .ok (.sipush 150, 3) := by decide +kernel
theorem dX11_init_17 : decode cX11_init 17 = .ok (.newarray .int, 2) := by decide +kernel
theorem dX11_init_19 : decode cX11_init 19 = .ok (.putfield 15, 3) := by decide +kernel
theorem dX11_init_22 : decode cX11_init 22 = .ok (.aload_n 0, 1) := by decide +kernel
theorem dX11_init_23 : decode cX11_init 23 = .ok (.sipush 150, 3) := by decide +kernel
theorem dX11_init_26 : decode cX11_init 26 = .ok (.newarray .int, 2) := by decide +kernel
theorem dX11_init_28 : decode cX11_init 28 = .ok (.putfield 18, 3) := by decide +kernel
theorem dX11_init_31 : decode cX11_init 31 = .ok (.aload_n 0, 1) := by decide +kernel
theorem dX11_init_32 : decode cX11_init 32 = .ok (.bipush 6, 2) := by decide +kernel
theorem dX11_init_34 : decode cX11_init 34 = .ok (.newarray .int, 2) := by decide +kernel
theorem dX11_init_36 : decode cX11_init 36 = .ok (.putfield 21, 3) := by decide +kernel
theorem dX11_init_39 : decode cX11_init 39 = .ok (.aload_n 0, 1) := by decide +kernel
theorem dX11_init_40 : decode cX11_init 40 = .ok (.bipush 6, 2) := by decide +kernel
theorem dX11_init_42 : decode cX11_init 42 = .ok (.newarray .int, 2) := by decide +kernel
theorem dX11_init_44 : decode cX11_init 44 = .ok (.putfield 24, 3) := by decide +kernel
theorem dX11_init_47 : decode cX11_init 47 = .ok (.return_, 1) := by decide +kernel
theorem dX11_openAgain_0 : decode cX11_openAgain 0 = .ok (.aload_n 0, 1) := by decide +kernel
theorem dX11_openAgain_1 : decode cX11_openAgain 1 = .ok (.getfield 31, 3) := by decide +kernel
theorem dX11_openAgain_4 : decode cX11_openAgain 4 = .ok (.bipush 6, 2) := by decide +kernel
theorem dX11_openAgain_6 : decode cX11_openAgain 6 = .ok (.if_icmp .lt 13, 3) := by decide +kernel
theorem dX11_openAgain_9 : decode cX11_openAgain 9 = .ok (.aload_n 1, 1) := by decide +kernel
theorem dX11_openAgain_10 : decode cX11_openAgain 10 = .ok (.iconst 3, 1) := by decide +kernel
theorem dX11_openAgain_11 : decode cX11_openAgain 11 = .ok (.aload_n 1, 1) := by decide +kernel
theorem dX11_openAgain_12 : decode cX11_openAgain 12 = .ok (.getfield 102, 3) := by decide +kernel
theorem dX11_openAgain_15 : decode cX11_openAgain 15 = .ok (.invokevirtual 105, 3) := by decide +kernel
theorem dX11_openAgain_18 : decode cX11_openAgain 18 = .ok (.return_, 1) := by decide +kernel
theorem dX11_openAgain_19 : decode cX11_openAgain 19 = .ok (.aload_n 0, 1) := by decide +kernel
theorem dX11_openAgain_20 : decode cX11_openAgain 20 = .ok (.getfield 21, 3) := by decide +kernel
theorem dX11_openAgain_23 : decode cX11_openAgain 23 = .ok (.aload_n 0, 1) := by decide +kernel
theorem dX11_openAgain_24 : decode cX11_openAgain 24 = .ok (.getfield 31, 3) := by decide +kernel
theorem dX11_openAgain_27 : decode cX11_openAgain 27 = .ok (.aload_n 0, 1) := by decide +kernel
theorem dX11_openAgain_28 : decode cX11_openAgain 28 = .ok (.getfield 27, 3) := by decide +kernel
theorem dX11_openAgain_31 : decode cX11_openAgain 31 = .ok (.iastore, 1) := by decide +kernel
theorem dX11_openAgain_32 : decode cX11_openAgain 32 = .ok (.aload_n 0, 1) := by decide +kernel
theorem dX11_openAgain_33 : decode cX11_openAgain 33 = .ok (.dup, 1) := by decide +kernel
theorem dX11_openAgain_34 : decode cX11_openAgain 34 = .ok (.getfield 31, 3) := by decide +kernel
theorem dX11_openAgain_37 : decode cX11_openAgain 37 = .ok (.iconst 1, 1) := by decide +kernel
theorem dX11_openAgain_38 : decode cX11_openAgain 38 = .ok (.iadd, 1) := by decide +kernel
theorem dX11_openAgain_39 : decode cX11_openAgain 39 = .ok (.putfield 31, 3) := by decide +kernel
theorem dX11_openAgain_42 : decode cX11_openAgain 42 = .ok (.aload_n 0, 1) := by decide +kernel
theorem dX11_openAgain_43 : decode cX11_openAgain 43 = .ok (.bipush 6, 2) := by decide +kernel
theorem dX11_openAgain_45 : decode cX11_openAgain 45 = .ok (.aload_n 1, 1) := by decide +kernel
theorem dX11_openAgain_46 : decode cX11_openAgain 46 = .ok (.iconst 0, 1) := by decide +kernel
theorem dX11_openAgain_47 : decode cX11_openAgain 47 = .ok (.bipush 40, 2) := by decide +kernel
theorem dX11_openAgain_49 : decode cX11_openAgain 49 = .ok (.invokevirtual 84, 3) := by decide +kernel
theorem dX11_openAgain_52 : decode cX11_openAgain 52 = .ok (.iconst 0, 1) := by decide +kernel
theorem dX11_openAgain_53 : decode cX11_openAgain 53 = .ok (.invokevirtual 73, 3) := by decide +kernel
theorem dX11_openAgain_56 : decode cX11_openAgain 56 = .ok (.aload_n 1, 1) := by decide +kernel
theorem dX11_openAgain_57 : decode cX11_openAgain 57 = .ok (.bipush 91, 2) := by decide +kernel
theorem dX11_openAgain_59 : decode cX11_openAgain 59 = .ok (.invokevirtual 50, 3) := by decide +kernel
theorem dX11_openAgain_62 : decode cX11_openAgain 62 = .ok (.return_, 1) := by decide +kernel
theorem dX11_read_0 : decode cX11_read 0 = .ok (.aload_n 0, 1) := by decide +kernel
theorem dX11_read_1 : decode cX11_read 1 = .ok (.iconst 0, 1) := by decide +kernel
theorem dX11_read_2 : decode cX11_read 2 = .ok (.putfield 27, 3) := by decide +kernel
theorem dX11_read_5 : decode cX11_read 5 = .ok (.aload_n 0, 1) := by decide +kernel
theorem dX11_read_6 : decode cX11_read 6 = .ok (.iconst 0, 1) := by decide +kernel
theorem dX11_read_7 : decode cX11_read 7 = .ok (.putfield 31, 3) := by decide +kernel
theorem dX11_read_10 : decode cX11_read 10 = .ok (.iconst 0, 1) := by decide +kernel
theorem dX11_read_11 : decode cX11_read 11 = .ok (.istore_n 3, 1) := by decide +kernel
theorem dX11_read_12 : decode cX11_read 12 = .ok (.iload_n 3, 1) := by decide +kernel
theorem dX11_read_13 : decode cX11_read 13 = .ok (.sipush 150, 3) := by decide +kernel
theorem dX11_read_16 : decode cX11_read 16 = .ok (.if_icmp .gt 66, 3) := by decide +kernel
theorem dX11_read_19 : decode cX11_read 19 = .ok (.aload_n 1, 1) := by decide +kernel
theorem dX11_read_20 : decode cX11_read 20 = .ok (.invokevirtual 34, 3) := by decide +kernel
theorem dX11_read_23 : decode cX11_read 23 = .ok (.ifCond .ne 17, 3) := by decide +kernel
theorem dX11_read_26 : decode cX11_read 26 = .ok (.aload_n 0, 1) := by decide +kernel
theorem dX11_read_27 : decode cX11_read 27 = .ok (.getfield 31, 3) := by decide +kernel
theorem dX11_read_30 : decode cX11_read 30 = .ok (.ifCond .ne 11, 3) := by decide +kernel
theorem dX11_read_33 : decode cX11_read 33 = .ok (.aload_n 1, 1) := by decide +kernel
theorem dX11_read_34 : decode cX11_read 34 = .ok (.invokevirtual 40, 3) := by decide +kernel
theorem dX11_read_37 : decode cX11_read 37 = .ok (.ifCond .eq 4, 3) := by decide +kernel
theorem dX11_read_40 : decode cX11_read 40 = .ok (.return_, 1) := by decide +kernel
theorem dX11_read_41 : decode cX11_read 41 = .ok (.aload_n 0, 1) := by decide +kernel
theorem dX11_read_42 : decode cX11_read 42 = .ok (.getfield 31, 3) := by decide +kernel
theorem dX11_read_45 : decode cX11_read 45 = .ok (.ifCond .le 25, 3) := by decide +kernel
theorem dX11_read_48 : decode cX11_read 48 = .ok (.aload_n 1, 1) := by decide +kernel
theorem dX11_read_49 : decode cX11_read 49 = .ok (.bipush 93, 2) := by decide +kernel
theorem dX11_read_51 : decode cX11_read 51 = .ok (.invokevirtual 43, 3) := by decide +kernel
theorem dX11_read_54 : decode cX11_read 54 = .ok (.ifCond .eq 16, 3) := by decide +kernel
theorem dX11_read_57 : decode cX11_read 57 = .ok (.aload_n 0, 1) := by decide +kernel
theorem dX11_read_58 : decode cX11_read 58 = .ok (.invokevirtual 47, 3) := by decide +kernel
theorem dX11_read_61 : decode cX11_read 61 = .ok (.aload_n 1, 1) := by decide +kernel
theorem dX11_read_62 : decode cX11_read 62 = .ok (.bipush 59, 2) := by decide +kernel
theorem dX11_read_64 : decode cX11_read 64 = .ok (.invokevirtual 50, 3) := by decide +kernel
theorem dX11_read_67 : decode cX11_read 67 = .ok (.goto 9, 3) := by decide +kernel
theorem dX11_read_70 : decode cX11_read 70 = .ok (.aload_n 0, 1) := by decide +kernel
theorem dX11_read_71 : decode cX11_read 71 = .ok (.aload_n 1, 1) := by decide +kernel
theorem dX11_read_72 : decode cX11_read 72 = .ok (.aload_n 2, 1) := by decide +kernel
theorem dX11_read_73 : decode cX11_read 73 = .ok (.invokevirtual 54, 3) := by decide +kernel
theorem dX11_read_76 : decode cX11_read 76 = .ok (.iinc 3 1, 3) := by decide +kernel
theorem dX11_read_79 : decode cX11_read 79 = .ok (.goto (-67), 3) := by decide +kernel
theorem dX11_read_82 : decode cX11_read 82 = .ok (.return_, 1) := by decide +kernel
theorem dX11_readStep_0 : decode cX11_readStep 0 = .ok (.aload_n 1, 1) := by decide +kernel
theorem dX11_readStep_1 : decode cX11_readStep 1 = .ok (.invokevirtual 58, 3) := by decide +kernel
theorem dX11_readStep_4 : decode cX11_readStep 4 = .ok (.aload_n 1, 1) := by decide +kernel
theorem dX11_readStep_5 : decode cX11_readStep 5 = .ok (.ldc 61, 2) := by decide +kernel
theorem dX11_readStep_7 : decode cX11_readStep 7 = .ok (.invokevirtual 63, 3) := by decide +kernel
theorem dX11_readStep_10 : decode cX11_readStep 10 = .ok (.ifCond .eq 9, 3) := by decide +kernel
theorem dX11_readStep_13 : decode cX11_readStep 13 = .ok (.aload_n 0, 1) := by decide +kernel
theorem dX11_readStep_14 : decode cX11_readStep 14 = .ok (.aload_n 1, 1) := by decide +kernel
theorem dX11_readStep_15 : decode cX11_readStep 15 = .ok (.invokevirtual 67, 3) := by decide +kernel
theorem dX11_readStep_18 : decode cX11_readStep 18 = .ok (.return_, 1) := by decide +kernel
theorem dX11_readStep_19 : decode cX11_readStep 19 = .ok (.aload_n 1, 1) := by decide +kernel
theorem dX11_readStep_20 : decode cX11_readStep 20 = .ok (.ldc 71, 2) := by decide +kernel
theorem dX11_readStep_22 : decode cX11_readStep 22 = .ok (.invokevirtual 63, 3) := by decide +kernel
theorem dX11_readStep_25 : decode cX11_readStep 25 = .ok (.ifCond .eq 13, 3) := by decide +kernel
theorem dX11_readStep_28 : decode cX11_readStep 28 = .ok (.aload_n 0, 1) := by decide +kernel
theorem dX11_readStep_29 : decode cX11_readStep 29 = .ok (.iconst 0, 1) := by decide +kernel
theorem dX11_readStep_30 : decode cX11_readStep 30 = .ok (.iconst 0, 1) := by decide +kernel
theorem dX11_readStep_31 : decode cX11_readStep 31 = .ok (.iconst 0, 1) := by decide +kernel
theorem dX11_readStep_32 : decode cX11_readStep 32 = .ok (.invokevirtual 73, 3) := by decide +kernel
theorem dX11_readStep_35 : decode cX11_readStep 35 = .ok (.goto 173, 3) := by decide +kernel
theorem dX11_readStep_38 : decode cX11_readStep 38 = .ok (.aload_n 1, 1) := by decide +kernel
theorem dX11_readStep_39 : decode cX11_readStep 39 = .ok (.ldc 77, 2) := by decide +kernel
theorem dX11_readStep_41 : decode cX11_readStep 41 = .ok (.invokevirtual 63, 3) := by decide +kernel
theorem dX11_readStep_44 : decode cX11_readStep 44 = .ok (.ifCond .eq 23, 3) := by decide +kernel
theorem dX11_readStep_47 : decode cX11_readStep 47 = .ok (.aload_n 0, 1) := by decide +kernel
theorem dX11_readStep_48 : decode cX11_readStep 48 = .ok (.iconst 1, 1) := by decide +kernel
theorem dX11_readStep_49 : decode cX11_readStep 49 = .ok (.aload_n 1, 1) := by decide +kernel
theorem dX11_readStep_50 : decode cX11_readStep 50 = .ok (.iconst 0, 1) := by decide +kernel
theorem dX11_readStep_51 : decode cX11_readStep 51 = .ok (.aload_n 2, 1) := by decide +kernel
theorem dX11_readStep_52 : decode cX11_readStep 52 = .ok (.getfield 79, 3) := by decide +kernel
theorem dX11_readStep_55 : decode cX11_readStep 55 = .ok (.iconst 1, 1) := by decide +kernel
theorem dX11_readStep_56 : decode cX11_readStep 56 = .ok (.isub, 1) := by decide +kernel
theorem dX11_readStep_57 : decode cX11_readStep 57 = .ok (.invokevirtual 84, 3) := by decide +kernel
theorem dX11_readStep_60 : decode cX11_readStep 60 = .ok (.iconst 0, 1) := by decide +kernel
theorem dX11_readStep_61 : decode cX11_readStep 61 = .ok (.invokevirtual 73, 3) := by decide +kernel
theorem dX11_readStep_64 : decode cX11_readStep 64 = .ok (.goto 144, 3) := by decide +kernel
theorem dX11_readStep_67 : decode cX11_readStep 67 = .ok (.aload_n 1, 1) := by decide +kernel
theorem dX11_readStep_68 : decode cX11_readStep 68 = .ok (.ldc 88, 2) := by decide +kernel
theorem dX11_readStep_70 : decode cX11_readStep 70 = .ok (.invokevirtual 63, 3) := by decide +kernel
theorem dX11_readStep_73 : decode cX11_readStep 73 = .ok (.ifCond .eq 23, 3) := by decide +kernel
theorem dX11_readStep_76 : decode cX11_readStep 76 = .ok (.aload_n 0, 1) := by decide +kernel
theorem dX11_readStep_77 : decode cX11_readStep 77 = .ok (.iconst 2, 1) := by decide +kernel
theorem dX11_readStep_78 : decode cX11_readStep 78 = .ok (.aload_n 1, 1) := by decide +kernel
theorem dX11_readStep_79 : decode cX11_readStep 79 = .ok (.iconst 0, 1) := by decide +kernel
theorem dX11_readStep_80 : decode cX11_readStep 80 = .ok (.aload_n 2, 1) := by decide +kernel
theorem dX11_readStep_81 : decode cX11_readStep 81 = .ok (.getfield 79, 3) := by decide +kernel
theorem dX11_readStep_84 : decode cX11_readStep 84 = .ok (.iconst 1, 1) := by decide +kernel
theorem dX11_readStep_85 : decode cX11_readStep 85 = .ok (.isub, 1) := by decide +kernel
theorem dX11_readStep_86 : decode cX11_readStep 86 = .ok (.invokevirtual 84, 3) := by decide +kernel
theorem dX11_readStep_89 : decode cX11_readStep 89 = .ok (.iconst 0, 1) := by decide +kernel
theorem dX11_readStep_90 : decode cX11_readStep 90 = .ok (.invokevirtual 73, 3) := by decide +kernel
theorem dX11_readStep_93 : decode cX11_readStep 93 = .ok (.goto 115, 3) := by decide +kernel
theorem dX11_readStep_96 : decode cX11_readStep 96 = .ok (.aload_n 1, 1) := by decide +kernel
theorem dX11_readStep_97 : decode cX11_readStep 97 = .ok (.ldc 90, 2) := by decide +kernel
theorem dX11_readStep_99 : decode cX11_readStep 99 = .ok (.invokevirtual 63, 3) := by decide +kernel
theorem dX11_readStep_102 : decode cX11_readStep 102 = .ok (.ifCond .eq 31, 3) := by decide +kernel
theorem dX11_readStep_105 : decode cX11_readStep 105 = .ok (.aload_n 1, 1) := by decide +kernel
theorem dX11_readStep_106 : decode cX11_readStep 106 = .ok (.iconst 0, 1) := by decide +kernel
theorem dX11_readStep_107 : decode cX11_readStep 107 = .ok (.aload_n 2, 1) := by decide +kernel
theorem dX11_readStep_108 : decode cX11_readStep 108 = .ok (.getfield 79, 3) := by decide +kernel
theorem dX11_readStep_111 : decode cX11_readStep 111 = .ok (.iconst 1, 1) := by decide +kernel
theorem dX11_readStep_112 : decode cX11_readStep 112 = .ok (.isub, 1) := by decide +kernel
theorem dX11_readStep_113 : decode cX11_readStep 113 = .ok (.invokevirtual 84, 3) := by decide +kernel
theorem dX11_readStep_116 : decode cX11_readStep 116 = .ok (.istore_n 3, 1) := by decide +kernel
theorem dX11_readStep_117 : decode cX11_readStep 117 = .ok (.aload_n 0, 1) := by decide +kernel
theorem dX11_readStep_118 : decode cX11_readStep 118 = .ok (.iconst 3, 1) := by decide +kernel
theorem dX11_readStep_119 : decode cX11_readStep 119 = .ok (.iload_n 3, 1) := by decide +kernel
theorem dX11_readStep_120 : decode cX11_readStep 120 = .ok (.aload_n 1, 1) := by decide +kernel
theorem dX11_readStep_121 : decode cX11_readStep 121 = .ok (.iconst 0, 1) := by decide +kernel
theorem dX11_readStep_122 : decode cX11_readStep 122 = .ok (.bipush 9, 2) := by decide +kernel
theorem dX11_readStep_124 : decode cX11_readStep 124 = .ok (.invokevirtual 84, 3) := by decide +kernel
theorem dX11_readStep_127 : decode cX11_readStep 127 = .ok (.invokevirtual 73, 3) := by decide +kernel
theorem dX11_readStep_130 : decode cX11_readStep 130 = .ok (.goto 78, 3) := by decide +kernel
theorem dX11_readStep_133 : decode cX11_readStep 133 = .ok (.aload_n 1, 1) := by decide +kernel
theorem dX11_readStep_134 : decode cX11_readStep 134 = .ok (.ldc 92, 2) := by decide +kernel
theorem dX11_readStep_136 : decode cX11_readStep 136 = .ok (.invokevirtual 63, 3) := by decide +kernel
theorem dX11_readStep_139 : decode cX11_readStep 139 = .ok (.ifCond .eq 35, 3) := by decide +kernel
theorem dX11_readStep_142 : decode cX11_readStep 142 = .ok (.aload_n 1, 1) := by decide +kernel
theorem dX11_readStep_143 : decode cX11_readStep 143 = .ok (.iconst 0, 1) := by decide +kernel
theorem dX11_readStep_144 : decode cX11_readStep 144 = .ok (.aload_n 2, 1) := by decide +kernel
theorem dX11_readStep_145 : decode cX11_readStep 145 = .ok (.getfield 94, 3) := by decide +kernel
theorem dX11_readStep_148 : decode cX11_readStep 148 = .ok (.iconst 1, 1) := by decide +kernel
theorem dX11_readStep_149 : decode cX11_readStep 149 = .ok (.isub, 1) := by decide +kernel
theorem dX11_readStep_150 : decode cX11_readStep 150 = .ok (.invokevirtual 84, 3) := by decide +kernel
theorem dX11_readStep_153 : decode cX11_readStep 153 = .ok (.istore_n 3, 1) := by decide +kernel
theorem dX11_readStep_154 : decode cX11_readStep 154 = .ok (.aload_n 0, 1) := by decide +kernel
theorem dX11_readStep_155 : decode cX11_readStep 155 = .ok (.iconst 4, 1) := by decide +kernel
theorem dX11_readStep_156 : decode cX11_readStep 156 = .ok (.iload_n 3, 1) := by decide +kernel
theorem dX11_readStep_157 : decode cX11_readStep 157 = .ok (.aload_n 1, 1) := by decide +kernel
theorem dX11_readStep_158 : decode cX11_readStep 158 = .ok (.iconst 0, 1) := by decide +kernel
theorem dX11_readStep_159 : decode cX11_readStep 159 = .ok (.aload_n 2, 1) := by decide +kernel
theorem dX11_readStep_160 : decode cX11_readStep 160 = .ok (.getfield 97, 3) := by decide +kernel
theorem dX11_readStep_163 : decode cX11_readStep 163 = .ok (.iconst 1, 1) := by decide +kernel
theorem dX11_readStep_164 : decode cX11_readStep 164 = .ok (.isub, 1) := by decide +kernel
theorem dX11_readStep_165 : decode cX11_readStep 165 = .ok (.invokevirtual 84, 3) := by decide +kernel
theorem dX11_readStep_168 : decode cX11_readStep 168 = .ok (.invokevirtual 73, 3) := by decide +kernel
theorem dX11_readStep_171 : decode cX11_readStep 171 = .ok (.goto 37, 3) := by decide +kernel
theorem dX11_readStep_174 : decode cX11_readStep 174 = .ok (.aload_n 1, 1) := by decide +kernel
theorem dX11_readStep_175 : decode cX11_readStep 175 = .ok (.ldc 100, 2) := by decide +kernel
theorem dX11_readStep_177 : decode cX11_readStep 177 = .ok (.invokevirtual 63, 3) := by decide +kernel
theorem dX11_readStep_180 : decode cX11_readStep 180 = .ok (.ifCond .eq 19, 3) := by decide +kernel
theorem dX11_readStep_183 : decode cX11_readStep 183 = .ok (.aload_n 0, 1) := by decide +kernel
theorem dX11_readStep_184 : decode cX11_readStep 184 = .ok (.iconst 5, 1) := by decide +kernel
theorem dX11_readStep_185 : decode cX11_readStep 185 = .ok (.aload_n 1, 1) := by decide +kernel
theorem dX11_readStep_186 : decode cX11_readStep 186 = .ok (.iconst 1, 1) := by decide +kernel
theorem dX11_readStep_187 : decode cX11_readStep 187 = .ok (.bipush 99, 2) := by decide +kernel
theorem dX11_readStep_189 : decode cX11_readStep 189 = .ok (.invokevirtual 84, 3) := by decide +kernel
theorem dX11_readStep_192 : decode cX11_readStep 192 = .ok (.iconst 0, 1) := by decide +kernel
theorem dX11_readStep_193 : decode cX11_readStep 193 = .ok (.invokevirtual 73, 3) := by decide +kernel
theorem dX11_readStep_196 : decode cX11_readStep 196 = .ok (.goto 12, 3) := by decide +kernel
theorem dX11_readStep_199 : decode cX11_readStep 199 = .ok (.aload_n 1, 1) := by decide +kernel
theorem dX11_readStep_200 : decode cX11_readStep 200 = .ok (.iconst 1, 1) := by decide +kernel
theorem dX11_readStep_201 : decode cX11_readStep 201 = .ok (.aload_n 1, 1) := by decide +kernel
theorem dX11_readStep_202 : decode cX11_readStep 202 = .ok (.getfield 102, 3) := by decide +kernel
theorem dX11_readStep_205 : decode cX11_readStep 205 = .ok (.invokevirtual 105, 3) := by decide +kernel
theorem dX11_readStep_208 : decode cX11_readStep 208 = .ok (.aload_n 1, 1) := by decide +kernel
theorem dX11_readStep_209 : decode cX11_readStep 209 = .ok (.bipush 59, 2) := by decide +kernel
theorem dX11_readStep_211 : decode cX11_readStep 211 = .ok (.invokevirtual 50, 3) := by decide +kernel
theorem dX11_readStep_214 : decode cX11_readStep 214 = .ok (.return_, 1) := by decide +kernel
theorem dX11_run_0 : decode cX11_run 0 = .ok (.iconst 0, 1) := by decide +kernel
theorem dX11_run_1 : decode cX11_run 1 = .ok (.istore_n 3, 1) := by decide +kernel
theorem dX11_run_2 : decode cX11_run 2 = .ok (.iconst 0, 1) := by decide +kernel
theorem dX11_run_3 : decode cX11_run 3 = .ok (.istore 4, 2) := by decide +kernel
theorem dX11_run_5 : decode cX11_run 5 = .ok (.iconst 0, 1) := by decide +kernel
theorem dX11_run_6 : decode cX11_run 6 = .ok (.istore 5, 2) := by decide +kernel
theorem dX11_run_8 : decode cX11_run 8 = .ok (.iconst 0, 1) := by decide +kernel
theorem dX11_run_9 : decode cX11_run 9 = .ok (.istore 6, 2) := by decide +kernel
theorem dX11_run_11 : decode cX11_run 11 = .ok (.aload_n 0, 1) := by decide +kernel
theorem dX11_run_12 : decode cX11_run 12 = .ok (.iconst 0, 1) := by decide +kernel
theorem dX11_run_13 : decode cX11_run 13 = .ok (.putfield 109, 3) := by decide +kernel
theorem dX11_run_16 : decode cX11_run 16 = .ok (.iconst 0, 1) := by decide +kernel
theorem dX11_run_17 : decode cX11_run 17 = .ok (.istore 7, 2) := by decide +kernel
theorem dX11_run_19 : decode cX11_run 19 = .ok (.iload 7, 2) := by decide +kernel
theorem dX11_run_21 : decode cX11_run 21 = .ok (.sipush 10000, 3) := by decide +kernel
theorem dX11_run_24 : decode cX11_run 24 = .ok (.if_icmp .ge 233, 3) := by decide +kernel
theorem dX11_run_27 : decode cX11_run 27 = .ok (.iload 6, 2) := by decide +kernel
theorem dX11_run_29 : decode cX11_run 29 = .ok (.aload_n 0, 1) := by decide +kernel
theorem dX11_run_30 : decode cX11_run 30 = .ok (.getfield 27, 3) := by decide +kernel
theorem dX11_run_33 : decode cX11_run 33 = .ok (.if_icmp .ge 224, 3) := by decide +kernel
theorem dX11_run_36 : decode cX11_run 36 = .ok (.aload_n 0, 1) := by decide +kernel
theorem dX11_run_37 : decode cX11_run 37 = .ok (.getfield 9, 3) := by decide +kernel
theorem dX11_run_40 : decode cX11_run 40 = .ok (.iload 6, 2) := by decide +kernel
theorem dX11_run_42 : decode cX11_run 42 = .ok (.iaload, 1) := by decide +kernel
theorem dX11_run_43 : decode cX11_run 43 = .ok (.istore 8, 2) := by decide +kernel
theorem dX11_run_45 : decode cX11_run 45 = .ok (.iload 8, 2) := by decide +kernel
theorem dX11_run_47 : decode cX11_run 47 = .ok (.bipush 7, 2) := by decide +kernel
theorem dX11_run_49 : decode cX11_run 49 = .ok (.if_icmp .ne 81, 3) := by decide +kernel
theorem dX11_run_52 : decode cX11_run 52 = .ok (.iload 5, 2) := by decide +kernel
theorem dX11_run_54 : decode cX11_run 54 = .ok (.ifCond .le 76, 3) := by decide +kernel
theorem dX11_run_57 : decode cX11_run 57 = .ok (.aload_n 0, 1) := by decide +kernel
theorem dX11_run_58 : decode cX11_run 58 = .ok (.getfield 24, 3) := by decide +kernel
theorem dX11_run_61 : decode cX11_run 61 = .ok (.iload 5, 2) := by decide +kernel
theorem dX11_run_63 : decode cX11_run 63 = .ok (.iconst 1, 1) := by decide +kernel
theorem dX11_run_64 : decode cX11_run 64 = .ok (.isub, 1) := by decide +kernel
theorem dX11_run_65 : decode cX11_run 65 = .ok (.dup2, 1) := by decide +kernel
theorem dX11_run_66 : decode cX11_run 66 = .ok (.iaload, 1) := by decide +kernel
theorem dX11_run_67 : decode cX11_run 67 = .ok (.iconst 1, 1) := by decide +kernel
theorem dX11_run_68 : decode cX11_run 68 = .ok (.isub, 1) := by decide +kernel
theorem dX11_run_69 : decode cX11_run 69 = .ok (.iastore, 1) := by decide +kernel
theorem dX11_run_70 : decode cX11_run 70 = .ok (.aload_n 0, 1) := by decide +kernel
theorem dX11_run_71 : decode cX11_run 71 = .ok (.getfield 24, 3) := by decide +kernel
theorem dX11_run_74 : decode cX11_run 74 = .ok (.iload 5, 2) := by decide +kernel
theorem dX11_run_76 : decode cX11_run 76 = .ok (.iconst 1, 1) := by decide +kernel
theorem dX11_run_77 : decode cX11_run 77 = .ok (.isub, 1) := by decide +kernel
theorem dX11_run_78 : decode cX11_run 78 = .ok (.iaload, 1) := by decide +kernel
theorem dX11_run_79 : decode cX11_run 79 = .ok (.ifCond .le 7, 3) := by decide +kernel
theorem dX11_run_82 : decode cX11_run 82 = .ok (.iconst 1, 1) := by decide +kernel
theorem dX11_run_83 : decode cX11_run 83 = .ok (.goto 4, 3) := by decide +kernel
theorem dX11_run_86 : decode cX11_run 86 = .ok (.iconst 0, 1) := by decide +kernel
theorem dX11_run_87 : decode cX11_run 87 = .ok (.istore 9, 2) := by decide +kernel
theorem dX11_run_89 : decode cX11_run 89 = .ok (.iload 5, 2) := by decide +kernel
theorem dX11_run_91 : decode cX11_run 91 = .ok (.iload 9, 2) := by decide +kernel
theorem dX11_run_93 : decode cX11_run 93 = .ok (.ifCond .eq 7, 3) := by decide +kernel
theorem dX11_run_96 : decode cX11_run 96 = .ok (.iconst 0, 1) := by decide +kernel
theorem dX11_run_97 : decode cX11_run 97 = .ok (.goto 4, 3) := by decide +kernel
theorem dX11_run_100 : decode cX11_run 100 = .ok (.iconst 1, 1) := by decide +kernel
theorem dX11_run_101 : decode cX11_run 101 = .ok (.isub, 1) := by decide +kernel
theorem dX11_run_102 : decode cX11_run 102 = .ok (.istore 5, 2) := by decide +kernel
theorem dX11_run_104 : decode cX11_run 104 = .ok (.iload 9, 2) := by decide +kernel
theorem dX11_run_106 : decode cX11_run 106 = .ok (.ifCond .eq 15, 3) := by decide +kernel
theorem dX11_run_109 : decode cX11_run 109 = .ok (.aload_n 0, 1) := by decide +kernel
theorem dX11_run_110 : decode cX11_run 110 = .ok (.getfield 15, 3) := by decide +kernel
theorem dX11_run_113 : decode cX11_run 113 = .ok (.iload 6, 2) := by decide +kernel
theorem dX11_run_115 : decode cX11_run 115 = .ok (.iaload, 1) := by decide +kernel
theorem dX11_run_116 : decode cX11_run 116 = .ok (.iconst 1, 1) := by decide +kernel
theorem dX11_run_117 : decode cX11_run 117 = .ok (.iadd, 1) := by decide +kernel
theorem dX11_run_118 : decode cX11_run 118 = .ok (.goto 7, 3) := by decide +kernel
theorem dX11_run_121 : decode cX11_run 121 = .ok (.iload 6, 2) := by decide +kernel
theorem dX11_run_123 : decode cX11_run 123 = .ok (.iconst 1, 1) := by decide +kernel
theorem dX11_run_124 : decode cX11_run 124 = .ok (.iadd, 1) := by decide +kernel
theorem dX11_run_125 : decode cX11_run 125 = .ok (.istore 6, 2) := by decide +kernel
theorem dX11_run_127 : decode cX11_run 127 = .ok (.goto 124, 3) := by decide +kernel
theorem dX11_run_130 : decode cX11_run 130 = .ok (.iload_n 3, 1) := by decide +kernel
theorem dX11_run_131 : decode cX11_run 131 = .ok (.sipush 200, 3) := by decide +kernel
theorem dX11_run_134 : decode cX11_run 134 = .ok (.if_icmp .lt 6, 3) := by decide +kernel
theorem dX11_run_137 : decode cX11_run 137 = .ok (.goto 120, 3) := by decide +kernel
theorem dX11_run_140 : decode cX11_run 140 = .ok (.iinc 3 1, 3) := by decide +kernel
theorem dX11_run_143 : decode cX11_run 143 = .ok (.iload 8, 2) := by decide +kernel
theorem dX11_run_145 : decode cX11_run 145 = .ok (.bipush 6, 2) := by decide +kernel
theorem dX11_run_147 : decode cX11_run 147 = .ok (.if_icmp .ne 27, 3) := by decide +kernel
theorem dX11_run_150 : decode cX11_run 150 = .ok (.aload_n 0, 1) := by decide +kernel
theorem dX11_run_151 : decode cX11_run 151 = .ok (.getfield 15, 3) := by decide +kernel
theorem dX11_run_154 : decode cX11_run 154 = .ok (.iload 6, 2) := by decide +kernel
theorem dX11_run_156 : decode cX11_run 156 = .ok (.iaload, 1) := by decide +kernel
theorem dX11_run_157 : decode cX11_run 157 = .ok (.ifCond .ne 17, 3) := by decide +kernel
theorem dX11_run_160 : decode cX11_run 160 = .ok (.aload_n 0, 1) := by decide +kernel
theorem dX11_run_161 : decode cX11_run 161 = .ok (.getfield 18, 3) := by decide +kernel
theorem dX11_run_164 : decode cX11_run 164 = .ok (.iload 6, 2) := by decide +kernel
theorem dX11_run_166 : decode cX11_run 166 = .ok (.iaload, 1) := by decide +kernel
theorem dX11_run_167 : decode cX11_run 167 = .ok (.iconst 1, 1) := by decide +kernel
theorem dX11_run_168 : decode cX11_run 168 = .ok (.iadd, 1) := by decide +kernel
theorem dX11_run_169 : decode cX11_run 169 = .ok (.istore 6, 2) := by decide +kernel
theorem dX11_run_171 : decode cX11_run 171 = .ok (.goto 80, 3) := by decide +kernel
theorem dX11_run_174 : decode cX11_run 174 = .ok (.iload 8, 2) := by decide +kernel
theorem dX11_run_176 : decode cX11_run 176 = .ok (.bipush 6, 2) := by decide +kernel
theorem dX11_run_178 : decode cX11_run 178 = .ok (.if_icmp .ne 30, 3) := by decide +kernel
theorem dX11_run_181 : decode cX11_run 181 = .ok (.iload 5, 2) := by decide +kernel
theorem dX11_run_183 : decode cX11_run 183 = .ok (.bipush 6, 2) := by decide +kernel
theorem dX11_run_185 : decode cX11_run 185 = .ok (.if_icmp .ge 23, 3) := by decide +kernel
theorem dX11_run_188 : decode cX11_run 188 = .ok (.aload_n 0, 1) := by decide +kernel
theorem dX11_run_189 : decode cX11_run 189 = .ok (.getfield 24, 3) := by decide +kernel
theorem dX11_run_192 : decode cX11_run 192 = .ok (.iload 5, 2) := by decide +kernel
theorem dX11_run_194 : decode cX11_run 194 = .ok (.aload_n 0, 1) := by decide +kernel
theorem dX11_run_195 : decode cX11_run 195 = .ok (.getfield 15, 3) := by decide +kernel
theorem dX11_run_198 : decode cX11_run 198 = .ok (.iload 6, 2) := by decide +kernel
theorem dX11_run_200 : decode cX11_run 200 = .ok (.iaload, 1) := by decide +kernel
theorem dX11_run_201 : decode cX11_run 201 = .ok (.iastore, 1) := by decide +kernel
theorem dX11_run_202 : decode cX11_run 202 = .ok (.iinc 5 1, 3) := by decide +kernel
theorem dX11_run_205 : decode cX11_run 205 = .ok (.goto 43, 3) := by decide +kernel
theorem dX11_run_208 : decode cX11_run 208 = .ok (.aload_n 1, 1) := by decide +kernel
theorem dX11_run_209 : decode cX11_run 209 = .ok (.aload_n 2, 1) := by decide +kernel
theorem dX11_run_210 : decode cX11_run 210 = .ok (.iload 8, 2) := by decide +kernel
theorem dX11_run_212 : decode cX11_run 212 = .ok (.aload_n 0, 1) := by decide +kernel
theorem dX11_run_213 : decode cX11_run 213 = .ok (.getfield 15, 3) := by decide +kernel
theorem dX11_run_216 : decode cX11_run 216 = .ok (.iload 6, 2) := by decide +kernel
theorem dX11_run_218 : decode cX11_run 218 = .ok (.iaload, 1) := by decide +kernel
theorem dX11_run_219 : decode cX11_run 219 = .ok (.aload_n 0, 1) := by decide +kernel
theorem dX11_run_220 : decode cX11_run 220 = .ok (.getfield 18, 3) := by decide +kernel
theorem dX11_run_223 : decode cX11_run 223 = .ok (.iload 6, 2) := by decide +kernel
theorem dX11_run_225 : decode cX11_run 225 = .ok (.iaload, 1) := by decide +kernel
theorem dX11_run_226 : decode cX11_run 226 = .ok (.invokevirtual 112, 3) := by decide +kernel
theorem dX11_run_229 : decode cX11_run 229 = .ok (.ifCond .eq 9, 3) := by decide +kernel
theorem dX11_run_232 : decode cX11_run 232 = .ok (.iinc 4 1, 3) := by decide +kernel
theorem dX11_run_235 : decode cX11_run 235 = .ok (.goto 13, 3) := by decide +kernel
theorem dX11_run_238 : decode cX11_run 238 = .ok (.aload_n 0, 1) := by decide +kernel
theorem dX11_run_239 : decode cX11_run 239 = .ok (.dup, 1) := by decide +kernel
theorem dX11_run_240 : decode cX11_run 240 = .ok (.getfield 109, 3) := by decide +kernel
theorem dX11_run_243 : decode cX11_run 243 = .ok (.iconst 1, 1) := by decide +kernel
theorem dX11_run_244 : decode cX11_run 244 = .ok (.iadd, 1) := by decide +kernel
theorem dX11_run_245 : decode cX11_run 245 = .ok (.putfield 109, 3) := by decide +kernel
theorem dX11_run_248 : decode cX11_run 248 = .ok (.iinc 6 1, 3) := by decide +kernel
theorem dX11_run_251 : decode cX11_run 251 = .ok (.iinc 7 1, 3) := by decide +kernel
theorem dX11_run_254 : decode cX11_run 254 = .ok (.goto (-235), 3) := by decide +kernel
theorem dX11_run_257 : decode cX11_run 257 = .ok (.iload 4, 2) := by decide +kernel
theorem dX11_run_259 : decode cX11_run 259 = .ok (.ireturn, 1) := by decide +kernel
theorem dX2_biggestGroup_0 : decode cX2_biggestGroup 0 = .ok (.aload_n 0, 1) := by decide +kernel
theorem dX2_biggestGroup_1 : decode cX2_biggestGroup 1 = .ok (.getfield 18, 3) := by decide +kernel
theorem dX2_biggestGroup_4 : decode cX2_biggestGroup 4 = .ok (.iconst 0, 1) := by decide +kernel
theorem dX2_biggestGroup_5 : decode cX2_biggestGroup 5 = .ok (.invokestatic 69, 3) := by decide +kernel
theorem dX2_biggestGroup_8 : decode cX2_biggestGroup 8 = .ok (.iconst 0, 1) := by decide +kernel
theorem dX2_biggestGroup_9 : decode cX2_biggestGroup 9 = .ok (.istore_n 3, 1) := by decide +kernel
theorem dX2_biggestGroup_10 : decode cX2_biggestGroup 10 = .ok (.iconst 0, 1) := by decide +kernel
theorem dX2_biggestGroup_11 : decode cX2_biggestGroup 11 = .ok (.istore 4, 2) := by decide +kernel
theorem dX2_biggestGroup_13 : decode cX2_biggestGroup 13 = .ok (.iload 4, 2) := by decide +kernel
theorem dX2_biggestGroup_15 : decode cX2_biggestGroup 15 = .ok (.iload_n 1, 1) := by decide +kernel
theorem dX2_biggestGroup_16 : decode cX2_biggestGroup 16 = .ok (.if_icmp .ge 72, 3) := by decide +kernel
theorem dX2_biggestGroup_19 : decode cX2_biggestGroup 19 = .ok (.aload_n 0, 1) := by decide +kernel
theorem dX2_biggestGroup_20 : decode cX2_biggestGroup 20 = .ok (.getfield 15, 3) := by decide +kernel
theorem dX2_biggestGroup_23 : decode cX2_biggestGroup 23 = .ok (.iload 4, 2) := by decide +kernel
theorem dX2_biggestGroup_25 : decode cX2_biggestGroup 25 = .ok (.bipush 64, 2) := by decide +kernel
theorem dX2_biggestGroup_27 : decode cX2_biggestGroup 27 = .ok (.imul, 1) := by decide +kernel
theorem dX2_biggestGroup_28 : decode cX2_biggestGroup 28 = .ok (.iload_n 2, 1) := by decide +kernel
theorem dX2_biggestGroup_29 : decode cX2_biggestGroup 29 = .ok (.iadd, 1) := by decide +kernel
theorem dX2_biggestGroup_30 : decode cX2_biggestGroup 30 = .ok (.iaload, 1) := by decide +kernel
theorem dX2_biggestGroup_31 : decode cX2_biggestGroup 31 = .ok (.istore 5, 2) := by decide +kernel
theorem dX2_biggestGroup_33 : decode cX2_biggestGroup 33 = .ok (.iload 5, 2) := by decide +kernel
theorem dX2_biggestGroup_35 : decode cX2_biggestGroup 35 = .ok (.ifCond .lt 47, 3) := by decide +kernel
theorem dX2_biggestGroup_38 : decode cX2_biggestGroup 38 = .ok (.iload 5, 2) := by decide +kernel
theorem dX2_biggestGroup_40 : decode cX2_biggestGroup 40 = .ok (.aload_n 0, 1) := by decide +kernel
theorem dX2_biggestGroup_41 : decode cX2_biggestGroup 41 = .ok (.getfield 18, 3) := by decide +kernel
theorem dX2_biggestGroup_44 : decode cX2_biggestGroup 44 = .ok (.arraylength, 1) := by decide +kernel
theorem dX2_biggestGroup_45 : decode cX2_biggestGroup 45 = .ok (.if_icmp .ge 37, 3) := by decide +kernel
theorem dX2_biggestGroup_48 : decode cX2_biggestGroup 48 = .ok (.aload_n 0, 1) := by decide +kernel
theorem dX2_biggestGroup_49 : decode cX2_biggestGroup 49 = .ok (.getfield 18, 3) := by decide +kernel
theorem dX2_biggestGroup_52 : decode cX2_biggestGroup 52 = .ok (.iload 5, 2) := by decide +kernel
theorem dX2_biggestGroup_54 : decode cX2_biggestGroup 54 = .ok (.dup2, 1) := by decide +kernel
theorem dX2_biggestGroup_55 : decode cX2_biggestGroup 55 = .ok (.iaload, 1) := by decide +kernel
theorem dX2_biggestGroup_56 : decode cX2_biggestGroup 56 = .ok (.iconst 1, 1) := by decide +kernel
theorem dX2_biggestGroup_57 : decode cX2_biggestGroup 57 = .ok (.iadd, 1) := by decide +kernel
theorem dX2_biggestGroup_58 : decode cX2_biggestGroup 58 = .ok (.iastore, 1) := by decide +kernel
theorem dX2_biggestGroup_59 : decode cX2_biggestGroup 59 = .ok (.aload_n 0, 1) := by decide +kernel
theorem dX2_biggestGroup_60 : decode cX2_biggestGroup 60 = .ok (.getfield 18, 3) := by decide +kernel
theorem dX2_biggestGroup_63 : decode cX2_biggestGroup 63 = .ok (.iload 5, 2) := by decide +kernel
theorem dX2_biggestGroup_65 : decode cX2_biggestGroup 65 = .ok (.iaload, 1) := by decide +kernel
theorem dX2_biggestGroup_66 : decode cX2_biggestGroup 66 = .ok (.iload_n 3, 1) := by decide +kernel
theorem dX2_biggestGroup_67 : decode cX2_biggestGroup 67 = .ok (.if_icmp .le 13, 3) := by decide +kernel
theorem dX2_biggestGroup_70 : decode cX2_biggestGroup 70 = .ok (.aload_n 0, 1) := by decide +kernel
theorem dX2_biggestGroup_71 : decode cX2_biggestGroup 71 = .ok (.getfield 18, 3) := by decide +kernel
theorem dX2_biggestGroup_74 : decode cX2_biggestGroup 74 = .ok (.iload 5, 2) := by decide +kernel
theorem dX2_biggestGroup_76 : decode cX2_biggestGroup 76 = .ok (.iaload, 1) := by decide +kernel
theorem dX2_biggestGroup_77 : decode cX2_biggestGroup 77 = .ok (.goto 4, 3) := by decide +kernel
theorem dX2_biggestGroup_80 : decode cX2_biggestGroup 80 = .ok (.iload_n 3, 1) := by decide +kernel
theorem dX2_biggestGroup_81 : decode cX2_biggestGroup 81 = .ok (.istore_n 3, 1) := by decide +kernel
theorem dX2_biggestGroup_82 : decode cX2_biggestGroup 82 = .ok (.iinc 4 1, 3) := by decide +kernel
theorem dX2_biggestGroup_85 : decode cX2_biggestGroup 85 = .ok (.goto (-72), 3) := by decide +kernel
theorem dX2_biggestGroup_88 : decode cX2_biggestGroup 88 = .ok (.iload_n 3, 1) := by decide +kernel
theorem dX2_biggestGroup_89 : decode cX2_biggestGroup 89 = .ok (.ireturn, 1) := by decide +kernel
theorem dX2_findPairs_0 : decode cX2_findPairs 0 = .ok (.iconst 0, 1) := by decide +kernel
theorem dX2_findPairs_1 : decode cX2_findPairs 1 = .ok (.istore_n 3, 1) := by decide +kernel
theorem dX2_findPairs_2 : decode cX2_findPairs 2 = .ok (.iconst 0, 1) := by decide +kernel
theorem dX2_findPairs_3 : decode cX2_findPairs 3 = .ok (.istore 4, 2) := by decide +kernel
theorem dX2_findPairs_5 : decode cX2_findPairs 5 = .ok (.iload 4, 2) := by decide +kernel
theorem dX2_findPairs_7 : decode cX2_findPairs 7 = .ok (.aload_n 0, 1) := by decide +kernel
theorem dX2_findPairs_8 : decode cX2_findPairs 8 = .ok (.getfield 21, 3) := by decide +kernel
theorem dX2_findPairs_11 : decode cX2_findPairs 11 = .ok (.getfield 33, 3) := by decide +kernel
theorem dX2_findPairs_14 : decode cX2_findPairs 14 = .ok (.if_icmp .ge 113, 3) := by decide +kernel
theorem dX2_findPairs_17 : decode cX2_findPairs 17 = .ok (.iconst 0, 1) := by decide +kernel
theorem dX2_findPairs_18 : decode cX2_findPairs 18 = .ok (.istore 5, 2) := by decide +kernel
theorem dX2_findPairs_20 : decode cX2_findPairs 20 = .ok (.iload 5, 2) := by decide +kernel
theorem dX2_findPairs_22 : decode cX2_findPairs 22 = .ok (.iconst 2, 1) := by decide +kernel
theorem dX2_findPairs_23 : decode cX2_findPairs 23 = .ok (.if_icmp .ge 98, 3) := by decide +kernel
theorem dX2_findPairs_26 : decode cX2_findPairs 26 = .ok (.aload_n 2, 1) := by decide +kernel
theorem dX2_findPairs_27 : decode cX2_findPairs 27 = .ok (.aload_n 1, 1) := by decide +kernel
theorem dX2_findPairs_28 : decode cX2_findPairs 28 = .ok (.invokevirtual 39, 3) := by decide +kernel
theorem dX2_findPairs_31 : decode cX2_findPairs 31 = .ok (.iload 5, 2) := by decide +kernel
theorem dX2_findPairs_33 : decode cX2_findPairs 33 = .ok (.ifCond .ne 16, 3) := by decide +kernel
theorem dX2_findPairs_36 : decode cX2_findPairs 36 = .ok (.aload_n 0, 1) := by decide +kernel
theorem dX2_findPairs_37 : decode cX2_findPairs 37 = .ok (.getfield 29, 3) := by decide +kernel
theorem dX2_findPairs_40 : decode cX2_findPairs 40 = .ok (.aload_n 2, 1) := by decide +kernel
theorem dX2_findPairs_41 : decode cX2_findPairs 41 = .ok (.iload 4, 2) := by decide +kernel
theorem dX2_findPairs_43 : decode cX2_findPairs 43 = .ok (.invokevirtual 45, 3) := by decide +kernel
theorem dX2_findPairs_46 : decode cX2_findPairs 46 = .ok (.goto 13, 3) := by decide +kernel
theorem dX2_findPairs_49 : decode cX2_findPairs 49 = .ok (.aload_n 0, 1) := by decide +kernel
theorem dX2_findPairs_50 : decode cX2_findPairs 50 = .ok (.getfield 29, 3) := by decide +kernel
theorem dX2_findPairs_53 : decode cX2_findPairs 53 = .ok (.aload_n 2, 1) := by decide +kernel
theorem dX2_findPairs_54 : decode cX2_findPairs 54 = .ok (.iload 4, 2) := by decide +kernel
theorem dX2_findPairs_56 : decode cX2_findPairs 56 = .ok (.invokevirtual 51, 3) := by decide +kernel
theorem dX2_findPairs_59 : decode cX2_findPairs 59 = .ok (.istore 6, 2) := by decide +kernel
theorem dX2_findPairs_61 : decode cX2_findPairs 61 = .ok (.iload 6, 2) := by decide +kernel
theorem dX2_findPairs_63 : decode cX2_findPairs 63 = .ok (.ifCond .eq 52, 3) := by decide +kernel
theorem dX2_findPairs_66 : decode cX2_findPairs 66 = .ok (.aload_n 0, 1) := by decide +kernel
theorem dX2_findPairs_67 : decode cX2_findPairs 67 = .ok (.getfield 25, 3) := by decide +kernel
theorem dX2_findPairs_70 : decode cX2_findPairs 70 = .ok (.aload_n 2, 1) := by decide +kernel
theorem dX2_findPairs_71 : decode cX2_findPairs 71 = .ok (.getfield 54, 3) := by decide +kernel
theorem dX2_findPairs_74 : decode cX2_findPairs 74 = .ok (.invokevirtual 57, 3) := by decide +kernel
theorem dX2_findPairs_77 : decode cX2_findPairs 77 = .ok (.ifCond .eq 38, 3) := by decide +kernel
theorem dX2_findPairs_80 : decode cX2_findPairs 80 = .ok (.aload_n 0, 1) := by decide +kernel
theorem dX2_findPairs_81 : decode cX2_findPairs 81 = .ok (.getfield 11, 3) := by decide +kernel
theorem dX2_findPairs_84 : decode cX2_findPairs 84 = .ok (.iload_n 3, 1) := by decide +kernel
theorem dX2_findPairs_85 : decode cX2_findPairs 85 = .ok (.bipush 10, 2) := by decide +kernel
theorem dX2_findPairs_87 : decode cX2_findPairs 87 = .ok (.iload 4, 2) := by decide +kernel
theorem dX2_findPairs_89 : decode cX2_findPairs 89 = .ok (.imul, 1) := by decide +kernel
theorem dX2_findPairs_90 : decode cX2_findPairs 90 = .ok (.iload 5, 2) := by decide +kernel
theorem dX2_findPairs_92 : decode cX2_findPairs 92 = .ok (.iadd, 1) := by decide +kernel
theorem dX2_findPairs_93 : decode cX2_findPairs 93 = .ok (.iastore, 1) := by decide +kernel
theorem dX2_findPairs_94 : decode cX2_findPairs 94 = .ok (.aload_n 2, 1) := by decide +kernel
theorem dX2_findPairs_95 : decode cX2_findPairs 95 = .ok (.getfield 54, 3) := by decide +kernel
theorem dX2_findPairs_98 : decode cX2_findPairs 98 = .ok (.iconst 0, 1) := by decide +kernel
theorem dX2_findPairs_99 : decode cX2_findPairs 99 = .ok (.aload_n 0, 1) := by decide +kernel
theorem dX2_findPairs_100 : decode cX2_findPairs 100 = .ok (.getfield 15, 3) := by decide +kernel
theorem dX2_findPairs_103 : decode cX2_findPairs 103 = .ok (.iload_n 3, 1) := by decide +kernel
theorem dX2_findPairs_104 : decode cX2_findPairs 104 = .ok (.bipush 64, 2) := by decide +kernel
theorem dX2_findPairs_106 : decode cX2_findPairs 106 = .ok (.imul, 1) := by decide +kernel
theorem dX2_findPairs_107 : decode cX2_findPairs 107 = .ok (.bipush 64, 2) := by decide +kernel
theorem dX2_findPairs_109 : decode cX2_findPairs 109 = .ok (.invokestatic 63, 3) := by decide +kernel
theorem dX2_findPairs_112 : decode cX2_findPairs 112 = .ok (.iinc 3 1, 3) := by decide +kernel
theorem dX2_findPairs_115 : decode cX2_findPairs 115 = .ok (.iinc 5 1, 3) := by decide +kernel
theorem dX2_findPairs_118 : decode cX2_findPairs 118 = .ok (.goto (-98), 3) := by decide +kernel
theorem dX2_findPairs_121 : decode cX2_findPairs 121 = .ok (.iinc 4 1, 3) := by decide +kernel
theorem dX2_findPairs_124 : decode cX2_findPairs 124 = .ok (.goto (-119), 3) := by decide +kernel
theorem dX2_findPairs_127 : decode cX2_findPairs 127 = .ok (.iload_n 3, 1) := by decide +kernel
theorem dX2_findPairs_128 : decode cX2_findPairs 128 = .ok (.ireturn, 1) := by decide +kernel
theorem dX2_init_0 : decode cX2_init 0 = .ok (.aload_n 0, 1) := by decide +kernel
theorem dX2_init_1 : decode cX2_init 1 = .ok (.invokespecial 3, 3) := by decide +kernel
theorem dX2_init_4 : decode cX2_init 4 = .ok (.aload_n 0, 1) := by decide +kernel
theorem dX2_init_5 : decode cX2_init 5 = .ok (.bipush 12, 2) := by decide +kernel
theorem dX2_init_7 : decode cX2_init 7 = .ok (.newarray .int, 2) := by decide +kernel
theorem dX2_init_9 : decode cX2_init 9 = .ok (.putfield 11, 3) := by decide +kernel
theorem dX2_init_12 : decode cX2_init 12 = .ok (.aload_n 0, 1) := by decide +kernel
theorem dX2_init_13 : decode cX2_init 13 = .ok (.sipush 768, 3) := by decide +kernel
theorem dX2_init_16 : decode cX2_init 16 = .ok (.newarray .int, 2) := by decide +kernel
theorem dX2_init_18 : decode cX2_init 18 = .ok (.putfield 15, 3) := by decide +kernel
theorem dX2_init_21 : decode cX2_init 21 = .ok (.aload_n 0, 1) := by decide +kernel
theorem dX2_init_22 : decode cX2_init 22 = .ok (.bipush 7, 2) := by decide +kernel
theorem dX2_init_24 : decode cX2_init 24 = .ok (.newarray .int, 2) := by decide +kernel
theorem dX2_init_26 : decode cX2_init 26 = .ok (.putfield 18, 3) := by decide +kernel
theorem dX2_init_29 : decode cX2_init 29 = .ok (.aload_n 0, 1) := by decide +kernel
theorem dX2_init_30 : decode cX2_init 30 = .ok (.aload_n 1, 1) := by decide +kernel
theorem dX2_init_31 : decode cX2_init 31 = .ok (.putfield 21, 3) := by decide +kernel
theorem dX2_init_34 : decode cX2_init 34 = .ok (.aload_n 0, 1) := by decide +kernel
theorem dX2_init_35 : decode cX2_init 35 = .ok (.aload_n 2, 1) := by decide +kernel
theorem dX2_init_36 : decode cX2_init 36 = .ok (.putfield 25, 3) := by decide +kernel
theorem dX2_init_39 : decode cX2_init 39 = .ok (.aload_n 0, 1) := by decide +kernel
theorem dX2_init_40 : decode cX2_init 40 = .ok (.aload_n 3, 1) := by decide +kernel
theorem dX2_init_41 : decode cX2_init 41 = .ok (.putfield 29, 3) := by decide +kernel
theorem dX2_init_44 : decode cX2_init 44 = .ok (.return_, 1) := by decide +kernel
theorem dX4_fewestPlaces_0 : decode cX4_fewestPlaces 0 = .ok (.aload_n 0, 1) := by decide +kernel
theorem dX4_fewestPlaces_1 : decode cX4_fewestPlaces 1 = .ok (.getfield 22, 3) := by decide +kernel
theorem dX4_fewestPlaces_4 : decode cX4_fewestPlaces 4 = .ok (.getfield 26, 3) := by decide +kernel
theorem dX4_fewestPlaces_7 : decode cX4_fewestPlaces 7 = .ok (.iload_n 2, 1) := by decide +kernel
theorem dX4_fewestPlaces_8 : decode cX4_fewestPlaces 8 = .ok (.iaload, 1) := by decide +kernel
theorem dX4_fewestPlaces_9 : decode cX4_fewestPlaces 9 = .ok (.istore_n 3, 1) := by decide +kernel
theorem dX4_fewestPlaces_10 : decode cX4_fewestPlaces 10 = .ok (.iload_n 3, 1) := by decide +kernel
theorem dX4_fewestPlaces_11 : decode cX4_fewestPlaces 11 = .ok (.iconst 1, 1) := by decide +kernel
theorem dX4_fewestPlaces_12 : decode cX4_fewestPlaces 12 = .ok (.if_icmp .gt 5, 3) := by decide +kernel
theorem dX4_fewestPlaces_15 : decode cX4_fewestPlaces 15 = .ok (.iload_n 3, 1) := by decide +kernel
theorem dX4_fewestPlaces_16 : decode cX4_fewestPlaces 16 = .ok (.ireturn, 1) := by decide +kernel
theorem dX4_fewestPlaces_17 : decode cX4_fewestPlaces 17 = .ok (.aload_n 0, 1) := by decide +kernel
theorem dX4_fewestPlaces_18 : decode cX4_fewestPlaces 18 = .ok (.getfield 18, 3) := by decide +kernel
theorem dX4_fewestPlaces_21 : decode cX4_fewestPlaces 21 = .ok (.sipush 1000, 3) := by decide +kernel
theorem dX4_fewestPlaces_24 : decode cX4_fewestPlaces 24 = .ok (.invokestatic 31, 3) := by decide +kernel
theorem dX4_fewestPlaces_27 : decode cX4_fewestPlaces 27 = .ok (.iconst 1, 1) := by decide +kernel
theorem dX4_fewestPlaces_28 : decode cX4_fewestPlaces 28 = .ok (.istore 4, 2) := by decide +kernel
theorem dX4_fewestPlaces_30 : decode cX4_fewestPlaces 30 = .ok (.iload 4, 2) := by decide +kernel
theorem dX4_fewestPlaces_32 : decode cX4_fewestPlaces 32 = .ok (.iload_n 3, 1) := by decide +kernel
theorem dX4_fewestPlaces_33 : decode cX4_fewestPlaces 33 = .ok (.if_icmp .ge 39, 3) := by decide +kernel
theorem dX4_fewestPlaces_36 : decode cX4_fewestPlaces 36 = .ok (.aload_n 0, 1) := by decide +kernel
theorem dX4_fewestPlaces_37 : decode cX4_fewestPlaces 37 = .ok (.getfield 18, 3) := by decide +kernel
theorem dX4_fewestPlaces_40 : decode cX4_fewestPlaces 40 = .ok (.iconst 1, 1) := by decide +kernel
theorem dX4_fewestPlaces_41 : decode cX4_fewestPlaces 41 = .ok (.iload 4, 2) := by decide +kernel
theorem dX4_fewestPlaces_43 : decode cX4_fewestPlaces 43 = .ok (.iconst 1, 1) := by decide +kernel
theorem dX4_fewestPlaces_44 : decode cX4_fewestPlaces 44 = .ok (.isub, 1) := by decide +kernel
theorem dX4_fewestPlaces_45 : decode cX4_fewestPlaces 45 = .ok (.ishl, 1) := by decide +kernel
theorem dX4_fewestPlaces_46 : decode cX4_fewestPlaces 46 = .ok (.bipush 64, 2) := by decide +kernel
theorem dX4_fewestPlaces_48 : decode cX4_fewestPlaces 48 = .ok (.imul, 1) := by decide +kernel
theorem dX4_fewestPlaces_49 : decode cX4_fewestPlaces 49 = .ok (.aload_n 0, 1) := by decide +kernel
theorem dX4_fewestPlaces_50 : decode cX4_fewestPlaces 50 = .ok (.getfield 22, 3) := by decide +kernel
theorem dX4_fewestPlaces_53 : decode cX4_fewestPlaces 53 = .ok (.getfield 37, 3) := by decide +kernel
theorem dX4_fewestPlaces_56 : decode cX4_fewestPlaces 56 = .ok (.iload_n 2, 1) := by decide +kernel
theorem dX4_fewestPlaces_57 : decode cX4_fewestPlaces 57 = .ok (.iconst 4, 1) := by decide +kernel
theorem dX4_fewestPlaces_58 : decode cX4_fewestPlaces 58 = .ok (.imul, 1) := by decide +kernel
theorem dX4_fewestPlaces_59 : decode cX4_fewestPlaces 59 = .ok (.iload 4, 2) := by decide +kernel
theorem dX4_fewestPlaces_61 : decode cX4_fewestPlaces 61 = .ok (.iadd, 1) := by decide +kernel
theorem dX4_fewestPlaces_62 : decode cX4_fewestPlaces 62 = .ok (.iaload, 1) := by decide +kernel
theorem dX4_fewestPlaces_63 : decode cX4_fewestPlaces 63 = .ok (.iadd, 1) := by decide +kernel
theorem dX4_fewestPlaces_64 : decode cX4_fewestPlaces 64 = .ok (.iconst 0, 1) := by decide +kernel
theorem dX4_fewestPlaces_65 : decode cX4_fewestPlaces 65 = .ok (.iastore, 1) := by decide +kernel
theorem dX4_fewestPlaces_66 : decode cX4_fewestPlaces 66 = .ok (.iinc 4 1, 3) := by decide +kernel
theorem dX4_fewestPlaces_69 : decode cX4_fewestPlaces 69 = .ok (.goto (-39), 3) := by decide +kernel
theorem dX4_fewestPlaces_72 : decode cX4_fewestPlaces 72 = .ok (.iconst 1, 1) := by decide +kernel
theorem dX4_fewestPlaces_73 : decode cX4_fewestPlaces 73 = .ok (.iload_n 3, 1) := by decide +kernel
theorem dX4_fewestPlaces_74 : decode cX4_fewestPlaces 74 = .ok (.iconst 1, 1) := by decide +kernel
theorem dX4_fewestPlaces_75 : decode cX4_fewestPlaces 75 = .ok (.isub, 1) := by decide +kernel
theorem dX4_fewestPlaces_76 : decode cX4_fewestPlaces 76 = .ok (.ishl, 1) := by decide +kernel
theorem dX4_fewestPlaces_77 : decode cX4_fewestPlaces 77 = .ok (.istore 4, 2) := by decide +kernel
theorem dX4_fewestPlaces_79 : decode cX4_fewestPlaces 79 = .ok (.iconst 1, 1) := by decide +kernel
theorem dX4_fewestPlaces_80 : decode cX4_fewestPlaces 80 = .ok (.istore 5, 2) := by decide +kernel
theorem dX4_fewestPlaces_82 : decode cX4_fewestPlaces 82 = .ok (.iload 5, 2) := by decide +kernel
theorem dX4_fewestPlaces_84 : decode cX4_fewestPlaces 84 = .ok (.iload 4, 2) := by decide +kernel
theorem dX4_fewestPlaces_86 : decode cX4_fewestPlaces 86 = .ok (.if_icmp .ge 22, 3) := by decide +kernel
theorem dX4_fewestPlaces_89 : decode cX4_fewestPlaces 89 = .ok (.aload_n 0, 1) := by decide +kernel
theorem dX4_fewestPlaces_90 : decode cX4_fewestPlaces 90 = .ok (.iload 5, 2) := by decide +kernel
theorem dX4_fewestPlaces_92 : decode cX4_fewestPlaces 92 = .ok (.invokevirtual 40, 3) := by decide +kernel
theorem dX4_fewestPlaces_95 : decode cX4_fewestPlaces 95 = .ok (.aload_n 0, 1) := by decide +kernel
theorem dX4_fewestPlaces_96 : decode cX4_fewestPlaces 96 = .ok (.aload_n 1, 1) := by decide +kernel
theorem dX4_fewestPlaces_97 : decode cX4_fewestPlaces 97 = .ok (.iload 5, 2) := by decide +kernel
theorem dX4_fewestPlaces_99 : decode cX4_fewestPlaces 99 = .ok (.invokevirtual 44, 3) := by decide +kernel
theorem dX4_fewestPlaces_102 : decode cX4_fewestPlaces 102 = .ok (.iinc 5 1, 3) := by decide +kernel
theorem dX4_fewestPlaces_105 : decode cX4_fewestPlaces 105 = .ok (.goto (-23), 3) := by decide +kernel
theorem dX4_fewestPlaces_108 : decode cX4_fewestPlaces 108 = .ok (.aload_n 0, 1) := by decide +kernel
theorem dX4_fewestPlaces_109 : decode cX4_fewestPlaces 109 = .ok (.getfield 18, 3) := by decide +kernel
theorem dX4_fewestPlaces_112 : decode cX4_fewestPlaces 112 = .ok (.iload 4, 2) := by decide +kernel
theorem dX4_fewestPlaces_114 : decode cX4_fewestPlaces 114 = .ok (.iconst 1, 1) := by decide +kernel
theorem dX4_fewestPlaces_115 : decode cX4_fewestPlaces 115 = .ok (.isub, 1) := by decide +kernel
theorem dX4_fewestPlaces_116 : decode cX4_fewestPlaces 116 = .ok (.bipush 64, 2) := by decide +kernel
theorem dX4_fewestPlaces_118 : decode cX4_fewestPlaces 118 = .ok (.imul, 1) := by decide +kernel
theorem dX4_fewestPlaces_119 : decode cX4_fewestPlaces 119 = .ok (.aload_n 0, 1) := by decide +kernel
theorem dX4_fewestPlaces_120 : decode cX4_fewestPlaces 120 = .ok (.getfield 22, 3) := by decide +kernel
theorem dX4_fewestPlaces_123 : decode cX4_fewestPlaces 123 = .ok (.iload_n 2, 1) := by decide +kernel
theorem dX4_fewestPlaces_124 : decode cX4_fewestPlaces 124 = .ok (.invokevirtual 48, 3) := by decide +kernel
theorem dX4_fewestPlaces_127 : decode cX4_fewestPlaces 127 = .ok (.iadd, 1) := by decide +kernel
theorem dX4_fewestPlaces_128 : decode cX4_fewestPlaces 128 = .ok (.iaload, 1) := by decide +kernel
theorem dX4_fewestPlaces_129 : decode cX4_fewestPlaces 129 = .ok (.istore 5, 2) := by decide +kernel
theorem dX4_fewestPlaces_131 : decode cX4_fewestPlaces 131 = .ok (.iload 5, 2) := by decide +kernel
theorem dX4_fewestPlaces_133 : decode cX4_fewestPlaces 133 = .ok (.sipush 1000, 3) := by decide +kernel
theorem dX4_fewestPlaces_136 : decode cX4_fewestPlaces 136 = .ok (.if_icmp .lt 7, 3) := by decide +kernel
theorem dX4_fewestPlaces_139 : decode cX4_fewestPlaces 139 = .ok (.iconst (-1), 1) := by decide +kernel
theorem dX4_fewestPlaces_140 : decode cX4_fewestPlaces 140 = .ok (.goto 7, 3) := by decide +kernel
theorem dX4_fewestPlaces_143 : decode cX4_fewestPlaces 143 = .ok (.iload 5, 2) := by decide +kernel
theorem dX4_fewestPlaces_145 : decode cX4_fewestPlaces 145 = .ok (.iconst 1, 1) := by decide +kernel
theorem dX4_fewestPlaces_146 : decode cX4_fewestPlaces 146 = .ok (.iadd, 1) := by decide +kernel
theorem dX4_fewestPlaces_147 : decode cX4_fewestPlaces 147 = .ok (.ireturn, 1) := by decide +kernel
theorem dX4_init_0 : decode cX4_init 0 = .ok (.aload_n 0, 1) := by decide +kernel
theorem dX4_init_1 : decode cX4_init 1 = .ok (.invokespecial 3, 3) := by decide +kernel
theorem dX4_init_4 : decode cX4_init 4 = .ok (.aload_n 0, 1) := by decide +kernel
theorem dX4_init_5 : decode cX4_init 5 = .ok (.new 9, 3) := by decide +kernel
theorem dX4_init_8 : decode cX4_init 8 = .ok (.dup, 1) := by decide +kernel
theorem dX4_init_9 : decode cX4_init 9 = .ok (.invokespecial 11, 3) := by decide +kernel
theorem dX4_init_12 : decode cX4_init 12 = .ok (.putfield 12, 3) := by decide +kernel
theorem dX4_init_15 : decode cX4_init 15 = .ok (.aload_n 0, 1) := by decide +kernel
theorem dX4_init_16 : decode cX4_init 16 = .ok (.sipush 512, 3) := by decide +kernel
theorem dX4_init_19 : decode cX4_init 19 = .ok (.newarray .int, 2) := by decide +kernel
theorem dX4_init_21 : decode cX4_init 21 = .ok (.putfield 18, 3) := by decide +kernel
theorem dX4_init_24 : decode cX4_init 24 = .ok (.aload_n 0, 1) := by decide +kernel
theorem dX4_init_25 : decode cX4_init 25 = .ok (.aload_n 1, 1) := by decide +kernel
theorem dX4_init_26 : decode cX4_init 26 = .ok (.putfield 22, 3) := by decide +kernel
theorem dX4_init_29 : decode cX4_init 29 = .ok (.return_, 1) := by decide +kernel
theorem dX4_joinParts_0 : decode cX4_joinParts 0 = .ok (.iconst 1, 1) := by decide +kernel
theorem dX4_joinParts_1 : decode cX4_joinParts 1 = .ok (.istore_n 2, 1) := by decide +kernel
theorem dX4_joinParts_2 : decode cX4_joinParts 2 = .ok (.iload_n 2, 1) := by decide +kernel
theorem dX4_joinParts_3 : decode cX4_joinParts 3 = .ok (.iload_n 1, 1) := by decide +kernel
theorem dX4_joinParts_4 : decode cX4_joinParts 4 = .ok (.if_icmp .ge 87, 3) := by decide +kernel
theorem dX4_joinParts_7 : decode cX4_joinParts 7 = .ok (.iload_n 2, 1) := by decide +kernel
theorem dX4_joinParts_8 : decode cX4_joinParts 8 = .ok (.iload_n 1, 1) := by decide +kernel
theorem dX4_joinParts_9 : decode cX4_joinParts 9 = .ok (.iconst (-1), 1) := by decide +kernel
theorem dX4_joinParts_10 : decode cX4_joinParts 10 = .ok (.ixor, 1) := by decide +kernel
theorem dX4_joinParts_11 : decode cX4_joinParts 11 = .ok (.iand, 1) := by decide +kernel
theorem dX4_joinParts_12 : decode cX4_joinParts 12 = .ok (.ifCond .ne 73, 3) := by decide +kernel
theorem dX4_joinParts_15 : decode cX4_joinParts 15 = .ok (.iconst 0, 1) := by decide +kernel
theorem dX4_joinParts_16 : decode cX4_joinParts 16 = .ok (.istore_n 3, 1) := by decide +kernel
theorem dX4_joinParts_17 : decode cX4_joinParts 17 = .ok (.iload_n 3, 1) := by decide +kernel
theorem dX4_joinParts_18 : decode cX4_joinParts 18 = .ok (.bipush 64, 2) := by decide +kernel
theorem dX4_joinParts_20 : decode cX4_joinParts 20 = .ok (.if_icmp .ge 65, 3) := by decide +kernel
theorem dX4_joinParts_23 : decode cX4_joinParts 23 = .ok (.aload_n 0, 1) := by decide +kernel
theorem dX4_joinParts_24 : decode cX4_joinParts 24 = .ok (.getfield 18, 3) := by decide +kernel
theorem dX4_joinParts_27 : decode cX4_joinParts 27 = .ok (.iload_n 2, 1) := by decide +kernel
theorem dX4_joinParts_28 : decode cX4_joinParts 28 = .ok (.bipush 64, 2) := by decide +kernel
theorem dX4_joinParts_30 : decode cX4_joinParts 30 = .ok (.imul, 1) := by decide +kernel
theorem dX4_joinParts_31 : decode cX4_joinParts 31 = .ok (.iload_n 3, 1) := by decide +kernel
theorem dX4_joinParts_32 : decode cX4_joinParts 32 = .ok (.iadd, 1) := by decide +kernel
theorem dX4_joinParts_33 : decode cX4_joinParts 33 = .ok (.iaload, 1) := by decide +kernel
theorem dX4_joinParts_34 : decode cX4_joinParts 34 = .ok (.aload_n 0, 1) := by decide +kernel
theorem dX4_joinParts_35 : decode cX4_joinParts 35 = .ok (.getfield 18, 3) := by decide +kernel
theorem dX4_joinParts_38 : decode cX4_joinParts 38 = .ok (.iload_n 1, 1) := by decide +kernel
theorem dX4_joinParts_39 : decode cX4_joinParts 39 = .ok (.iload_n 2, 1) := by decide +kernel
theorem dX4_joinParts_40 : decode cX4_joinParts 40 = .ok (.isub, 1) := by decide +kernel
theorem dX4_joinParts_41 : decode cX4_joinParts 41 = .ok (.bipush 64, 2) := by decide +kernel
theorem dX4_joinParts_43 : decode cX4_joinParts 43 = .ok (.imul, 1) := by decide +kernel
theorem dX4_joinParts_44 : decode cX4_joinParts 44 = .ok (.iload_n 3, 1) := by decide +kernel
theorem dX4_joinParts_45 : decode cX4_joinParts 45 = .ok (.iadd, 1) := by decide +kernel
theorem dX4_joinParts_46 : decode cX4_joinParts 46 = .ok (.iaload, 1) := by decide +kernel
theorem dX4_joinParts_47 : decode cX4_joinParts 47 = .ok (.iadd, 1) := by decide +kernel
theorem dX4_joinParts_48 : decode cX4_joinParts 48 = .ok (.istore 4, 2) := by decide +kernel
theorem dX4_joinParts_50 : decode cX4_joinParts 50 = .ok (.iload 4, 2) := by decide +kernel
theorem dX4_joinParts_52 : decode cX4_joinParts 52 = .ok (.aload_n 0, 1) := by decide +kernel
theorem dX4_joinParts_53 : decode cX4_joinParts 53 = .ok (.getfield 18, 3) := by decide +kernel
theorem dX4_joinParts_56 : decode cX4_joinParts 56 = .ok (.iload_n 1, 1) := by decide +kernel
theorem dX4_joinParts_57 : decode cX4_joinParts 57 = .ok (.bipush 64, 2) := by decide +kernel
theorem dX4_joinParts_59 : decode cX4_joinParts 59 = .ok (.imul, 1) := by decide +kernel
theorem dX4_joinParts_60 : decode cX4_joinParts 60 = .ok (.iload_n 3, 1) := by decide +kernel
theorem dX4_joinParts_61 : decode cX4_joinParts 61 = .ok (.iadd, 1) := by decide +kernel
theorem dX4_joinParts_62 : decode cX4_joinParts 62 = .ok (.iaload, 1) := by decide +kernel
theorem dX4_joinParts_63 : decode cX4_joinParts 63 = .ok (.if_icmp .ge 16, 3) := by decide +kernel
theorem dX4_joinParts_66 : decode cX4_joinParts 66 = .ok (.aload_n 0, 1) := by decide +kernel
theorem dX4_joinParts_67 : decode cX4_joinParts 67 = .ok (.getfield 18, 3) := by decide +kernel
theorem dX4_joinParts_70 : decode cX4_joinParts 70 = .ok (.iload_n 1, 1) := by decide +kernel
theorem dX4_joinParts_71 : decode cX4_joinParts 71 = .ok (.bipush 64, 2) := by decide +kernel
theorem dX4_joinParts_73 : decode cX4_joinParts 73 = .ok (.imul, 1) := by decide +kernel
theorem dX4_joinParts_74 : decode cX4_joinParts 74 = .ok (.iload_n 3, 1) := by decide +kernel
theorem dX4_joinParts_75 : decode cX4_joinParts 75 = .ok (.iadd, 1) := by decide +kernel
theorem dX4_joinParts_76 : decode cX4_joinParts 76 = .ok (.iload 4, 2) := by decide +kernel
theorem dX4_joinParts_78 : decode cX4_joinParts 78 = .ok (.iastore, 1) := by decide +kernel
theorem dX4_joinParts_79 : decode cX4_joinParts 79 = .ok (.iinc 3 1, 3) := by decide +kernel
theorem dX4_joinParts_82 : decode cX4_joinParts 82 = .ok (.goto (-65), 3) := by decide +kernel
theorem dX4_joinParts_85 : decode cX4_joinParts 85 = .ok (.iinc 2 1, 3) := by decide +kernel
theorem dX4_joinParts_88 : decode cX4_joinParts 88 = .ok (.goto (-86), 3) := by decide +kernel
theorem dX4_joinParts_91 : decode cX4_joinParts 91 = .ok (.return_, 1) := by decide +kernel
theorem dX4_stepOn_0 : decode cX4_stepOn 0 = .ok (.iload_n 2, 1) := by decide +kernel
theorem dX4_stepOn_1 : decode cX4_stepOn 1 = .ok (.bipush 64, 2) := by decide +kernel
theorem dX4_stepOn_3 : decode cX4_stepOn 3 = .ok (.imul, 1) := by decide +kernel
theorem dX4_stepOn_4 : decode cX4_stepOn 4 = .ok (.istore_n 3, 1) := by decide +kernel
theorem dX4_stepOn_5 : decode cX4_stepOn 5 = .ok (.aload_n 0, 1) := by decide +kernel
theorem dX4_stepOn_6 : decode cX4_stepOn 6 = .ok (.getfield 12, 3) := by decide +kernel
theorem dX4_stepOn_9 : decode cX4_stepOn 9 = .ok (.invokevirtual 52, 3) := by decide +kernel
theorem dX4_stepOn_12 : decode cX4_stepOn 12 = .ok (.iconst 0, 1) := by decide +kernel
theorem dX4_stepOn_13 : decode cX4_stepOn 13 = .ok (.istore 4, 2) := by decide +kernel
theorem dX4_stepOn_15 : decode cX4_stepOn 15 = .ok (.iload 4, 2) := by decide +kernel
theorem dX4_stepOn_17 : decode cX4_stepOn 17 = .ok (.bipush 64, 2) := by decide +kernel
theorem dX4_stepOn_19 : decode cX4_stepOn 19 = .ok (.if_icmp .ge 46, 3) := by decide +kernel
theorem dX4_stepOn_22 : decode cX4_stepOn 22 = .ok (.aload_n 0, 1) := by decide +kernel
theorem dX4_stepOn_23 : decode cX4_stepOn 23 = .ok (.getfield 18, 3) := by decide +kernel
theorem dX4_stepOn_26 : decode cX4_stepOn 26 = .ok (.iload_n 3, 1) := by decide +kernel
theorem dX4_stepOn_27 : decode cX4_stepOn 27 = .ok (.iload 4, 2) := by decide +kernel
theorem dX4_stepOn_29 : decode cX4_stepOn 29 = .ok (.iadd, 1) := by decide +kernel
theorem dX4_stepOn_30 : decode cX4_stepOn 30 = .ok (.iaload, 1) := by decide +kernel
theorem dX4_stepOn_31 : decode cX4_stepOn 31 = .ok (.sipush 1000, 3) := by decide +kernel
theorem dX4_stepOn_34 : decode cX4_stepOn 34 = .ok (.if_icmp .ge 25, 3) := by decide +kernel
theorem dX4_stepOn_37 : decode cX4_stepOn 37 = .ok (.aload_n 0, 1) := by decide +kernel
theorem dX4_stepOn_38 : decode cX4_stepOn 38 = .ok (.getfield 12, 3) := by decide +kernel
theorem dX4_stepOn_41 : decode cX4_stepOn 41 = .ok (.aload_n 0, 1) := by decide +kernel
theorem dX4_stepOn_42 : decode cX4_stepOn 42 = .ok (.getfield 18, 3) := by decide +kernel
theorem dX4_stepOn_45 : decode cX4_stepOn 45 = .ok (.iload_n 3, 1) := by decide +kernel
theorem dX4_stepOn_46 : decode cX4_stepOn 46 = .ok (.iload 4, 2) := by decide +kernel
theorem dX4_stepOn_48 : decode cX4_stepOn 48 = .ok (.iadd, 1) := by decide +kernel
theorem dX4_stepOn_49 : decode cX4_stepOn 49 = .ok (.iaload, 1) := by decide +kernel
theorem dX4_stepOn_50 : decode cX4_stepOn 50 = .ok (.bipush 64, 2) := by decide +kernel
theorem dX4_stepOn_52 : decode cX4_stepOn 52 = .ok (.imul, 1) := by decide +kernel
theorem dX4_stepOn_53 : decode cX4_stepOn 53 = .ok (.iload 4, 2) := by decide +kernel
theorem dX4_stepOn_55 : decode cX4_stepOn 55 = .ok (.iadd, 1) := by decide +kernel
theorem dX4_stepOn_56 : decode cX4_stepOn 56 = .ok (.invokevirtual 55, 3) := by decide +kernel
theorem dX4_stepOn_59 : decode cX4_stepOn 59 = .ok (.iinc 4 1, 3) := by decide +kernel
theorem dX4_stepOn_62 : decode cX4_stepOn 62 = .ok (.goto (-47), 3) := by decide +kernel
theorem dX4_stepOn_65 : decode cX4_stepOn 65 = .ok (.iconst 0, 1) := by decide +kernel
theorem dX4_stepOn_66 : decode cX4_stepOn 66 = .ok (.istore 4, 2) := by decide +kernel
theorem dX4_stepOn_68 : decode cX4_stepOn 68 = .ok (.iload 4, 2) := by decide +kernel
theorem dX4_stepOn_70 : decode cX4_stepOn 70 = .ok (.sipush 320, 3) := by decide +kernel
theorem dX4_stepOn_73 : decode cX4_stepOn 73 = .ok (.if_icmp .ge 148, 3) := by decide +kernel
theorem dX4_stepOn_76 : decode cX4_stepOn 76 = .ok (.aload_n 0, 1) := by decide +kernel
theorem dX4_stepOn_77 : decode cX4_stepOn 77 = .ok (.getfield 12, 3) := by decide +kernel
theorem dX4_stepOn_80 : decode cX4_stepOn 80 = .ok (.invokevirtual 58, 3) := by decide +kernel
theorem dX4_stepOn_83 : decode cX4_stepOn 83 = .ok (.ifCond .ne 138, 3) := by decide +kernel
theorem dX4_stepOn_86 : decode cX4_stepOn 86 = .ok (.aload_n 0, 1) := by decide +kernel
theorem dX4_stepOn_87 : decode cX4_stepOn 87 = .ok (.getfield 12, 3) := by decide +kernel
theorem dX4_stepOn_90 : decode cX4_stepOn 90 = .ok (.invokevirtual 62, 3) := by decide +kernel
theorem dX4_stepOn_93 : decode cX4_stepOn 93 = .ok (.istore 5, 2) := by decide +kernel
theorem dX4_stepOn_95 : decode cX4_stepOn 95 = .ok (.iload 5, 2) := by decide +kernel
theorem dX4_stepOn_97 : decode cX4_stepOn 97 = .ok (.bipush 64, 2) := by decide +kernel
theorem dX4_stepOn_99 : decode cX4_stepOn 99 = .ok (.irem, 1) := by decide +kernel
theorem dX4_stepOn_100 : decode cX4_stepOn 100 = .ok (.istore 6, 2) := by decide +kernel
theorem dX4_stepOn_102 : decode cX4_stepOn 102 = .ok (.iload 5, 2) := by decide +kernel
theorem dX4_stepOn_104 : decode cX4_stepOn 104 = .ok (.bipush 64, 2) := by decide +kernel
theorem dX4_stepOn_106 : decode cX4_stepOn 106 = .ok (.idiv, 1) := by decide +kernel
theorem dX4_stepOn_107 : decode cX4_stepOn 107 = .ok (.iconst 1, 1) := by decide +kernel
theorem dX4_stepOn_108 : decode cX4_stepOn 108 = .ok (.iadd, 1) := by decide +kernel
theorem dX4_stepOn_109 : decode cX4_stepOn 109 = .ok (.istore 7, 2) := by decide +kernel
theorem dX4_stepOn_111 : decode cX4_stepOn 111 = .ok (.iconst 0, 1) := by decide +kernel
theorem dX4_stepOn_112 : decode cX4_stepOn 112 = .ok (.istore 8, 2) := by decide +kernel
theorem dX4_stepOn_114 : decode cX4_stepOn 114 = .ok (.iload 8, 2) := by decide +kernel
theorem dX4_stepOn_116 : decode cX4_stepOn 116 = .ok (.iconst 4, 1) := by decide +kernel
theorem dX4_stepOn_117 : decode cX4_stepOn 117 = .ok (.if_icmp .ge 98, 3) := by decide +kernel
theorem dX4_stepOn_120 : decode cX4_stepOn 120 = .ok (.iload 7, 2) := by decide +kernel
theorem dX4_stepOn_122 : decode cX4_stepOn 122 = .ok (.iconst 1, 1) := by decide +kernel
theorem dX4_stepOn_123 : decode cX4_stepOn 123 = .ok (.isub, 1) := by decide +kernel
theorem dX4_stepOn_124 : decode cX4_stepOn 124 = .ok (.aload_n 0, 1) := by decide +kernel
theorem dX4_stepOn_125 : decode cX4_stepOn 125 = .ok (.getfield 18, 3) := by decide +kernel
theorem dX4_stepOn_128 : decode cX4_stepOn 128 = .ok (.iload_n 3, 1) := by decide +kernel
theorem dX4_stepOn_129 : decode cX4_stepOn 129 = .ok (.iload 6, 2) := by decide +kernel
theorem dX4_stepOn_131 : decode cX4_stepOn 131 = .ok (.iadd, 1) := by decide +kernel
theorem dX4_stepOn_132 : decode cX4_stepOn 132 = .ok (.iaload, 1) := by decide +kernel
theorem dX4_stepOn_133 : decode cX4_stepOn 133 = .ok (.if_icmp .ne 82, 3) := by decide +kernel
theorem dX4_stepOn_136 : decode cX4_stepOn 136 = .ok (.aload_n 0, 1) := by decide +kernel
theorem dX4_stepOn_137 : decode cX4_stepOn 137 = .ok (.getfield 22, 3) := by decide +kernel
theorem dX4_stepOn_140 : decode cX4_stepOn 140 = .ok (.getfield 66, 3) := by decide +kernel
theorem dX4_stepOn_143 : decode cX4_stepOn 143 = .ok (.iload 6, 2) := by decide +kernel
theorem dX4_stepOn_145 : decode cX4_stepOn 145 = .ok (.iconst 4, 1) := by decide +kernel
theorem dX4_stepOn_146 : decode cX4_stepOn 146 = .ok (.imul, 1) := by decide +kernel
theorem dX4_stepOn_147 : decode cX4_stepOn 147 = .ok (.iload 8, 2) := by decide +kernel
theorem dX4_stepOn_149 : decode cX4_stepOn 149 = .ok (.iadd, 1) := by decide +kernel
theorem dX4_stepOn_150 : decode cX4_stepOn 150 = .ok (.iaload, 1) := by decide +kernel
theorem dX4_stepOn_151 : decode cX4_stepOn 151 = .ok (.istore 9, 2) := by decide +kernel
theorem dX4_stepOn_153 : decode cX4_stepOn 153 = .ok (.iload 9, 2) := by decide +kernel
theorem dX4_stepOn_155 : decode cX4_stepOn 155 = .ok (.iconst (-1), 1) := by decide +kernel
theorem dX4_stepOn_156 : decode cX4_stepOn 156 = .ok (.if_icmp .eq 53, 3) := by decide +kernel
theorem dX4_stepOn_159 : decode cX4_stepOn 159 = .ok (.aload_n 1, 1) := by decide +kernel
theorem dX4_stepOn_160 : decode cX4_stepOn 160 = .ok (.getfield 69, 3) := by decide +kernel
theorem dX4_stepOn_163 : decode cX4_stepOn 163 = .ok (.iload 9, 2) := by decide +kernel
theorem dX4_stepOn_165 : decode cX4_stepOn 165 = .ok (.iaload, 1) := by decide +kernel
theorem dX4_stepOn_166 : decode cX4_stepOn 166 = .ok (.ifCond .ne 43, 3) := by decide +kernel
theorem dX4_stepOn_169 : decode cX4_stepOn 169 = .ok (.iload 7, 2) := by decide +kernel
theorem dX4_stepOn_171 : decode cX4_stepOn 171 = .ok (.aload_n 0, 1) := by decide +kernel
theorem dX4_stepOn_172 : decode cX4_stepOn 172 = .ok (.getfield 18, 3) := by decide +kernel
theorem dX4_stepOn_175 : decode cX4_stepOn 175 = .ok (.iload_n 3, 1) := by decide +kernel
theorem dX4_stepOn_176 : decode cX4_stepOn 176 = .ok (.iload 9, 2) := by decide +kernel
theorem dX4_stepOn_178 : decode cX4_stepOn 178 = .ok (.iadd, 1) := by decide +kernel
theorem dX4_stepOn_179 : decode cX4_stepOn 179 = .ok (.iaload, 1) := by decide +kernel
theorem dX4_stepOn_180 : decode cX4_stepOn 180 = .ok (.if_icmp .ge 29, 3) := by decide +kernel
theorem dX4_stepOn_183 : decode cX4_stepOn 183 = .ok (.aload_n 0, 1) := by decide +kernel
theorem dX4_stepOn_184 : decode cX4_stepOn 184 = .ok (.getfield 18, 3) := by decide +kernel
theorem dX4_stepOn_187 : decode cX4_stepOn 187 = .ok (.iload_n 3, 1) := by decide +kernel
theorem dX4_stepOn_188 : decode cX4_stepOn 188 = .ok (.iload 9, 2) := by decide +kernel
theorem dX4_stepOn_190 : decode cX4_stepOn 190 = .ok (.iadd, 1) := by decide +kernel
theorem dX4_stepOn_191 : decode cX4_stepOn 191 = .ok (.iload 7, 2) := by decide +kernel
theorem dX4_stepOn_193 : decode cX4_stepOn 193 = .ok (.iastore, 1) := by decide +kernel
theorem dX4_stepOn_194 : decode cX4_stepOn 194 = .ok (.aload_n 0, 1) := by decide +kernel
theorem dX4_stepOn_195 : decode cX4_stepOn 195 = .ok (.getfield 12, 3) := by decide +kernel
theorem dX4_stepOn_198 : decode cX4_stepOn 198 = .ok (.iload 7, 2) := by decide +kernel
theorem dX4_stepOn_200 : decode cX4_stepOn 200 = .ok (.bipush 64, 2) := by decide +kernel
theorem dX4_stepOn_202 : decode cX4_stepOn 202 = .ok (.imul, 1) := by decide +kernel
theorem dX4_stepOn_203 : decode cX4_stepOn 203 = .ok (.iload 9, 2) := by decide +kernel
theorem dX4_stepOn_205 : decode cX4_stepOn 205 = .ok (.iadd, 1) := by decide +kernel
theorem dX4_stepOn_206 : decode cX4_stepOn 206 = .ok (.invokevirtual 55, 3) := by decide +kernel
theorem dX4_stepOn_209 : decode cX4_stepOn 209 = .ok (.iinc 8 1, 3) := by decide +kernel
theorem dX4_stepOn_212 : decode cX4_stepOn 212 = .ok (.goto (-98), 3) := by decide +kernel
theorem dX4_stepOn_215 : decode cX4_stepOn 215 = .ok (.iinc 4 1, 3) := by decide +kernel
theorem dX4_stepOn_218 : decode cX4_stepOn 218 = .ok (.goto (-150), 3) := by decide +kernel
theorem dX4_stepOn_221 : decode cX4_stepOn 221 = .ok (.return_, 1) := by decide +kernel
theorem dX6_distanceTo_0 : decode cX6_distanceTo 0 = .ok (.aload_n 0, 1) := by decide +kernel
theorem dX6_distanceTo_1 : decode cX6_distanceTo 1 = .ok (.getfield 22, 3) := by decide +kernel
theorem dX6_distanceTo_4 : decode cX6_distanceTo 4 = .ok (.iconst 0, 1) := by decide +kernel
theorem dX6_distanceTo_5 : decode cX6_distanceTo 5 = .ok (.invokestatic 139, 3) := by decide +kernel
theorem dX6_distanceTo_8 : decode cX6_distanceTo 8 = .ok (.aload_n 0, 1) := by decide +kernel
theorem dX6_distanceTo_9 : decode cX6_distanceTo 9 = .ok (.aload_n 1, 1) := by decide +kernel
theorem dX6_distanceTo_10 : decode cX6_distanceTo 10 = .ok (.iload_n 2, 1) := by decide +kernel
theorem dX6_distanceTo_11 : decode cX6_distanceTo 11 = .ok (.iconst 1, 1) := by decide +kernel
theorem dX6_distanceTo_12 : decode cX6_distanceTo 12 = .ok (.invokevirtual 145, 3) := by decide +kernel
theorem dX6_distanceTo_15 : decode cX6_distanceTo 15 = .ok (.aload_n 0, 1) := by decide +kernel
theorem dX6_distanceTo_16 : decode cX6_distanceTo 16 = .ok (.getfield 18, 3) := by decide +kernel
theorem dX6_distanceTo_19 : decode cX6_distanceTo 19 = .ok (.iload_n 3, 1) := by decide +kernel
theorem dX6_distanceTo_20 : decode cX6_distanceTo 20 = .ok (.iaload, 1) := by decide +kernel
theorem dX6_distanceTo_21 : decode cX6_distanceTo 21 = .ok (.ldc 159, 2) := by decide +kernel
theorem dX6_distanceTo_23 : decode cX6_distanceTo 23 = .ok (.if_icmp .ne 7, 3) := by decide +kernel
theorem dX6_distanceTo_26 : decode cX6_distanceTo 26 = .ok (.iconst (-1), 1) := by decide +kernel
theorem dX6_distanceTo_27 : decode cX6_distanceTo 27 = .ok (.goto 9, 3) := by decide +kernel
theorem dX6_distanceTo_30 : decode cX6_distanceTo 30 = .ok (.aload_n 0, 1) := by decide +kernel
theorem dX6_distanceTo_31 : decode cX6_distanceTo 31 = .ok (.getfield 18, 3) := by decide +kernel
theorem dX6_distanceTo_34 : decode cX6_distanceTo 34 = .ok (.iload_n 3, 1) := by decide +kernel
theorem dX6_distanceTo_35 : decode cX6_distanceTo 35 = .ok (.iaload, 1) := by decide +kernel
theorem dX6_distanceTo_36 : decode cX6_distanceTo 36 = .ok (.ireturn, 1) := by decide +kernel
theorem dX6_easeAll_0 : decode cX6_easeAll 0 = .ok (.iconst 0, 1) := by decide +kernel
theorem dX6_easeAll_1 : decode cX6_easeAll 1 = .ok (.istore_n 3, 1) := by decide +kernel
theorem dX6_easeAll_2 : decode cX6_easeAll 2 = .ok (.iload_n 3, 1) := by decide +kernel
theorem dX6_easeAll_3 : decode cX6_easeAll 3 = .ok (.bipush 64, 2) := by decide +kernel
theorem dX6_easeAll_5 : decode cX6_easeAll 5 = .ok (.if_icmp .ge 36, 3) := by decide +kernel
theorem dX6_easeAll_8 : decode cX6_easeAll 8 = .ok (.aload_n 1, 1) := by decide +kernel
theorem dX6_easeAll_9 : decode cX6_easeAll 9 = .ok (.getfield 87, 3) := by decide +kernel
theorem dX6_easeAll_12 : decode cX6_easeAll 12 = .ok (.iload_n 3, 1) := by decide +kernel
theorem dX6_easeAll_13 : decode cX6_easeAll 13 = .ok (.iaload, 1) := by decide +kernel
theorem dX6_easeAll_14 : decode cX6_easeAll 14 = .ok (.iload_n 2, 1) := by decide +kernel
theorem dX6_easeAll_15 : decode cX6_easeAll 15 = .ok (.isub, 1) := by decide +kernel
theorem dX6_easeAll_16 : decode cX6_easeAll 16 = .ok (.istore 4, 2) := by decide +kernel
theorem dX6_easeAll_18 : decode cX6_easeAll 18 = .ok (.aload_n 1, 1) := by decide +kernel
theorem dX6_easeAll_19 : decode cX6_easeAll 19 = .ok (.getfield 87, 3) := by decide +kernel
theorem dX6_easeAll_22 : decode cX6_easeAll 22 = .ok (.iload_n 3, 1) := by decide +kernel
theorem dX6_easeAll_23 : decode cX6_easeAll 23 = .ok (.iload 4, 2) := by decide +kernel
theorem dX6_easeAll_25 : decode cX6_easeAll 25 = .ok (.ifCond .le 8, 3) := by decide +kernel
theorem dX6_easeAll_28 : decode cX6_easeAll 28 = .ok (.iload 4, 2) := by decide +kernel
theorem dX6_easeAll_30 : decode cX6_easeAll 30 = .ok (.goto 4, 3) := by decide +kernel
theorem dX6_easeAll_33 : decode cX6_easeAll 33 = .ok (.iconst 0, 1) := by decide +kernel
theorem dX6_easeAll_34 : decode cX6_easeAll 34 = .ok (.iastore, 1) := by decide +kernel
theorem dX6_easeAll_35 : decode cX6_easeAll 35 = .ok (.iinc 3 1, 3) := by decide +kernel
theorem dX6_easeAll_38 : decode cX6_easeAll 38 = .ok (.goto (-36), 3) := by decide +kernel
theorem dX6_easeAll_41 : decode cX6_easeAll 41 = .ok (.return_, 1) := by decide +kernel
theorem dX6_goRound_0 : decode cX6_goRound 0 = .ok (.iconst 0, 1) := by decide +kernel
theorem dX6_goRound_1 : decode cX6_goRound 1 = .ok (.istore_n 2, 1) := by decide +kernel
theorem dX6_goRound_2 : decode cX6_goRound 2 = .ok (.iload_n 2, 1) := by decide +kernel
theorem dX6_goRound_3 : decode cX6_goRound 3 = .ok (.aload_n 0, 1) := by decide +kernel
theorem dX6_goRound_4 : decode cX6_goRound 4 = .ok (.getfield 28, 3) := by decide +kernel
theorem dX6_goRound_7 : decode cX6_goRound 7 = .ok (.getfield 99, 3) := by decide +kernel
theorem dX6_goRound_10 : decode cX6_goRound 10 = .ok (.if_icmp .ge 67, 3) := by decide +kernel
theorem dX6_goRound_13 : decode cX6_goRound 13 = .ok (.aload_n 0, 1) := by decide +kernel
theorem dX6_goRound_14 : decode cX6_goRound 14 = .ok (.getfield 28, 3) := by decide +kernel
theorem dX6_goRound_17 : decode cX6_goRound 17 = .ok (.getfield 67, 3) := by decide +kernel
theorem dX6_goRound_20 : decode cX6_goRound 20 = .ok (.iload_n 2, 1) := by decide +kernel
theorem dX6_goRound_21 : decode cX6_goRound 21 = .ok (.iaload, 1) := by decide +kernel
theorem dX6_goRound_22 : decode cX6_goRound 22 = .ok (.ifCond .eq 27, 3) := by decide +kernel
theorem dX6_goRound_25 : decode cX6_goRound 25 = .ok (.aload_n 0, 1) := by decide +kernel
theorem dX6_goRound_26 : decode cX6_goRound 26 = .ok (.getfield 36, 3) := by decide +kernel
theorem dX6_goRound_29 : decode cX6_goRound 29 = .ok (.aload_n 1, 1) := by decide +kernel
theorem dX6_goRound_30 : decode cX6_goRound 30 = .ok (.iload_n 2, 1) := by decide +kernel
theorem dX6_goRound_31 : decode cX6_goRound 31 = .ok (.invokevirtual 102, 3) := by decide +kernel
theorem dX6_goRound_34 : decode cX6_goRound 34 = .ok (.ifCond .eq 19, 3) := by decide +kernel
theorem dX6_goRound_37 : decode cX6_goRound 37 = .ok (.aload_n 0, 1) := by decide +kernel
theorem dX6_goRound_38 : decode cX6_goRound 38 = .ok (.getfield 36, 3) := by decide +kernel
theorem dX6_goRound_41 : decode cX6_goRound 41 = .ok (.aload_n 1, 1) := by decide +kernel
theorem dX6_goRound_42 : decode cX6_goRound 42 = .ok (.iload_n 2, 1) := by decide +kernel
theorem dX6_goRound_43 : decode cX6_goRound 43 = .ok (.invokevirtual 107, 3) := by decide +kernel
theorem dX6_goRound_46 : decode cX6_goRound 46 = .ok (.ifCond .ne 7, 3) := by decide +kernel
theorem dX6_goRound_49 : decode cX6_goRound 49 = .ok (.iconst 1, 1) := by decide +kernel
theorem dX6_goRound_50 : decode cX6_goRound 50 = .ok (.goto 4, 3) := by decide +kernel
theorem dX6_goRound_53 : decode cX6_goRound 53 = .ok (.iconst 0, 1) := by decide +kernel
theorem dX6_goRound_54 : decode cX6_goRound 54 = .ok (.istore_n 3, 1) := by decide +kernel
theorem dX6_goRound_55 : decode cX6_goRound 55 = .ok (.iload_n 3, 1) := by decide +kernel
theorem dX6_goRound_56 : decode cX6_goRound 56 = .ok (.ifCond .ne 15, 3) := by decide +kernel
theorem dX6_goRound_59 : decode cX6_goRound 59 = .ok (.aload_n 0, 1) := by decide +kernel
theorem dX6_goRound_60 : decode cX6_goRound 60 = .ok (.aload_n 1, 1) := by decide +kernel
theorem dX6_goRound_61 : decode cX6_goRound 61 = .ok (.iload_n 2, 1) := by decide +kernel
theorem dX6_goRound_62 : decode cX6_goRound 62 = .ok (.invokevirtual 111, 3) := by decide +kernel
theorem dX6_goRound_65 : decode cX6_goRound 65 = .ok (.aload_n 0, 1) := by decide +kernel
theorem dX6_goRound_66 : decode cX6_goRound 66 = .ok (.aload_n 1, 1) := by decide +kernel
theorem dX6_goRound_67 : decode cX6_goRound 67 = .ok (.iload_n 2, 1) := by decide +kernel
theorem dX6_goRound_68 : decode cX6_goRound 68 = .ok (.invokevirtual 84, 3) := by decide +kernel
theorem dX6_goRound_71 : decode cX6_goRound 71 = .ok (.iinc 2 1, 3) := by decide +kernel
theorem dX6_goRound_74 : decode cX6_goRound 74 = .ok (.goto (-72), 3) := by decide +kernel
theorem dX6_goRound_77 : decode cX6_goRound 77 = .ok (.iconst 0, 1) := by decide +kernel
theorem dX6_goRound_78 : decode cX6_goRound 78 = .ok (.istore_n 2, 1) := by decide +kernel
theorem dX6_goRound_79 : decode cX6_goRound 79 = .ok (.iload_n 2, 1) := by decide +kernel
theorem dX6_goRound_80 : decode cX6_goRound 80 = .ok (.bipush 64, 2) := by decide +kernel
theorem dX6_goRound_82 : decode cX6_goRound 82 = .ok (.if_icmp .ge 54, 3) := by decide +kernel
theorem dX6_goRound_85 : decode cX6_goRound 85 = .ok (.aload_n 1, 1) := by decide +kernel
theorem dX6_goRound_86 : decode cX6_goRound 86 = .ok (.getfield 87, 3) := by decide +kernel
theorem dX6_goRound_89 : decode cX6_goRound 89 = .ok (.iload_n 2, 1) := by decide +kernel
theorem dX6_goRound_90 : decode cX6_goRound 90 = .ok (.iaload, 1) := by decide +kernel
theorem dX6_goRound_91 : decode cX6_goRound 91 = .ok (.aload_n 0, 1) := by decide +kernel
theorem dX6_goRound_92 : decode cX6_goRound 92 = .ok (.getfield 36, 3) := by decide +kernel
theorem dX6_goRound_95 : decode cX6_goRound 95 = .ok (.aload_n 1, 1) := by decide +kernel
theorem dX6_goRound_96 : decode cX6_goRound 96 = .ok (.iload_n 2, 1) := by decide +kernel
theorem dX6_goRound_97 : decode cX6_goRound 97 = .ok (.invokevirtual 114, 3) := by decide +kernel
theorem dX6_goRound_100 : decode cX6_goRound 100 = .ok (.aload_n 0, 1) := by decide +kernel
theorem dX6_goRound_101 : decode cX6_goRound 101 = .ok (.getfield 28, 3) := by decide +kernel
theorem dX6_goRound_104 : decode cX6_goRound 104 = .ok (.getfield 117, 3) := by decide +kernel
theorem dX6_goRound_107 : decode cX6_goRound 107 = .ok (.imul, 1) := by decide +kernel
theorem dX6_goRound_108 : decode cX6_goRound 108 = .ok (.iadd, 1) := by decide +kernel
theorem dX6_goRound_109 : decode cX6_goRound 109 = .ok (.istore_n 3, 1) := by decide +kernel
theorem dX6_goRound_110 : decode cX6_goRound 110 = .ok (.aload_n 1, 1) := by decide +kernel
theorem dX6_goRound_111 : decode cX6_goRound 111 = .ok (.getfield 87, 3) := by decide +kernel
theorem dX6_goRound_114 : decode cX6_goRound 114 = .ok (.iload_n 2, 1) := by decide +kernel
theorem dX6_goRound_115 : decode cX6_goRound 115 = .ok (.iload_n 3, 1) := by decide +kernel
theorem dX6_goRound_116 : decode cX6_goRound 116 = .ok (.sipush 9999, 3) := by decide +kernel
theorem dX6_goRound_119 : decode cX6_goRound 119 = .ok (.if_icmp .ge 7, 3) := by decide +kernel
theorem dX6_goRound_122 : decode cX6_goRound 122 = .ok (.iload_n 3, 1) := by decide +kernel
theorem dX6_goRound_123 : decode cX6_goRound 123 = .ok (.goto 6, 3) := by decide +kernel
theorem dX6_goRound_126 : decode cX6_goRound 126 = .ok (.sipush 9999, 3) := by decide +kernel
theorem dX6_goRound_129 : decode cX6_goRound 129 = .ok (.iastore, 1) := by decide +kernel
theorem dX6_goRound_130 : decode cX6_goRound 130 = .ok (.iinc 2 1, 3) := by decide +kernel
theorem dX6_goRound_133 : decode cX6_goRound 133 = .ok (.goto (-54), 3) := by decide +kernel
theorem dX6_goRound_136 : decode cX6_goRound 136 = .ok (.aload_n 1, 1) := by decide +kernel
theorem dX6_goRound_137 : decode cX6_goRound 137 = .ok (.dup, 1) := by decide +kernel
theorem dX6_goRound_138 : decode cX6_goRound 138 = .ok (.getfield 40, 3) := by decide +kernel
theorem dX6_goRound_141 : decode cX6_goRound 141 = .ok (.iconst 1, 1) := by decide +kernel
theorem dX6_goRound_142 : decode cX6_goRound 142 = .ok (.iadd, 1) := by decide +kernel
theorem dX6_goRound_143 : decode cX6_goRound 143 = .ok (.putfield 40, 3) := by decide +kernel
theorem dX6_goRound_146 : decode cX6_goRound 146 = .ok (.return_, 1) := by decide +kernel
theorem dX6_grow_0 : decode cX6_grow 0 = .ok (.aload_n 0, 1) := by decide +kernel
theorem dX6_grow_1 : decode cX6_grow 1 = .ok (.getfield 22, 3) := by decide +kernel
theorem dX6_grow_4 : decode cX6_grow 4 = .ok (.iconst 0, 1) := by decide +kernel
theorem dX6_grow_5 : decode cX6_grow 5 = .ok (.invokestatic 139, 3) := by decide +kernel
theorem dX6_grow_8 : decode cX6_grow 8 = .ok (.iconst 0, 1) := by decide +kernel
theorem dX6_grow_9 : decode cX6_grow 9 = .ok (.istore_n 3, 1) := by decide +kernel
theorem dX6_grow_10 : decode cX6_grow 10 = .ok (.iload_n 3, 1) := by decide +kernel
theorem dX6_grow_11 : decode cX6_grow 11 = .ok (.iconst 4, 1) := by decide +kernel
theorem dX6_grow_12 : decode cX6_grow 12 = .ok (.if_icmp .ge 51, 3) := by decide +kernel
theorem dX6_grow_15 : decode cX6_grow 15 = .ok (.aload_n 0, 1) := by decide +kernel
theorem dX6_grow_16 : decode cX6_grow 16 = .ok (.getfield 36, 3) := by decide +kernel
theorem dX6_grow_19 : decode cX6_grow 19 = .ok (.aload_n 1, 1) := by decide +kernel
theorem dX6_grow_20 : decode cX6_grow 20 = .ok (.iload_n 2, 1) := by decide +kernel
theorem dX6_grow_21 : decode cX6_grow 21 = .ok (.invokevirtual 102, 3) := by decide +kernel
theorem dX6_grow_24 : decode cX6_grow 24 = .ok (.ifCond .ne 39, 3) := by decide +kernel
theorem dX6_grow_27 : decode cX6_grow 27 = .ok (.aload_n 0, 1) := by decide +kernel
theorem dX6_grow_28 : decode cX6_grow 28 = .ok (.aload_n 1, 1) := by decide +kernel
theorem dX6_grow_29 : decode cX6_grow 29 = .ok (.iload_n 2, 1) := by decide +kernel
theorem dX6_grow_30 : decode cX6_grow 30 = .ok (.iconst 0, 1) := by decide +kernel
theorem dX6_grow_31 : decode cX6_grow 31 = .ok (.invokevirtual 145, 3) := by decide +kernel
theorem dX6_grow_34 : decode cX6_grow 34 = .ok (.aload_n 0, 1) := by decide +kernel
theorem dX6_grow_35 : decode cX6_grow 35 = .ok (.aload_n 1, 1) := by decide +kernel
theorem dX6_grow_36 : decode cX6_grow 36 = .ok (.iload_n 2, 1) := by decide +kernel
theorem dX6_grow_37 : decode cX6_grow 37 = .ok (.invokevirtual 149, 3) := by decide +kernel
theorem dX6_grow_40 : decode cX6_grow 40 = .ok (.istore 4, 2) := by decide +kernel
theorem dX6_grow_42 : decode cX6_grow 42 = .ok (.iload 4, 2) := by decide +kernel
theorem dX6_grow_44 : decode cX6_grow 44 = .ok (.iconst (-1), 1) := by decide +kernel
theorem dX6_grow_45 : decode cX6_grow 45 = .ok (.if_icmp .ne 4, 3) := by decide +kernel
theorem dX6_grow_48 : decode cX6_grow 48 = .ok (.return_, 1) := by decide +kernel
theorem dX6_grow_49 : decode cX6_grow 49 = .ok (.aload_n 0, 1) := by decide +kernel
theorem dX6_grow_50 : decode cX6_grow 50 = .ok (.aload_n 1, 1) := by decide +kernel
theorem dX6_grow_51 : decode cX6_grow 51 = .ok (.iload_n 2, 1) := by decide +kernel
theorem dX6_grow_52 : decode cX6_grow 52 = .ok (.iload 4, 2) := by decide +kernel
theorem dX6_grow_54 : decode cX6_grow 54 = .ok (.invokevirtual 152, 3) := by decide +kernel
theorem dX6_grow_57 : decode cX6_grow 57 = .ok (.iinc 3 1, 3) := by decide +kernel
theorem dX6_grow_60 : decode cX6_grow 60 = .ok (.goto (-50), 3) := by decide +kernel
theorem dX6_grow_63 : decode cX6_grow 63 = .ok (.return_, 1) := by decide +kernel
theorem dX6_init_0 : decode cX6_init 0 = .ok (.aload_n 0, 1) := by decide +kernel
theorem dX6_init_1 : decode cX6_init 1 = .ok (.invokespecial 3, 3) := by decide +kernel
theorem dX6_init_4 : decode cX6_init 4 = .ok (.aload_n 0, 1) := by decide +kernel
theorem dX6_init_5 : decode cX6_init 5 = .ok (.new 9, 3) := by decide +kernel
theorem dX6_init_8 : decode cX6_init 8 = .ok (.dup, 1) := by decide +kernel
theorem dX6_init_9 : decode cX6_init 9 = .ok (.invokespecial 11, 3) := by decide +kernel
theorem dX6_init_12 : decode cX6_init 12 = .ok (.putfield 12, 3) := by decide +kernel
theorem dX6_init_15 : decode cX6_init 15 = .ok (.aload_n 0, 1) := by decide +kernel
theorem dX6_init_16 : decode cX6_init 16 = .ok (.bipush 64, 2) := by decide +kernel
theorem dX6_init_18 : decode cX6_init 18 = .ok (.newarray .int, 2) := by decide +kernel
theorem dX6_init_20 : decode cX6_init 20 = .ok (.putfield 18, 3) := by decide +kernel
theorem dX6_init_23 : decode cX6_init 23 = .ok (.aload_n 0, 1) := by decide +kernel
theorem dX6_init_24 : decode cX6_init 24 = .ok (.bipush 64, 2) := by decide +kernel
theorem dX6_init_26 : decode cX6_init 26 = .ok (.newarray .int, 2) := by decide +kernel
theorem dX6_init_28 : decode cX6_init 28 = .ok (.putfield 22, 3) := by decide +kernel
theorem dX6_init_31 : decode cX6_init 31 = .ok (.aload_n 0, 1) := by decide +kernel
theorem dX6_init_32 : decode cX6_init 32 = .ok (.bipush 64, 2) := by decide +kernel
theorem dX6_init_34 : decode cX6_init 34 = .ok (.newarray .int, 2) := by decide +kernel
theorem dX6_init_36 : decode cX6_init 36 = .ok (.putfield 25, 3) := by decide +kernel
theorem dX6_init_39 : decode cX6_init 39 = .ok (.aload_n 0, 1) := by decide +kernel
theorem dX6_init_40 : decode cX6_init 40 = .ok (.aload_n 1, 1) := by decide +kernel
theorem dX6_init_41 : decode cX6_init 41 = .ok (.putfield 28, 3) := by decide +kernel
theorem dX6_init_44 : decode cX6_init 44 = .ok (.aload_n 0, 1) := by decide +kernel
theorem dX6_init_45 : decode cX6_init 45 = .ok (.aload_n 2, 1) := by decide +kernel
theorem dX6_init_46 : decode cX6_init 46 = .ok (.putfield 32, 3) := by decide +kernel
theorem dX6_init_49 : decode cX6_init 49 = .ok (.aload_n 0, 1) := by decide +kernel
theorem dX6_init_50 : decode cX6_init 50 = .ok (.aload_n 3, 1) := by decide +kernel
theorem dX6_init_51 : decode cX6_init 51 = .ok (.putfield 36, 3) := by decide +kernel
theorem dX6_init_54 : decode cX6_init 54 = .ok (.return_, 1) := by decide +kernel
theorem dX6_isClear_0 : decode cX6_isClear 0 = .ok (.aload_n 0, 1) := by decide +kernel
theorem dX6_isClear_1 : decode cX6_isClear 1 = .ok (.getfield 28, 3) := by decide +kernel
theorem dX6_isClear_4 : decode cX6_isClear 4 = .ok (.iload_n 2, 1) := by decide +kernel
theorem dX6_isClear_5 : decode cX6_isClear 5 = .ok (.invokevirtual 76, 3) := by decide +kernel
theorem dX6_isClear_8 : decode cX6_isClear 8 = .ok (.istore 4, 2) := by decide +kernel
theorem dX6_isClear_10 : decode cX6_isClear 10 = .ok (.iload_n 3, 1) := by decide +kernel
theorem dX6_isClear_11 : decode cX6_isClear 11 = .ok (.istore 5, 2) := by decide +kernel
theorem dX6_isClear_13 : decode cX6_isClear 13 = .ok (.iconst 0, 1) := by decide +kernel
theorem dX6_isClear_14 : decode cX6_isClear 14 = .ok (.istore 6, 2) := by decide +kernel
theorem dX6_isClear_16 : decode cX6_isClear 16 = .ok (.iload 6, 2) := by decide +kernel
theorem dX6_isClear_18 : decode cX6_isClear 18 = .ok (.bipush 64, 2) := by decide +kernel
theorem dX6_isClear_20 : decode cX6_isClear 20 = .ok (.if_icmp .ge 50, 3) := by decide +kernel
theorem dX6_isClear_23 : decode cX6_isClear 23 = .ok (.iload 5, 2) := by decide +kernel
theorem dX6_isClear_25 : decode cX6_isClear 25 = .ok (.iconst (-1), 1) := by decide +kernel
theorem dX6_isClear_26 : decode cX6_isClear 26 = .ok (.if_icmp .eq 44, 3) := by decide +kernel
theorem dX6_isClear_29 : decode cX6_isClear 29 = .ok (.iload 5, 2) := by decide +kernel
theorem dX6_isClear_31 : decode cX6_isClear 31 = .ok (.iload 4, 2) := by decide +kernel
theorem dX6_isClear_33 : decode cX6_isClear 33 = .ok (.if_icmp .eq 37, 3) := by decide +kernel
theorem dX6_isClear_36 : decode cX6_isClear 36 = .ok (.aload_n 0, 1) := by decide +kernel
theorem dX6_isClear_37 : decode cX6_isClear 37 = .ok (.getfield 36, 3) := by decide +kernel
theorem dX6_isClear_40 : decode cX6_isClear 40 = .ok (.aload_n 1, 1) := by decide +kernel
theorem dX6_isClear_41 : decode cX6_isClear 41 = .ok (.iload 5, 2) := by decide +kernel
theorem dX6_isClear_43 : decode cX6_isClear 43 = .ok (.invokevirtual 114, 3) := by decide +kernel
theorem dX6_isClear_46 : decode cX6_isClear 46 = .ok (.ifCond .le 5, 3) := by decide +kernel
theorem dX6_isClear_49 : decode cX6_isClear 49 = .ok (.iconst 0, 1) := by decide +kernel
theorem dX6_isClear_50 : decode cX6_isClear 50 = .ok (.ireturn, 1) := by decide +kernel
theorem dX6_isClear_51 : decode cX6_isClear 51 = .ok (.aload_n 0, 1) := by decide +kernel
theorem dX6_isClear_52 : decode cX6_isClear 52 = .ok (.getfield 36, 3) := by decide +kernel
theorem dX6_isClear_55 : decode cX6_isClear 55 = .ok (.aload_n 1, 1) := by decide +kernel
theorem dX6_isClear_56 : decode cX6_isClear 56 = .ok (.iload_n 2, 1) := by decide +kernel
theorem dX6_isClear_57 : decode cX6_isClear 57 = .ok (.iload 5, 2) := by decide +kernel
theorem dX6_isClear_59 : decode cX6_isClear 59 = .ok (.invokevirtual 135, 3) := by decide +kernel
theorem dX6_isClear_62 : decode cX6_isClear 62 = .ok (.istore 5, 2) := by decide +kernel
theorem dX6_isClear_64 : decode cX6_isClear 64 = .ok (.iinc 6 1, 3) := by decide +kernel
theorem dX6_isClear_67 : decode cX6_isClear 67 = .ok (.goto (-51), 3) := by decide +kernel
theorem dX6_isClear_70 : decode cX6_isClear 70 = .ok (.iconst 1, 1) := by decide +kernel
theorem dX6_isClear_71 : decode cX6_isClear 71 = .ok (.ireturn, 1) := by decide +kernel
theorem dX6_layAnew_0 : decode cX6_layAnew 0 = .ok (.aload_n 0, 1) := by decide +kernel
theorem dX6_layAnew_1 : decode cX6_layAnew 1 = .ok (.getfield 28, 3) := by decide +kernel
theorem dX6_layAnew_4 : decode cX6_layAnew 4 = .ok (.getfield 67, 3) := by decide +kernel
theorem dX6_layAnew_7 : decode cX6_layAnew 7 = .ok (.iload_n 2, 1) := by decide +kernel
theorem dX6_layAnew_8 : decode cX6_layAnew 8 = .ok (.iaload, 1) := by decide +kernel
theorem dX6_layAnew_9 : decode cX6_layAnew 9 = .ok (.ifCond .ne 5, 3) := by decide +kernel
theorem dX6_layAnew_12 : decode cX6_layAnew 12 = .ok (.iconst 0, 1) := by decide +kernel
theorem dX6_layAnew_13 : decode cX6_layAnew 13 = .ok (.ireturn, 1) := by decide +kernel
theorem dX6_layAnew_14 : decode cX6_layAnew 14 = .ok (.aload_n 1, 1) := by decide +kernel
theorem dX6_layAnew_15 : decode cX6_layAnew 15 = .ok (.iload_n 2, 1) := by decide +kernel
theorem dX6_layAnew_16 : decode cX6_layAnew 16 = .ok (.invokevirtual 72, 3) := by decide +kernel
theorem dX6_layAnew_19 : decode cX6_layAnew 19 = .ok (.pop, 1) := by decide +kernel
theorem dX6_layAnew_20 : decode cX6_layAnew 20 = .ok (.aload_n 1, 1) := by decide +kernel
theorem dX6_layAnew_21 : decode cX6_layAnew 21 = .ok (.iload_n 2, 1) := by decide +kernel
theorem dX6_layAnew_22 : decode cX6_layAnew 22 = .ok (.aload_n 0, 1) := by decide +kernel
theorem dX6_layAnew_23 : decode cX6_layAnew 23 = .ok (.getfield 28, 3) := by decide +kernel
theorem dX6_layAnew_26 : decode cX6_layAnew 26 = .ok (.iload_n 2, 1) := by decide +kernel
theorem dX6_layAnew_27 : decode cX6_layAnew 27 = .ok (.invokevirtual 76, 3) := by decide +kernel
theorem dX6_layAnew_30 : decode cX6_layAnew 30 = .ok (.iconst 4, 1) := by decide +kernel
theorem dX6_layAnew_31 : decode cX6_layAnew 31 = .ok (.invokevirtual 80, 3) := by decide +kernel
theorem dX6_layAnew_34 : decode cX6_layAnew 34 = .ok (.aload_n 0, 1) := by decide +kernel
theorem dX6_layAnew_35 : decode cX6_layAnew 35 = .ok (.aload_n 1, 1) := by decide +kernel
theorem dX6_layAnew_36 : decode cX6_layAnew 36 = .ok (.iload_n 2, 1) := by decide +kernel
theorem dX6_layAnew_37 : decode cX6_layAnew 37 = .ok (.invokevirtual 84, 3) := by decide +kernel
theorem dX6_layAnew_40 : decode cX6_layAnew 40 = .ok (.iconst 1, 1) := by decide +kernel
theorem dX6_layAnew_41 : decode cX6_layAnew 41 = .ok (.ireturn, 1) := by decide +kernel
theorem dX6_layBack_0 : decode cX6_layBack 0 = .ok (.iload_n 3, 1) := by decide +kernel
theorem dX6_layBack_1 : decode cX6_layBack 1 = .ok (.istore 4, 2) := by decide +kernel
theorem dX6_layBack_3 : decode cX6_layBack 3 = .ok (.iconst 0, 1) := by decide +kernel
theorem dX6_layBack_4 : decode cX6_layBack 4 = .ok (.istore 5, 2) := by decide +kernel
theorem dX6_layBack_6 : decode cX6_layBack 6 = .ok (.iload 5, 2) := by decide +kernel
theorem dX6_layBack_8 : decode cX6_layBack 8 = .ok (.bipush 64, 2) := by decide +kernel
theorem dX6_layBack_10 : decode cX6_layBack 10 = .ok (.if_icmp .ge 66, 3) := by decide +kernel
theorem dX6_layBack_13 : decode cX6_layBack 13 = .ok (.iload 4, 2) := by decide +kernel
theorem dX6_layBack_15 : decode cX6_layBack 15 = .ok (.iconst (-1), 1) := by decide +kernel
theorem dX6_layBack_16 : decode cX6_layBack 16 = .ok (.if_icmp .eq 60, 3) := by decide +kernel
theorem dX6_layBack_19 : decode cX6_layBack 19 = .ok (.aload_n 1, 1) := by decide +kernel
theorem dX6_layBack_20 : decode cX6_layBack 20 = .ok (.iload_n 2, 1) := by decide +kernel
theorem dX6_layBack_21 : decode cX6_layBack 21 = .ok (.iload 4, 2) := by decide +kernel
theorem dX6_layBack_23 : decode cX6_layBack 23 = .ok (.invokevirtual 127, 3) := by decide +kernel
theorem dX6_layBack_26 : decode cX6_layBack 26 = .ok (.ifCond .ne 50, 3) := by decide +kernel
theorem dX6_layBack_29 : decode cX6_layBack 29 = .ok (.aload_n 0, 1) := by decide +kernel
theorem dX6_layBack_30 : decode cX6_layBack 30 = .ok (.iload 4, 2) := by decide +kernel
theorem dX6_layBack_32 : decode cX6_layBack 32 = .ok (.invokevirtual 184, 3) := by decide +kernel
theorem dX6_layBack_35 : decode cX6_layBack 35 = .ok (.istore 6, 2) := by decide +kernel
theorem dX6_layBack_37 : decode cX6_layBack 37 = .ok (.iload 6, 2) := by decide +kernel
theorem dX6_layBack_39 : decode cX6_layBack 39 = .ok (.iconst (-1), 1) := by decide +kernel
theorem dX6_layBack_40 : decode cX6_layBack 40 = .ok (.if_icmp .ne 4, 3) := by decide +kernel
theorem dX6_layBack_43 : decode cX6_layBack 43 = .ok (.return_, 1) := by decide +kernel
theorem dX6_layBack_44 : decode cX6_layBack 44 = .ok (.aload_n 1, 1) := by decide +kernel
theorem dX6_layBack_45 : decode cX6_layBack 45 = .ok (.iload_n 2, 1) := by decide +kernel
theorem dX6_layBack_46 : decode cX6_layBack 46 = .ok (.iload 4, 2) := by decide +kernel
theorem dX6_layBack_48 : decode cX6_layBack 48 = .ok (.iload 6, 2) := by decide +kernel
theorem dX6_layBack_50 : decode cX6_layBack 50 = .ok (.invokevirtual 80, 3) := by decide +kernel
theorem dX6_layBack_53 : decode cX6_layBack 53 = .ok (.aload_n 0, 1) := by decide +kernel
theorem dX6_layBack_54 : decode cX6_layBack 54 = .ok (.getfield 28, 3) := by decide +kernel
theorem dX6_layBack_57 : decode cX6_layBack 57 = .ok (.getfield 175, 3) := by decide +kernel
theorem dX6_layBack_60 : decode cX6_layBack 60 = .ok (.iload 4, 2) := by decide +kernel
theorem dX6_layBack_62 : decode cX6_layBack 62 = .ok (.iconst 4, 1) := by decide +kernel
theorem dX6_layBack_63 : decode cX6_layBack 63 = .ok (.imul, 1) := by decide +kernel
theorem dX6_layBack_64 : decode cX6_layBack 64 = .ok (.iload 6, 2) := by decide +kernel
theorem dX6_layBack_66 : decode cX6_layBack 66 = .ok (.iadd, 1) := by decide +kernel
theorem dX6_layBack_67 : decode cX6_layBack 67 = .ok (.iaload, 1) := by decide +kernel
theorem dX6_layBack_68 : decode cX6_layBack 68 = .ok (.istore 4, 2) := by decide +kernel
theorem dX6_layBack_70 : decode cX6_layBack 70 = .ok (.iinc 5 1, 3) := by decide +kernel
theorem dX6_layBack_73 : decode cX6_layBack 73 = .ok (.goto (-67), 3) := by decide +kernel
theorem dX6_layBack_76 : decode cX6_layBack 76 = .ok (.return_, 1) := by decide +kernel
theorem dX6_markKept_0 : decode cX6_markKept 0 = .ok (.iconst 0, 1) := by decide +kernel
theorem dX6_markKept_1 : decode cX6_markKept 1 = .ok (.istore_n 3, 1) := by decide +kernel
theorem dX6_markKept_2 : decode cX6_markKept 2 = .ok (.iconst 0, 1) := by decide +kernel
theorem dX6_markKept_3 : decode cX6_markKept 3 = .ok (.istore 4, 2) := by decide +kernel
theorem dX6_markKept_5 : decode cX6_markKept 5 = .ok (.iload 4, 2) := by decide +kernel
theorem dX6_markKept_7 : decode cX6_markKept 7 = .ok (.bipush 64, 2) := by decide +kernel
theorem dX6_markKept_9 : decode cX6_markKept 9 = .ok (.if_icmp .ge 77, 3) := by decide +kernel
theorem dX6_markKept_12 : decode cX6_markKept 12 = .ok (.iload 4, 2) := by decide +kernel
theorem dX6_markKept_14 : decode cX6_markKept 14 = .ok (.aload_n 0, 1) := by decide +kernel
theorem dX6_markKept_15 : decode cX6_markKept 15 = .ok (.getfield 28, 3) := by decide +kernel
theorem dX6_markKept_18 : decode cX6_markKept 18 = .ok (.iload_n 2, 1) := by decide +kernel
theorem dX6_markKept_19 : decode cX6_markKept 19 = .ok (.invokevirtual 76, 3) := by decide +kernel
theorem dX6_markKept_22 : decode cX6_markKept 22 = .ok (.if_icmp .eq 24, 3) := by decide +kernel
theorem dX6_markKept_25 : decode cX6_markKept 25 = .ok (.aload_n 1, 1) := by decide +kernel
theorem dX6_markKept_26 : decode cX6_markKept 26 = .ok (.iload_n 2, 1) := by decide +kernel
theorem dX6_markKept_27 : decode cX6_markKept 27 = .ok (.iload 4, 2) := by decide +kernel
theorem dX6_markKept_29 : decode cX6_markKept 29 = .ok (.invokevirtual 127, 3) := by decide +kernel
theorem dX6_markKept_32 : decode cX6_markKept 32 = .ok (.ifCond .eq 18, 3) := by decide +kernel
theorem dX6_markKept_35 : decode cX6_markKept 35 = .ok (.aload_n 0, 1) := by decide +kernel
theorem dX6_markKept_36 : decode cX6_markKept 36 = .ok (.aload_n 1, 1) := by decide +kernel
theorem dX6_markKept_37 : decode cX6_markKept 37 = .ok (.iload_n 2, 1) := by decide +kernel
theorem dX6_markKept_38 : decode cX6_markKept 38 = .ok (.iload 4, 2) := by decide +kernel
theorem dX6_markKept_40 : decode cX6_markKept 40 = .ok (.invokevirtual 131, 3) := by decide +kernel
theorem dX6_markKept_43 : decode cX6_markKept 43 = .ok (.ifCond .eq 7, 3) := by decide +kernel
theorem dX6_markKept_46 : decode cX6_markKept 46 = .ok (.iconst 1, 1) := by decide +kernel
theorem dX6_markKept_47 : decode cX6_markKept 47 = .ok (.goto 4, 3) := by decide +kernel
theorem dX6_markKept_50 : decode cX6_markKept 50 = .ok (.iconst 0, 1) := by decide +kernel
theorem dX6_markKept_51 : decode cX6_markKept 51 = .ok (.istore 5, 2) := by decide +kernel
theorem dX6_markKept_53 : decode cX6_markKept 53 = .ok (.aload_n 0, 1) := by decide +kernel
theorem dX6_markKept_54 : decode cX6_markKept 54 = .ok (.getfield 25, 3) := by decide +kernel
theorem dX6_markKept_57 : decode cX6_markKept 57 = .ok (.iload 4, 2) := by decide +kernel
theorem dX6_markKept_59 : decode cX6_markKept 59 = .ok (.iload 5, 2) := by decide +kernel
theorem dX6_markKept_61 : decode cX6_markKept 61 = .ok (.ifCond .eq 7, 3) := by decide +kernel
theorem dX6_markKept_64 : decode cX6_markKept 64 = .ok (.iconst 1, 1) := by decide +kernel
theorem dX6_markKept_65 : decode cX6_markKept 65 = .ok (.goto 4, 3) := by decide +kernel
theorem dX6_markKept_68 : decode cX6_markKept 68 = .ok (.iconst 0, 1) := by decide +kernel
theorem dX6_markKept_69 : decode cX6_markKept 69 = .ok (.iastore, 1) := by decide +kernel
theorem dX6_markKept_70 : decode cX6_markKept 70 = .ok (.iload_n 3, 1) := by decide +kernel
theorem dX6_markKept_71 : decode cX6_markKept 71 = .ok (.aload_n 0, 1) := by decide +kernel
theorem dX6_markKept_72 : decode cX6_markKept 72 = .ok (.getfield 25, 3) := by decide +kernel
theorem dX6_markKept_75 : decode cX6_markKept 75 = .ok (.iload 4, 2) := by decide +kernel
theorem dX6_markKept_77 : decode cX6_markKept 77 = .ok (.iaload, 1) := by decide +kernel
theorem dX6_markKept_78 : decode cX6_markKept 78 = .ok (.iadd, 1) := by decide +kernel
theorem dX6_markKept_79 : decode cX6_markKept 79 = .ok (.istore_n 3, 1) := by decide +kernel
theorem dX6_markKept_80 : decode cX6_markKept 80 = .ok (.iinc 4 1, 3) := by decide +kernel
theorem dX6_markKept_83 : decode cX6_markKept 83 = .ok (.goto (-78), 3) := by decide +kernel
theorem dX6_markKept_86 : decode cX6_markKept 86 = .ok (.iload_n 3, 1) := by decide +kernel
theorem dX6_markKept_87 : decode cX6_markKept 87 = .ok (.ireturn, 1) := by decide +kernel
theorem dX6_nearestPin_0 : decode cX6_nearestPin 0 = .ok (.iconst (-1), 1) := by decide +kernel
theorem dX6_nearestPin_1 : decode cX6_nearestPin 1 = .ok (.istore_n 3, 1) := by decide +kernel
theorem dX6_nearestPin_2 : decode cX6_nearestPin 2 = .ok (.ldc 159, 2) := by decide +kernel
theorem dX6_nearestPin_4 : decode cX6_nearestPin 4 = .ok (.istore 4, 2) := by decide +kernel
theorem dX6_nearestPin_6 : decode cX6_nearestPin 6 = .ok (.iconst 0, 1) := by decide +kernel
theorem dX6_nearestPin_7 : decode cX6_nearestPin 7 = .ok (.istore 5, 2) := by decide +kernel
theorem dX6_nearestPin_9 : decode cX6_nearestPin 9 = .ok (.iload 5, 2) := by decide +kernel
theorem dX6_nearestPin_11 : decode cX6_nearestPin 11 = .ok (.aload_n 0, 1) := by decide +kernel
theorem dX6_nearestPin_12 : decode cX6_nearestPin 12 = .ok (.getfield 28, 3) := by decide +kernel
theorem dX6_nearestPin_15 : decode cX6_nearestPin 15 = .ok (.getfield 67, 3) := by decide +kernel
theorem dX6_nearestPin_18 : decode cX6_nearestPin 18 = .ok (.iload_n 2, 1) := by decide +kernel
theorem dX6_nearestPin_19 : decode cX6_nearestPin 19 = .ok (.iaload, 1) := by decide +kernel
theorem dX6_nearestPin_20 : decode cX6_nearestPin 20 = .ok (.if_icmp .ge 59, 3) := by decide +kernel
theorem dX6_nearestPin_23 : decode cX6_nearestPin 23 = .ok (.aload_n 0, 1) := by decide +kernel
theorem dX6_nearestPin_24 : decode cX6_nearestPin 24 = .ok (.getfield 28, 3) := by decide +kernel
theorem dX6_nearestPin_27 : decode cX6_nearestPin 27 = .ok (.getfield 181, 3) := by decide +kernel
theorem dX6_nearestPin_30 : decode cX6_nearestPin 30 = .ok (.iload_n 2, 1) := by decide +kernel
theorem dX6_nearestPin_31 : decode cX6_nearestPin 31 = .ok (.iconst 4, 1) := by decide +kernel
theorem dX6_nearestPin_32 : decode cX6_nearestPin 32 = .ok (.imul, 1) := by decide +kernel
theorem dX6_nearestPin_33 : decode cX6_nearestPin 33 = .ok (.iload 5, 2) := by decide +kernel
theorem dX6_nearestPin_35 : decode cX6_nearestPin 35 = .ok (.iadd, 1) := by decide +kernel
theorem dX6_nearestPin_36 : decode cX6_nearestPin 36 = .ok (.iaload, 1) := by decide +kernel
theorem dX6_nearestPin_37 : decode cX6_nearestPin 37 = .ok (.istore 6, 2) := by decide +kernel
theorem dX6_nearestPin_39 : decode cX6_nearestPin 39 = .ok (.aload_n 1, 1) := by decide +kernel
theorem dX6_nearestPin_40 : decode cX6_nearestPin 40 = .ok (.iload_n 2, 1) := by decide +kernel
theorem dX6_nearestPin_41 : decode cX6_nearestPin 41 = .ok (.iload 6, 2) := by decide +kernel
theorem dX6_nearestPin_43 : decode cX6_nearestPin 43 = .ok (.invokevirtual 127, 3) := by decide +kernel
theorem dX6_nearestPin_46 : decode cX6_nearestPin 46 = .ok (.ifCond .ne 27, 3) := by decide +kernel
theorem dX6_nearestPin_49 : decode cX6_nearestPin 49 = .ok (.aload_n 0, 1) := by decide +kernel
theorem dX6_nearestPin_50 : decode cX6_nearestPin 50 = .ok (.getfield 18, 3) := by decide +kernel
theorem dX6_nearestPin_53 : decode cX6_nearestPin 53 = .ok (.iload 6, 2) := by decide +kernel
theorem dX6_nearestPin_55 : decode cX6_nearestPin 55 = .ok (.iaload, 1) := by decide +kernel
theorem dX6_nearestPin_56 : decode cX6_nearestPin 56 = .ok (.iload 4, 2) := by decide +kernel
theorem dX6_nearestPin_58 : decode cX6_nearestPin 58 = .ok (.if_icmp .ge 15, 3) := by decide +kernel
theorem dX6_nearestPin_61 : decode cX6_nearestPin 61 = .ok (.iload 6, 2) := by decide +kernel
theorem dX6_nearestPin_63 : decode cX6_nearestPin 63 = .ok (.istore_n 3, 1) := by decide +kernel
theorem dX6_nearestPin_64 : decode cX6_nearestPin 64 = .ok (.aload_n 0, 1) := by decide +kernel
theorem dX6_nearestPin_65 : decode cX6_nearestPin 65 = .ok (.getfield 18, 3) := by decide +kernel
theorem dX6_nearestPin_68 : decode cX6_nearestPin 68 = .ok (.iload 6, 2) := by decide +kernel
theorem dX6_nearestPin_70 : decode cX6_nearestPin 70 = .ok (.iaload, 1) := by decide +kernel
theorem dX6_nearestPin_71 : decode cX6_nearestPin 71 = .ok (.istore 4, 2) := by decide +kernel
theorem dX6_nearestPin_73 : decode cX6_nearestPin 73 = .ok (.iinc 5 1, 3) := by decide +kernel
theorem dX6_nearestPin_76 : decode cX6_nearestPin 76 = .ok (.goto (-67), 3) := by decide +kernel
theorem dX6_nearestPin_79 : decode cX6_nearestPin 79 = .ok (.iload_n 3, 1) := by decide +kernel
theorem dX6_nearestPin_80 : decode cX6_nearestPin 80 = .ok (.ireturn, 1) := by decide +kernel
theorem dX6_perform_0 : decode cX6_perform 0 = .ok (.iload_n 2, 1) := by decide +kernel
theorem dX6_perform_1 : decode cX6_perform 1 = .ok (.tableswitch 122 0 5 #[39, 58, 65, 72, 101, 114], 39) := by decide +kernel
theorem dX6_perform_40 : decode cX6_perform 40 = .ok (.aload_n 1, 1) := by decide +kernel
theorem dX6_perform_41 : decode cX6_perform 41 = .ok (.getfield 40, 3) := by decide +kernel
theorem dX6_perform_44 : decode cX6_perform 44 = .ok (.sipush 400, 3) := by decide +kernel
theorem dX6_perform_47 : decode cX6_perform 47 = .ok (.if_icmp .lt 5, 3) := by decide +kernel
theorem dX6_perform_50 : decode cX6_perform 50 = .ok (.iconst 0, 1) := by decide +kernel
theorem dX6_perform_51 : decode cX6_perform 51 = .ok (.ireturn, 1) := by decide +kernel
theorem dX6_perform_52 : decode cX6_perform 52 = .ok (.aload_n 0, 1) := by decide +kernel
theorem dX6_perform_53 : decode cX6_perform 53 = .ok (.aload_n 1, 1) := by decide +kernel
theorem dX6_perform_54 : decode cX6_perform 54 = .ok (.invokevirtual 46, 3) := by decide +kernel
theorem dX6_perform_57 : decode cX6_perform 57 = .ok (.iconst 1, 1) := by decide +kernel
theorem dX6_perform_58 : decode cX6_perform 58 = .ok (.ireturn, 1) := by decide +kernel
theorem dX6_perform_59 : decode cX6_perform 59 = .ok (.aload_n 0, 1) := by decide +kernel
theorem dX6_perform_60 : decode cX6_perform 60 = .ok (.aload_n 1, 1) := by decide +kernel
theorem dX6_perform_61 : decode cX6_perform 61 = .ok (.iload_n 3, 1) := by decide +kernel
theorem dX6_perform_62 : decode cX6_perform 62 = .ok (.invokevirtual 50, 3) := by decide +kernel
theorem dX6_perform_65 : decode cX6_perform 65 = .ok (.ireturn, 1) := by decide +kernel
theorem dX6_perform_66 : decode cX6_perform 66 = .ok (.aload_n 0, 1) := by decide +kernel
theorem dX6_perform_67 : decode cX6_perform 67 = .ok (.aload_n 1, 1) := by decide +kernel
theorem dX6_perform_68 : decode cX6_perform 68 = .ok (.iload_n 3, 1) := by decide +kernel
theorem dX6_perform_69 : decode cX6_perform 69 = .ok (.invokevirtual 54, 3) := by decide +kernel
theorem dX6_perform_72 : decode cX6_perform 72 = .ok (.ireturn, 1) := by decide +kernel
theorem dX6_perform_73 : decode cX6_perform 73 = .ok (.aload_n 1, 1) := by decide +kernel
theorem dX6_perform_74 : decode cX6_perform 74 = .ok (.getfield 57, 3) := by decide +kernel
theorem dX6_perform_77 : decode cX6_perform 77 = .ok (.iload_n 3, 1) := by decide +kernel
theorem dX6_perform_78 : decode cX6_perform 78 = .ok (.iaload, 1) := by decide +kernel
theorem dX6_perform_79 : decode cX6_perform 79 = .ok (.iload 4, 2) := by decide +kernel
theorem dX6_perform_81 : decode cX6_perform 81 = .ok (.if_icmp .eq 7, 3) := by decide +kernel
theorem dX6_perform_84 : decode cX6_perform 84 = .ok (.iconst 1, 1) := by decide +kernel
theorem dX6_perform_85 : decode cX6_perform 85 = .ok (.goto 4, 3) := by decide +kernel
theorem dX6_perform_88 : decode cX6_perform 88 = .ok (.iconst 0, 1) := by decide +kernel
theorem dX6_perform_89 : decode cX6_perform 89 = .ok (.istore 5, 2) := by decide +kernel
theorem dX6_perform_91 : decode cX6_perform 91 = .ok (.aload_n 1, 1) := by decide +kernel
theorem dX6_perform_92 : decode cX6_perform 92 = .ok (.getfield 57, 3) := by decide +kernel
theorem dX6_perform_95 : decode cX6_perform 95 = .ok (.iload_n 3, 1) := by decide +kernel
theorem dX6_perform_96 : decode cX6_perform 96 = .ok (.iload 4, 2) := by decide +kernel
theorem dX6_perform_98 : decode cX6_perform 98 = .ok (.iastore, 1) := by decide +kernel
theorem dX6_perform_99 : decode cX6_perform 99 = .ok (.iload 5, 2) := by decide +kernel
theorem dX6_perform_101 : decode cX6_perform 101 = .ok (.ireturn, 1) := by decide +kernel
theorem dX6_perform_102 : decode cX6_perform 102 = .ok (.aload_n 0, 1) := by decide +kernel
theorem dX6_perform_103 : decode cX6_perform 103 = .ok (.aload_n 1, 1) := by decide +kernel
theorem dX6_perform_104 : decode cX6_perform 104 = .ok (.iload 4, 2) := by decide +kernel
theorem dX6_perform_106 : decode cX6_perform 106 = .ok (.bipush 8, 2) := by decide +kernel
theorem dX6_perform_108 : decode cX6_perform 108 = .ok (.imul, 1) := by decide +kernel
theorem dX6_perform_109 : decode cX6_perform 109 = .ok (.iload_n 3, 1) := by decide +kernel
theorem dX6_perform_110 : decode cX6_perform 110 = .ok (.iadd, 1) := by decide +kernel
theorem dX6_perform_111 : decode cX6_perform 111 = .ok (.invokevirtual 60, 3) := by decide +kernel
theorem dX6_perform_114 : decode cX6_perform 114 = .ok (.ireturn, 1) := by decide +kernel
theorem dX6_perform_115 : decode cX6_perform 115 = .ok (.aload_n 0, 1) := by decide +kernel
theorem dX6_perform_116 : decode cX6_perform 116 = .ok (.aload_n 1, 1) := by decide +kernel
theorem dX6_perform_117 : decode cX6_perform 117 = .ok (.iload_n 3, 1) := by decide +kernel
theorem dX6_perform_118 : decode cX6_perform 118 = .ok (.invokevirtual 63, 3) := by decide +kernel
theorem dX6_perform_121 : decode cX6_perform 121 = .ok (.iconst 1, 1) := by decide +kernel
theorem dX6_perform_122 : decode cX6_perform 122 = .ok (.ireturn, 1) := by decide +kernel
theorem dX6_perform_123 : decode cX6_perform 123 = .ok (.iconst 0, 1) := by decide +kernel
theorem dX6_perform_124 : decode cX6_perform 124 = .ok (.ireturn, 1) := by decide +kernel
theorem dX6_priceOf_0 : decode cX6_priceOf 0 = .ok (.aload_n 1, 1) := by decide +kernel
theorem dX6_priceOf_1 : decode cX6_priceOf 1 = .ok (.getfield 90, 3) := by decide +kernel
theorem dX6_priceOf_4 : decode cX6_priceOf 4 = .ok (.iload_n 3, 1) := by decide +kernel
theorem dX6_priceOf_5 : decode cX6_priceOf 5 = .ok (.iaload, 1) := by decide +kernel
theorem dX6_priceOf_6 : decode cX6_priceOf 6 = .ok (.aload_n 1, 1) := by decide +kernel
theorem dX6_priceOf_7 : decode cX6_priceOf 7 = .ok (.iload_n 2, 1) := by decide +kernel
theorem dX6_priceOf_8 : decode cX6_priceOf 8 = .ok (.iload_n 3, 1) := by decide +kernel
theorem dX6_priceOf_9 : decode cX6_priceOf 9 = .ok (.invokevirtual 127, 3) := by decide +kernel
theorem dX6_priceOf_12 : decode cX6_priceOf 12 = .ok (.ifCond .eq 7, 3) := by decide +kernel
theorem dX6_priceOf_15 : decode cX6_priceOf 15 = .ok (.iconst 1, 1) := by decide +kernel
theorem dX6_priceOf_16 : decode cX6_priceOf 16 = .ok (.goto 4, 3) := by decide +kernel
theorem dX6_priceOf_19 : decode cX6_priceOf 19 = .ok (.iconst 0, 1) := by decide +kernel
theorem dX6_priceOf_20 : decode cX6_priceOf 20 = .ok (.isub, 1) := by decide +kernel
theorem dX6_priceOf_21 : decode cX6_priceOf 21 = .ok (.istore 4, 2) := by decide +kernel
theorem dX6_priceOf_23 : decode cX6_priceOf 23 = .ok (.iload 4, 2) := by decide +kernel
theorem dX6_priceOf_25 : decode cX6_priceOf 25 = .ok (.iconst 1, 1) := by decide +kernel
theorem dX6_priceOf_26 : decode cX6_priceOf 26 = .ok (.iadd, 1) := by decide +kernel
theorem dX6_priceOf_27 : decode cX6_priceOf 27 = .ok (.aload_n 0, 1) := by decide +kernel
theorem dX6_priceOf_28 : decode cX6_priceOf 28 = .ok (.getfield 28, 3) := by decide +kernel
theorem dX6_priceOf_31 : decode cX6_priceOf 31 = .ok (.getfield 187, 3) := by decide +kernel
theorem dX6_priceOf_34 : decode cX6_priceOf 34 = .ok (.iload_n 3, 1) := by decide +kernel
theorem dX6_priceOf_35 : decode cX6_priceOf 35 = .ok (.iaload, 1) := by decide +kernel
theorem dX6_priceOf_36 : decode cX6_priceOf 36 = .ok (.isub, 1) := by decide +kernel
theorem dX6_priceOf_37 : decode cX6_priceOf 37 = .ok (.istore 5, 2) := by decide +kernel
theorem dX6_priceOf_39 : decode cX6_priceOf 39 = .ok (.aload_n 0, 1) := by decide +kernel
theorem dX6_priceOf_40 : decode cX6_priceOf 40 = .ok (.getfield 32, 3) := by decide +kernel
theorem dX6_priceOf_43 : decode cX6_priceOf 43 = .ok (.getfield 190, 3) := by decide +kernel
theorem dX6_priceOf_46 : decode cX6_priceOf 46 = .ok (.astore 6, 2) := by decide +kernel
theorem dX6_priceOf_48 : decode cX6_priceOf 48 = .ok (.aload 6, 2) := by decide +kernel
theorem dX6_priceOf_50 : decode cX6_priceOf 50 = .ok (.iconst 0, 1) := by decide +kernel
theorem dX6_priceOf_51 : decode cX6_priceOf 51 = .ok (.aload_n 1, 1) := by decide +kernel
theorem dX6_priceOf_52 : decode cX6_priceOf 52 = .ok (.getfield 87, 3) := by decide +kernel
theorem dX6_priceOf_55 : decode cX6_priceOf 55 = .ok (.iload_n 3, 1) := by decide +kernel
theorem dX6_priceOf_56 : decode cX6_priceOf 56 = .ok (.iaload, 1) := by decide +kernel
theorem dX6_priceOf_57 : decode cX6_priceOf 57 = .ok (.iastore, 1) := by decide +kernel
theorem dX6_priceOf_58 : decode cX6_priceOf 58 = .ok (.aload 6, 2) := by decide +kernel
theorem dX6_priceOf_60 : decode cX6_priceOf 60 = .ok (.iconst 1, 1) := by decide +kernel
theorem dX6_priceOf_61 : decode cX6_priceOf 61 = .ok (.iload 5, 2) := by decide +kernel
theorem dX6_priceOf_63 : decode cX6_priceOf 63 = .ok (.ifCond .le 8, 3) := by decide +kernel
theorem dX6_priceOf_66 : decode cX6_priceOf 66 = .ok (.iload 5, 2) := by decide +kernel
theorem dX6_priceOf_68 : decode cX6_priceOf 68 = .ok (.goto 4, 3) := by decide +kernel
theorem dX6_priceOf_71 : decode cX6_priceOf 71 = .ok (.iconst 0, 1) := by decide +kernel
theorem dX6_priceOf_72 : decode cX6_priceOf 72 = .ok (.iastore, 1) := by decide +kernel
theorem dX6_priceOf_73 : decode cX6_priceOf 73 = .ok (.aload 6, 2) := by decide +kernel
theorem dX6_priceOf_75 : decode cX6_priceOf 75 = .ok (.iconst 2, 1) := by decide +kernel
theorem dX6_priceOf_76 : decode cX6_priceOf 76 = .ok (.aload_n 1, 1) := by decide +kernel
theorem dX6_priceOf_77 : decode cX6_priceOf 77 = .ok (.getfield 57, 3) := by decide +kernel
theorem dX6_priceOf_80 : decode cX6_priceOf 80 = .ok (.iload_n 2, 1) := by decide +kernel
theorem dX6_priceOf_81 : decode cX6_priceOf 81 = .ok (.iaload, 1) := by decide +kernel
theorem dX6_priceOf_82 : decode cX6_priceOf 82 = .ok (.iastore, 1) := by decide +kernel
theorem dX6_priceOf_83 : decode cX6_priceOf 83 = .ok (.aload 6, 2) := by decide +kernel
theorem dX6_priceOf_85 : decode cX6_priceOf 85 = .ok (.iconst 3, 1) := by decide +kernel
theorem dX6_priceOf_86 : decode cX6_priceOf 86 = .ok (.aload_n 1, 1) := by decide +kernel
theorem dX6_priceOf_87 : decode cX6_priceOf 87 = .ok (.getfield 40, 3) := by decide +kernel
theorem dX6_priceOf_90 : decode cX6_priceOf 90 = .ok (.iastore, 1) := by decide +kernel
theorem dX6_priceOf_91 : decode cX6_priceOf 91 = .ok (.aload 6, 2) := by decide +kernel
theorem dX6_priceOf_93 : decode cX6_priceOf 93 = .ok (.iconst 4, 1) := by decide +kernel
theorem dX6_priceOf_94 : decode cX6_priceOf 94 = .ok (.aload_n 0, 1) := by decide +kernel
theorem dX6_priceOf_95 : decode cX6_priceOf 95 = .ok (.getfield 28, 3) := by decide +kernel
theorem dX6_priceOf_98 : decode cX6_priceOf 98 = .ok (.getfield 187, 3) := by decide +kernel
theorem dX6_priceOf_101 : decode cX6_priceOf 101 = .ok (.iload_n 3, 1) := by decide +kernel
theorem dX6_priceOf_102 : decode cX6_priceOf 102 = .ok (.iaload, 1) := by decide +kernel
theorem dX6_priceOf_103 : decode cX6_priceOf 103 = .ok (.iastore, 1) := by decide +kernel
theorem dX6_priceOf_104 : decode cX6_priceOf 104 = .ok (.aload 6, 2) := by decide +kernel
theorem dX6_priceOf_106 : decode cX6_priceOf 106 = .ok (.iconst 5, 1) := by decide +kernel
theorem dX6_priceOf_107 : decode cX6_priceOf 107 = .ok (.iload_n 3, 1) := by decide +kernel
theorem dX6_priceOf_108 : decode cX6_priceOf 108 = .ok (.bipush 8, 2) := by decide +kernel
theorem dX6_priceOf_110 : decode cX6_priceOf 110 = .ok (.irem, 1) := by decide +kernel
theorem dX6_priceOf_111 : decode cX6_priceOf 111 = .ok (.iastore, 1) := by decide +kernel
theorem dX6_priceOf_112 : decode cX6_priceOf 112 = .ok (.aload 6, 2) := by decide +kernel
theorem dX6_priceOf_114 : decode cX6_priceOf 114 = .ok (.bipush 6, 2) := by decide +kernel
theorem dX6_priceOf_116 : decode cX6_priceOf 116 = .ok (.iload_n 3, 1) := by decide +kernel
theorem dX6_priceOf_117 : decode cX6_priceOf 117 = .ok (.bipush 8, 2) := by decide +kernel
theorem dX6_priceOf_119 : decode cX6_priceOf 119 = .ok (.idiv, 1) := by decide +kernel
theorem dX6_priceOf_120 : decode cX6_priceOf 120 = .ok (.iastore, 1) := by decide +kernel
theorem dX6_priceOf_121 : decode cX6_priceOf 121 = .ok (.aload 6, 2) := by decide +kernel
theorem dX6_priceOf_123 : decode cX6_priceOf 123 = .ok (.bipush 7, 2) := by decide +kernel
theorem dX6_priceOf_125 : decode cX6_priceOf 125 = .ok (.aload_n 0, 1) := by decide +kernel
theorem dX6_priceOf_126 : decode cX6_priceOf 126 = .ok (.getfield 28, 3) := by decide +kernel
theorem dX6_priceOf_129 : decode cX6_priceOf 129 = .ok (.getfield 93, 3) := by decide +kernel
theorem dX6_priceOf_132 : decode cX6_priceOf 132 = .ok (.iload_n 3, 1) := by decide +kernel
theorem dX6_priceOf_133 : decode cX6_priceOf 133 = .ok (.iaload, 1) := by decide +kernel
theorem dX6_priceOf_134 : decode cX6_priceOf 134 = .ok (.iconst 1, 1) := by decide +kernel
theorem dX6_priceOf_135 : decode cX6_priceOf 135 = .ok (.iload_n 2, 1) := by decide +kernel
theorem dX6_priceOf_136 : decode cX6_priceOf 136 = .ok (.ishl, 1) := by decide +kernel
theorem dX6_priceOf_137 : decode cX6_priceOf 137 = .ok (.iconst (-1), 1) := by decide +kernel
theorem dX6_priceOf_138 : decode cX6_priceOf 138 = .ok (.ixor, 1) := by decide +kernel
theorem dX6_priceOf_139 : decode cX6_priceOf 139 = .ok (.iand, 1) := by decide +kernel
theorem dX6_priceOf_140 : decode cX6_priceOf 140 = .ok (.invokestatic 195, 3) := by decide +kernel
theorem dX6_priceOf_143 : decode cX6_priceOf 143 = .ok (.iastore, 1) := by decide +kernel
theorem dX6_priceOf_144 : decode cX6_priceOf 144 = .ok (.aload_n 0, 1) := by decide +kernel
theorem dX6_priceOf_145 : decode cX6_priceOf 145 = .ok (.getfield 32, 3) := by decide +kernel
theorem dX6_priceOf_148 : decode cX6_priceOf 148 = .ok (.invokevirtual 200, 3) := by decide +kernel
theorem dX6_priceOf_151 : decode cX6_priceOf 151 = .ok (.ireturn, 1) := by decide +kernel
theorem dX6_ripUp_0 : decode cX6_ripUp 0 = .ok (.aload_n 1, 1) := by decide +kernel
theorem dX6_ripUp_1 : decode cX6_ripUp 1 = .ok (.iload_n 2, 1) := by decide +kernel
theorem dX6_ripUp_2 : decode cX6_ripUp 2 = .ok (.invokevirtual 72, 3) := by decide +kernel
theorem dX6_ripUp_5 : decode cX6_ripUp 5 = .ok (.ireturn, 1) := by decide +kernel
theorem dX6_sparedOf_0 : decode cX6_sparedOf 0 = .ok (.aload_n 0, 1) := by decide +kernel
theorem dX6_sparedOf_1 : decode cX6_sparedOf 1 = .ok (.aload_n 1, 1) := by decide +kernel
theorem dX6_sparedOf_2 : decode cX6_sparedOf 2 = .ok (.iload_n 2, 1) := by decide +kernel
theorem dX6_sparedOf_3 : decode cX6_sparedOf 3 = .ok (.iload_n 3, 1) := by decide +kernel
theorem dX6_sparedOf_4 : decode cX6_sparedOf 4 = .ok (.invokevirtual 203, 3) := by decide +kernel
theorem dX6_sparedOf_7 : decode cX6_sparedOf 7 = .ok (.istore 4, 2) := by decide +kernel
theorem dX6_sparedOf_9 : decode cX6_sparedOf 9 = .ok (.iload 4, 2) := by decide +kernel
theorem dX6_sparedOf_11 : decode cX6_sparedOf 11 = .ok (.iconst (-1), 1) := by decide +kernel
theorem dX6_sparedOf_12 : decode cX6_sparedOf 12 = .ok (.if_icmp .ne 5, 3) := by decide +kernel
theorem dX6_sparedOf_15 : decode cX6_sparedOf 15 = .ok (.iconst (-1), 1) := by decide +kernel
theorem dX6_sparedOf_16 : decode cX6_sparedOf 16 = .ok (.ireturn, 1) := by decide +kernel
theorem dX6_sparedOf_17 : decode cX6_sparedOf 17 = .ok (.iconst 0, 1) := by decide +kernel
theorem dX6_sparedOf_18 : decode cX6_sparedOf 18 = .ok (.istore 5, 2) := by decide +kernel
theorem dX6_sparedOf_20 : decode cX6_sparedOf 20 = .ok (.iconst 0, 1) := by decide +kernel
theorem dX6_sparedOf_21 : decode cX6_sparedOf 21 = .ok (.istore 6, 2) := by decide +kernel
theorem dX6_sparedOf_23 : decode cX6_sparedOf 23 = .ok (.iload 6, 2) := by decide +kernel
theorem dX6_sparedOf_25 : decode cX6_sparedOf 25 = .ok (.bipush 64, 2) := by decide +kernel
theorem dX6_sparedOf_27 : decode cX6_sparedOf 27 = .ok (.if_icmp .ge 68, 3) := by decide +kernel
theorem dX6_sparedOf_30 : decode cX6_sparedOf 30 = .ok (.iload 6, 2) := by decide +kernel
theorem dX6_sparedOf_32 : decode cX6_sparedOf 32 = .ok (.bipush 8, 2) := by decide +kernel
theorem dX6_sparedOf_34 : decode cX6_sparedOf 34 = .ok (.irem, 1) := by decide +kernel
theorem dX6_sparedOf_35 : decode cX6_sparedOf 35 = .ok (.iload_n 3, 1) := by decide +kernel
theorem dX6_sparedOf_36 : decode cX6_sparedOf 36 = .ok (.bipush 8, 2) := by decide +kernel
theorem dX6_sparedOf_38 : decode cX6_sparedOf 38 = .ok (.irem, 1) := by decide +kernel
theorem dX6_sparedOf_39 : decode cX6_sparedOf 39 = .ok (.isub, 1) := by decide +kernel
theorem dX6_sparedOf_40 : decode cX6_sparedOf 40 = .ok (.invokestatic 206, 3) := by decide +kernel
theorem dX6_sparedOf_43 : decode cX6_sparedOf 43 = .ok (.iload 6, 2) := by decide +kernel
theorem dX6_sparedOf_45 : decode cX6_sparedOf 45 = .ok (.bipush 8, 2) := by decide +kernel
theorem dX6_sparedOf_47 : decode cX6_sparedOf 47 = .ok (.idiv, 1) := by decide +kernel
theorem dX6_sparedOf_48 : decode cX6_sparedOf 48 = .ok (.iload_n 3, 1) := by decide +kernel
theorem dX6_sparedOf_49 : decode cX6_sparedOf 49 = .ok (.bipush 8, 2) := by decide +kernel
theorem dX6_sparedOf_51 : decode cX6_sparedOf 51 = .ok (.idiv, 1) := by decide +kernel
theorem dX6_sparedOf_52 : decode cX6_sparedOf 52 = .ok (.isub, 1) := by decide +kernel
theorem dX6_sparedOf_53 : decode cX6_sparedOf 53 = .ok (.invokestatic 206, 3) := by decide +kernel
theorem dX6_sparedOf_56 : decode cX6_sparedOf 56 = .ok (.iadd, 1) := by decide +kernel
theorem dX6_sparedOf_57 : decode cX6_sparedOf 57 = .ok (.istore 7, 2) := by decide +kernel
theorem dX6_sparedOf_59 : decode cX6_sparedOf 59 = .ok (.aload_n 0, 1) := by decide +kernel
theorem dX6_sparedOf_60 : decode cX6_sparedOf 60 = .ok (.getfield 18, 3) := by decide +kernel
theorem dX6_sparedOf_63 : decode cX6_sparedOf 63 = .ok (.iload 6, 2) := by decide +kernel
theorem dX6_sparedOf_65 : decode cX6_sparedOf 65 = .ok (.iaload, 1) := by decide +kernel
theorem dX6_sparedOf_66 : decode cX6_sparedOf 66 = .ok (.iload 4, 2) := by decide +kernel
theorem dX6_sparedOf_68 : decode cX6_sparedOf 68 = .ok (.if_icmp .ge 21, 3) := by decide +kernel
theorem dX6_sparedOf_71 : decode cX6_sparedOf 71 = .ok (.aload_n 0, 1) := by decide +kernel
theorem dX6_sparedOf_72 : decode cX6_sparedOf 72 = .ok (.getfield 18, 3) := by decide +kernel
theorem dX6_sparedOf_75 : decode cX6_sparedOf 75 = .ok (.iload 6, 2) := by decide +kernel
theorem dX6_sparedOf_77 : decode cX6_sparedOf 77 = .ok (.iaload, 1) := by decide +kernel
theorem dX6_sparedOf_78 : decode cX6_sparedOf 78 = .ok (.iload 7, 2) := by decide +kernel
theorem dX6_sparedOf_80 : decode cX6_sparedOf 80 = .ok (.iadd, 1) := by decide +kernel
theorem dX6_sparedOf_81 : decode cX6_sparedOf 81 = .ok (.iload 4, 2) := by decide +kernel
theorem dX6_sparedOf_83 : decode cX6_sparedOf 83 = .ok (.if_icmp .lt 6, 3) := by decide +kernel
theorem dX6_sparedOf_86 : decode cX6_sparedOf 86 = .ok (.iinc 5 1, 3) := by decide +kernel
theorem dX6_sparedOf_89 : decode cX6_sparedOf 89 = .ok (.iinc 6 1, 3) := by decide +kernel
theorem dX6_sparedOf_92 : decode cX6_sparedOf 92 = .ok (.goto (-69), 3) := by decide +kernel
theorem dX6_sparedOf_95 : decode cX6_sparedOf 95 = .ok (.iload 5, 2) := by decide +kernel
theorem dX6_sparedOf_97 : decode cX6_sparedOf 97 = .ok (.ireturn, 1) := by decide +kernel
theorem dX6_spread_0 : decode cX6_spread 0 = .ok (.aload_n 0, 1) := by decide +kernel
theorem dX6_spread_1 : decode cX6_spread 1 = .ok (.getfield 12, 3) := by decide +kernel
theorem dX6_spread_4 : decode cX6_spread 4 = .ok (.invokevirtual 156, 3) := by decide +kernel
theorem dX6_spread_7 : decode cX6_spread 7 = .ok (.iconst 0, 1) := by decide +kernel
theorem dX6_spread_8 : decode cX6_spread 8 = .ok (.istore 4, 2) := by decide +kernel
theorem dX6_spread_10 : decode cX6_spread 10 = .ok (.iload 4, 2) := by decide +kernel
theorem dX6_spread_12 : decode cX6_spread 12 = .ok (.bipush 64, 2) := by decide +kernel
theorem dX6_spread_14 : decode cX6_spread 14 = .ok (.if_icmp .ge 45, 3) := by decide +kernel
theorem dX6_spread_17 : decode cX6_spread 17 = .ok (.aload_n 0, 1) := by decide +kernel
theorem dX6_spread_18 : decode cX6_spread 18 = .ok (.getfield 18, 3) := by decide +kernel
theorem dX6_spread_21 : decode cX6_spread 21 = .ok (.iload 4, 2) := by decide +kernel
theorem dX6_spread_23 : decode cX6_spread 23 = .ok (.ldc 159, 2) := by decide +kernel
theorem dX6_spread_25 : decode cX6_spread 25 = .ok (.iastore, 1) := by decide +kernel
theorem dX6_spread_26 : decode cX6_spread 26 = .ok (.aload_n 1, 1) := by decide +kernel
theorem dX6_spread_27 : decode cX6_spread 27 = .ok (.iload_n 2, 1) := by decide +kernel
theorem dX6_spread_28 : decode cX6_spread 28 = .ok (.iload 4, 2) := by decide +kernel
theorem dX6_spread_30 : decode cX6_spread 30 = .ok (.invokevirtual 127, 3) := by decide +kernel
theorem dX6_spread_33 : decode cX6_spread 33 = .ok (.ifCond .eq 20, 3) := by decide +kernel
theorem dX6_spread_36 : decode cX6_spread 36 = .ok (.aload_n 0, 1) := by decide +kernel
theorem dX6_spread_37 : decode cX6_spread 37 = .ok (.getfield 18, 3) := by decide +kernel
theorem dX6_spread_40 : decode cX6_spread 40 = .ok (.iload 4, 2) := by decide +kernel
theorem dX6_spread_42 : decode cX6_spread 42 = .ok (.iconst 0, 1) := by decide +kernel
theorem dX6_spread_43 : decode cX6_spread 43 = .ok (.iastore, 1) := by decide +kernel
theorem dX6_spread_44 : decode cX6_spread 44 = .ok (.aload_n 0, 1) := by decide +kernel
theorem dX6_spread_45 : decode cX6_spread 45 = .ok (.getfield 12, 3) := by decide +kernel
theorem dX6_spread_48 : decode cX6_spread 48 = .ok (.iload 4, 2) := by decide +kernel
theorem dX6_spread_50 : decode cX6_spread 50 = .ok (.invokevirtual 160, 3) := by decide +kernel
theorem dX6_spread_53 : decode cX6_spread 53 = .ok (.iinc 4 1, 3) := by decide +kernel
theorem dX6_spread_56 : decode cX6_spread 56 = .ok (.goto (-46), 3) := by decide +kernel
theorem dX6_spread_59 : decode cX6_spread 59 = .ok (.ldc 159, 2) := by decide +kernel
theorem dX6_spread_61 : decode cX6_spread 61 = .ok (.istore 4, 2) := by decide +kernel
theorem dX6_spread_63 : decode cX6_spread 63 = .ok (.iconst 0, 1) := by decide +kernel
theorem dX6_spread_64 : decode cX6_spread 64 = .ok (.istore 5, 2) := by decide +kernel
theorem dX6_spread_66 : decode cX6_spread 66 = .ok (.iload 5, 2) := by decide +kernel
theorem dX6_spread_68 : decode cX6_spread 68 = .ok (.sipush 320, 3) := by decide +kernel
theorem dX6_spread_71 : decode cX6_spread 71 = .ok (.if_icmp .ge 224, 3) := by decide +kernel
theorem dX6_spread_74 : decode cX6_spread 74 = .ok (.aload_n 0, 1) := by decide +kernel
theorem dX6_spread_75 : decode cX6_spread 75 = .ok (.getfield 12, 3) := by decide +kernel
theorem dX6_spread_78 : decode cX6_spread 78 = .ok (.invokevirtual 164, 3) := by decide +kernel
theorem dX6_spread_81 : decode cX6_spread 81 = .ok (.ifCond .ne 214, 3) := by decide +kernel
theorem dX6_spread_84 : decode cX6_spread 84 = .ok (.aload_n 0, 1) := by decide +kernel
theorem dX6_spread_85 : decode cX6_spread 85 = .ok (.getfield 12, 3) := by decide +kernel
theorem dX6_spread_88 : decode cX6_spread 88 = .ok (.invokevirtual 168, 3) := by decide +kernel
theorem dX6_spread_91 : decode cX6_spread 91 = .ok (.istore 6, 2) := by decide +kernel
theorem dX6_spread_93 : decode cX6_spread 93 = .ok (.iload 6, 2) := by decide +kernel
theorem dX6_spread_95 : decode cX6_spread 95 = .ok (.bipush 64, 2) := by decide +kernel
theorem dX6_spread_97 : decode cX6_spread 97 = .ok (.irem, 1) := by decide +kernel
theorem dX6_spread_98 : decode cX6_spread 98 = .ok (.istore 7, 2) := by decide +kernel
theorem dX6_spread_100 : decode cX6_spread 100 = .ok (.iload 6, 2) := by decide +kernel
theorem dX6_spread_102 : decode cX6_spread 102 = .ok (.bipush 64, 2) := by decide +kernel
theorem dX6_spread_104 : decode cX6_spread 104 = .ok (.idiv, 1) := by decide +kernel
theorem dX6_spread_105 : decode cX6_spread 105 = .ok (.istore 8, 2) := by decide +kernel
theorem dX6_spread_107 : decode cX6_spread 107 = .ok (.iload 8, 2) := by decide +kernel
theorem dX6_spread_109 : decode cX6_spread 109 = .ok (.iload 4, 2) := by decide +kernel
theorem dX6_spread_111 : decode cX6_spread 111 = .ok (.if_icmp .le 4, 3) := by decide +kernel
theorem dX6_spread_114 : decode cX6_spread 114 = .ok (.return_, 1) := by decide +kernel
theorem dX6_spread_115 : decode cX6_spread 115 = .ok (.iload 8, 2) := by decide +kernel
theorem dX6_spread_117 : decode cX6_spread 117 = .ok (.aload_n 0, 1) := by decide +kernel
theorem dX6_spread_118 : decode cX6_spread 118 = .ok (.getfield 18, 3) := by decide +kernel
theorem dX6_spread_121 : decode cX6_spread 121 = .ok (.iload 7, 2) := by decide +kernel
theorem dX6_spread_123 : decode cX6_spread 123 = .ok (.iaload, 1) := by decide +kernel
theorem dX6_spread_124 : decode cX6_spread 124 = .ok (.if_icmp .le 6, 3) := by decide +kernel
theorem dX6_spread_127 : decode cX6_spread 127 = .ok (.goto 162, 3) := by decide +kernel
theorem dX6_spread_130 : decode cX6_spread 130 = .ok (.iload_n 3, 1) := by decide +kernel
theorem dX6_spread_131 : decode cX6_spread 131 = .ok (.ifCond .ne 25, 3) := by decide +kernel
theorem dX6_spread_134 : decode cX6_spread 134 = .ok (.iload 8, 2) := by decide +kernel
theorem dX6_spread_136 : decode cX6_spread 136 = .ok (.ifCond .le 20, 3) := by decide +kernel
theorem dX6_spread_139 : decode cX6_spread 139 = .ok (.aload_n 0, 1) := by decide +kernel
theorem dX6_spread_140 : decode cX6_spread 140 = .ok (.getfield 28, 3) := by decide +kernel
theorem dX6_spread_143 : decode cX6_spread 143 = .ok (.iload_n 2, 1) := by decide +kernel
theorem dX6_spread_144 : decode cX6_spread 144 = .ok (.iload 7, 2) := by decide +kernel
theorem dX6_spread_146 : decode cX6_spread 146 = .ok (.invokevirtual 172, 3) := by decide +kernel
theorem dX6_spread_149 : decode cX6_spread 149 = .ok (.ifCond .eq 7, 3) := by decide +kernel
theorem dX6_spread_152 : decode cX6_spread 152 = .ok (.iload 8, 2) := by decide +kernel
theorem dX6_spread_154 : decode cX6_spread 154 = .ok (.istore 4, 2) := by decide +kernel
theorem dX6_spread_156 : decode cX6_spread 156 = .ok (.iconst 0, 1) := by decide +kernel
theorem dX6_spread_157 : decode cX6_spread 157 = .ok (.istore 9, 2) := by decide +kernel
theorem dX6_spread_159 : decode cX6_spread 159 = .ok (.iload 9, 2) := by decide +kernel
theorem dX6_spread_161 : decode cX6_spread 161 = .ok (.iconst 4, 1) := by decide +kernel
theorem dX6_spread_162 : decode cX6_spread 162 = .ok (.if_icmp .ge 127, 3) := by decide +kernel
theorem dX6_spread_165 : decode cX6_spread 165 = .ok (.aload_n 0, 1) := by decide +kernel
theorem dX6_spread_166 : decode cX6_spread 166 = .ok (.getfield 28, 3) := by decide +kernel
theorem dX6_spread_169 : decode cX6_spread 169 = .ok (.getfield 175, 3) := by decide +kernel
theorem dX6_spread_172 : decode cX6_spread 172 = .ok (.iload 7, 2) := by decide +kernel
theorem dX6_spread_174 : decode cX6_spread 174 = .ok (.iconst 4, 1) := by decide +kernel
theorem dX6_spread_175 : decode cX6_spread 175 = .ok (.imul, 1) := by decide +kernel
theorem dX6_spread_176 : decode cX6_spread 176 = .ok (.iload 9, 2) := by decide +kernel
theorem dX6_spread_178 : decode cX6_spread 178 = .ok (.iadd, 1) := by decide +kernel
theorem dX6_spread_179 : decode cX6_spread 179 = .ok (.iaload, 1) := by decide +kernel
theorem dX6_spread_180 : decode cX6_spread 180 = .ok (.istore 10, 2) := by decide +kernel
theorem dX6_spread_182 : decode cX6_spread 182 = .ok (.iload 10, 2) := by decide +kernel
theorem dX6_spread_184 : decode cX6_spread 184 = .ok (.iconst (-1), 1) := by decide +kernel
theorem dX6_spread_185 : decode cX6_spread 185 = .ok (.if_icmp .eq 98, 3) := by decide +kernel
theorem dX6_spread_188 : decode cX6_spread 188 = .ok (.aload_n 1, 1) := by decide +kernel
theorem dX6_spread_189 : decode cX6_spread 189 = .ok (.getfield 96, 3) := by decide +kernel
theorem dX6_spread_192 : decode cX6_spread 192 = .ok (.iload 10, 2) := by decide +kernel
theorem dX6_spread_194 : decode cX6_spread 194 = .ok (.iaload, 1) := by decide +kernel
theorem dX6_spread_195 : decode cX6_spread 195 = .ok (.ifCond .eq 6, 3) := by decide +kernel
theorem dX6_spread_198 : decode cX6_spread 198 = .ok (.goto 85, 3) := by decide +kernel
theorem dX6_spread_201 : decode cX6_spread 201 = .ok (.aload_n 0, 1) := by decide +kernel
theorem dX6_spread_202 : decode cX6_spread 202 = .ok (.getfield 22, 3) := by decide +kernel
theorem dX6_spread_205 : decode cX6_spread 205 = .ok (.iload 10, 2) := by decide +kernel
theorem dX6_spread_207 : decode cX6_spread 207 = .ok (.iaload, 1) := by decide +kernel
theorem dX6_spread_208 : decode cX6_spread 208 = .ok (.ifCond .ne 18, 3) := by decide +kernel
theorem dX6_spread_211 : decode cX6_spread 211 = .ok (.aload_n 0, 1) := by decide +kernel
theorem dX6_spread_212 : decode cX6_spread 212 = .ok (.getfield 22, 3) := by decide +kernel
theorem dX6_spread_215 : decode cX6_spread 215 = .ok (.iload 10, 2) := by decide +kernel
theorem dX6_spread_217 : decode cX6_spread 217 = .ok (.aload_n 0, 1) := by decide +kernel
theorem dX6_spread_218 : decode cX6_spread 218 = .ok (.aload_n 1, 1) := by decide +kernel
theorem dX6_spread_219 : decode cX6_spread 219 = .ok (.iload_n 2, 1) := by decide +kernel
theorem dX6_spread_220 : decode cX6_spread 220 = .ok (.iload 10, 2) := by decide +kernel
theorem dX6_spread_222 : decode cX6_spread 222 = .ok (.invokevirtual 178, 3) := by decide +kernel
theorem dX6_spread_225 : decode cX6_spread 225 = .ok (.iastore, 1) := by decide +kernel
theorem dX6_spread_226 : decode cX6_spread 226 = .ok (.iload 8, 2) := by decide +kernel
theorem dX6_spread_228 : decode cX6_spread 228 = .ok (.aload_n 0, 1) := by decide +kernel
theorem dX6_spread_229 : decode cX6_spread 229 = .ok (.getfield 22, 3) := by decide +kernel
theorem dX6_spread_232 : decode cX6_spread 232 = .ok (.iload 10, 2) := by decide +kernel
theorem dX6_spread_234 : decode cX6_spread 234 = .ok (.iaload, 1) := by decide +kernel
theorem dX6_spread_235 : decode cX6_spread 235 = .ok (.iadd, 1) := by decide +kernel
theorem dX6_spread_236 : decode cX6_spread 236 = .ok (.aload_n 0, 1) := by decide +kernel
theorem dX6_spread_237 : decode cX6_spread 237 = .ok (.getfield 18, 3) := by decide +kernel
theorem dX6_spread_240 : decode cX6_spread 240 = .ok (.iload 10, 2) := by decide +kernel
theorem dX6_spread_242 : decode cX6_spread 242 = .ok (.iaload, 1) := by decide +kernel
theorem dX6_spread_243 : decode cX6_spread 243 = .ok (.if_icmp .ge 40, 3) := by decide +kernel
theorem dX6_spread_246 : decode cX6_spread 246 = .ok (.aload_n 0, 1) := by decide +kernel
theorem dX6_spread_247 : decode cX6_spread 247 = .ok (.getfield 18, 3) := by decide +kernel
theorem dX6_spread_250 : decode cX6_spread 250 = .ok (.iload 10, 2) := by decide +kernel
theorem dX6_spread_252 : decode cX6_spread 252 = .ok (.iload 8, 2) := by decide +kernel
theorem dX6_spread_254 : decode cX6_spread 254 = .ok (.aload_n 0, 1) := by decide +kernel
theorem dX6_spread_255 : decode cX6_spread 255 = .ok (.getfield 22, 3) := by decide +kernel
theorem dX6_spread_258 : decode cX6_spread 258 = .ok (.iload 10, 2) := by decide +kernel
theorem dX6_spread_260 : decode cX6_spread 260 = .ok (.iaload, 1) := by decide +kernel
theorem dX6_spread_261 : decode cX6_spread 261 = .ok (.iadd, 1) := by decide +kernel
theorem dX6_spread_262 : decode cX6_spread 262 = .ok (.iastore, 1) := by decide +kernel
theorem dX6_spread_263 : decode cX6_spread 263 = .ok (.aload_n 0, 1) := by decide +kernel
theorem dX6_spread_264 : decode cX6_spread 264 = .ok (.getfield 12, 3) := by decide +kernel
theorem dX6_spread_267 : decode cX6_spread 267 = .ok (.aload_n 0, 1) := by decide +kernel
theorem dX6_spread_268 : decode cX6_spread 268 = .ok (.getfield 18, 3) := by decide +kernel
theorem dX6_spread_271 : decode cX6_spread 271 = .ok (.iload 10, 2) := by decide +kernel
theorem dX6_spread_273 : decode cX6_spread 273 = .ok (.iaload, 1) := by decide +kernel
theorem dX6_spread_274 : decode cX6_spread 274 = .ok (.bipush 64, 2) := by decide +kernel
theorem dX6_spread_276 : decode cX6_spread 276 = .ok (.imul, 1) := by decide +kernel
theorem dX6_spread_277 : decode cX6_spread 277 = .ok (.iload 10, 2) := by decide +kernel
theorem dX6_spread_279 : decode cX6_spread 279 = .ok (.iadd, 1) := by decide +kernel
theorem dX6_spread_280 : decode cX6_spread 280 = .ok (.invokevirtual 160, 3) := by decide +kernel
theorem dX6_spread_283 : decode cX6_spread 283 = .ok (.iinc 9 1, 3) := by decide +kernel
theorem dX6_spread_286 : decode cX6_spread 286 = .ok (.goto (-127), 3) := by decide +kernel
theorem dX6_spread_289 : decode cX6_spread 289 = .ok (.iinc 5 1, 3) := by decide +kernel
theorem dX6_spread_292 : decode cX6_spread 292 = .ok (.goto (-226), 3) := by decide +kernel
theorem dX6_spread_295 : decode cX6_spread 295 = .ok (.return_, 1) := by decide +kernel
theorem dX6_tearShared_0 : decode cX6_tearShared 0 = .ok (.aload_n 0, 1) := by decide +kernel
theorem dX6_tearShared_1 : decode cX6_tearShared 1 = .ok (.aload_n 1, 1) := by decide +kernel
theorem dX6_tearShared_2 : decode cX6_tearShared 2 = .ok (.iload_n 2, 1) := by decide +kernel
theorem dX6_tearShared_3 : decode cX6_tearShared 3 = .ok (.invokevirtual 120, 3) := by decide +kernel
theorem dX6_tearShared_6 : decode cX6_tearShared 6 = .ok (.pop, 1) := by decide +kernel
theorem dX6_tearShared_7 : decode cX6_tearShared 7 = .ok (.iconst 0, 1) := by decide +kernel
theorem dX6_tearShared_8 : decode cX6_tearShared 8 = .ok (.istore_n 3, 1) := by decide +kernel
theorem dX6_tearShared_9 : decode cX6_tearShared 9 = .ok (.iload_n 3, 1) := by decide +kernel
theorem dX6_tearShared_10 : decode cX6_tearShared 10 = .ok (.bipush 64, 2) := by decide +kernel
theorem dX6_tearShared_12 : decode cX6_tearShared 12 = .ok (.if_icmp .ge 24, 3) := by decide +kernel
theorem dX6_tearShared_15 : decode cX6_tearShared 15 = .ok (.aload_n 0, 1) := by decide +kernel
theorem dX6_tearShared_16 : decode cX6_tearShared 16 = .ok (.getfield 25, 3) := by decide +kernel
theorem dX6_tearShared_19 : decode cX6_tearShared 19 = .ok (.iload_n 3, 1) := by decide +kernel
theorem dX6_tearShared_20 : decode cX6_tearShared 20 = .ok (.iaload, 1) := by decide +kernel
theorem dX6_tearShared_21 : decode cX6_tearShared 21 = .ok (.ifCond .ne 9, 3) := by decide +kernel
theorem dX6_tearShared_24 : decode cX6_tearShared 24 = .ok (.aload_n 1, 1) := by decide +kernel
theorem dX6_tearShared_25 : decode cX6_tearShared 25 = .ok (.iload_n 2, 1) := by decide +kernel
theorem dX6_tearShared_26 : decode cX6_tearShared 26 = .ok (.iload_n 3, 1) := by decide +kernel
theorem dX6_tearShared_27 : decode cX6_tearShared 27 = .ok (.invokevirtual 123, 3) := by decide +kernel
theorem dX6_tearShared_30 : decode cX6_tearShared 30 = .ok (.iinc 3 1, 3) := by decide +kernel
theorem dX6_tearShared_33 : decode cX6_tearShared 33 = .ok (.goto (-24), 3) := by decide +kernel
theorem dX6_tearShared_36 : decode cX6_tearShared 36 = .ok (.aload_n 1, 1) := by decide +kernel
theorem dX6_tearShared_37 : decode cX6_tearShared 37 = .ok (.iload_n 2, 1) := by decide +kernel
theorem dX6_tearShared_38 : decode cX6_tearShared 38 = .ok (.aload_n 0, 1) := by decide +kernel
theorem dX6_tearShared_39 : decode cX6_tearShared 39 = .ok (.getfield 28, 3) := by decide +kernel
theorem dX6_tearShared_42 : decode cX6_tearShared 42 = .ok (.iload_n 2, 1) := by decide +kernel
theorem dX6_tearShared_43 : decode cX6_tearShared 43 = .ok (.invokevirtual 76, 3) := by decide +kernel
theorem dX6_tearShared_46 : decode cX6_tearShared 46 = .ok (.iconst 4, 1) := by decide +kernel
theorem dX6_tearShared_47 : decode cX6_tearShared 47 = .ok (.invokevirtual 80, 3) := by decide +kernel
theorem dX6_tearShared_50 : decode cX6_tearShared 50 = .ok (.return_, 1) := by decide +kernel
theorem dX6_turnWall_0 : decode cX6_turnWall 0 = .ok (.aload_n 1, 1) := by decide +kernel
theorem dX6_turnWall_1 : decode cX6_turnWall 1 = .ok (.getfield 90, 3) := by decide +kernel
theorem dX6_turnWall_4 : decode cX6_turnWall 4 = .ok (.iload_n 2, 1) := by decide +kernel
theorem dX6_turnWall_5 : decode cX6_turnWall 5 = .ok (.iaload, 1) := by decide +kernel
theorem dX6_turnWall_6 : decode cX6_turnWall 6 = .ok (.ifCond .gt 15, 3) := by decide +kernel
theorem dX6_turnWall_9 : decode cX6_turnWall 9 = .ok (.aload_n 0, 1) := by decide +kernel
theorem dX6_turnWall_10 : decode cX6_turnWall 10 = .ok (.getfield 28, 3) := by decide +kernel
theorem dX6_turnWall_13 : decode cX6_turnWall 13 = .ok (.getfield 93, 3) := by decide +kernel
theorem dX6_turnWall_16 : decode cX6_turnWall 16 = .ok (.iload_n 2, 1) := by decide +kernel
theorem dX6_turnWall_17 : decode cX6_turnWall 17 = .ok (.iaload, 1) := by decide +kernel
theorem dX6_turnWall_18 : decode cX6_turnWall 18 = .ok (.ifCond .eq 5, 3) := by decide +kernel
theorem dX6_turnWall_21 : decode cX6_turnWall 21 = .ok (.iconst 0, 1) := by decide +kernel
theorem dX6_turnWall_22 : decode cX6_turnWall 22 = .ok (.ireturn, 1) := by decide +kernel
theorem dX6_turnWall_23 : decode cX6_turnWall 23 = .ok (.aload_n 1, 1) := by decide +kernel
theorem dX6_turnWall_24 : decode cX6_turnWall 24 = .ok (.getfield 96, 3) := by decide +kernel
theorem dX6_turnWall_27 : decode cX6_turnWall 27 = .ok (.iload_n 2, 1) := by decide +kernel
theorem dX6_turnWall_28 : decode cX6_turnWall 28 = .ok (.iconst 1, 1) := by decide +kernel
theorem dX6_turnWall_29 : decode cX6_turnWall 29 = .ok (.aload_n 1, 1) := by decide +kernel
theorem dX6_turnWall_30 : decode cX6_turnWall 30 = .ok (.getfield 96, 3) := by decide +kernel
theorem dX6_turnWall_33 : decode cX6_turnWall 33 = .ok (.iload_n 2, 1) := by decide +kernel
theorem dX6_turnWall_34 : decode cX6_turnWall 34 = .ok (.iaload, 1) := by decide +kernel
theorem dX6_turnWall_35 : decode cX6_turnWall 35 = .ok (.isub, 1) := by decide +kernel
theorem dX6_turnWall_36 : decode cX6_turnWall 36 = .ok (.iastore, 1) := by decide +kernel
theorem dX6_turnWall_37 : decode cX6_turnWall 37 = .ok (.iconst 1, 1) := by decide +kernel
theorem dX6_turnWall_38 : decode cX6_turnWall 38 = .ok (.ireturn, 1) := by decide +kernel
theorem dX6_wayBack_0 : decode cX6_wayBack 0 = .ok (.iconst 0, 1) := by decide +kernel
theorem dX6_wayBack_1 : decode cX6_wayBack 1 = .ok (.istore_n 2, 1) := by decide +kernel
theorem dX6_wayBack_2 : decode cX6_wayBack 2 = .ok (.iload_n 2, 1) := by decide +kernel
theorem dX6_wayBack_3 : decode cX6_wayBack 3 = .ok (.iconst 4, 1) := by decide +kernel
theorem dX6_wayBack_4 : decode cX6_wayBack 4 = .ok (.if_icmp .ge 52, 3) := by decide +kernel
theorem dX6_wayBack_7 : decode cX6_wayBack 7 = .ok (.aload_n 0, 1) := by decide +kernel
theorem dX6_wayBack_8 : decode cX6_wayBack 8 = .ok (.getfield 28, 3) := by decide +kernel
theorem dX6_wayBack_11 : decode cX6_wayBack 11 = .ok (.getfield 175, 3) := by decide +kernel
theorem dX6_wayBack_14 : decode cX6_wayBack 14 = .ok (.iload_n 1, 1) := by decide +kernel
theorem dX6_wayBack_15 : decode cX6_wayBack 15 = .ok (.iconst 4, 1) := by decide +kernel
theorem dX6_wayBack_16 : decode cX6_wayBack 16 = .ok (.imul, 1) := by decide +kernel
theorem dX6_wayBack_17 : decode cX6_wayBack 17 = .ok (.iload_n 2, 1) := by decide +kernel
theorem dX6_wayBack_18 : decode cX6_wayBack 18 = .ok (.iadd, 1) := by decide +kernel
theorem dX6_wayBack_19 : decode cX6_wayBack 19 = .ok (.iaload, 1) := by decide +kernel
theorem dX6_wayBack_20 : decode cX6_wayBack 20 = .ok (.istore_n 3, 1) := by decide +kernel
theorem dX6_wayBack_21 : decode cX6_wayBack 21 = .ok (.iload_n 3, 1) := by decide +kernel
theorem dX6_wayBack_22 : decode cX6_wayBack 22 = .ok (.iconst (-1), 1) := by decide +kernel
theorem dX6_wayBack_23 : decode cX6_wayBack 23 = .ok (.if_icmp .eq 27, 3) := by decide +kernel
theorem dX6_wayBack_26 : decode cX6_wayBack 26 = .ok (.aload_n 0, 1) := by decide +kernel
theorem dX6_wayBack_27 : decode cX6_wayBack 27 = .ok (.getfield 18, 3) := by decide +kernel
theorem dX6_wayBack_30 : decode cX6_wayBack 30 = .ok (.iload_n 3, 1) := by decide +kernel
theorem dX6_wayBack_31 : decode cX6_wayBack 31 = .ok (.iaload, 1) := by decide +kernel
theorem dX6_wayBack_32 : decode cX6_wayBack 32 = .ok (.aload_n 0, 1) := by decide +kernel
theorem dX6_wayBack_33 : decode cX6_wayBack 33 = .ok (.getfield 18, 3) := by decide +kernel
theorem dX6_wayBack_36 : decode cX6_wayBack 36 = .ok (.iload_n 1, 1) := by decide +kernel
theorem dX6_wayBack_37 : decode cX6_wayBack 37 = .ok (.iaload, 1) := by decide +kernel
theorem dX6_wayBack_38 : decode cX6_wayBack 38 = .ok (.aload_n 0, 1) := by decide +kernel
theorem dX6_wayBack_39 : decode cX6_wayBack 39 = .ok (.getfield 22, 3) := by decide +kernel
theorem dX6_wayBack_42 : decode cX6_wayBack 42 = .ok (.iload_n 1, 1) := by decide +kernel
theorem dX6_wayBack_43 : decode cX6_wayBack 43 = .ok (.iaload, 1) := by decide +kernel
theorem dX6_wayBack_44 : decode cX6_wayBack 44 = .ok (.isub, 1) := by decide +kernel
theorem dX6_wayBack_45 : decode cX6_wayBack 45 = .ok (.if_icmp .ne 5, 3) := by decide +kernel
theorem dX6_wayBack_48 : decode cX6_wayBack 48 = .ok (.iload_n 2, 1) := by decide +kernel
theorem dX6_wayBack_49 : decode cX6_wayBack 49 = .ok (.ireturn, 1) := by decide +kernel
theorem dX6_wayBack_50 : decode cX6_wayBack 50 = .ok (.iinc 2 1, 3) := by decide +kernel
theorem dX6_wayBack_53 : decode cX6_wayBack 53 = .ok (.goto (-51), 3) := by decide +kernel
theorem dX6_wayBack_56 : decode cX6_wayBack 56 = .ok (.iconst (-1), 1) := by decide +kernel
theorem dX6_wayBack_57 : decode cX6_wayBack 57 = .ok (.ireturn, 1) := by decide +kernel
theorem dX7_forget_0 : decode cX7_forget 0 = .ok (.aload_n 0, 1) := by decide +kernel
theorem dX7_forget_1 : decode cX7_forget 1 = .ok (.iconst 0, 1) := by decide +kernel
theorem dX7_forget_2 : decode cX7_forget 2 = .ok (.putfield 27, 3) := by decide +kernel
theorem dX7_forget_5 : decode cX7_forget 5 = .ok (.aload_n 0, 1) := by decide +kernel
theorem dX7_forget_6 : decode cX7_forget 6 = .ok (.iconst 0, 1) := by decide +kernel
theorem dX7_forget_7 : decode cX7_forget 7 = .ok (.putfield 31, 3) := by decide +kernel
theorem dX7_forget_10 : decode cX7_forget 10 = .ok (.return_, 1) := by decide +kernel
theorem dX7_init_0 : decode cX7_init 0 = .ok (.aload_n 0, 1) := by decide +kernel
theorem dX7_init_1 : decode cX7_init 1 = .ok (.invokespecial 3, 3) := by decide +kernel
theorem dX7_init_4 : decode cX7_init 4 = .ok (.aload_n 0, 1) := by decide +kernel
theorem dX7_init_5 : decode cX7_init 5 = .ok (.bipush 16, 2) := by decide +kernel
theorem dX7_init_7 : decode cX7_init 7 = .ok (.anewarray 9, 3) := by decide +kernel
theorem dX7_init_10 : decode cX7_init 10 = .ok (.putfield 11, 3) := by decide +kernel
theorem dX7_init_13 : decode cX7_init 13 = .ok (.aload_n 0, 1) := by decide +kernel
theorem dX7_init_14 : decode cX7_init 14 = .ok (.iconst 3, 1) := by decide +kernel
theorem dX7_init_15 : decode cX7_init 15 = .ok (.anewarray 9, 3) := by decide +kernel
theorem dX7_init_18 : decode cX7_init 18 = .ok (.putfield 17, 3) := by decide +kernel
theorem dX7_init_21 : decode cX7_init 21 = .ok (.aload_n 0, 1) := by decide +kernel
theorem dX7_init_22 : decode cX7_init 22 = .ok (.bipush 48, 2) := by decide +kernel
theorem dX7_init_24 : decode cX7_init 24 = .ok (.anewarray 9, 3) := by decide +kernel
theorem dX7_init_27 : decode cX7_init 27 = .ok (.putfield 20, 3) := by decide +kernel
theorem dX7_init_30 : decode cX7_init 30 = .ok (.aload_n 0, 1) := by decide +kernel
theorem dX7_init_31 : decode cX7_init 31 = .ok (.iconst 3, 1) := by decide +kernel
theorem dX7_init_32 : decode cX7_init 32 = .ok (.newarray .int, 2) := by decide +kernel
theorem dX7_init_34 : decode cX7_init 34 = .ok (.putfield 23, 3) := by decide +kernel
theorem dX7_init_37 : decode cX7_init 37 = .ok (.return_, 1) := by decide +kernel
theorem dX7_keepImage_0 : decode cX7_keepImage 0 = .ok (.aload_n 0, 1) := by decide +kernel
theorem dX7_keepImage_1 : decode cX7_keepImage 1 = .ok (.getfield 31, 3) := by decide +kernel
theorem dX7_keepImage_4 : decode cX7_keepImage 4 = .ok (.iconst 3, 1) := by decide +kernel
theorem dX7_keepImage_5 : decode cX7_keepImage 5 = .ok (.if_icmp .lt 4, 3) := by decide +kernel
theorem dX7_keepImage_8 : decode cX7_keepImage 8 = .ok (.return_, 1) := by decide +kernel
theorem dX7_keepImage_9 : decode cX7_keepImage 9 = .ok (.aload_n 0, 1) := by decide +kernel
theorem dX7_keepImage_10 : decode cX7_keepImage 10 = .ok (.getfield 17, 3) := by decide +kernel
theorem dX7_keepImage_13 : decode cX7_keepImage 13 = .ok (.aload_n 0, 1) := by decide +kernel
theorem dX7_keepImage_14 : decode cX7_keepImage 14 = .ok (.getfield 31, 3) := by decide +kernel
theorem dX7_keepImage_17 : decode cX7_keepImage 17 = .ok (.aaload, 1) := by decide +kernel
theorem dX7_keepImage_18 : decode cX7_keepImage 18 = .ok (.ifnonnull 19, 3) := by decide +kernel
theorem dX7_keepImage_21 : decode cX7_keepImage 21 = .ok (.aload_n 0, 1) := by decide +kernel
theorem dX7_keepImage_22 : decode cX7_keepImage 22 = .ok (.getfield 17, 3) := by decide +kernel
theorem dX7_keepImage_25 : decode cX7_keepImage 25 = .ok (.aload_n 0, 1) := by decide +kernel
theorem dX7_keepImage_26 : decode cX7_keepImage 26 = .ok (.getfield 31, 3) := by decide +kernel
theorem dX7_keepImage_29 : decode cX7_keepImage 29 = .ok (.new 9, 3) := by decide +kernel
theorem dX7_keepImage_32 : decode cX7_keepImage 32 = .ok (.dup, 1) := by decide +kernel
theorem dX7_keepImage_33 : decode cX7_keepImage 33 = .ok (.invokespecial 34, 3) := by decide +kernel
theorem dX7_keepImage_36 : decode cX7_keepImage 36 = .ok (.aastore, 1) := by decide +kernel
theorem dX7_keepImage_37 : decode cX7_keepImage 37 = .ok (.aload_n 0, 1) := by decide +kernel
theorem dX7_keepImage_38 : decode cX7_keepImage 38 = .ok (.getfield 17, 3) := by decide +kernel
theorem dX7_keepImage_41 : decode cX7_keepImage 41 = .ok (.aload_n 0, 1) := by decide +kernel
theorem dX7_keepImage_42 : decode cX7_keepImage 42 = .ok (.getfield 31, 3) := by decide +kernel
theorem dX7_keepImage_45 : decode cX7_keepImage 45 = .ok (.aaload, 1) := by decide +kernel
theorem dX7_keepImage_46 : decode cX7_keepImage 46 = .ok (.aload_n 1, 1) := by decide +kernel
theorem dX7_keepImage_47 : decode cX7_keepImage 47 = .ok (.invokevirtual 35, 3) := by decide +kernel
theorem dX7_keepImage_50 : decode cX7_keepImage 50 = .ok (.iconst 0, 1) := by decide +kernel
theorem dX7_keepImage_51 : decode cX7_keepImage 51 = .ok (.istore_n 2, 1) := by decide +kernel
theorem dX7_keepImage_52 : decode cX7_keepImage 52 = .ok (.iload_n 2, 1) := by decide +kernel
theorem dX7_keepImage_53 : decode cX7_keepImage 53 = .ok (.aload_n 0, 1) := by decide +kernel
theorem dX7_keepImage_54 : decode cX7_keepImage 54 = .ok (.getfield 27, 3) := by decide +kernel
theorem dX7_keepImage_57 : decode cX7_keepImage 57 = .ok (.if_icmp .ge 29, 3) := by decide +kernel
theorem dX7_keepImage_60 : decode cX7_keepImage 60 = .ok (.aload_n 0, 1) := by decide +kernel
theorem dX7_keepImage_61 : decode cX7_keepImage 61 = .ok (.getfield 20, 3) := by decide +kernel
theorem dX7_keepImage_64 : decode cX7_keepImage 64 = .ok (.aload_n 0, 1) := by decide +kernel
theorem dX7_keepImage_65 : decode cX7_keepImage 65 = .ok (.getfield 31, 3) := by decide +kernel
theorem dX7_keepImage_68 : decode cX7_keepImage 68 = .ok (.bipush 16, 2) := by decide +kernel
theorem dX7_keepImage_70 : decode cX7_keepImage 70 = .ok (.imul, 1) := by decide +kernel
theorem dX7_keepImage_71 : decode cX7_keepImage 71 = .ok (.iload_n 2, 1) := by decide +kernel
theorem dX7_keepImage_72 : decode cX7_keepImage 72 = .ok (.iadd, 1) := by decide +kernel
theorem dX7_keepImage_73 : decode cX7_keepImage 73 = .ok (.aload_n 0, 1) := by decide +kernel
theorem dX7_keepImage_74 : decode cX7_keepImage 74 = .ok (.getfield 11, 3) := by decide +kernel
theorem dX7_keepImage_77 : decode cX7_keepImage 77 = .ok (.iload_n 2, 1) := by decide +kernel
theorem dX7_keepImage_78 : decode cX7_keepImage 78 = .ok (.aaload, 1) := by decide +kernel
theorem dX7_keepImage_79 : decode cX7_keepImage 79 = .ok (.aastore, 1) := by decide +kernel
theorem dX7_keepImage_80 : decode cX7_keepImage 80 = .ok (.iinc 2 1, 3) := by decide +kernel
theorem dX7_keepImage_83 : decode cX7_keepImage 83 = .ok (.goto (-31), 3) := by decide +kernel
theorem dX7_keepImage_86 : decode cX7_keepImage 86 = .ok (.aload_n 0, 1) := by decide +kernel
theorem dX7_keepImage_87 : decode cX7_keepImage 87 = .ok (.getfield 23, 3) := by decide +kernel
theorem dX7_keepImage_90 : decode cX7_keepImage 90 = .ok (.aload_n 0, 1) := by decide +kernel
theorem dX7_keepImage_91 : decode cX7_keepImage 91 = .ok (.getfield 31, 3) := by decide +kernel
theorem dX7_keepImage_94 : decode cX7_keepImage 94 = .ok (.aload_n 0, 1) := by decide +kernel
theorem dX7_keepImage_95 : decode cX7_keepImage 95 = .ok (.getfield 27, 3) := by decide +kernel
theorem dX7_keepImage_98 : decode cX7_keepImage 98 = .ok (.iastore, 1) := by decide +kernel
theorem dX7_keepImage_99 : decode cX7_keepImage 99 = .ok (.aload_n 0, 1) := by decide +kernel
theorem dX7_keepImage_100 : decode cX7_keepImage 100 = .ok (.dup, 1) := by decide +kernel
theorem dX7_keepImage_101 : decode cX7_keepImage 101 = .ok (.getfield 31, 3) := by decide +kernel
theorem dX7_keepImage_104 : decode cX7_keepImage 104 = .ok (.iconst 1, 1) := by decide +kernel
theorem dX7_keepImage_105 : decode cX7_keepImage 105 = .ok (.iadd, 1) := by decide +kernel
theorem dX7_keepImage_106 : decode cX7_keepImage 106 = .ok (.putfield 31, 3) := by decide +kernel
theorem dX7_keepImage_109 : decode cX7_keepImage 109 = .ok (.return_, 1) := by decide +kernel
theorem dX7_keepWork_0 : decode cX7_keepWork 0 = .ok (.aload_n 0, 1) := by decide +kernel
theorem dX7_keepWork_1 : decode cX7_keepWork 1 = .ok (.getfield 27, 3) := by decide +kernel
theorem dX7_keepWork_4 : decode cX7_keepWork 4 = .ok (.bipush 16, 2) := by decide +kernel
theorem dX7_keepWork_6 : decode cX7_keepWork 6 = .ok (.if_icmp .lt 4, 3) := by decide +kernel
theorem dX7_keepWork_9 : decode cX7_keepWork 9 = .ok (.return_, 1) := by decide +kernel
theorem dX7_keepWork_10 : decode cX7_keepWork 10 = .ok (.aload_n 0, 1) := by decide +kernel
theorem dX7_keepWork_11 : decode cX7_keepWork 11 = .ok (.getfield 31, 3) := by decide +kernel
theorem dX7_keepWork_14 : decode cX7_keepWork 14 = .ok (.ifCond .gt 15, 3) := by decide +kernel
theorem dX7_keepWork_17 : decode cX7_keepWork 17 = .ok (.aload_n 0, 1) := by decide +kernel
theorem dX7_keepWork_18 : decode cX7_keepWork 18 = .ok (.getfield 11, 3) := by decide +kernel
theorem dX7_keepWork_21 : decode cX7_keepWork 21 = .ok (.aload_n 0, 1) := by decide +kernel
theorem dX7_keepWork_22 : decode cX7_keepWork 22 = .ok (.getfield 27, 3) := by decide +kernel
theorem dX7_keepWork_25 : decode cX7_keepWork 25 = .ok (.aaload, 1) := by decide +kernel
theorem dX7_keepWork_26 : decode cX7_keepWork 26 = .ok (.ifnonnull 19, 3) := by decide +kernel
theorem dX7_keepWork_29 : decode cX7_keepWork 29 = .ok (.aload_n 0, 1) := by decide +kernel
theorem dX7_keepWork_30 : decode cX7_keepWork 30 = .ok (.getfield 11, 3) := by decide +kernel
theorem dX7_keepWork_33 : decode cX7_keepWork 33 = .ok (.aload_n 0, 1) := by decide +kernel
theorem dX7_keepWork_34 : decode cX7_keepWork 34 = .ok (.getfield 27, 3) := by decide +kernel
theorem dX7_keepWork_37 : decode cX7_keepWork 37 = .ok (.new 9, 3) := by decide +kernel
theorem dX7_keepWork_40 : decode cX7_keepWork 40 = .ok (.dup, 1) := by decide +kernel
theorem dX7_keepWork_41 : decode cX7_keepWork 41 = .ok (.invokespecial 34, 3) := by decide +kernel
theorem dX7_keepWork_44 : decode cX7_keepWork 44 = .ok (.aastore, 1) := by decide +kernel
theorem dX7_keepWork_45 : decode cX7_keepWork 45 = .ok (.aload_n 0, 1) := by decide +kernel
theorem dX7_keepWork_46 : decode cX7_keepWork 46 = .ok (.getfield 11, 3) := by decide +kernel
theorem dX7_keepWork_49 : decode cX7_keepWork 49 = .ok (.aload_n 0, 1) := by decide +kernel
theorem dX7_keepWork_50 : decode cX7_keepWork 50 = .ok (.getfield 27, 3) := by decide +kernel
theorem dX7_keepWork_53 : decode cX7_keepWork 53 = .ok (.aaload, 1) := by decide +kernel
theorem dX7_keepWork_54 : decode cX7_keepWork 54 = .ok (.aload_n 1, 1) := by decide +kernel
theorem dX7_keepWork_55 : decode cX7_keepWork 55 = .ok (.invokevirtual 35, 3) := by decide +kernel
theorem dX7_keepWork_58 : decode cX7_keepWork 58 = .ok (.aload_n 0, 1) := by decide +kernel
theorem dX7_keepWork_59 : decode cX7_keepWork 59 = .ok (.dup, 1) := by decide +kernel
theorem dX7_keepWork_60 : decode cX7_keepWork 60 = .ok (.getfield 27, 3) := by decide +kernel
theorem dX7_keepWork_63 : decode cX7_keepWork 63 = .ok (.iconst 1, 1) := by decide +kernel
theorem dX7_keepWork_64 : decode cX7_keepWork 64 = .ok (.iadd, 1) := by decide +kernel
theorem dX7_keepWork_65 : decode cX7_keepWork 65 = .ok (.putfield 27, 3) := by decide +kernel
theorem dX7_keepWork_68 : decode cX7_keepWork 68 = .ok (.return_, 1) := by decide +kernel
theorem dX7_takeImage_0 : decode cX7_takeImage 0 = .ok (.aload_n 0, 1) := by decide +kernel
theorem dX7_takeImage_1 : decode cX7_takeImage 1 = .ok (.getfield 31, 3) := by decide +kernel
theorem dX7_takeImage_4 : decode cX7_takeImage 4 = .ok (.ifCond .eq 17, 3) := by decide +kernel
theorem dX7_takeImage_7 : decode cX7_takeImage 7 = .ok (.aload_n 0, 1) := by decide +kernel
theorem dX7_takeImage_8 : decode cX7_takeImage 8 = .ok (.getfield 17, 3) := by decide +kernel
theorem dX7_takeImage_11 : decode cX7_takeImage 11 = .ok (.aload_n 0, 1) := by decide +kernel
theorem dX7_takeImage_12 : decode cX7_takeImage 12 = .ok (.getfield 31, 3) := by decide +kernel
theorem dX7_takeImage_15 : decode cX7_takeImage 15 = .ok (.iconst 1, 1) := by decide +kernel
theorem dX7_takeImage_16 : decode cX7_takeImage 16 = .ok (.isub, 1) := by decide +kernel
theorem dX7_takeImage_17 : decode cX7_takeImage 17 = .ok (.aaload, 1) := by decide +kernel
theorem dX7_takeImage_18 : decode cX7_takeImage 18 = .ok (.ifnonnull 4, 3) := by decide +kernel
theorem dX7_takeImage_21 : decode cX7_takeImage 21 = .ok (.return_, 1) := by decide +kernel
theorem dX7_takeImage_22 : decode cX7_takeImage 22 = .ok (.aload_n 0, 1) := by decide +kernel
theorem dX7_takeImage_23 : decode cX7_takeImage 23 = .ok (.dup, 1) := by decide +kernel
theorem dX7_takeImage_24 : decode cX7_takeImage 24 = .ok (.getfield 31, 3) := by decide +kernel
theorem dX7_takeImage_27 : decode cX7_takeImage 27 = .ok (.iconst 1, 1) := by decide +kernel
theorem dX7_takeImage_28 : decode cX7_takeImage 28 = .ok (.isub, 1) := by decide +kernel
theorem dX7_takeImage_29 : decode cX7_takeImage 29 = .ok (.putfield 31, 3) := by decide +kernel
theorem dX7_takeImage_32 : decode cX7_takeImage 32 = .ok (.aload_n 1, 1) := by decide +kernel
theorem dX7_takeImage_33 : decode cX7_takeImage 33 = .ok (.aload_n 0, 1) := by decide +kernel
theorem dX7_takeImage_34 : decode cX7_takeImage 34 = .ok (.getfield 17, 3) := by decide +kernel
theorem dX7_takeImage_37 : decode cX7_takeImage 37 = .ok (.aload_n 0, 1) := by decide +kernel
theorem dX7_takeImage_38 : decode cX7_takeImage 38 = .ok (.getfield 31, 3) := by decide +kernel
theorem dX7_takeImage_41 : decode cX7_takeImage 41 = .ok (.aaload, 1) := by decide +kernel
theorem dX7_takeImage_42 : decode cX7_takeImage 42 = .ok (.invokevirtual 35, 3) := by decide +kernel
theorem dX7_takeImage_45 : decode cX7_takeImage 45 = .ok (.aload_n 0, 1) := by decide +kernel
theorem dX7_takeImage_46 : decode cX7_takeImage 46 = .ok (.aload_n 0, 1) := by decide +kernel
theorem dX7_takeImage_47 : decode cX7_takeImage 47 = .ok (.getfield 23, 3) := by decide +kernel
theorem dX7_takeImage_50 : decode cX7_takeImage 50 = .ok (.aload_n 0, 1) := by decide +kernel
theorem dX7_takeImage_51 : decode cX7_takeImage 51 = .ok (.getfield 31, 3) := by decide +kernel
theorem dX7_takeImage_54 : decode cX7_takeImage 54 = .ok (.iaload, 1) := by decide +kernel
theorem dX7_takeImage_55 : decode cX7_takeImage 55 = .ok (.putfield 27, 3) := by decide +kernel
theorem dX7_takeImage_58 : decode cX7_takeImage 58 = .ok (.iconst 0, 1) := by decide +kernel
theorem dX7_takeImage_59 : decode cX7_takeImage 59 = .ok (.istore_n 2, 1) := by decide +kernel
theorem dX7_takeImage_60 : decode cX7_takeImage 60 = .ok (.iload_n 2, 1) := by decide +kernel
theorem dX7_takeImage_61 : decode cX7_takeImage 61 = .ok (.aload_n 0, 1) := by decide +kernel
theorem dX7_takeImage_62 : decode cX7_takeImage 62 = .ok (.getfield 27, 3) := by decide +kernel
theorem dX7_takeImage_65 : decode cX7_takeImage 65 = .ok (.if_icmp .ge 29, 3) := by decide +kernel
theorem dX7_takeImage_68 : decode cX7_takeImage 68 = .ok (.aload_n 0, 1) := by decide +kernel
theorem dX7_takeImage_69 : decode cX7_takeImage 69 = .ok (.getfield 11, 3) := by decide +kernel
theorem dX7_takeImage_72 : decode cX7_takeImage 72 = .ok (.iload_n 2, 1) := by decide +kernel
theorem dX7_takeImage_73 : decode cX7_takeImage 73 = .ok (.aload_n 0, 1) := by decide +kernel
theorem dX7_takeImage_74 : decode cX7_takeImage 74 = .ok (.getfield 20, 3) := by decide +kernel
theorem dX7_takeImage_77 : decode cX7_takeImage 77 = .ok (.aload_n 0, 1) := by decide +kernel
theorem dX7_takeImage_78 : decode cX7_takeImage 78 = .ok (.getfield 31, 3) := by decide +kernel
theorem dX7_takeImage_81 : decode cX7_takeImage 81 = .ok (.bipush 16, 2) := by decide +kernel
theorem dX7_takeImage_83 : decode cX7_takeImage 83 = .ok (.imul, 1) := by decide +kernel
theorem dX7_takeImage_84 : decode cX7_takeImage 84 = .ok (.iload_n 2, 1) := by decide +kernel
theorem dX7_takeImage_85 : decode cX7_takeImage 85 = .ok (.iadd, 1) := by decide +kernel
theorem dX7_takeImage_86 : decode cX7_takeImage 86 = .ok (.aaload, 1) := by decide +kernel
theorem dX7_takeImage_87 : decode cX7_takeImage 87 = .ok (.aastore, 1) := by decide +kernel
theorem dX7_takeImage_88 : decode cX7_takeImage 88 = .ok (.iinc 2 1, 3) := by decide +kernel
theorem dX7_takeImage_91 : decode cX7_takeImage 91 = .ok (.goto (-31), 3) := by decide +kernel
theorem dX7_takeImage_94 : decode cX7_takeImage 94 = .ok (.return_, 1) := by decide +kernel
theorem dX7_takeWork_0 : decode cX7_takeWork 0 = .ok (.aload_n 0, 1) := by decide +kernel
theorem dX7_takeWork_1 : decode cX7_takeWork 1 = .ok (.getfield 27, 3) := by decide +kernel
theorem dX7_takeWork_4 : decode cX7_takeWork 4 = .ok (.ifCond .le 40, 3) := by decide +kernel
theorem dX7_takeWork_7 : decode cX7_takeWork 7 = .ok (.aload_n 0, 1) := by decide +kernel
theorem dX7_takeWork_8 : decode cX7_takeWork 8 = .ok (.getfield 11, 3) := by decide +kernel
theorem dX7_takeWork_11 : decode cX7_takeWork 11 = .ok (.aload_n 0, 1) := by decide +kernel
theorem dX7_takeWork_12 : decode cX7_takeWork 12 = .ok (.getfield 27, 3) := by decide +kernel
theorem dX7_takeWork_15 : decode cX7_takeWork 15 = .ok (.iconst 1, 1) := by decide +kernel
theorem dX7_takeWork_16 : decode cX7_takeWork 16 = .ok (.isub, 1) := by decide +kernel
theorem dX7_takeWork_17 : decode cX7_takeWork 17 = .ok (.aaload, 1) := by decide +kernel
theorem dX7_takeWork_18 : decode cX7_takeWork 18 = .ok (.ifnull 26, 3) := by decide +kernel
theorem dX7_takeWork_21 : decode cX7_takeWork 21 = .ok (.aload_n 0, 1) := by decide +kernel
theorem dX7_takeWork_22 : decode cX7_takeWork 22 = .ok (.dup, 1) := by decide +kernel
theorem dX7_takeWork_23 : decode cX7_takeWork 23 = .ok (.getfield 27, 3) := by decide +kernel
theorem dX7_takeWork_26 : decode cX7_takeWork 26 = .ok (.iconst 1, 1) := by decide +kernel
theorem dX7_takeWork_27 : decode cX7_takeWork 27 = .ok (.isub, 1) := by decide +kernel
theorem dX7_takeWork_28 : decode cX7_takeWork 28 = .ok (.putfield 27, 3) := by decide +kernel
theorem dX7_takeWork_31 : decode cX7_takeWork 31 = .ok (.aload_n 1, 1) := by decide +kernel
theorem dX7_takeWork_32 : decode cX7_takeWork 32 = .ok (.aload_n 0, 1) := by decide +kernel
theorem dX7_takeWork_33 : decode cX7_takeWork 33 = .ok (.getfield 11, 3) := by decide +kernel
theorem dX7_takeWork_36 : decode cX7_takeWork 36 = .ok (.aload_n 0, 1) := by decide +kernel
theorem dX7_takeWork_37 : decode cX7_takeWork 37 = .ok (.getfield 27, 3) := by decide +kernel
theorem dX7_takeWork_40 : decode cX7_takeWork 40 = .ok (.aaload, 1) := by decide +kernel
theorem dX7_takeWork_41 : decode cX7_takeWork 41 = .ok (.invokevirtual 35, 3) := by decide +kernel
theorem dX7_takeWork_44 : decode cX7_takeWork 44 = .ok (.return_, 1) := by decide +kernel
