theorem dX10_append_0 : decode cX10_append 0 = .ok (.bipush 24, 2) := by decide +kernel
theorem dX10_append_2 : decode cX10_append 2 = .ok (.istore_n 2, 1) := by decide +kernel
theorem dX10_append_3 : decode cX10_append 3 = .ok (.iload_n 2, 1) := by decide +kernel
theorem dX10_append_4 : decode cX10_append 4 = .ok (.ifCond .lt 47, 3) := by decide +kernel
theorem dX10_append_7 : decode cX10_append 7 = .ok (.aload_n 0, 1) := by decide +kernel
theorem dX10_append_8 : decode cX10_append 8 = .ok (.getfield 19, 3) := by decide +kernel
theorem dX10_append_11 : decode cX10_append 11 = .ok (.aload_n 0, 1) := by decide +kernel
theorem dX10_append_12 : decode cX10_append 12 = .ok (.getfield 9, 3) := by decide +kernel
theorem dX10_append_15 : decode cX10_append 15 = .ok (.arraylength, 1) := by decide +kernel
theorem dX10_append_16 : decode cX10_append 16 = .ok (.if_icmp .ge 29, 3) := by decide +kernel
theorem dX10_append_19 : decode cX10_append 19 = .ok (.aload_n 0, 1) := by decide +kernel
theorem dX10_append_20 : decode cX10_append 20 = .ok (.getfield 9, 3) := by decide +kernel
theorem dX10_append_23 : decode cX10_append 23 = .ok (.aload_n 0, 1) := by decide +kernel
theorem dX10_append_24 : decode cX10_append 24 = .ok (.getfield 19, 3) := by decide +kernel
theorem dX10_append_27 : decode cX10_append 27 = .ok (.iload_n 1, 1) := by decide +kernel
theorem dX10_append_28 : decode cX10_append 28 = .ok (.iload_n 2, 1) := by decide +kernel
theorem dX10_append_29 : decode cX10_append 29 = .ok (.iushr, 1) := by decide +kernel
theorem dX10_append_30 : decode cX10_append 30 = .ok (.sipush 255, 3) := by decide +kernel
theorem dX10_append_33 : decode cX10_append 33 = .ok (.iand, 1) := by decide +kernel
theorem dX10_append_34 : decode cX10_append 34 = .ok (.iastore, 1) := by decide +kernel
theorem dX10_append_35 : decode cX10_append 35 = .ok (.aload_n 0, 1) := by decide +kernel
theorem dX10_append_36 : decode cX10_append 36 = .ok (.dup, 1) := by decide +kernel
theorem dX10_append_37 : decode cX10_append 37 = .ok (.getfield 19, 3) := by decide +kernel
theorem dX10_append_40 : decode cX10_append 40 = .ok (.iconst 1, 1) := by decide +kernel
theorem dX10_append_41 : decode cX10_append 41 = .ok (.iadd, 1) := by decide +kernel
theorem dX10_append_42 : decode cX10_append 42 = .ok (.putfield 19, 3) := by decide +kernel
theorem dX10_append_45 : decode cX10_append 45 = .ok (.iinc 2 (-8), 3) := by decide +kernel
theorem dX10_append_48 : decode cX10_append 48 = .ok (.goto (-45), 3) := by decide +kernel
theorem dX10_append_51 : decode cX10_append 51 = .ok (.return_, 1) := by decide +kernel
theorem dX10_begin_0 : decode cX10_begin 0 = .ok (.aload_n 0, 1) := by decide +kernel
theorem dX10_begin_1 : decode cX10_begin 1 = .ok (.iload_n 1, 1) := by decide +kernel
theorem dX10_begin_2 : decode cX10_begin 2 = .ok (.putfield 22, 3) := by decide +kernel
theorem dX10_begin_5 : decode cX10_begin 5 = .ok (.aload_n 0, 1) := by decide +kernel
theorem dX10_begin_6 : decode cX10_begin 6 = .ok (.iconst 0, 1) := by decide +kernel
theorem dX10_begin_7 : decode cX10_begin 7 = .ok (.putfield 25, 3) := by decide +kernel
theorem dX10_begin_10 : decode cX10_begin 10 = .ok (.aload_n 0, 1) := by decide +kernel
theorem dX10_begin_11 : decode cX10_begin 11 = .ok (.iconst 0, 1) := by decide +kernel
theorem dX10_begin_12 : decode cX10_begin 12 = .ok (.putfield 28, 3) := by decide +kernel
theorem dX10_begin_15 : decode cX10_begin 15 = .ok (.aload_n 0, 1) := by decide +kernel
theorem dX10_begin_16 : decode cX10_begin 16 = .ok (.iconst 0, 1) := by decide +kernel
theorem dX10_begin_17 : decode cX10_begin 17 = .ok (.putfield 19, 3) := by decide +kernel
theorem dX10_begin_20 : decode cX10_begin 20 = .ok (.aload_n 0, 1) := by decide +kernel
theorem dX10_begin_21 : decode cX10_begin 21 = .ok (.iconst 0, 1) := by decide +kernel
theorem dX10_begin_22 : decode cX10_begin 22 = .ok (.putfield 31, 3) := by decide +kernel
theorem dX10_begin_25 : decode cX10_begin 25 = .ok (.aload_n 0, 1) := by decide +kernel
theorem dX10_begin_26 : decode cX10_begin 26 = .ok (.iconst (-1), 1) := by decide +kernel
theorem dX10_begin_27 : decode cX10_begin 27 = .ok (.putfield 15, 3) := by decide +kernel
theorem dX10_begin_30 : decode cX10_begin 30 = .ok (.return_, 1) := by decide +kernel
theorem dX10_digitIsNext_0 : decode cX10_digitIsNext 0 = .ok (.aload_n 0, 1) := by decide +kernel
theorem dX10_digitIsNext_1 : decode cX10_digitIsNext 1 = .ok (.invokevirtual 34, 3) := by decide +kernel
theorem dX10_digitIsNext_4 : decode cX10_digitIsNext 4 = .ok (.aload_n 0, 1) := by decide +kernel
theorem dX10_digitIsNext_5 : decode cX10_digitIsNext 5 = .ok (.getfield 25, 3) := by decide +kernel
theorem dX10_digitIsNext_8 : decode cX10_digitIsNext 8 = .ok (.aload_n 0, 1) := by decide +kernel
theorem dX10_digitIsNext_9 : decode cX10_digitIsNext 9 = .ok (.getfield 22, 3) := by decide +kernel
theorem dX10_digitIsNext_12 : decode cX10_digitIsNext 12 = .ok (.if_icmp .ge 22, 3) := by decide +kernel
theorem dX10_digitIsNext_15 : decode cX10_digitIsNext 15 = .ok (.aload_n 0, 1) := by decide +kernel
theorem dX10_digitIsNext_16 : decode cX10_digitIsNext 16 = .ok (.getfield 9, 3) := by decide +kernel
theorem dX10_digitIsNext_19 : decode cX10_digitIsNext 19 = .ok (.aload_n 0, 1) := by decide +kernel
theorem dX10_digitIsNext_20 : decode cX10_digitIsNext 20 = .ok (.getfield 25, 3) := by decide +kernel
theorem dX10_digitIsNext_23 : decode cX10_digitIsNext 23 = .ok (.iaload, 1) := by decide +kernel
theorem dX10_digitIsNext_24 : decode cX10_digitIsNext 24 = .ok (.invokestatic 37, 3) := by decide +kernel
theorem dX10_digitIsNext_27 : decode cX10_digitIsNext 27 = .ok (.ifCond .eq 7, 3) := by decide +kernel
theorem dX10_digitIsNext_30 : decode cX10_digitIsNext 30 = .ok (.iconst 1, 1) := by decide +kernel
theorem dX10_digitIsNext_31 : decode cX10_digitIsNext 31 = .ok (.goto 4, 3) := by decide +kernel
theorem dX10_digitIsNext_34 : decode cX10_digitIsNext 34 = .ok (.iconst 0, 1) := by decide +kernel
theorem dX10_digitIsNext_35 : decode cX10_digitIsNext 35 = .ok (.ireturn, 1) := by decide +kernel
theorem dX10_ended_0 : decode cX10_ended 0 = .ok (.aload_n 0, 1) := by decide +kernel
theorem dX10_ended_1 : decode cX10_ended 1 = .ok (.invokevirtual 34, 3) := by decide +kernel
theorem dX10_ended_4 : decode cX10_ended 4 = .ok (.aload_n 0, 1) := by decide +kernel
theorem dX10_ended_5 : decode cX10_ended 5 = .ok (.getfield 25, 3) := by decide +kernel
theorem dX10_ended_8 : decode cX10_ended 8 = .ok (.aload_n 0, 1) := by decide +kernel
theorem dX10_ended_9 : decode cX10_ended 9 = .ok (.getfield 22, 3) := by decide +kernel
theorem dX10_ended_12 : decode cX10_ended 12 = .ok (.if_icmp .lt 7, 3) := by decide +kernel
theorem dX10_ended_15 : decode cX10_ended 15 = .ok (.iconst 1, 1) := by decide +kernel
theorem dX10_ended_16 : decode cX10_ended 16 = .ok (.goto 4, 3) := by decide +kernel
theorem dX10_ended_19 : decode cX10_ended 19 = .ok (.iconst 0, 1) := by decide +kernel
theorem dX10_ended_20 : decode cX10_ended 20 = .ok (.ireturn, 1) := by decide +kernel
theorem dX10_fail_0 : decode cX10_fail 0 = .ok (.aload_n 0, 1) := by decide +kernel
theorem dX10_fail_1 : decode cX10_fail 1 = .ok (.getfield 31, 3) := by decide +kernel
theorem dX10_fail_4 : decode cX10_fail 4 = .ok (.ifCond .ne 13, 3) := by decide +kernel
theorem dX10_fail_7 : decode cX10_fail 7 = .ok (.aload_n 0, 1) := by decide +kernel
theorem dX10_fail_8 : decode cX10_fail 8 = .ok (.iload_n 1, 1) := by decide +kernel
theorem dX10_fail_9 : decode cX10_fail 9 = .ok (.putfield 31, 3) := by decide +kernel
theorem dX10_fail_12 : decode cX10_fail 12 = .ok (.aload_n 0, 1) := by decide +kernel
theorem dX10_fail_13 : decode cX10_fail 13 = .ok (.iload_n 2, 1) := by decide +kernel
theorem dX10_fail_14 : decode cX10_fail 14 = .ok (.putfield 15, 3) := by decide +kernel
theorem dX10_fail_17 : decode cX10_fail 17 = .ok (.return_, 1) := by decide +kernel
theorem dX10_failed_0 : decode cX10_failed 0 = .ok (.aload_n 0, 1) := by decide +kernel
theorem dX10_failed_1 : decode cX10_failed 1 = .ok (.getfield 31, 3) := by decide +kernel
theorem dX10_failed_4 : decode cX10_failed 4 = .ok (.ifCond .eq 7, 3) := by decide +kernel
theorem dX10_failed_7 : decode cX10_failed 7 = .ok (.iconst 1, 1) := by decide +kernel
theorem dX10_failed_8 : decode cX10_failed 8 = .ok (.goto 4, 3) := by decide +kernel
theorem dX10_failed_11 : decode cX10_failed 11 = .ok (.iconst 0, 1) := by decide +kernel
theorem dX10_failed_12 : decode cX10_failed 12 = .ok (.ireturn, 1) := by decide +kernel
theorem dX10_init_0 : decode cX10_init 0 = .ok (.aload_n 0, 1) := by decide +kernel
theorem dX10_init_1 : decode cX10_init 1 = .ok (.invokespecial 3, 3) := by decide +kernel
theorem dX10_init_4 : decode cX10_init 4 = .ok (.aload_n 0, 1) := by decide +kernel
theorem dX10_init_5 : decode cX10_init 5 = .ok (.sipush 600, 3) := by decide +kernel
theorem dX10_init_8 : decode cX10_init 8 = .ok (.newarray .int, 2) := by decide +kernel
theorem dX10_init_10 : decode cX10_init 10 = .ok (.putfield 9, 3) := by decide +kernel
theorem dX10_init_13 : decode cX10_init 13 = .ok (.aload_n 0, 1) := by decide +kernel
theorem dX10_init_14 : decode cX10_init 14 = .ok (.iconst (-1), 1) := by decide +kernel
theorem dX10_init_15 : decode cX10_init 15 = .ok (.putfield 15, 3) := by decide +kernel
theorem dX10_init_18 : decode cX10_init 18 = .ok (.return_, 1) := by decide +kernel
theorem dX10_isDigit_0 : decode cX10_isDigit 0 = .ok (.iload_n 0, 1) := by decide +kernel
theorem dX10_isDigit_1 : decode cX10_isDigit 1 = .ok (.bipush 48, 2) := by decide +kernel
theorem dX10_isDigit_3 : decode cX10_isDigit 3 = .ok (.if_icmp .lt 13, 3) := by decide +kernel
theorem dX10_isDigit_6 : decode cX10_isDigit 6 = .ok (.iload_n 0, 1) := by decide +kernel
theorem dX10_isDigit_7 : decode cX10_isDigit 7 = .ok (.bipush 57, 2) := by decide +kernel
theorem dX10_isDigit_9 : decode cX10_isDigit 9 = .ok (.if_icmp .gt 7, 3) := by decide +kernel
theorem dX10_isDigit_12 : decode cX10_isDigit 12 = .ok (.iconst 1, 1) := by decide +kernel
theorem dX10_isDigit_13 : decode cX10_isDigit 13 = .ok (.goto 4, 3) := by decide +kernel
theorem dX10_isDigit_16 : decode cX10_isDigit 16 = .ok (.iconst 0, 1) := by decide +kernel
theorem dX10_isDigit_17 : decode cX10_isDigit 17 = .ok (.ireturn, 1) := by decide +kernel
theorem dX10_need_0 : decode cX10_need 0 = .ok (.aload_n 0, 1) := by decide +kernel
theorem dX10_need_1 : decode cX10_need 1 = .ok (.invokevirtual 34, 3) := by decide +kernel
theorem dX10_need_4 : decode cX10_need 4 = .ok (.aload_n 0, 1) := by decide +kernel
theorem dX10_need_5 : decode cX10_need 5 = .ok (.getfield 25, 3) := by decide +kernel
theorem dX10_need_8 : decode cX10_need 8 = .ok (.aload_n 0, 1) := by decide +kernel
theorem dX10_need_9 : decode cX10_need 9 = .ok (.getfield 22, 3) := by decide +kernel
theorem dX10_need_12 : decode cX10_need 12 = .ok (.if_icmp .ge 29, 3) := by decide +kernel
theorem dX10_need_15 : decode cX10_need 15 = .ok (.aload_n 0, 1) := by decide +kernel
theorem dX10_need_16 : decode cX10_need 16 = .ok (.getfield 9, 3) := by decide +kernel
theorem dX10_need_19 : decode cX10_need 19 = .ok (.aload_n 0, 1) := by decide +kernel
theorem dX10_need_20 : decode cX10_need 20 = .ok (.getfield 25, 3) := by decide +kernel
theorem dX10_need_23 : decode cX10_need 23 = .ok (.iaload, 1) := by decide +kernel
theorem dX10_need_24 : decode cX10_need 24 = .ok (.iload_n 1, 1) := by decide +kernel
theorem dX10_need_25 : decode cX10_need 25 = .ok (.if_icmp .ne 16, 3) := by decide +kernel
theorem dX10_need_28 : decode cX10_need 28 = .ok (.aload_n 0, 1) := by decide +kernel
theorem dX10_need_29 : decode cX10_need 29 = .ok (.dup, 1) := by decide +kernel
theorem dX10_need_30 : decode cX10_need 30 = .ok (.getfield 25, 3) := by decide +kernel
theorem dX10_need_33 : decode cX10_need 33 = .ok (.iconst 1, 1) := by decide +kernel
theorem dX10_need_34 : decode cX10_need 34 = .ok (.iadd, 1) := by decide +kernel
theorem dX10_need_35 : decode cX10_need 35 = .ok (.putfield 25, 3) := by decide +kernel
theorem dX10_need_38 : decode cX10_need 38 = .ok (.goto 12, 3) := by decide +kernel
theorem dX10_need_41 : decode cX10_need 41 = .ok (.aload_n 0, 1) := by decide +kernel
theorem dX10_need_42 : decode cX10_need 42 = .ok (.iconst 1, 1) := by decide +kernel
theorem dX10_need_43 : decode cX10_need 43 = .ok (.aload_n 0, 1) := by decide +kernel
theorem dX10_need_44 : decode cX10_need 44 = .ok (.getfield 25, 3) := by decide +kernel
theorem dX10_need_47 : decode cX10_need 47 = .ok (.invokevirtual 41, 3) := by decide +kernel
theorem dX10_need_50 : decode cX10_need 50 = .ok (.return_, 1) := by decide +kernel
theorem dX10_number_0 : decode cX10_number 0 = .ok (.aload_n 0, 1) := by decide +kernel
theorem dX10_number_1 : decode cX10_number 1 = .ok (.invokevirtual 34, 3) := by decide +kernel
theorem dX10_number_4 : decode cX10_number 4 = .ok (.iconst 0, 1) := by decide +kernel
theorem dX10_number_5 : decode cX10_number 5 = .ok (.istore_n 3, 1) := by decide +kernel
theorem dX10_number_6 : decode cX10_number 6 = .ok (.aload_n 0, 1) := by decide +kernel
theorem dX10_number_7 : decode cX10_number 7 = .ok (.getfield 25, 3) := by decide +kernel
theorem dX10_number_10 : decode cX10_number 10 = .ok (.aload_n 0, 1) := by decide +kernel
theorem dX10_number_11 : decode cX10_number 11 = .ok (.getfield 22, 3) := by decide +kernel
theorem dX10_number_14 : decode cX10_number 14 = .ok (.if_icmp .ge 60, 3) := by decide +kernel
theorem dX10_number_17 : decode cX10_number 17 = .ok (.aload_n 0, 1) := by decide +kernel
theorem dX10_number_18 : decode cX10_number 18 = .ok (.getfield 9, 3) := by decide +kernel
theorem dX10_number_21 : decode cX10_number 21 = .ok (.aload_n 0, 1) := by decide +kernel
theorem dX10_number_22 : decode cX10_number 22 = .ok (.getfield 25, 3) := by decide +kernel
theorem dX10_number_25 : decode cX10_number 25 = .ok (.iaload, 1) := by decide +kernel
theorem dX10_number_26 : decode cX10_number 26 = .ok (.invokestatic 37, 3) := by decide +kernel
theorem dX10_number_29 : decode cX10_number 29 = .ok (.ifCond .eq 45, 3) := by decide +kernel
theorem dX10_number_32 : decode cX10_number 32 = .ok (.iload_n 3, 1) := by decide +kernel
theorem dX10_number_33 : decode cX10_number 33 = .ok (.sipush 9999, 3) := by decide +kernel
theorem dX10_number_36 : decode cX10_number 36 = .ok (.if_icmp .le 7, 3) := by decide +kernel
theorem dX10_number_39 : decode cX10_number 39 = .ok (.iload_n 3, 1) := by decide +kernel
theorem dX10_number_40 : decode cX10_number 40 = .ok (.goto 20, 3) := by decide +kernel
theorem dX10_number_43 : decode cX10_number 43 = .ok (.iload_n 3, 1) := by decide +kernel
theorem dX10_number_44 : decode cX10_number 44 = .ok (.bipush 10, 2) := by decide +kernel
theorem dX10_number_46 : decode cX10_number 46 = .ok (.imul, 1) := by decide +kernel
theorem dX10_number_47 : decode cX10_number 47 = .ok (.aload_n 0, 1) := by decide +kernel
theorem dX10_number_48 : decode cX10_number 48 = .ok (.getfield 9, 3) := by decide +kernel
theorem dX10_number_51 : decode cX10_number 51 = .ok (.aload_n 0, 1) := by decide +kernel
theorem dX10_number_52 : decode cX10_number 52 = .ok (.getfield 25, 3) := by decide +kernel
theorem dX10_number_55 : decode cX10_number 55 = .ok (.iaload, 1) := by decide +kernel
theorem dX10_number_56 : decode cX10_number 56 = .ok (.iadd, 1) := by decide +kernel
theorem dX10_number_57 : decode cX10_number 57 = .ok (.bipush 48, 2) := by decide +kernel
theorem dX10_number_59 : decode cX10_number 59 = .ok (.isub, 1) := by decide +kernel
theorem dX10_number_60 : decode cX10_number 60 = .ok (.istore_n 3, 1) := by decide +kernel
theorem dX10_number_61 : decode cX10_number 61 = .ok (.aload_n 0, 1) := by decide +kernel
theorem dX10_number_62 : decode cX10_number 62 = .ok (.dup, 1) := by decide +kernel
theorem dX10_number_63 : decode cX10_number 63 = .ok (.getfield 25, 3) := by decide +kernel
theorem dX10_number_66 : decode cX10_number 66 = .ok (.iconst 1, 1) := by decide +kernel
theorem dX10_number_67 : decode cX10_number 67 = .ok (.iadd, 1) := by decide +kernel
theorem dX10_number_68 : decode cX10_number 68 = .ok (.putfield 25, 3) := by decide +kernel
theorem dX10_number_71 : decode cX10_number 71 = .ok (.goto (-65), 3) := by decide +kernel
theorem dX10_number_74 : decode cX10_number 74 = .ok (.aload_n 0, 1) := by decide +kernel
theorem dX10_number_75 : decode cX10_number 75 = .ok (.getfield 25, 3) := by decide +kernel
theorem dX10_number_78 : decode cX10_number 78 = .ok (.aload_n 0, 1) := by decide +kernel
theorem dX10_number_79 : decode cX10_number 79 = .ok (.getfield 28, 3) := by decide +kernel
theorem dX10_number_82 : decode cX10_number 82 = .ok (.if_icmp .ne 15, 3) := by decide +kernel
theorem dX10_number_85 : decode cX10_number 85 = .ok (.aload_n 0, 1) := by decide +kernel
theorem dX10_number_86 : decode cX10_number 86 = .ok (.iconst 1, 1) := by decide +kernel
theorem dX10_number_87 : decode cX10_number 87 = .ok (.aload_n 0, 1) := by decide +kernel
theorem dX10_number_88 : decode cX10_number 88 = .ok (.getfield 28, 3) := by decide +kernel
theorem dX10_number_91 : decode cX10_number 91 = .ok (.invokevirtual 41, 3) := by decide +kernel
theorem dX10_number_94 : decode cX10_number 94 = .ok (.goto 22, 3) := by decide +kernel
theorem dX10_number_97 : decode cX10_number 97 = .ok (.iload_n 3, 1) := by decide +kernel
theorem dX10_number_98 : decode cX10_number 98 = .ok (.iload_n 1, 1) := by decide +kernel
theorem dX10_number_99 : decode cX10_number 99 = .ok (.if_icmp .lt 8, 3) := by decide +kernel
theorem dX10_number_102 : decode cX10_number 102 = .ok (.iload_n 3, 1) := by decide +kernel
theorem dX10_number_103 : decode cX10_number 103 = .ok (.iload_n 2, 1) := by decide +kernel
theorem dX10_number_104 : decode cX10_number 104 = .ok (.if_icmp .le 12, 3) := by decide +kernel
theorem dX10_number_107 : decode cX10_number 107 = .ok (.aload_n 0, 1) := by decide +kernel
theorem dX10_number_108 : decode cX10_number 108 = .ok (.iconst 2, 1) := by decide +kernel
theorem dX10_number_109 : decode cX10_number 109 = .ok (.aload_n 0, 1) := by decide +kernel
theorem dX10_number_110 : decode cX10_number 110 = .ok (.getfield 28, 3) := by decide +kernel
theorem dX10_number_113 : decode cX10_number 113 = .ok (.invokevirtual 41, 3) := by decide +kernel
theorem dX10_number_116 : decode cX10_number 116 = .ok (.iload_n 3, 1) := by decide +kernel
theorem dX10_number_117 : decode cX10_number 117 = .ok (.ireturn, 1) := by decide +kernel
theorem dX10_readWord_0 : decode cX10_readWord 0 = .ok (.aload_n 0, 1) := by decide +kernel
theorem dX10_readWord_1 : decode cX10_readWord 1 = .ok (.invokevirtual 34, 3) := by decide +kernel
theorem dX10_readWord_4 : decode cX10_readWord 4 = .ok (.aload_n 0, 1) := by decide +kernel
theorem dX10_readWord_5 : decode cX10_readWord 5 = .ok (.getfield 25, 3) := by decide +kernel
theorem dX10_readWord_8 : decode cX10_readWord 8 = .ok (.aload_n 0, 1) := by decide +kernel
theorem dX10_readWord_9 : decode cX10_readWord 9 = .ok (.getfield 22, 3) := by decide +kernel
theorem dX10_readWord_12 : decode cX10_readWord 12 = .ok (.if_icmp .ge 44, 3) := by decide +kernel
theorem dX10_readWord_15 : decode cX10_readWord 15 = .ok (.aload_n 0, 1) := by decide +kernel
theorem dX10_readWord_16 : decode cX10_readWord 16 = .ok (.getfield 9, 3) := by decide +kernel
theorem dX10_readWord_19 : decode cX10_readWord 19 = .ok (.aload_n 0, 1) := by decide +kernel
theorem dX10_readWord_20 : decode cX10_readWord 20 = .ok (.getfield 25, 3) := by decide +kernel
theorem dX10_readWord_23 : decode cX10_readWord 23 = .ok (.iaload, 1) := by decide +kernel
theorem dX10_readWord_24 : decode cX10_readWord 24 = .ok (.bipush 97, 2) := by decide +kernel
theorem dX10_readWord_26 : decode cX10_readWord 26 = .ok (.if_icmp .lt 30, 3) := by decide +kernel
theorem dX10_readWord_29 : decode cX10_readWord 29 = .ok (.aload_n 0, 1) := by decide +kernel
theorem dX10_readWord_30 : decode cX10_readWord 30 = .ok (.getfield 9, 3) := by decide +kernel
theorem dX10_readWord_33 : decode cX10_readWord 33 = .ok (.aload_n 0, 1) := by decide +kernel
theorem dX10_readWord_34 : decode cX10_readWord 34 = .ok (.getfield 25, 3) := by decide +kernel
theorem dX10_readWord_37 : decode cX10_readWord 37 = .ok (.iaload, 1) := by decide +kernel
theorem dX10_readWord_38 : decode cX10_readWord 38 = .ok (.bipush 122, 2) := by decide +kernel
theorem dX10_readWord_40 : decode cX10_readWord 40 = .ok (.if_icmp .gt 16, 3) := by decide +kernel
theorem dX10_readWord_43 : decode cX10_readWord 43 = .ok (.aload_n 0, 1) := by decide +kernel
theorem dX10_readWord_44 : decode cX10_readWord 44 = .ok (.dup, 1) := by decide +kernel
theorem dX10_readWord_45 : decode cX10_readWord 45 = .ok (.getfield 25, 3) := by decide +kernel
theorem dX10_readWord_48 : decode cX10_readWord 48 = .ok (.iconst 1, 1) := by decide +kernel
theorem dX10_readWord_49 : decode cX10_readWord 49 = .ok (.iadd, 1) := by decide +kernel
theorem dX10_readWord_50 : decode cX10_readWord 50 = .ok (.putfield 25, 3) := by decide +kernel
theorem dX10_readWord_53 : decode cX10_readWord 53 = .ok (.goto (-49), 3) := by decide +kernel
theorem dX10_readWord_56 : decode cX10_readWord 56 = .ok (.return_, 1) := by decide +kernel
theorem dX10_skipBlanks_0 : decode cX10_skipBlanks 0 = .ok (.aload_n 0, 1) := by decide +kernel
theorem dX10_skipBlanks_1 : decode cX10_skipBlanks 1 = .ok (.getfield 25, 3) := by decide +kernel
theorem dX10_skipBlanks_4 : decode cX10_skipBlanks 4 = .ok (.aload_n 0, 1) := by decide +kernel
theorem dX10_skipBlanks_5 : decode cX10_skipBlanks 5 = .ok (.getfield 22, 3) := by decide +kernel
theorem dX10_skipBlanks_8 : decode cX10_skipBlanks 8 = .ok (.if_icmp .ge 30, 3) := by decide +kernel
theorem dX10_skipBlanks_11 : decode cX10_skipBlanks 11 = .ok (.aload_n 0, 1) := by decide +kernel
theorem dX10_skipBlanks_12 : decode cX10_skipBlanks 12 = .ok (.getfield 9, 3) := by decide +kernel
theorem dX10_skipBlanks_15 : decode cX10_skipBlanks 15 = .ok (.aload_n 0, 1) := by decide +kernel
theorem dX10_skipBlanks_16 : decode cX10_skipBlanks 16 = .ok (.getfield 25, 3) := by decide +kernel
theorem dX10_skipBlanks_19 : decode cX10_skipBlanks 19 = .ok (.iaload, 1) := by decide +kernel
theorem dX10_skipBlanks_20 : decode cX10_skipBlanks 20 = .ok (.bipush 32, 2) := by decide +kernel
theorem dX10_skipBlanks_22 : decode cX10_skipBlanks 22 = .ok (.if_icmp .ne 16, 3) := by decide +kernel
theorem dX10_skipBlanks_25 : decode cX10_skipBlanks 25 = .ok (.aload_n 0, 1) := by decide +kernel
theorem dX10_skipBlanks_26 : decode cX10_skipBlanks 26 = .ok (.dup, 1) := by decide +kernel
theorem dX10_skipBlanks_27 : decode cX10_skipBlanks 27 = .ok (.getfield 25, 3) := by decide +kernel
theorem dX10_skipBlanks_30 : decode cX10_skipBlanks 30 = .ok (.iconst 1, 1) := by decide +kernel
theorem dX10_skipBlanks_31 : decode cX10_skipBlanks 31 = .ok (.iadd, 1) := by decide +kernel
theorem dX10_skipBlanks_32 : decode cX10_skipBlanks 32 = .ok (.putfield 25, 3) := by decide +kernel
theorem dX10_skipBlanks_35 : decode cX10_skipBlanks 35 = .ok (.goto (-35), 3) := by decide +kernel
theorem dX10_skipBlanks_38 : decode cX10_skipBlanks 38 = .ok (.aload_n 0, 1) := by decide +kernel
theorem dX10_skipBlanks_39 : decode cX10_skipBlanks 39 = .ok (.aload_n 0, 1) := by decide +kernel
theorem dX10_skipBlanks_40 : decode cX10_skipBlanks 40 = .ok (.getfield 25, 3) := by decide +kernel
theorem dX10_skipBlanks_43 : decode cX10_skipBlanks 43 = .ok (.putfield 28, 3) := by decide +kernel
theorem dX10_skipBlanks_46 : decode cX10_skipBlanks 46 = .ok (.return_, 1) := by decide +kernel
theorem dX10_takes_0 : decode cX10_takes 0 = .ok (.aload_n 0, 1) := by decide +kernel
theorem dX10_takes_1 : decode cX10_takes 1 = .ok (.invokevirtual 34, 3) := by decide +kernel
theorem dX10_takes_4 : decode cX10_takes 4 = .ok (.aload_n 0, 1) := by decide +kernel
theorem dX10_takes_5 : decode cX10_takes 5 = .ok (.getfield 25, 3) := by decide +kernel
theorem dX10_takes_8 : decode cX10_takes 8 = .ok (.aload_n 0, 1) := by decide +kernel
theorem dX10_takes_9 : decode cX10_takes 9 = .ok (.getfield 22, 3) := by decide +kernel
theorem dX10_takes_12 : decode cX10_takes 12 = .ok (.if_icmp .ge 16, 3) := by decide +kernel
theorem dX10_takes_15 : decode cX10_takes 15 = .ok (.aload_n 0, 1) := by decide +kernel
theorem dX10_takes_16 : decode cX10_takes 16 = .ok (.getfield 9, 3) := by decide +kernel
theorem dX10_takes_19 : decode cX10_takes 19 = .ok (.aload_n 0, 1) := by decide +kernel
theorem dX10_takes_20 : decode cX10_takes 20 = .ok (.getfield 25, 3) := by decide +kernel
theorem dX10_takes_23 : decode cX10_takes 23 = .ok (.iaload, 1) := by decide +kernel
theorem dX10_takes_24 : decode cX10_takes 24 = .ok (.iload_n 1, 1) := by decide +kernel
theorem dX10_takes_25 : decode cX10_takes 25 = .ok (.if_icmp .eq 5, 3) := by decide +kernel
theorem dX10_takes_28 : decode cX10_takes 28 = .ok (.iconst 0, 1) := by decide +kernel
theorem dX10_takes_29 : decode cX10_takes 29 = .ok (.ireturn, 1) := by decide +kernel
theorem dX10_takes_30 : decode cX10_takes 30 = .ok (.aload_n 0, 1) := by decide +kernel
theorem dX10_takes_31 : decode cX10_takes 31 = .ok (.dup, 1) := by decide +kernel
theorem dX10_takes_32 : decode cX10_takes 32 = .ok (.getfield 25, 3) := by decide +kernel
theorem dX10_takes_35 : decode cX10_takes 35 = .ok (.iconst 1, 1) := by decide +kernel
theorem dX10_takes_36 : decode cX10_takes 36 = .ok (.iadd, 1) := by decide +kernel
theorem dX10_takes_37 : decode cX10_takes 37 = .ok (.putfield 25, 3) := by decide +kernel
theorem dX10_takes_40 : decode cX10_takes 40 = .ok (.iconst 1, 1) := by decide +kernel
theorem dX10_takes_41 : decode cX10_takes 41 = .ok (.ireturn, 1) := by decide +kernel
theorem dX10_wordIs_0 : decode cX10_wordIs 0 = .ok (.aload_n 1, 1) := by decide +kernel
theorem dX10_wordIs_1 : decode cX10_wordIs 1 = .ok (.invokevirtual 45, 3) := by decide +kernel
theorem dX10_wordIs_4 : decode cX10_wordIs 4 = .ok (.aload_n 0, 1) := by decide +kernel
theorem dX10_wordIs_5 : decode cX10_wordIs 5 = .ok (.getfield 25, 3) := by decide +kernel
theorem dX10_wordIs_8 : decode cX10_wordIs 8 = .ok (.aload_n 0, 1) := by decide +kernel
theorem dX10_wordIs_9 : decode cX10_wordIs 9 = .ok (.getfield 28, 3) := by decide +kernel
theorem dX10_wordIs_12 : decode cX10_wordIs 12 = .ok (.isub, 1) := by decide +kernel
theorem dX10_wordIs_13 : decode cX10_wordIs 13 = .ok (.if_icmp .eq 5, 3) := by decide +kernel
theorem dX10_wordIs_16 : decode cX10_wordIs 16 = .ok (.iconst 0, 1) := by decide +kernel
theorem dX10_wordIs_17 : decode cX10_wordIs 17 = .ok (.ireturn, 1) := by decide +kernel
theorem dX10_wordIs_18 : decode cX10_wordIs 18 = .ok (.iconst 0, 1) := by decide +kernel
theorem dX10_wordIs_19 : decode cX10_wordIs 19 = .ok (.istore_n 2, 1) := by decide +kernel
theorem dX10_wordIs_20 : decode cX10_wordIs 20 = .ok (.iload_n 2, 1) := by decide +kernel
theorem dX10_wordIs_21 : decode cX10_wordIs 21 = .ok (.aload_n 1, 1) := by decide +kernel
theorem dX10_wordIs_22 : decode cX10_wordIs 22 = .ok (.invokevirtual 45, 3) := by decide +kernel
theorem dX10_wordIs_25 : decode cX10_wordIs 25 = .ok (.if_icmp .ge 30, 3) := by decide +kernel
theorem dX10_wordIs_28 : decode cX10_wordIs 28 = .ok (.aload_n 0, 1) := by decide +kernel
theorem dX10_wordIs_29 : decode cX10_wordIs 29 = .ok (.getfield 9, 3) := by decide +kernel
theorem dX10_wordIs_32 : decode cX10_wordIs 32 = .ok (.aload_n 0, 1) := by decide +kernel
theorem dX10_wordIs_33 : decode cX10_wordIs 33 = .ok (.getfield 28, 3) := by decide +kernel
theorem dX10_wordIs_36 : decode cX10_wordIs 36 = .ok (.iload_n 2, 1) := by decide +kernel
theorem dX10_wordIs_37 : decode cX10_wordIs 37 = .ok (.iadd, 1) := by decide +kernel
theorem dX10_wordIs_38 : decode cX10_wordIs 38 = .ok (.iaload, 1) := by decide +kernel
theorem dX10_wordIs_39 : decode cX10_wordIs 39 = .ok (.aload_n 1, 1) := by decide +kernel
theorem dX10_wordIs_40 : decode cX10_wordIs 40 = .ok (.iload_n 2, 1) := by decide +kernel
theorem dX10_wordIs_41 : decode cX10_wordIs 41 = .ok (.invokevirtual 50, 3) := by decide +kernel
theorem dX10_wordIs_44 : decode cX10_wordIs 44 = .ok (.if_icmp .eq 5, 3) := by decide +kernel
theorem dX10_wordIs_47 : decode cX10_wordIs 47 = .ok (.iconst 0, 1) := by decide +kernel
theorem dX10_wordIs_48 : decode cX10_wordIs 48 = .ok (.ireturn, 1) := by decide +kernel
theorem dX10_wordIs_49 : decode cX10_wordIs 49 = .ok (.iinc 2 1, 3) := by decide +kernel
theorem dX10_wordIs_52 : decode cX10_wordIs 52 = .ok (.goto (-32), 3) := by decide +kernel
theorem dX10_wordIs_55 : decode cX10_wordIs 55 = .ok (.iconst 1, 1) := by decide +kernel
theorem dX10_wordIs_56 : decode cX10_wordIs 56 = .ok (.ireturn, 1) := by decide +kernel
theorem dX1_copyFrom_0 : decode cX1_copyFrom 0 = .ok (.aload_n 0, 1) := by decide +kernel
theorem dX1_copyFrom_1 : decode cX1_copyFrom 1 = .ok (.aload_n 1, 1) := by decide +kernel
theorem dX1_copyFrom_2 : decode cX1_copyFrom 2 = .ok (.getfield 18, 3) := by decide +kernel
theorem dX1_copyFrom_5 : decode cX1_copyFrom 5 = .ok (.putfield 18, 3) := by decide +kernel
theorem dX1_copyFrom_8 : decode cX1_copyFrom 8 = .ok (.aload_n 1, 1) := by decide +kernel
theorem dX1_copyFrom_9 : decode cX1_copyFrom 9 = .ok (.getfield 9, 3) := by decide +kernel
theorem dX1_copyFrom_12 : decode cX1_copyFrom 12 = .ok (.iconst 0, 1) := by decide +kernel
theorem dX1_copyFrom_13 : decode cX1_copyFrom 13 = .ok (.aload_n 0, 1) := by decide +kernel
theorem dX1_copyFrom_14 : decode cX1_copyFrom 14 = .ok (.getfield 9, 3) := by decide +kernel
theorem dX1_copyFrom_17 : decode cX1_copyFrom 17 = .ok (.iconst 0, 1) := by decide +kernel
theorem dX1_copyFrom_18 : decode cX1_copyFrom 18 = .ok (.bipush 8, 2) := by decide +kernel
theorem dX1_copyFrom_20 : decode cX1_copyFrom 20 = .ok (.invokestatic 22, 3) := by decide +kernel
theorem dX1_copyFrom_23 : decode cX1_copyFrom 23 = .ok (.aload_n 1, 1) := by decide +kernel
theorem dX1_copyFrom_24 : decode cX1_copyFrom 24 = .ok (.getfield 15, 3) := by decide +kernel
theorem dX1_copyFrom_27 : decode cX1_copyFrom 27 = .ok (.iconst 0, 1) := by decide +kernel
theorem dX1_copyFrom_28 : decode cX1_copyFrom 28 = .ok (.aload_n 0, 1) := by decide +kernel
theorem dX1_copyFrom_29 : decode cX1_copyFrom 29 = .ok (.getfield 15, 3) := by decide +kernel
theorem dX1_copyFrom_32 : decode cX1_copyFrom 32 = .ok (.iconst 0, 1) := by decide +kernel
theorem dX1_copyFrom_33 : decode cX1_copyFrom 33 = .ok (.bipush 8, 2) := by decide +kernel
theorem dX1_copyFrom_35 : decode cX1_copyFrom 35 = .ok (.invokestatic 22, 3) := by decide +kernel
theorem dX1_copyFrom_38 : decode cX1_copyFrom 38 = .ok (.return_, 1) := by decide +kernel
theorem dX1_forget_0 : decode cX1_forget 0 = .ok (.aload_n 0, 1) := by decide +kernel
theorem dX1_forget_1 : decode cX1_forget 1 = .ok (.iconst 0, 1) := by decide +kernel
theorem dX1_forget_2 : decode cX1_forget 2 = .ok (.putfield 18, 3) := by decide +kernel
theorem dX1_forget_5 : decode cX1_forget 5 = .ok (.return_, 1) := by decide +kernel
theorem dX1_hasLineAt_0 : decode cX1_hasLineAt 0 = .ok (.iconst 0, 1) := by decide +kernel
theorem dX1_hasLineAt_1 : decode cX1_hasLineAt 1 = .ok (.istore_n 2, 1) := by decide +kernel
theorem dX1_hasLineAt_2 : decode cX1_hasLineAt 2 = .ok (.iload_n 2, 1) := by decide +kernel
theorem dX1_hasLineAt_3 : decode cX1_hasLineAt 3 = .ok (.aload_n 0, 1) := by decide +kernel
theorem dX1_hasLineAt_4 : decode cX1_hasLineAt 4 = .ok (.getfield 18, 3) := by decide +kernel
theorem dX1_hasLineAt_7 : decode cX1_hasLineAt 7 = .ok (.if_icmp .ge 21, 3) := by decide +kernel
theorem dX1_hasLineAt_10 : decode cX1_hasLineAt 10 = .ok (.aload_n 0, 1) := by decide +kernel
theorem dX1_hasLineAt_11 : decode cX1_hasLineAt 11 = .ok (.getfield 9, 3) := by decide +kernel
theorem dX1_hasLineAt_14 : decode cX1_hasLineAt 14 = .ok (.iload_n 2, 1) := by decide +kernel
theorem dX1_hasLineAt_15 : decode cX1_hasLineAt 15 = .ok (.iaload, 1) := by decide +kernel
theorem dX1_hasLineAt_16 : decode cX1_hasLineAt 16 = .ok (.iload_n 1, 1) := by decide +kernel
theorem dX1_hasLineAt_17 : decode cX1_hasLineAt 17 = .ok (.if_icmp .ne 5, 3) := by decide +kernel
theorem dX1_hasLineAt_20 : decode cX1_hasLineAt 20 = .ok (.iconst 1, 1) := by decide +kernel
theorem dX1_hasLineAt_21 : decode cX1_hasLineAt 21 = .ok (.ireturn, 1) := by decide +kernel
theorem dX1_hasLineAt_22 : decode cX1_hasLineAt 22 = .ok (.iinc 2 1, 3) := by decide +kernel
theorem dX1_hasLineAt_25 : decode cX1_hasLineAt 25 = .ok (.goto (-23), 3) := by decide +kernel
theorem dX1_hasLineAt_28 : decode cX1_hasLineAt 28 = .ok (.iconst 0, 1) := by decide +kernel
theorem dX1_hasLineAt_29 : decode cX1_hasLineAt 29 = .ok (.ireturn, 1) := by decide +kernel
theorem dX1_init_0 : decode cX1_init 0 = .ok (.aload_n 0, 1) := by decide +kernel
theorem dX1_init_1 : decode cX1_init 1 = .ok (.invokespecial 3, 3) := by decide +kernel
theorem dX1_init_4 : decode cX1_init 4 = .ok (.aload_n 0, 1) := by decide +kernel
theorem dX1_init_5 : decode cX1_init 5 = .ok (.bipush 8, 2) := by decide +kernel
theorem dX1_init_7 : decode cX1_init 7 = .ok (.newarray .int, 2) := by decide +kernel
theorem dX1_init_9 : decode cX1_init 9 = .ok (.putfield 9, 3) := by decide +kernel
theorem dX1_init_12 : decode cX1_init 12 = .ok (.aload_n 0, 1) := by decide +kernel
theorem dX1_init_13 : decode cX1_init 13 = .ok (.bipush 8, 2) := by decide +kernel
theorem dX1_init_15 : decode cX1_init 15 = .ok (.newarray .int, 2) := by decide +kernel
theorem dX1_init_17 : decode cX1_init 17 = .ok (.putfield 15, 3) := by decide +kernel
theorem dX1_init_20 : decode cX1_init 20 = .ok (.return_, 1) := by decide +kernel
theorem dX1_isRightBy_0 : decode cX1_isRightBy 0 = .ok (.iconst 0, 1) := by decide +kernel
theorem dX1_isRightBy_1 : decode cX1_isRightBy 1 = .ok (.istore_n 2, 1) := by decide +kernel
theorem dX1_isRightBy_2 : decode cX1_isRightBy 2 = .ok (.iload_n 2, 1) := by decide +kernel
theorem dX1_isRightBy_3 : decode cX1_isRightBy 3 = .ok (.aload_n 0, 1) := by decide +kernel
theorem dX1_isRightBy_4 : decode cX1_isRightBy 4 = .ok (.getfield 18, 3) := by decide +kernel
theorem dX1_isRightBy_7 : decode cX1_isRightBy 7 = .ok (.if_icmp .ge 28, 3) := by decide +kernel
theorem dX1_isRightBy_10 : decode cX1_isRightBy 10 = .ok (.aload_n 1, 1) := by decide +kernel
theorem dX1_isRightBy_11 : decode cX1_isRightBy 11 = .ok (.aload_n 0, 1) := by decide +kernel
theorem dX1_isRightBy_12 : decode cX1_isRightBy 12 = .ok (.getfield 9, 3) := by decide +kernel
theorem dX1_isRightBy_15 : decode cX1_isRightBy 15 = .ok (.iload_n 2, 1) := by decide +kernel
theorem dX1_isRightBy_16 : decode cX1_isRightBy 16 = .ok (.iaload, 1) := by decide +kernel
theorem dX1_isRightBy_17 : decode cX1_isRightBy 17 = .ok (.iaload, 1) := by decide +kernel
theorem dX1_isRightBy_18 : decode cX1_isRightBy 18 = .ok (.aload_n 0, 1) := by decide +kernel
theorem dX1_isRightBy_19 : decode cX1_isRightBy 19 = .ok (.getfield 15, 3) := by decide +kernel
theorem dX1_isRightBy_22 : decode cX1_isRightBy 22 = .ok (.iload_n 2, 1) := by decide +kernel
theorem dX1_isRightBy_23 : decode cX1_isRightBy 23 = .ok (.iaload, 1) := by decide +kernel
theorem dX1_isRightBy_24 : decode cX1_isRightBy 24 = .ok (.if_icmp .eq 5, 3) := by decide +kernel
theorem dX1_isRightBy_27 : decode cX1_isRightBy 27 = .ok (.iconst 0, 1) := by decide +kernel
theorem dX1_isRightBy_28 : decode cX1_isRightBy 28 = .ok (.ireturn, 1) := by decide +kernel
theorem dX1_isRightBy_29 : decode cX1_isRightBy 29 = .ok (.iinc 2 1, 3) := by decide +kernel
theorem dX1_isRightBy_32 : decode cX1_isRightBy 32 = .ok (.goto (-30), 3) := by decide +kernel
theorem dX1_isRightBy_35 : decode cX1_isRightBy 35 = .ok (.iconst 1, 1) := by decide +kernel
theorem dX1_isRightBy_36 : decode cX1_isRightBy 36 = .ok (.ireturn, 1) := by decide +kernel
theorem dX1_read_0 : decode cX1_read 0 = .ok (.aload_n 0, 1) := by decide +kernel
theorem dX1_read_1 : decode cX1_read 1 = .ok (.iconst 0, 1) := by decide +kernel
theorem dX1_read_2 : decode cX1_read 2 = .ok (.putfield 18, 3) := by decide +kernel
theorem dX1_read_5 : decode cX1_read 5 = .ok (.iconst 0, 1) := by decide +kernel
theorem dX1_read_6 : decode cX1_read 6 = .ok (.istore_n 3, 1) := by decide +kernel
theorem dX1_read_7 : decode cX1_read 7 = .ok (.iload_n 3, 1) := by decide +kernel
theorem dX1_read_8 : decode cX1_read 8 = .ok (.bipush 60, 2) := by decide +kernel
theorem dX1_read_10 : decode cX1_read 10 = .ok (.if_icmp .gt 30, 3) := by decide +kernel
theorem dX1_read_13 : decode cX1_read 13 = .ok (.aload_n 1, 1) := by decide +kernel
theorem dX1_read_14 : decode cX1_read 14 = .ok (.invokevirtual 28, 3) := by decide +kernel
theorem dX1_read_17 : decode cX1_read 17 = .ok (.ifCond .ne 10, 3) := by decide +kernel
theorem dX1_read_20 : decode cX1_read 20 = .ok (.aload_n 1, 1) := by decide +kernel
theorem dX1_read_21 : decode cX1_read 21 = .ok (.invokevirtual 34, 3) := by decide +kernel
theorem dX1_read_24 : decode cX1_read 24 = .ok (.ifCond .eq 4, 3) := by decide +kernel
theorem dX1_read_27 : decode cX1_read 27 = .ok (.return_, 1) := by decide +kernel
theorem dX1_read_28 : decode cX1_read 28 = .ok (.aload_n 0, 1) := by decide +kernel
theorem dX1_read_29 : decode cX1_read 29 = .ok (.aload_n 1, 1) := by decide +kernel
theorem dX1_read_30 : decode cX1_read 30 = .ok (.aload_n 2, 1) := by decide +kernel
theorem dX1_read_31 : decode cX1_read 31 = .ok (.invokevirtual 37, 3) := by decide +kernel
theorem dX1_read_34 : decode cX1_read 34 = .ok (.iinc 3 1, 3) := by decide +kernel
theorem dX1_read_37 : decode cX1_read 37 = .ok (.goto (-30), 3) := by decide +kernel
theorem dX1_read_40 : decode cX1_read 40 = .ok (.return_, 1) := by decide +kernel
theorem dX1_readLine_0 : decode cX1_readLine 0 = .ok (.aload_n 1, 1) := by decide +kernel
theorem dX1_readLine_1 : decode cX1_readLine 1 = .ok (.iconst 0, 1) := by decide +kernel
theorem dX1_readLine_2 : decode cX1_readLine 2 = .ok (.aload_n 2, 1) := by decide +kernel
theorem dX1_readLine_3 : decode cX1_readLine 3 = .ok (.getfield 41, 3) := by decide +kernel
theorem dX1_readLine_6 : decode cX1_readLine 6 = .ok (.iconst 1, 1) := by decide +kernel
theorem dX1_readLine_7 : decode cX1_readLine 7 = .ok (.isub, 1) := by decide +kernel
theorem dX1_readLine_8 : decode cX1_readLine 8 = .ok (.invokevirtual 46, 3) := by decide +kernel
theorem dX1_readLine_11 : decode cX1_readLine 11 = .ok (.istore_n 3, 1) := by decide +kernel
theorem dX1_readLine_12 : decode cX1_readLine 12 = .ok (.aload_n 0, 1) := by decide +kernel
theorem dX1_readLine_13 : decode cX1_readLine 13 = .ok (.getfield 18, 3) := by decide +kernel
theorem dX1_readLine_16 : decode cX1_readLine 16 = .ok (.bipush 8, 2) := by decide +kernel
theorem dX1_readLine_18 : decode cX1_readLine 18 = .ok (.if_icmp .lt 12, 3) := by decide +kernel
theorem dX1_readLine_21 : decode cX1_readLine 21 = .ok (.aload_n 1, 1) := by decide +kernel
theorem dX1_readLine_22 : decode cX1_readLine 22 = .ok (.iconst 3, 1) := by decide +kernel
theorem dX1_readLine_23 : decode cX1_readLine 23 = .ok (.aload_n 1, 1) := by decide +kernel
theorem dX1_readLine_24 : decode cX1_readLine 24 = .ok (.getfield 50, 3) := by decide +kernel
theorem dX1_readLine_27 : decode cX1_readLine 27 = .ok (.invokevirtual 53, 3) := by decide +kernel
theorem dX1_readLine_30 : decode cX1_readLine 30 = .ok (.aload_n 1, 1) := by decide +kernel
theorem dX1_readLine_31 : decode cX1_readLine 31 = .ok (.iconst 0, 1) := by decide +kernel
theorem dX1_readLine_32 : decode cX1_readLine 32 = .ok (.aload_n 2, 1) := by decide +kernel
theorem dX1_readLine_33 : decode cX1_readLine 33 = .ok (.getfield 57, 3) := by decide +kernel
theorem dX1_readLine_36 : decode cX1_readLine 36 = .ok (.iconst 1, 1) := by decide +kernel
theorem dX1_readLine_37 : decode cX1_readLine 37 = .ok (.isub, 1) := by decide +kernel
theorem dX1_readLine_38 : decode cX1_readLine 38 = .ok (.invokevirtual 46, 3) := by decide +kernel
theorem dX1_readLine_41 : decode cX1_readLine 41 = .ok (.istore 4, 2) := by decide +kernel
theorem dX1_readLine_43 : decode cX1_readLine 43 = .ok (.iload 4, 2) := by decide +kernel
theorem dX1_readLine_45 : decode cX1_readLine 45 = .ok (.bipush 8, 2) := by decide +kernel
theorem dX1_readLine_47 : decode cX1_readLine 47 = .ok (.imul, 1) := by decide +kernel
theorem dX1_readLine_48 : decode cX1_readLine 48 = .ok (.iload_n 3, 1) := by decide +kernel
theorem dX1_readLine_49 : decode cX1_readLine 49 = .ok (.iadd, 1) := by decide +kernel
theorem dX1_readLine_50 : decode cX1_readLine 50 = .ok (.istore 5, 2) := by decide +kernel
theorem dX1_readLine_52 : decode cX1_readLine 52 = .ok (.aload_n 0, 1) := by decide +kernel
theorem dX1_readLine_53 : decode cX1_readLine 53 = .ok (.iload 5, 2) := by decide +kernel
theorem dX1_readLine_55 : decode cX1_readLine 55 = .ok (.invokevirtual 60, 3) := by decide +kernel
theorem dX1_readLine_58 : decode cX1_readLine 58 = .ok (.ifCond .eq 12, 3) := by decide +kernel
theorem dX1_readLine_61 : decode cX1_readLine 61 = .ok (.aload_n 1, 1) := by decide +kernel
theorem dX1_readLine_62 : decode cX1_readLine 62 = .ok (.iconst 2, 1) := by decide +kernel
theorem dX1_readLine_63 : decode cX1_readLine 63 = .ok (.aload_n 1, 1) := by decide +kernel
theorem dX1_readLine_64 : decode cX1_readLine 64 = .ok (.getfield 50, 3) := by decide +kernel
theorem dX1_readLine_67 : decode cX1_readLine 67 = .ok (.invokevirtual 53, 3) := by decide +kernel
theorem dX1_readLine_70 : decode cX1_readLine 70 = .ok (.aload_n 1, 1) := by decide +kernel
theorem dX1_readLine_71 : decode cX1_readLine 71 = .ok (.iconst 0, 1) := by decide +kernel
theorem dX1_readLine_72 : decode cX1_readLine 72 = .ok (.bipush 6, 2) := by decide +kernel
theorem dX1_readLine_74 : decode cX1_readLine 74 = .ok (.invokevirtual 46, 3) := by decide +kernel
theorem dX1_readLine_77 : decode cX1_readLine 77 = .ok (.istore 6, 2) := by decide +kernel
theorem dX1_readLine_79 : decode cX1_readLine 79 = .ok (.aload_n 1, 1) := by decide +kernel
theorem dX1_readLine_80 : decode cX1_readLine 80 = .ok (.bipush 59, 2) := by decide +kernel
theorem dX1_readLine_82 : decode cX1_readLine 82 = .ok (.invokevirtual 64, 3) := by decide +kernel
theorem dX1_readLine_85 : decode cX1_readLine 85 = .ok (.aload_n 1, 1) := by decide +kernel
theorem dX1_readLine_86 : decode cX1_readLine 86 = .ok (.invokevirtual 28, 3) := by decide +kernel
theorem dX1_readLine_89 : decode cX1_readLine 89 = .ok (.ifCond .ne 35, 3) := by decide +kernel
theorem dX1_readLine_92 : decode cX1_readLine 92 = .ok (.aload_n 0, 1) := by decide +kernel
theorem dX1_readLine_93 : decode cX1_readLine 93 = .ok (.getfield 9, 3) := by decide +kernel
theorem dX1_readLine_96 : decode cX1_readLine 96 = .ok (.aload_n 0, 1) := by decide +kernel
theorem dX1_readLine_97 : decode cX1_readLine 97 = .ok (.getfield 18, 3) := by decide +kernel
theorem dX1_readLine_100 : decode cX1_readLine 100 = .ok (.iload 5, 2) := by decide +kernel
theorem dX1_readLine_102 : decode cX1_readLine 102 = .ok (.iastore, 1) := by decide +kernel
theorem dX1_readLine_103 : decode cX1_readLine 103 = .ok (.aload_n 0, 1) := by decide +kernel
theorem dX1_readLine_104 : decode cX1_readLine 104 = .ok (.getfield 15, 3) := by decide +kernel
theorem dX1_readLine_107 : decode cX1_readLine 107 = .ok (.aload_n 0, 1) := by decide +kernel
theorem dX1_readLine_108 : decode cX1_readLine 108 = .ok (.getfield 18, 3) := by decide +kernel
theorem dX1_readLine_111 : decode cX1_readLine 111 = .ok (.iload 6, 2) := by decide +kernel
theorem dX1_readLine_113 : decode cX1_readLine 113 = .ok (.iastore, 1) := by decide +kernel
theorem dX1_readLine_114 : decode cX1_readLine 114 = .ok (.aload_n 0, 1) := by decide +kernel
theorem dX1_readLine_115 : decode cX1_readLine 115 = .ok (.dup, 1) := by decide +kernel
theorem dX1_readLine_116 : decode cX1_readLine 116 = .ok (.getfield 18, 3) := by decide +kernel
theorem dX1_readLine_119 : decode cX1_readLine 119 = .ok (.iconst 1, 1) := by decide +kernel
theorem dX1_readLine_120 : decode cX1_readLine 120 = .ok (.iadd, 1) := by decide +kernel
theorem dX1_readLine_121 : decode cX1_readLine 121 = .ok (.putfield 18, 3) := by decide +kernel
theorem dX1_readLine_124 : decode cX1_readLine 124 = .ok (.return_, 1) := by decide +kernel
theorem dX3_clear_0 : decode cX3_clear 0 = .ok (.aload_n 0, 1) := by decide +kernel
theorem dX3_clear_1 : decode cX3_clear 1 = .ok (.iconst 0, 1) := by decide +kernel
theorem dX3_clear_2 : decode cX3_clear 2 = .ok (.putfield 15, 3) := by decide +kernel
theorem dX3_clear_5 : decode cX3_clear 5 = .ok (.return_, 1) := by decide +kernel
theorem dX3_init_0 : decode cX3_init 0 = .ok (.aload_n 0, 1) := by decide +kernel
theorem dX3_init_1 : decode cX3_init 1 = .ok (.invokespecial 3, 3) := by decide +kernel
theorem dX3_init_4 : decode cX3_init 4 = .ok (.aload_n 0, 1) := by decide +kernel
theorem dX3_init_5 : decode cX3_init 5 = .ok (.sipush 320, 3) := by decide +kernel
theorem dX3_init_8 : decode cX3_init 8 = .ok (.newarray .int, 2) := by decide +kernel
theorem dX3_init_10 : decode cX3_init 10 = .ok (.putfield 11, 3) := by decide +kernel
theorem dX3_init_13 : decode cX3_init 13 = .ok (.return_, 1) := by decide +kernel
theorem dX3_isEmpty_0 : decode cX3_isEmpty 0 = .ok (.aload_n 0, 1) := by decide +kernel
theorem dX3_isEmpty_1 : decode cX3_isEmpty 1 = .ok (.getfield 15, 3) := by decide +kernel
theorem dX3_isEmpty_4 : decode cX3_isEmpty 4 = .ok (.ifCond .ne 7, 3) := by decide +kernel
theorem dX3_isEmpty_7 : decode cX3_isEmpty 7 = .ok (.iconst 1, 1) := by decide +kernel
theorem dX3_isEmpty_8 : decode cX3_isEmpty 8 = .ok (.goto 4, 3) := by decide +kernel
theorem dX3_isEmpty_11 : decode cX3_isEmpty 11 = .ok (.iconst 0, 1) := by decide +kernel
theorem dX3_isEmpty_12 : decode cX3_isEmpty 12 = .ok (.ireturn, 1) := by decide +kernel
theorem dX3_pop_0 : decode cX3_pop 0 = .ok (.aload_n 0, 1) := by decide +kernel
theorem dX3_pop_1 : decode cX3_pop 1 = .ok (.getfield 15, 3) := by decide +kernel
theorem dX3_pop_4 : decode cX3_pop 4 = .ok (.ifCond .ne 5, 3) := by decide +kernel
theorem dX3_pop_7 : decode cX3_pop 7 = .ok (.iconst (-1), 1) := by decide +kernel
theorem dX3_pop_8 : decode cX3_pop 8 = .ok (.ireturn, 1) := by decide +kernel
theorem dX3_pop_9 : decode cX3_pop 9 = .ok (.aload_n 0, 1) := by decide +kernel
theorem dX3_pop_10 : decode cX3_pop 10 = .ok (.getfield 11, 3) := by decide +kernel
theorem dX3_pop_13 : decode cX3_pop 13 = .ok (.iconst 0, 1) := by decide +kernel
theorem dX3_pop_14 : decode cX3_pop 14 = .ok (.iaload, 1) := by decide +kernel
theorem dX3_pop_15 : decode cX3_pop 15 = .ok (.istore_n 1, 1) := by decide +kernel
theorem dX3_pop_16 : decode cX3_pop 16 = .ok (.aload_n 0, 1) := by decide +kernel
theorem dX3_pop_17 : decode cX3_pop 17 = .ok (.dup, 1) := by decide +kernel
theorem dX3_pop_18 : decode cX3_pop 18 = .ok (.getfield 15, 3) := by decide +kernel
theorem dX3_pop_21 : decode cX3_pop 21 = .ok (.iconst 1, 1) := by decide +kernel
theorem dX3_pop_22 : decode cX3_pop 22 = .ok (.isub, 1) := by decide +kernel
theorem dX3_pop_23 : decode cX3_pop 23 = .ok (.putfield 15, 3) := by decide +kernel
theorem dX3_pop_26 : decode cX3_pop 26 = .ok (.aload_n 0, 1) := by decide +kernel
theorem dX3_pop_27 : decode cX3_pop 27 = .ok (.getfield 11, 3) := by decide +kernel
theorem dX3_pop_30 : decode cX3_pop 30 = .ok (.aload_n 0, 1) := by decide +kernel
theorem dX3_pop_31 : decode cX3_pop 31 = .ok (.getfield 15, 3) := by decide +kernel
theorem dX3_pop_34 : decode cX3_pop 34 = .ok (.iaload, 1) := by decide +kernel
theorem dX3_pop_35 : decode cX3_pop 35 = .ok (.istore_n 2, 1) := by decide +kernel
theorem dX3_pop_36 : decode cX3_pop 36 = .ok (.iconst 0, 1) := by decide +kernel
theorem dX3_pop_37 : decode cX3_pop 37 = .ok (.istore_n 3, 1) := by decide +kernel
theorem dX3_pop_38 : decode cX3_pop 38 = .ok (.iconst 1, 1) := by decide +kernel
theorem dX3_pop_39 : decode cX3_pop 39 = .ok (.istore 4, 2) := by decide +kernel
theorem dX3_pop_41 : decode cX3_pop 41 = .ok (.iload 4, 2) := by decide +kernel
theorem dX3_pop_43 : decode cX3_pop 43 = .ok (.aload_n 0, 1) := by decide +kernel
theorem dX3_pop_44 : decode cX3_pop 44 = .ok (.getfield 15, 3) := by decide +kernel
theorem dX3_pop_47 : decode cX3_pop 47 = .ok (.if_icmp .ge 76, 3) := by decide +kernel
theorem dX3_pop_50 : decode cX3_pop 50 = .ok (.iload 4, 2) := by decide +kernel
theorem dX3_pop_52 : decode cX3_pop 52 = .ok (.iconst 1, 1) := by decide +kernel
theorem dX3_pop_53 : decode cX3_pop 53 = .ok (.iadd, 1) := by decide +kernel
theorem dX3_pop_54 : decode cX3_pop 54 = .ok (.aload_n 0, 1) := by decide +kernel
theorem dX3_pop_55 : decode cX3_pop 55 = .ok (.getfield 15, 3) := by decide +kernel
theorem dX3_pop_58 : decode cX3_pop 58 = .ok (.if_icmp .ge 25, 3) := by decide +kernel
theorem dX3_pop_61 : decode cX3_pop 61 = .ok (.aload_n 0, 1) := by decide +kernel
theorem dX3_pop_62 : decode cX3_pop 62 = .ok (.getfield 11, 3) := by decide +kernel
theorem dX3_pop_65 : decode cX3_pop 65 = .ok (.iload 4, 2) := by decide +kernel
theorem dX3_pop_67 : decode cX3_pop 67 = .ok (.iconst 1, 1) := by decide +kernel
theorem dX3_pop_68 : decode cX3_pop 68 = .ok (.iadd, 1) := by decide +kernel
theorem dX3_pop_69 : decode cX3_pop 69 = .ok (.iaload, 1) := by decide +kernel
theorem dX3_pop_70 : decode cX3_pop 70 = .ok (.aload_n 0, 1) := by decide +kernel
theorem dX3_pop_71 : decode cX3_pop 71 = .ok (.getfield 11, 3) := by decide +kernel
theorem dX3_pop_74 : decode cX3_pop 74 = .ok (.iload 4, 2) := by decide +kernel
theorem dX3_pop_76 : decode cX3_pop 76 = .ok (.iaload, 1) := by decide +kernel
theorem dX3_pop_77 : decode cX3_pop 77 = .ok (.if_icmp .ge 6, 3) := by decide +kernel
theorem dX3_pop_80 : decode cX3_pop 80 = .ok (.iinc 4 1, 3) := by decide +kernel
theorem dX3_pop_83 : decode cX3_pop 83 = .ok (.aload_n 0, 1) := by decide +kernel
theorem dX3_pop_84 : decode cX3_pop 84 = .ok (.getfield 11, 3) := by decide +kernel
theorem dX3_pop_87 : decode cX3_pop 87 = .ok (.iload 4, 2) := by decide +kernel
theorem dX3_pop_89 : decode cX3_pop 89 = .ok (.iaload, 1) := by decide +kernel
theorem dX3_pop_90 : decode cX3_pop 90 = .ok (.iload_n 2, 1) := by decide +kernel
theorem dX3_pop_91 : decode cX3_pop 91 = .ok (.if_icmp .lt 6, 3) := by decide +kernel
theorem dX3_pop_94 : decode cX3_pop 94 = .ok (.goto 29, 3) := by decide +kernel
theorem dX3_pop_97 : decode cX3_pop 97 = .ok (.aload_n 0, 1) := by decide +kernel
theorem dX3_pop_98 : decode cX3_pop 98 = .ok (.getfield 11, 3) := by decide +kernel
theorem dX3_pop_101 : decode cX3_pop 101 = .ok (.iload_n 3, 1) := by decide +kernel
theorem dX3_pop_102 : decode cX3_pop 102 = .ok (.aload_n 0, 1) := by decide +kernel
theorem dX3_pop_103 : decode cX3_pop 103 = .ok (.getfield 11, 3) := by decide +kernel
theorem dX3_pop_106 : decode cX3_pop 106 = .ok (.iload 4, 2) := by decide +kernel
theorem dX3_pop_108 : decode cX3_pop 108 = .ok (.iaload, 1) := by decide +kernel
theorem dX3_pop_109 : decode cX3_pop 109 = .ok (.iastore, 1) := by decide +kernel
theorem dX3_pop_110 : decode cX3_pop 110 = .ok (.iload 4, 2) := by decide +kernel
theorem dX3_pop_112 : decode cX3_pop 112 = .ok (.istore_n 3, 1) := by decide +kernel
theorem dX3_pop_113 : decode cX3_pop 113 = .ok (.iconst 2, 1) := by decide +kernel
theorem dX3_pop_114 : decode cX3_pop 114 = .ok (.iload_n 3, 1) := by decide +kernel
theorem dX3_pop_115 : decode cX3_pop 115 = .ok (.imul, 1) := by decide +kernel
theorem dX3_pop_116 : decode cX3_pop 116 = .ok (.iconst 1, 1) := by decide +kernel
theorem dX3_pop_117 : decode cX3_pop 117 = .ok (.iadd, 1) := by decide +kernel
theorem dX3_pop_118 : decode cX3_pop 118 = .ok (.istore 4, 2) := by decide +kernel
theorem dX3_pop_120 : decode cX3_pop 120 = .ok (.goto (-79), 3) := by decide +kernel
theorem dX3_pop_123 : decode cX3_pop 123 = .ok (.aload_n 0, 1) := by decide +kernel
theorem dX3_pop_124 : decode cX3_pop 124 = .ok (.getfield 11, 3) := by decide +kernel
theorem dX3_pop_127 : decode cX3_pop 127 = .ok (.iload_n 3, 1) := by decide +kernel
theorem dX3_pop_128 : decode cX3_pop 128 = .ok (.iload_n 2, 1) := by decide +kernel
theorem dX3_pop_129 : decode cX3_pop 129 = .ok (.iastore, 1) := by decide +kernel
theorem dX3_pop_130 : decode cX3_pop 130 = .ok (.iload_n 1, 1) := by decide +kernel
theorem dX3_pop_131 : decode cX3_pop 131 = .ok (.ireturn, 1) := by decide +kernel
theorem dX3_push_0 : decode cX3_push 0 = .ok (.aload_n 0, 1) := by decide +kernel
theorem dX3_push_1 : decode cX3_push 1 = .ok (.getfield 15, 3) := by decide +kernel
theorem dX3_push_4 : decode cX3_push 4 = .ok (.sipush 320, 3) := by decide +kernel
theorem dX3_push_7 : decode cX3_push 7 = .ok (.if_icmp .lt 4, 3) := by decide +kernel
theorem dX3_push_10 : decode cX3_push 10 = .ok (.return_, 1) := by decide +kernel
theorem dX3_push_11 : decode cX3_push 11 = .ok (.aload_n 0, 1) := by decide +kernel
theorem dX3_push_12 : decode cX3_push 12 = .ok (.getfield 15, 3) := by decide +kernel
theorem dX3_push_15 : decode cX3_push 15 = .ok (.istore_n 2, 1) := by decide +kernel
theorem dX3_push_16 : decode cX3_push 16 = .ok (.aload_n 0, 1) := by decide +kernel
theorem dX3_push_17 : decode cX3_push 17 = .ok (.dup, 1) := by decide +kernel
theorem dX3_push_18 : decode cX3_push 18 = .ok (.getfield 15, 3) := by decide +kernel
theorem dX3_push_21 : decode cX3_push 21 = .ok (.iconst 1, 1) := by decide +kernel
theorem dX3_push_22 : decode cX3_push 22 = .ok (.iadd, 1) := by decide +kernel
theorem dX3_push_23 : decode cX3_push 23 = .ok (.putfield 15, 3) := by decide +kernel
theorem dX3_push_26 : decode cX3_push 26 = .ok (.iload_n 2, 1) := by decide +kernel
theorem dX3_push_27 : decode cX3_push 27 = .ok (.ifCond .le 42, 3) := by decide +kernel
theorem dX3_push_30 : decode cX3_push 30 = .ok (.aload_n 0, 1) := by decide +kernel
theorem dX3_push_31 : decode cX3_push 31 = .ok (.getfield 11, 3) := by decide +kernel
theorem dX3_push_34 : decode cX3_push 34 = .ok (.iload_n 2, 1) := by decide +kernel
theorem dX3_push_35 : decode cX3_push 35 = .ok (.iconst 1, 1) := by decide +kernel
theorem dX3_push_36 : decode cX3_push 36 = .ok (.isub, 1) := by decide +kernel
theorem dX3_push_37 : decode cX3_push 37 = .ok (.iconst 2, 1) := by decide +kernel
theorem dX3_push_38 : decode cX3_push 38 = .ok (.idiv, 1) := by decide +kernel
theorem dX3_push_39 : decode cX3_push 39 = .ok (.iaload, 1) := by decide +kernel
theorem dX3_push_40 : decode cX3_push 40 = .ok (.iload_n 1, 1) := by decide +kernel
theorem dX3_push_41 : decode cX3_push 41 = .ok (.if_icmp .le 28, 3) := by decide +kernel
theorem dX3_push_44 : decode cX3_push 44 = .ok (.aload_n 0, 1) := by decide +kernel
theorem dX3_push_45 : decode cX3_push 45 = .ok (.getfield 11, 3) := by decide +kernel
theorem dX3_push_48 : decode cX3_push 48 = .ok (.iload_n 2, 1) := by decide +kernel
theorem dX3_push_49 : decode cX3_push 49 = .ok (.aload_n 0, 1) := by decide +kernel
theorem dX3_push_50 : decode cX3_push 50 = .ok (.getfield 11, 3) := by decide +kernel
theorem dX3_push_53 : decode cX3_push 53 = .ok (.iload_n 2, 1) := by decide +kernel
theorem dX3_push_54 : decode cX3_push 54 = .ok (.iconst 1, 1) := by decide +kernel
theorem dX3_push_55 : decode cX3_push 55 = .ok (.isub, 1) := by decide +kernel
theorem dX3_push_56 : decode cX3_push 56 = .ok (.iconst 2, 1) := by decide +kernel
theorem dX3_push_57 : decode cX3_push 57 = .ok (.idiv, 1) := by decide +kernel
theorem dX3_push_58 : decode cX3_push 58 = .ok (.iaload, 1) := by decide +kernel
theorem dX3_push_59 : decode cX3_push 59 = .ok (.iastore, 1) := by decide +kernel
theorem dX3_push_60 : decode cX3_push 60 = .ok (.iload_n 2, 1) := by decide +kernel
theorem dX3_push_61 : decode cX3_push 61 = .ok (.iconst 1, 1) := by decide +kernel
theorem dX3_push_62 : decode cX3_push 62 = .ok (.isub, 1) := by decide +kernel
theorem dX3_push_63 : decode cX3_push 63 = .ok (.iconst 2, 1) := by decide +kernel
theorem dX3_push_64 : decode cX3_push 64 = .ok (.idiv, 1) := by decide +kernel
theorem dX3_push_65 : decode cX3_push 65 = .ok (.istore_n 2, 1) := by decide +kernel
theorem dX3_push_66 : decode cX3_push 66 = .ok (.goto (-40), 3) := by decide +kernel
theorem dX3_push_69 : decode cX3_push 69 = .ok (.aload_n 0, 1) := by decide +kernel
theorem dX3_push_70 : decode cX3_push 70 = .ok (.getfield 11, 3) := by decide +kernel
theorem dX3_push_73 : decode cX3_push 73 = .ok (.iload_n 2, 1) := by decide +kernel
theorem dX3_push_74 : decode cX3_push 74 = .ok (.iload_n 1, 1) := by decide +kernel
theorem dX3_push_75 : decode cX3_push 75 = .ok (.iastore, 1) := by decide +kernel
theorem dX3_push_76 : decode cX3_push 76 = .ok (.return_, 1) := by decide +kernel
theorem dX5_copyFrom_0 : decode cX5_copyFrom 0 = .ok (.aload_n 1, 1) := by decide +kernel
theorem dX5_copyFrom_1 : decode cX5_copyFrom 1 = .ok (.getfield 15, 3) := by decide +kernel
theorem dX5_copyFrom_4 : decode cX5_copyFrom 4 = .ok (.iconst 0, 1) := by decide +kernel
theorem dX5_copyFrom_5 : decode cX5_copyFrom 5 = .ok (.aload_n 0, 1) := by decide +kernel
theorem dX5_copyFrom_6 : decode cX5_copyFrom 6 = .ok (.getfield 15, 3) := by decide +kernel
theorem dX5_copyFrom_9 : decode cX5_copyFrom 9 = .ok (.iconst 0, 1) := by decide +kernel
theorem dX5_copyFrom_10 : decode cX5_copyFrom 10 = .ok (.aload_n 1, 1) := by decide +kernel
theorem dX5_copyFrom_11 : decode cX5_copyFrom 11 = .ok (.getfield 33, 3) := by decide +kernel
theorem dX5_copyFrom_14 : decode cX5_copyFrom 14 = .ok (.invokestatic 27, 3) := by decide +kernel
theorem dX5_copyFrom_17 : decode cX5_copyFrom 17 = .ok (.aload_n 0, 1) := by decide +kernel
theorem dX5_copyFrom_18 : decode cX5_copyFrom 18 = .ok (.aload_n 1, 1) := by decide +kernel
theorem dX5_copyFrom_19 : decode cX5_copyFrom 19 = .ok (.getfield 33, 3) := by decide +kernel
theorem dX5_copyFrom_22 : decode cX5_copyFrom 22 = .ok (.putfield 33, 3) := by decide +kernel
theorem dX5_copyFrom_25 : decode cX5_copyFrom 25 = .ok (.return_, 1) := by decide +kernel
theorem dX5_emit_0 : decode cX5_emit 0 = .ok (.aload_n 0, 1) := by decide +kernel
theorem dX5_emit_1 : decode cX5_emit 1 = .ok (.getfield 33, 3) := by decide +kernel
theorem dX5_emit_4 : decode cX5_emit 4 = .ok (.aload_n 0, 1) := by decide +kernel
theorem dX5_emit_5 : decode cX5_emit 5 = .ok (.getfield 15, 3) := by decide +kernel
theorem dX5_emit_8 : decode cX5_emit 8 = .ok (.arraylength, 1) := by decide +kernel
theorem dX5_emit_9 : decode cX5_emit 9 = .ok (.if_icmp .ge 23, 3) := by decide +kernel
theorem dX5_emit_12 : decode cX5_emit 12 = .ok (.aload_n 0, 1) := by decide +kernel
theorem dX5_emit_13 : decode cX5_emit 13 = .ok (.getfield 15, 3) := by decide +kernel
theorem dX5_emit_16 : decode cX5_emit 16 = .ok (.aload_n 0, 1) := by decide +kernel
theorem dX5_emit_17 : decode cX5_emit 17 = .ok (.getfield 33, 3) := by decide +kernel
theorem dX5_emit_20 : decode cX5_emit 20 = .ok (.iload_n 1, 1) := by decide +kernel
theorem dX5_emit_21 : decode cX5_emit 21 = .ok (.iastore, 1) := by decide +kernel
theorem dX5_emit_22 : decode cX5_emit 22 = .ok (.aload_n 0, 1) := by decide +kernel
theorem dX5_emit_23 : decode cX5_emit 23 = .ok (.dup, 1) := by decide +kernel
theorem dX5_emit_24 : decode cX5_emit 24 = .ok (.getfield 33, 3) := by decide +kernel
theorem dX5_emit_27 : decode cX5_emit 27 = .ok (.iconst 1, 1) := by decide +kernel
theorem dX5_emit_28 : decode cX5_emit 28 = .ok (.iadd, 1) := by decide +kernel
theorem dX5_emit_29 : decode cX5_emit 29 = .ok (.putfield 33, 3) := by decide +kernel
theorem dX5_emit_32 : decode cX5_emit 32 = .ok (.return_, 1) := by decide +kernel
theorem dX5_forget_0 : decode cX5_forget 0 = .ok (.getstatic 24, 3) := by decide +kernel
theorem dX5_forget_3 : decode cX5_forget 3 = .ok (.iconst 0, 1) := by decide +kernel
theorem dX5_forget_4 : decode cX5_forget 4 = .ok (.aload_n 0, 1) := by decide +kernel
theorem dX5_forget_5 : decode cX5_forget 5 = .ok (.getfield 15, 3) := by decide +kernel
theorem dX5_forget_8 : decode cX5_forget 8 = .ok (.iconst 0, 1) := by decide +kernel
theorem dX5_forget_9 : decode cX5_forget 9 = .ok (.getstatic 24, 3) := by decide +kernel
theorem dX5_forget_12 : decode cX5_forget 12 = .ok (.arraylength, 1) := by decide +kernel
theorem dX5_forget_13 : decode cX5_forget 13 = .ok (.invokestatic 27, 3) := by decide +kernel
theorem dX5_forget_16 : decode cX5_forget 16 = .ok (.aload_n 0, 1) := by decide +kernel
theorem dX5_forget_17 : decode cX5_forget 17 = .ok (.getstatic 24, 3) := by decide +kernel
theorem dX5_forget_20 : decode cX5_forget 20 = .ok (.arraylength, 1) := by decide +kernel
theorem dX5_forget_21 : decode cX5_forget 21 = .ok (.putfield 33, 3) := by decide +kernel
theorem dX5_forget_24 : decode cX5_forget 24 = .ok (.return_, 1) := by decide +kernel
theorem dX5_init_0 : decode cX5_init 0 = .ok (.aload_n 0, 1) := by decide +kernel
theorem dX5_init_1 : decode cX5_init 1 = .ok (.invokespecial 3, 3) := by decide +kernel
theorem dX5_init_4 : decode cX5_init 4 = .ok (.aload_n 0, 1) := by decide +kernel
theorem dX5_init_5 : decode cX5_init 5 = .ok (.bipush 8, 2) := by decide +kernel
theorem dX5_init_7 : decode cX5_init 7 = .ok (.newarray .int, 2) := by decide +kernel
theorem dX5_init_9 : decode cX5_init 9 = .ok (.putfield 9, 3) := by decide +kernel
theorem dX5_init_12 : decode cX5_init 12 = .ok (.aload_n 0, 1) := by decide +kernel
theorem dX5_init_13 : decode cX5_init 13 = .ok (.sipush 150, 3) := by decide +kernel
theorem dX5_init_16 : decode cX5_init 16 = .ok (.newarray .int, 2) := by decide +kernel
theorem dX5_init_18 : decode cX5_init 18 = .ok (.putfield 15, 3) := by decide +kernel
theorem dX5_init_21 : decode cX5_init 21 = .ok (.aload_n 0, 1) := by decide +kernel
theorem dX5_init_22 : decode cX5_init 22 = .ok (.bipush 32, 2) := by decide +kernel
theorem dX5_init_24 : decode cX5_init 24 = .ok (.newarray .int, 2) := by decide +kernel
theorem dX5_init_26 : decode cX5_init 26 = .ok (.putfield 18, 3) := by decide +kernel
theorem dX5_init_29 : decode cX5_init 29 = .ok (.aload_n 0, 1) := by decide +kernel
theorem dX5_init_30 : decode cX5_init 30 = .ok (.invokevirtual 21, 3) := by decide +kernel
theorem dX5_init_33 : decode cX5_init 33 = .ok (.return_, 1) := by decide +kernel
theorem dX5_priceNow_0 : decode cX5_priceNow 0 = .ok (.iconst 0, 1) := by decide +kernel
theorem dX5_priceNow_1 : decode cX5_priceNow 1 = .ok (.istore_n 1, 1) := by decide +kernel
theorem dX5_priceNow_2 : decode cX5_priceNow 2 = .ok (.iconst 0, 1) := by decide +kernel
theorem dX5_priceNow_3 : decode cX5_priceNow 3 = .ok (.istore_n 2, 1) := by decide +kernel
theorem dX5_priceNow_4 : decode cX5_priceNow 4 = .ok (.iload_n 2, 1) := by decide +kernel
theorem dX5_priceNow_5 : decode cX5_priceNow 5 = .ok (.aload_n 0, 1) := by decide +kernel
theorem dX5_priceNow_6 : decode cX5_priceNow 6 = .ok (.getfield 33, 3) := by decide +kernel
theorem dX5_priceNow_9 : decode cX5_priceNow 9 = .ok (.if_icmp .ge 246, 3) := by decide +kernel
theorem dX5_priceNow_12 : decode cX5_priceNow 12 = .ok (.aload_n 0, 1) := by decide +kernel
theorem dX5_priceNow_13 : decode cX5_priceNow 13 = .ok (.getfield 15, 3) := by decide +kernel
theorem dX5_priceNow_16 : decode cX5_priceNow 16 = .ok (.iload_n 2, 1) := by decide +kernel
theorem dX5_priceNow_17 : decode cX5_priceNow 17 = .ok (.iaload, 1) := by decide +kernel
theorem dX5_priceNow_18 : decode cX5_priceNow 18 = .ok (.istore_n 3, 1) := by decide +kernel
theorem dX5_priceNow_19 : decode cX5_priceNow 19 = .ok (.iload_n 3, 1) := by decide +kernel
theorem dX5_priceNow_20 : decode cX5_priceNow 20 = .ok (.sipush 2000, 3) := by decide +kernel
theorem dX5_priceNow_23 : decode cX5_priceNow 23 = .ok (.if_icmp .ge 45, 3) := by decide +kernel
theorem dX5_priceNow_26 : decode cX5_priceNow 26 = .ok (.iload_n 1, 1) := by decide +kernel
theorem dX5_priceNow_27 : decode cX5_priceNow 27 = .ok (.aload_n 0, 1) := by decide +kernel
theorem dX5_priceNow_28 : decode cX5_priceNow 28 = .ok (.getfield 18, 3) := by decide +kernel
theorem dX5_priceNow_31 : decode cX5_priceNow 31 = .ok (.arraylength, 1) := by decide +kernel
theorem dX5_priceNow_32 : decode cX5_priceNow 32 = .ok (.if_icmp .ge 217, 3) := by decide +kernel
theorem dX5_priceNow_35 : decode cX5_priceNow 35 = .ok (.aload_n 0, 1) := by decide +kernel
theorem dX5_priceNow_36 : decode cX5_priceNow 36 = .ok (.getfield 18, 3) := by decide +kernel
theorem dX5_priceNow_39 : decode cX5_priceNow 39 = .ok (.iload_n 1, 1) := by decide +kernel
theorem dX5_priceNow_40 : decode cX5_priceNow 40 = .ok (.iload_n 3, 1) := by decide +kernel
theorem dX5_priceNow_41 : decode cX5_priceNow 41 = .ok (.sipush 1000, 3) := by decide +kernel
theorem dX5_priceNow_44 : decode cX5_priceNow 44 = .ok (.if_icmp .ge 7, 3) := by decide +kernel
theorem dX5_priceNow_47 : decode cX5_priceNow 47 = .ok (.iload_n 3, 1) := by decide +kernel
theorem dX5_priceNow_48 : decode cX5_priceNow 48 = .ok (.goto 13, 3) := by decide +kernel
theorem dX5_priceNow_51 : decode cX5_priceNow 51 = .ok (.aload_n 0, 1) := by decide +kernel
theorem dX5_priceNow_52 : decode cX5_priceNow 52 = .ok (.getfield 9, 3) := by decide +kernel
theorem dX5_priceNow_55 : decode cX5_priceNow 55 = .ok (.iload_n 3, 1) := by decide +kernel
theorem dX5_priceNow_56 : decode cX5_priceNow 56 = .ok (.sipush 1000, 3) := by decide +kernel
theorem dX5_priceNow_59 : decode cX5_priceNow 59 = .ok (.isub, 1) := by decide +kernel
theorem dX5_priceNow_60 : decode cX5_priceNow 60 = .ok (.iaload, 1) := by decide +kernel
theorem dX5_priceNow_61 : decode cX5_priceNow 61 = .ok (.iastore, 1) := by decide +kernel
theorem dX5_priceNow_62 : decode cX5_priceNow 62 = .ok (.iinc 1 1, 3) := by decide +kernel
theorem dX5_priceNow_65 : decode cX5_priceNow 65 = .ok (.goto 184, 3) := by decide +kernel
theorem dX5_priceNow_68 : decode cX5_priceNow 68 = .ok (.iload_n 1, 1) := by decide +kernel
theorem dX5_priceNow_69 : decode cX5_priceNow 69 = .ok (.iconst 2, 1) := by decide +kernel
theorem dX5_priceNow_70 : decode cX5_priceNow 70 = .ok (.if_icmp .ge 6, 3) := by decide +kernel
theorem dX5_priceNow_73 : decode cX5_priceNow 73 = .ok (.goto 176, 3) := by decide +kernel
theorem dX5_priceNow_76 : decode cX5_priceNow 76 = .ok (.iinc 1 (-1), 3) := by decide +kernel
theorem dX5_priceNow_79 : decode cX5_priceNow 79 = .ok (.aload_n 0, 1) := by decide +kernel
theorem dX5_priceNow_80 : decode cX5_priceNow 80 = .ok (.getfield 18, 3) := by decide +kernel
theorem dX5_priceNow_83 : decode cX5_priceNow 83 = .ok (.iload_n 1, 1) := by decide +kernel
theorem dX5_priceNow_84 : decode cX5_priceNow 84 = .ok (.iconst 1, 1) := by decide +kernel
theorem dX5_priceNow_85 : decode cX5_priceNow 85 = .ok (.isub, 1) := by decide +kernel
theorem dX5_priceNow_86 : decode cX5_priceNow 86 = .ok (.iaload, 1) := by decide +kernel
theorem dX5_priceNow_87 : decode cX5_priceNow 87 = .ok (.istore 4, 2) := by decide +kernel
theorem dX5_priceNow_89 : decode cX5_priceNow 89 = .ok (.aload_n 0, 1) := by decide +kernel
theorem dX5_priceNow_90 : decode cX5_priceNow 90 = .ok (.getfield 18, 3) := by decide +kernel
theorem dX5_priceNow_93 : decode cX5_priceNow 93 = .ok (.iload_n 1, 1) := by decide +kernel
theorem dX5_priceNow_94 : decode cX5_priceNow 94 = .ok (.iaload, 1) := by decide +kernel
theorem dX5_priceNow_95 : decode cX5_priceNow 95 = .ok (.istore 5, 2) := by decide +kernel
theorem dX5_priceNow_97 : decode cX5_priceNow 97 = .ok (.iload_n 3, 1) := by decide +kernel
theorem dX5_priceNow_98 : decode cX5_priceNow 98 = .ok (.tableswitch 125 2000 2005 #[38, 48, 58, 68, 87, 106], 38) := by decide +kernel
theorem dX5_priceNow_136 : decode cX5_priceNow 136 = .ok (.iload 4, 2) := by decide +kernel
theorem dX5_priceNow_138 : decode cX5_priceNow 138 = .ok (.iload 5, 2) := by decide +kernel
theorem dX5_priceNow_140 : decode cX5_priceNow 140 = .ok (.iadd, 1) := by decide +kernel
theorem dX5_priceNow_141 : decode cX5_priceNow 141 = .ok (.istore 6, 2) := by decide +kernel
theorem dX5_priceNow_143 : decode cX5_priceNow 143 = .ok (.goto 96, 3) := by decide +kernel
theorem dX5_priceNow_146 : decode cX5_priceNow 146 = .ok (.iload 4, 2) := by decide +kernel
theorem dX5_priceNow_148 : decode cX5_priceNow 148 = .ok (.iload 5, 2) := by decide +kernel
theorem dX5_priceNow_150 : decode cX5_priceNow 150 = .ok (.isub, 1) := by decide +kernel
theorem dX5_priceNow_151 : decode cX5_priceNow 151 = .ok (.istore 6, 2) := by decide +kernel
theorem dX5_priceNow_153 : decode cX5_priceNow 153 = .ok (.goto 86, 3) := by decide +kernel
theorem dX5_priceNow_156 : decode cX5_priceNow 156 = .ok (.iload 4, 2) := by decide +kernel
theorem dX5_priceNow_158 : decode cX5_priceNow 158 = .ok (.iload 5, 2) := by decide +kernel
theorem dX5_priceNow_160 : decode cX5_priceNow 160 = .ok (.imul, 1) := by decide +kernel
theorem dX5_priceNow_161 : decode cX5_priceNow 161 = .ok (.istore 6, 2) := by decide +kernel
theorem dX5_priceNow_163 : decode cX5_priceNow 163 = .ok (.goto 76, 3) := by decide +kernel
theorem dX5_priceNow_166 : decode cX5_priceNow 166 = .ok (.iload 5, 2) := by decide +kernel
theorem dX5_priceNow_168 : decode cX5_priceNow 168 = .ok (.ifCond .ne 7, 3) := by decide +kernel
theorem dX5_priceNow_171 : decode cX5_priceNow 171 = .ok (.iconst 0, 1) := by decide +kernel
theorem dX5_priceNow_172 : decode cX5_priceNow 172 = .ok (.goto 8, 3) := by decide +kernel
theorem dX5_priceNow_175 : decode cX5_priceNow 175 = .ok (.iload 4, 2) := by decide +kernel
theorem dX5_priceNow_177 : decode cX5_priceNow 177 = .ok (.iload 5, 2) := by decide +kernel
theorem dX5_priceNow_179 : decode cX5_priceNow 179 = .ok (.idiv, 1) := by decide +kernel
theorem dX5_priceNow_180 : decode cX5_priceNow 180 = .ok (.istore 6, 2) := by decide +kernel
theorem dX5_priceNow_182 : decode cX5_priceNow 182 = .ok (.goto 57, 3) := by decide +kernel
theorem dX5_priceNow_185 : decode cX5_priceNow 185 = .ok (.iload 5, 2) := by decide +kernel
theorem dX5_priceNow_187 : decode cX5_priceNow 187 = .ok (.ifCond .ne 7, 3) := by decide +kernel
theorem dX5_priceNow_190 : decode cX5_priceNow 190 = .ok (.iconst 0, 1) := by decide +kernel
theorem dX5_priceNow_191 : decode cX5_priceNow 191 = .ok (.goto 8, 3) := by decide +kernel
theorem dX5_priceNow_194 : decode cX5_priceNow 194 = .ok (.iload 4, 2) := by decide +kernel
theorem dX5_priceNow_196 : decode cX5_priceNow 196 = .ok (.iload 5, 2) := by decide +kernel
theorem dX5_priceNow_198 : decode cX5_priceNow 198 = .ok (.irem, 1) := by decide +kernel
theorem dX5_priceNow_199 : decode cX5_priceNow 199 = .ok (.istore 6, 2) := by decide +kernel
theorem dX5_priceNow_201 : decode cX5_priceNow 201 = .ok (.goto 38, 3) := by decide +kernel
theorem dX5_priceNow_204 : decode cX5_priceNow 204 = .ok (.iload 4, 2) := by decide +kernel
theorem dX5_priceNow_206 : decode cX5_priceNow 206 = .ok (.iload 5, 2) := by decide +kernel
theorem dX5_priceNow_208 : decode cX5_priceNow 208 = .ok (.if_icmp .ge 8, 3) := by decide +kernel
theorem dX5_priceNow_211 : decode cX5_priceNow 211 = .ok (.iload 4, 2) := by decide +kernel
theorem dX5_priceNow_213 : decode cX5_priceNow 213 = .ok (.goto 5, 3) := by decide +kernel
theorem dX5_priceNow_216 : decode cX5_priceNow 216 = .ok (.iload 5, 2) := by decide +kernel
theorem dX5_priceNow_218 : decode cX5_priceNow 218 = .ok (.istore 6, 2) := by decide +kernel
theorem dX5_priceNow_220 : decode cX5_priceNow 220 = .ok (.goto 19, 3) := by decide +kernel
theorem dX5_priceNow_223 : decode cX5_priceNow 223 = .ok (.iload 4, 2) := by decide +kernel
theorem dX5_priceNow_225 : decode cX5_priceNow 225 = .ok (.iload 5, 2) := by decide +kernel
theorem dX5_priceNow_227 : decode cX5_priceNow 227 = .ok (.if_icmp .le 8, 3) := by decide +kernel
theorem dX5_priceNow_230 : decode cX5_priceNow 230 = .ok (.iload 4, 2) := by decide +kernel
theorem dX5_priceNow_232 : decode cX5_priceNow 232 = .ok (.goto 5, 3) := by decide +kernel
theorem dX5_priceNow_235 : decode cX5_priceNow 235 = .ok (.iload 5, 2) := by decide +kernel
theorem dX5_priceNow_237 : decode cX5_priceNow 237 = .ok (.istore 6, 2) := by decide +kernel
theorem dX5_priceNow_239 : decode cX5_priceNow 239 = .ok (.aload_n 0, 1) := by decide +kernel
theorem dX5_priceNow_240 : decode cX5_priceNow 240 = .ok (.getfield 18, 3) := by decide +kernel
theorem dX5_priceNow_243 : decode cX5_priceNow 243 = .ok (.iload_n 1, 1) := by decide +kernel
theorem dX5_priceNow_244 : decode cX5_priceNow 244 = .ok (.iconst 1, 1) := by decide +kernel
theorem dX5_priceNow_245 : decode cX5_priceNow 245 = .ok (.isub, 1) := by decide +kernel
theorem dX5_priceNow_246 : decode cX5_priceNow 246 = .ok (.iload 6, 2) := by decide +kernel
theorem dX5_priceNow_248 : decode cX5_priceNow 248 = .ok (.iastore, 1) := by decide +kernel
theorem dX5_priceNow_249 : decode cX5_priceNow 249 = .ok (.iinc 2 1, 3) := by decide +kernel
theorem dX5_priceNow_252 : decode cX5_priceNow 252 = .ok (.goto (-248), 3) := by decide +kernel
theorem dX5_priceNow_255 : decode cX5_priceNow 255 = .ok (.aload_n 0, 1) := by decide +kernel
theorem dX5_priceNow_256 : decode cX5_priceNow 256 = .ok (.getfield 18, 3) := by decide +kernel
theorem dX5_priceNow_259 : decode cX5_priceNow 259 = .ok (.iconst 0, 1) := by decide +kernel
theorem dX5_priceNow_260 : decode cX5_priceNow 260 = .ok (.iaload, 1) := by decide +kernel
theorem dX5_priceNow_261 : decode cX5_priceNow 261 = .ok (.iconst 1, 1) := by decide +kernel
theorem dX5_priceNow_262 : decode cX5_priceNow 262 = .ok (.if_icmp .ge 7, 3) := by decide +kernel
theorem dX5_priceNow_265 : decode cX5_priceNow 265 = .ok (.iconst 1, 1) := by decide +kernel
theorem dX5_priceNow_266 : decode cX5_priceNow 266 = .ok (.goto 27, 3) := by decide +kernel
theorem dX5_priceNow_269 : decode cX5_priceNow 269 = .ok (.aload_n 0, 1) := by decide +kernel
theorem dX5_priceNow_270 : decode cX5_priceNow 270 = .ok (.getfield 18, 3) := by decide +kernel
theorem dX5_priceNow_273 : decode cX5_priceNow 273 = .ok (.iconst 0, 1) := by decide +kernel
theorem dX5_priceNow_274 : decode cX5_priceNow 274 = .ok (.iaload, 1) := by decide +kernel
theorem dX5_priceNow_275 : decode cX5_priceNow 275 = .ok (.sipush 999, 3) := by decide +kernel
theorem dX5_priceNow_278 : decode cX5_priceNow 278 = .ok (.if_icmp .le 9, 3) := by decide +kernel
theorem dX5_priceNow_281 : decode cX5_priceNow 281 = .ok (.sipush 999, 3) := by decide +kernel
theorem dX5_priceNow_284 : decode cX5_priceNow 284 = .ok (.goto 9, 3) := by decide +kernel
theorem dX5_priceNow_287 : decode cX5_priceNow 287 = .ok (.aload_n 0, 1) := by decide +kernel
theorem dX5_priceNow_288 : decode cX5_priceNow 288 = .ok (.getfield 18, 3) := by decide +kernel
theorem dX5_priceNow_291 : decode cX5_priceNow 291 = .ok (.iconst 0, 1) := by decide +kernel
theorem dX5_priceNow_292 : decode cX5_priceNow 292 = .ok (.iaload, 1) := by decide +kernel
theorem dX5_priceNow_293 : decode cX5_priceNow 293 = .ok (.ireturn, 1) := by decide +kernel
theorem dX5_read_0 : decode cX5_read 0 = .ok (.aload_n 0, 1) := by decide +kernel
theorem dX5_read_1 : decode cX5_read 1 = .ok (.iconst 0, 1) := by decide +kernel
theorem dX5_read_2 : decode cX5_read 2 = .ok (.putfield 33, 3) := by decide +kernel
theorem dX5_read_5 : decode cX5_read 5 = .ok (.aload_n 0, 1) := by decide +kernel
theorem dX5_read_6 : decode cX5_read 6 = .ok (.aload_n 1, 1) := by decide +kernel
theorem dX5_read_7 : decode cX5_read 7 = .ok (.iconst 0, 1) := by decide +kernel
theorem dX5_read_8 : decode cX5_read 8 = .ok (.invokevirtual 37, 3) := by decide +kernel
theorem dX5_read_11 : decode cX5_read 11 = .ok (.aload_n 1, 1) := by decide +kernel
theorem dX5_read_12 : decode cX5_read 12 = .ok (.invokevirtual 41, 3) := by decide +kernel
theorem dX5_read_15 : decode cX5_read 15 = .ok (.ifCond .ne 19, 3) := by decide +kernel
theorem dX5_read_18 : decode cX5_read 18 = .ok (.aload_n 1, 1) := by decide +kernel
theorem dX5_read_19 : decode cX5_read 19 = .ok (.invokevirtual 47, 3) := by decide +kernel
theorem dX5_read_22 : decode cX5_read 22 = .ok (.ifCond .ne 12, 3) := by decide +kernel
theorem dX5_read_25 : decode cX5_read 25 = .ok (.aload_n 1, 1) := by decide +kernel
theorem dX5_read_26 : decode cX5_read 26 = .ok (.iconst 1, 1) := by decide +kernel
theorem dX5_read_27 : decode cX5_read 27 = .ok (.aload_n 1, 1) := by decide +kernel
theorem dX5_read_28 : decode cX5_read 28 = .ok (.getfield 50, 3) := by decide +kernel
theorem dX5_read_31 : decode cX5_read 31 = .ok (.invokevirtual 53, 3) := by decide +kernel
theorem dX5_read_34 : decode cX5_read 34 = .ok (.return_, 1) := by decide +kernel
theorem dX5_readInside_0 : decode cX5_readInside 0 = .ok (.iload_n 2, 1) := by decide +kernel
theorem dX5_readInside_1 : decode cX5_readInside 1 = .ok (.bipush 6, 2) := by decide +kernel
theorem dX5_readInside_3 : decode cX5_readInside 3 = .ok (.if_icmp .lt 13, 3) := by decide +kernel
theorem dX5_readInside_6 : decode cX5_readInside 6 = .ok (.aload_n 1, 1) := by decide +kernel
theorem dX5_readInside_7 : decode cX5_readInside 7 = .ok (.iconst 3, 1) := by decide +kernel
theorem dX5_readInside_8 : decode cX5_readInside 8 = .ok (.aload_n 1, 1) := by decide +kernel
theorem dX5_readInside_9 : decode cX5_readInside 9 = .ok (.getfield 50, 3) := by decide +kernel
theorem dX5_readInside_12 : decode cX5_readInside 12 = .ok (.invokevirtual 53, 3) := by decide +kernel
theorem dX5_readInside_15 : decode cX5_readInside 15 = .ok (.return_, 1) := by decide +kernel
theorem dX5_readInside_16 : decode cX5_readInside 16 = .ok (.aload_n 0, 1) := by decide +kernel
theorem dX5_readInside_17 : decode cX5_readInside 17 = .ok (.aload_n 1, 1) := by decide +kernel
theorem dX5_readInside_18 : decode cX5_readInside 18 = .ok (.iload_n 2, 1) := by decide +kernel
theorem dX5_readInside_19 : decode cX5_readInside 19 = .ok (.iconst 1, 1) := by decide +kernel
theorem dX5_readInside_20 : decode cX5_readInside 20 = .ok (.iadd, 1) := by decide +kernel
theorem dX5_readInside_21 : decode cX5_readInside 21 = .ok (.invokevirtual 37, 3) := by decide +kernel
theorem dX5_readInside_24 : decode cX5_readInside 24 = .ok (.return_, 1) := by decide +kernel
theorem dX5_readName_0 : decode cX5_readName 0 = .ok (.aload_n 1, 1) := by decide +kernel
theorem dX5_readName_1 : decode cX5_readName 1 = .ok (.ldc 104, 2) := by decide +kernel
theorem dX5_readName_3 : decode cX5_readName 3 = .ok (.invokevirtual 90, 3) := by decide +kernel
theorem dX5_readName_6 : decode cX5_readName 6 = .ok (.ifCond .eq 7, 3) := by decide +kernel
theorem dX5_readName_9 : decode cX5_readName 9 = .ok (.iconst 0, 1) := by decide +kernel
theorem dX5_readName_10 : decode cX5_readName 10 = .ok (.goto 97, 3) := by decide +kernel
theorem dX5_readName_13 : decode cX5_readName 13 = .ok (.aload_n 1, 1) := by decide +kernel
theorem dX5_readName_14 : decode cX5_readName 14 = .ok (.ldc 106, 2) := by decide +kernel
theorem dX5_readName_16 : decode cX5_readName 16 = .ok (.invokevirtual 90, 3) := by decide +kernel
theorem dX5_readName_19 : decode cX5_readName 19 = .ok (.ifCond .eq 7, 3) := by decide +kernel
theorem dX5_readName_22 : decode cX5_readName 22 = .ok (.iconst 1, 1) := by decide +kernel
theorem dX5_readName_23 : decode cX5_readName 23 = .ok (.goto 84, 3) := by decide +kernel
theorem dX5_readName_26 : decode cX5_readName 26 = .ok (.aload_n 1, 1) := by decide +kernel
theorem dX5_readName_27 : decode cX5_readName 27 = .ok (.ldc 108, 2) := by decide +kernel
theorem dX5_readName_29 : decode cX5_readName 29 = .ok (.invokevirtual 90, 3) := by decide +kernel
theorem dX5_readName_32 : decode cX5_readName 32 = .ok (.ifCond .eq 7, 3) := by decide +kernel
theorem dX5_readName_35 : decode cX5_readName 35 = .ok (.iconst 2, 1) := by decide +kernel
theorem dX5_readName_36 : decode cX5_readName 36 = .ok (.goto 71, 3) := by decide +kernel
theorem dX5_readName_39 : decode cX5_readName 39 = .ok (.aload_n 1, 1) := by decide +kernel
theorem dX5_readName_40 : decode cX5_readName 40 = .ok (.ldc 110, 2) := by decide +kernel
theorem dX5_readName_42 : decode cX5_readName 42 = .ok (.invokevirtual 90, 3) := by decide +kernel
theorem dX5_readName_45 : decode cX5_readName 45 = .ok (.ifCond .eq 7, 3) := by decide +kernel
theorem dX5_readName_48 : decode cX5_readName 48 = .ok (.iconst 3, 1) := by decide +kernel
theorem dX5_readName_49 : decode cX5_readName 49 = .ok (.goto 58, 3) := by decide +kernel
theorem dX5_readName_52 : decode cX5_readName 52 = .ok (.aload_n 1, 1) := by decide +kernel
theorem dX5_readName_53 : decode cX5_readName 53 = .ok (.ldc 112, 2) := by decide +kernel
theorem dX5_readName_55 : decode cX5_readName 55 = .ok (.invokevirtual 90, 3) := by decide +kernel
theorem dX5_readName_58 : decode cX5_readName 58 = .ok (.ifCond .eq 7, 3) := by decide +kernel
theorem dX5_readName_61 : decode cX5_readName 61 = .ok (.iconst 4, 1) := by decide +kernel
theorem dX5_readName_62 : decode cX5_readName 62 = .ok (.goto 45, 3) := by decide +kernel
theorem dX5_readName_65 : decode cX5_readName 65 = .ok (.aload_n 1, 1) := by decide +kernel
theorem dX5_readName_66 : decode cX5_readName 66 = .ok (.ldc 114, 2) := by decide +kernel
theorem dX5_readName_68 : decode cX5_readName 68 = .ok (.invokevirtual 90, 3) := by decide +kernel
theorem dX5_readName_71 : decode cX5_readName 71 = .ok (.ifCond .eq 7, 3) := by decide +kernel
theorem dX5_readName_74 : decode cX5_readName 74 = .ok (.iconst 5, 1) := by decide +kernel
theorem dX5_readName_75 : decode cX5_readName 75 = .ok (.goto 32, 3) := by decide +kernel
theorem dX5_readName_78 : decode cX5_readName 78 = .ok (.aload_n 1, 1) := by decide +kernel
theorem dX5_readName_79 : decode cX5_readName 79 = .ok (.ldc 116, 2) := by decide +kernel
theorem dX5_readName_81 : decode cX5_readName 81 = .ok (.invokevirtual 90, 3) := by decide +kernel
theorem dX5_readName_84 : decode cX5_readName 84 = .ok (.ifCond .eq 8, 3) := by decide +kernel
theorem dX5_readName_87 : decode cX5_readName 87 = .ok (.bipush 6, 2) := by decide +kernel
theorem dX5_readName_89 : decode cX5_readName 89 = .ok (.goto 18, 3) := by decide +kernel
theorem dX5_readName_92 : decode cX5_readName 92 = .ok (.aload_n 1, 1) := by decide +kernel
theorem dX5_readName_93 : decode cX5_readName 93 = .ok (.ldc 118, 2) := by decide +kernel
theorem dX5_readName_95 : decode cX5_readName 95 = .ok (.invokevirtual 90, 3) := by decide +kernel
theorem dX5_readName_98 : decode cX5_readName 98 = .ok (.ifCond .eq 8, 3) := by decide +kernel
theorem dX5_readName_101 : decode cX5_readName 101 = .ok (.bipush 7, 2) := by decide +kernel
theorem dX5_readName_103 : decode cX5_readName 103 = .ok (.goto 4, 3) := by decide +kernel
theorem dX5_readName_106 : decode cX5_readName 106 = .ok (.iconst (-1), 1) := by decide +kernel
theorem dX5_readName_107 : decode cX5_readName 107 = .ok (.istore_n 2, 1) := by decide +kernel
theorem dX5_readName_108 : decode cX5_readName 108 = .ok (.iload_n 2, 1) := by decide +kernel
theorem dX5_readName_109 : decode cX5_readName 109 = .ok (.iconst (-1), 1) := by decide +kernel
theorem dX5_readName_110 : decode cX5_readName 110 = .ok (.if_icmp .ne 15, 3) := by decide +kernel
theorem dX5_readName_113 : decode cX5_readName 113 = .ok (.aload_n 1, 1) := by decide +kernel
theorem dX5_readName_114 : decode cX5_readName 114 = .ok (.iconst 1, 1) := by decide +kernel
theorem dX5_readName_115 : decode cX5_readName 115 = .ok (.aload_n 1, 1) := by decide +kernel
theorem dX5_readName_116 : decode cX5_readName 116 = .ok (.getfield 50, 3) := by decide +kernel
theorem dX5_readName_119 : decode cX5_readName 119 = .ok (.invokevirtual 53, 3) := by decide +kernel
theorem dX5_readName_122 : decode cX5_readName 122 = .ok (.goto 12, 3) := by decide +kernel
theorem dX5_readName_125 : decode cX5_readName 125 = .ok (.aload_n 0, 1) := by decide +kernel
theorem dX5_readName_126 : decode cX5_readName 126 = .ok (.sipush 1000, 3) := by decide +kernel
theorem dX5_readName_129 : decode cX5_readName 129 = .ok (.iload_n 2, 1) := by decide +kernel
theorem dX5_readName_130 : decode cX5_readName 130 = .ok (.iadd, 1) := by decide +kernel
theorem dX5_readName_131 : decode cX5_readName 131 = .ok (.invokevirtual 64, 3) := by decide +kernel
theorem dX5_readName_134 : decode cX5_readName 134 = .ok (.return_, 1) := by decide +kernel
theorem dX5_readPair_0 : decode cX5_readPair 0 = .ok (.iload_n 2, 1) := by decide +kernel
theorem dX5_readPair_1 : decode cX5_readPair 1 = .ok (.bipush 6, 2) := by decide +kernel
theorem dX5_readPair_3 : decode cX5_readPair 3 = .ok (.if_icmp .lt 13, 3) := by decide +kernel
theorem dX5_readPair_6 : decode cX5_readPair 6 = .ok (.aload_n 1, 1) := by decide +kernel
theorem dX5_readPair_7 : decode cX5_readPair 7 = .ok (.iconst 3, 1) := by decide +kernel
theorem dX5_readPair_8 : decode cX5_readPair 8 = .ok (.aload_n 1, 1) := by decide +kernel
theorem dX5_readPair_9 : decode cX5_readPair 9 = .ok (.getfield 50, 3) := by decide +kernel
theorem dX5_readPair_12 : decode cX5_readPair 12 = .ok (.invokevirtual 53, 3) := by decide +kernel
theorem dX5_readPair_15 : decode cX5_readPair 15 = .ok (.return_, 1) := by decide +kernel
theorem dX5_readPair_16 : decode cX5_readPair 16 = .ok (.aload_n 1, 1) := by decide +kernel
theorem dX5_readPair_17 : decode cX5_readPair 17 = .ok (.bipush 91, 2) := by decide +kernel
theorem dX5_readPair_19 : decode cX5_readPair 19 = .ok (.invokevirtual 81, 3) := by decide +kernel
theorem dX5_readPair_22 : decode cX5_readPair 22 = .ok (.aload_n 0, 1) := by decide +kernel
theorem dX5_readPair_23 : decode cX5_readPair 23 = .ok (.aload_n 1, 1) := by decide +kernel
theorem dX5_readPair_24 : decode cX5_readPair 24 = .ok (.iload_n 2, 1) := by decide +kernel
theorem dX5_readPair_25 : decode cX5_readPair 25 = .ok (.invokevirtual 78, 3) := by decide +kernel
theorem dX5_readPair_28 : decode cX5_readPair 28 = .ok (.aload_n 1, 1) := by decide +kernel
theorem dX5_readPair_29 : decode cX5_readPair 29 = .ok (.bipush 44, 2) := by decide +kernel
theorem dX5_readPair_31 : decode cX5_readPair 31 = .ok (.invokevirtual 81, 3) := by decide +kernel
theorem dX5_readPair_34 : decode cX5_readPair 34 = .ok (.aload_n 0, 1) := by decide +kernel
theorem dX5_readPair_35 : decode cX5_readPair 35 = .ok (.aload_n 1, 1) := by decide +kernel
theorem dX5_readPair_36 : decode cX5_readPair 36 = .ok (.iload_n 2, 1) := by decide +kernel
theorem dX5_readPair_37 : decode cX5_readPair 37 = .ok (.invokevirtual 78, 3) := by decide +kernel
theorem dX5_readPair_40 : decode cX5_readPair 40 = .ok (.aload_n 1, 1) := by decide +kernel
theorem dX5_readPair_41 : decode cX5_readPair 41 = .ok (.bipush 93, 2) := by decide +kernel
theorem dX5_readPair_43 : decode cX5_readPair 43 = .ok (.invokevirtual 81, 3) := by decide +kernel
theorem dX5_readPair_46 : decode cX5_readPair 46 = .ok (.aload_n 0, 1) := by decide +kernel
theorem dX5_readPair_47 : decode cX5_readPair 47 = .ok (.iload_n 3, 1) := by decide +kernel
theorem dX5_readPair_48 : decode cX5_readPair 48 = .ok (.invokevirtual 64, 3) := by decide +kernel
theorem dX5_readPair_51 : decode cX5_readPair 51 = .ok (.return_, 1) := by decide +kernel
theorem dX5_readProduct_0 : decode cX5_readProduct 0 = .ok (.aload_n 0, 1) := by decide +kernel
theorem dX5_readProduct_1 : decode cX5_readProduct 1 = .ok (.aload_n 1, 1) := by decide +kernel
theorem dX5_readProduct_2 : decode cX5_readProduct 2 = .ok (.iload_n 2, 1) := by decide +kernel
theorem dX5_readProduct_3 : decode cX5_readProduct 3 = .ok (.invokevirtual 68, 3) := by decide +kernel
theorem dX5_readProduct_6 : decode cX5_readProduct 6 = .ok (.iconst 0, 1) := by decide +kernel
theorem dX5_readProduct_7 : decode cX5_readProduct 7 = .ok (.istore_n 3, 1) := by decide +kernel
theorem dX5_readProduct_8 : decode cX5_readProduct 8 = .ok (.iload_n 3, 1) := by decide +kernel
theorem dX5_readProduct_9 : decode cX5_readProduct 9 = .ok (.sipush 150, 3) := by decide +kernel
theorem dX5_readProduct_12 : decode cX5_readProduct 12 = .ok (.if_icmp .ge 83, 3) := by decide +kernel
theorem dX5_readProduct_15 : decode cX5_readProduct 15 = .ok (.aload_n 1, 1) := by decide +kernel
theorem dX5_readProduct_16 : decode cX5_readProduct 16 = .ok (.invokevirtual 41, 3) := by decide +kernel
theorem dX5_readProduct_19 : decode cX5_readProduct 19 = .ok (.ifCond .ne 76, 3) := by decide +kernel
theorem dX5_readProduct_22 : decode cX5_readProduct 22 = .ok (.aload_n 1, 1) := by decide +kernel
theorem dX5_readProduct_23 : decode cX5_readProduct 23 = .ok (.bipush 42, 2) := by decide +kernel
theorem dX5_readProduct_25 : decode cX5_readProduct 25 = .ok (.invokevirtual 60, 3) := by decide +kernel
theorem dX5_readProduct_28 : decode cX5_readProduct 28 = .ok (.ifCond .eq 9, 3) := by decide +kernel
theorem dX5_readProduct_31 : decode cX5_readProduct 31 = .ok (.sipush 2002, 3) := by decide +kernel
theorem dX5_readProduct_34 : decode cX5_readProduct 34 = .ok (.goto 34, 3) := by decide +kernel
theorem dX5_readProduct_37 : decode cX5_readProduct 37 = .ok (.aload_n 1, 1) := by decide +kernel
theorem dX5_readProduct_38 : decode cX5_readProduct 38 = .ok (.bipush 47, 2) := by decide +kernel
theorem dX5_readProduct_40 : decode cX5_readProduct 40 = .ok (.invokevirtual 60, 3) := by decide +kernel
theorem dX5_readProduct_43 : decode cX5_readProduct 43 = .ok (.ifCond .eq 9, 3) := by decide +kernel
theorem dX5_readProduct_46 : decode cX5_readProduct 46 = .ok (.sipush 2003, 3) := by decide +kernel
theorem dX5_readProduct_49 : decode cX5_readProduct 49 = .ok (.goto 19, 3) := by decide +kernel
theorem dX5_readProduct_52 : decode cX5_readProduct 52 = .ok (.aload_n 1, 1) := by decide +kernel
theorem dX5_readProduct_53 : decode cX5_readProduct 53 = .ok (.bipush 37, 2) := by decide +kernel
theorem dX5_readProduct_55 : decode cX5_readProduct 55 = .ok (.invokevirtual 60, 3) := by decide +kernel
theorem dX5_readProduct_58 : decode cX5_readProduct 58 = .ok (.ifCond .eq 9, 3) := by decide +kernel
theorem dX5_readProduct_61 : decode cX5_readProduct 61 = .ok (.sipush 2004, 3) := by decide +kernel
theorem dX5_readProduct_64 : decode cX5_readProduct 64 = .ok (.goto 4, 3) := by decide +kernel
theorem dX5_readProduct_67 : decode cX5_readProduct 67 = .ok (.iconst (-1), 1) := by decide +kernel
theorem dX5_readProduct_68 : decode cX5_readProduct 68 = .ok (.istore 4, 2) := by decide +kernel
theorem dX5_readProduct_70 : decode cX5_readProduct 70 = .ok (.iload 4, 2) := by decide +kernel
theorem dX5_readProduct_72 : decode cX5_readProduct 72 = .ok (.iconst (-1), 1) := by decide +kernel
theorem dX5_readProduct_73 : decode cX5_readProduct 73 = .ok (.if_icmp .ne 4, 3) := by decide +kernel
theorem dX5_readProduct_76 : decode cX5_readProduct 76 = .ok (.return_, 1) := by decide +kernel
theorem dX5_readProduct_77 : decode cX5_readProduct 77 = .ok (.aload_n 0, 1) := by decide +kernel
theorem dX5_readProduct_78 : decode cX5_readProduct 78 = .ok (.aload_n 1, 1) := by decide +kernel
theorem dX5_readProduct_79 : decode cX5_readProduct 79 = .ok (.iload_n 2, 1) := by decide +kernel
theorem dX5_readProduct_80 : decode cX5_readProduct 80 = .ok (.invokevirtual 68, 3) := by decide +kernel
theorem dX5_readProduct_83 : decode cX5_readProduct 83 = .ok (.aload_n 0, 1) := by decide +kernel
theorem dX5_readProduct_84 : decode cX5_readProduct 84 = .ok (.iload 4, 2) := by decide +kernel
theorem dX5_readProduct_86 : decode cX5_readProduct 86 = .ok (.invokevirtual 64, 3) := by decide +kernel
theorem dX5_readProduct_89 : decode cX5_readProduct 89 = .ok (.iinc 3 1, 3) := by decide +kernel
theorem dX5_readProduct_92 : decode cX5_readProduct 92 = .ok (.goto (-84), 3) := by decide +kernel
theorem dX5_readProduct_95 : decode cX5_readProduct 95 = .ok (.return_, 1) := by decide +kernel
theorem dX5_readSum_0 : decode cX5_readSum 0 = .ok (.aload_n 0, 1) := by decide +kernel
theorem dX5_readSum_1 : decode cX5_readSum 1 = .ok (.aload_n 1, 1) := by decide +kernel
theorem dX5_readSum_2 : decode cX5_readSum 2 = .ok (.iload_n 2, 1) := by decide +kernel
theorem dX5_readSum_3 : decode cX5_readSum 3 = .ok (.invokevirtual 57, 3) := by decide +kernel
theorem dX5_readSum_6 : decode cX5_readSum 6 = .ok (.iconst 0, 1) := by decide +kernel
theorem dX5_readSum_7 : decode cX5_readSum 7 = .ok (.istore_n 3, 1) := by decide +kernel
theorem dX5_readSum_8 : decode cX5_readSum 8 = .ok (.iload_n 3, 1) := by decide +kernel
theorem dX5_readSum_9 : decode cX5_readSum 9 = .ok (.sipush 150, 3) := by decide +kernel
theorem dX5_readSum_12 : decode cX5_readSum 12 = .ok (.if_icmp .ge 68, 3) := by decide +kernel
theorem dX5_readSum_15 : decode cX5_readSum 15 = .ok (.aload_n 1, 1) := by decide +kernel
theorem dX5_readSum_16 : decode cX5_readSum 16 = .ok (.invokevirtual 41, 3) := by decide +kernel
theorem dX5_readSum_19 : decode cX5_readSum 19 = .ok (.ifCond .ne 61, 3) := by decide +kernel
theorem dX5_readSum_22 : decode cX5_readSum 22 = .ok (.aload_n 1, 1) := by decide +kernel
theorem dX5_readSum_23 : decode cX5_readSum 23 = .ok (.bipush 43, 2) := by decide +kernel
theorem dX5_readSum_25 : decode cX5_readSum 25 = .ok (.invokevirtual 60, 3) := by decide +kernel
theorem dX5_readSum_28 : decode cX5_readSum 28 = .ok (.ifCond .eq 9, 3) := by decide +kernel
theorem dX5_readSum_31 : decode cX5_readSum 31 = .ok (.sipush 2000, 3) := by decide +kernel
theorem dX5_readSum_34 : decode cX5_readSum 34 = .ok (.goto 19, 3) := by decide +kernel
theorem dX5_readSum_37 : decode cX5_readSum 37 = .ok (.aload_n 1, 1) := by decide +kernel
theorem dX5_readSum_38 : decode cX5_readSum 38 = .ok (.bipush 45, 2) := by decide +kernel
theorem dX5_readSum_40 : decode cX5_readSum 40 = .ok (.invokevirtual 60, 3) := by decide +kernel
theorem dX5_readSum_43 : decode cX5_readSum 43 = .ok (.ifCond .eq 9, 3) := by decide +kernel
theorem dX5_readSum_46 : decode cX5_readSum 46 = .ok (.sipush 2001, 3) := by decide +kernel
theorem dX5_readSum_49 : decode cX5_readSum 49 = .ok (.goto 4, 3) := by decide +kernel
theorem dX5_readSum_52 : decode cX5_readSum 52 = .ok (.iconst (-1), 1) := by decide +kernel
theorem dX5_readSum_53 : decode cX5_readSum 53 = .ok (.istore 4, 2) := by decide +kernel
theorem dX5_readSum_55 : decode cX5_readSum 55 = .ok (.iload 4, 2) := by decide +kernel
theorem dX5_readSum_57 : decode cX5_readSum 57 = .ok (.iconst (-1), 1) := by decide +kernel
theorem dX5_readSum_58 : decode cX5_readSum 58 = .ok (.if_icmp .ne 4, 3) := by decide +kernel
theorem dX5_readSum_61 : decode cX5_readSum 61 = .ok (.return_, 1) := by decide +kernel
theorem dX5_readSum_62 : decode cX5_readSum 62 = .ok (.aload_n 0, 1) := by decide +kernel
theorem dX5_readSum_63 : decode cX5_readSum 63 = .ok (.aload_n 1, 1) := by decide +kernel
theorem dX5_readSum_64 : decode cX5_readSum 64 = .ok (.iload_n 2, 1) := by decide +kernel
theorem dX5_readSum_65 : decode cX5_readSum 65 = .ok (.invokevirtual 57, 3) := by decide +kernel
theorem dX5_readSum_68 : decode cX5_readSum 68 = .ok (.aload_n 0, 1) := by decide +kernel
theorem dX5_readSum_69 : decode cX5_readSum 69 = .ok (.iload 4, 2) := by decide +kernel
theorem dX5_readSum_71 : decode cX5_readSum 71 = .ok (.invokevirtual 64, 3) := by decide +kernel
theorem dX5_readSum_74 : decode cX5_readSum 74 = .ok (.iinc 3 1, 3) := by decide +kernel
theorem dX5_readSum_77 : decode cX5_readSum 77 = .ok (.goto (-69), 3) := by decide +kernel
theorem dX5_readSum_80 : decode cX5_readSum 80 = .ok (.return_, 1) := by decide +kernel
theorem dX5_readUnit_0 : decode cX5_readUnit 0 = .ok (.aload_n 1, 1) := by decide +kernel
theorem dX5_readUnit_1 : decode cX5_readUnit 1 = .ok (.invokevirtual 41, 3) := by decide +kernel
theorem dX5_readUnit_4 : decode cX5_readUnit 4 = .ok (.ifCond .eq 4, 3) := by decide +kernel
theorem dX5_readUnit_7 : decode cX5_readUnit 7 = .ok (.return_, 1) := by decide +kernel
theorem dX5_readUnit_8 : decode cX5_readUnit 8 = .ok (.aload_n 1, 1) := by decide +kernel
theorem dX5_readUnit_9 : decode cX5_readUnit 9 = .ok (.invokevirtual 71, 3) := by decide +kernel
theorem dX5_readUnit_12 : decode cX5_readUnit 12 = .ok (.ifCond .eq 18, 3) := by decide +kernel
theorem dX5_readUnit_15 : decode cX5_readUnit 15 = .ok (.aload_n 0, 1) := by decide +kernel
theorem dX5_readUnit_16 : decode cX5_readUnit 16 = .ok (.aload_n 1, 1) := by decide +kernel
theorem dX5_readUnit_17 : decode cX5_readUnit 17 = .ok (.iconst 0, 1) := by decide +kernel
theorem dX5_readUnit_18 : decode cX5_readUnit 18 = .ok (.sipush 999, 3) := by decide +kernel
theorem dX5_readUnit_21 : decode cX5_readUnit 21 = .ok (.invokevirtual 74, 3) := by decide +kernel
theorem dX5_readUnit_24 : decode cX5_readUnit 24 = .ok (.invokevirtual 64, 3) := by decide +kernel
theorem dX5_readUnit_27 : decode cX5_readUnit 27 = .ok (.goto 78, 3) := by decide +kernel
theorem dX5_readUnit_30 : decode cX5_readUnit 30 = .ok (.aload_n 1, 1) := by decide +kernel
theorem dX5_readUnit_31 : decode cX5_readUnit 31 = .ok (.bipush 40, 2) := by decide +kernel
theorem dX5_readUnit_33 : decode cX5_readUnit 33 = .ok (.invokevirtual 60, 3) := by decide +kernel
theorem dX5_readUnit_36 : decode cX5_readUnit 36 = .ok (.ifCond .eq 18, 3) := by decide +kernel
theorem dX5_readUnit_39 : decode cX5_readUnit 39 = .ok (.aload_n 0, 1) := by decide +kernel
theorem dX5_readUnit_40 : decode cX5_readUnit 40 = .ok (.aload_n 1, 1) := by decide +kernel
theorem dX5_readUnit_41 : decode cX5_readUnit 41 = .ok (.iload_n 2, 1) := by decide +kernel
theorem dX5_readUnit_42 : decode cX5_readUnit 42 = .ok (.invokevirtual 78, 3) := by decide +kernel
theorem dX5_readUnit_45 : decode cX5_readUnit 45 = .ok (.aload_n 1, 1) := by decide +kernel
theorem dX5_readUnit_46 : decode cX5_readUnit 46 = .ok (.bipush 41, 2) := by decide +kernel
theorem dX5_readUnit_48 : decode cX5_readUnit 48 = .ok (.invokevirtual 81, 3) := by decide +kernel
theorem dX5_readUnit_51 : decode cX5_readUnit 51 = .ok (.goto 54, 3) := by decide +kernel
theorem dX5_readUnit_54 : decode cX5_readUnit 54 = .ok (.aload_n 1, 1) := by decide +kernel
theorem dX5_readUnit_55 : decode cX5_readUnit 55 = .ok (.invokevirtual 85, 3) := by decide +kernel
theorem dX5_readUnit_58 : decode cX5_readUnit 58 = .ok (.aload_n 1, 1) := by decide +kernel
theorem dX5_readUnit_59 : decode cX5_readUnit 59 = .ok (.ldc 88, 2) := by decide +kernel
theorem dX5_readUnit_61 : decode cX5_readUnit 61 = .ok (.invokevirtual 90, 3) := by decide +kernel
theorem dX5_readUnit_64 : decode cX5_readUnit 64 = .ok (.ifCond .eq 15, 3) := by decide +kernel
theorem dX5_readUnit_67 : decode cX5_readUnit 67 = .ok (.aload_n 0, 1) := by decide +kernel
theorem dX5_readUnit_68 : decode cX5_readUnit 68 = .ok (.aload_n 1, 1) := by decide +kernel
theorem dX5_readUnit_69 : decode cX5_readUnit 69 = .ok (.iload_n 2, 1) := by decide +kernel
theorem dX5_readUnit_70 : decode cX5_readUnit 70 = .ok (.sipush 2005, 3) := by decide +kernel
theorem dX5_readUnit_73 : decode cX5_readUnit 73 = .ok (.invokevirtual 94, 3) := by decide +kernel
theorem dX5_readUnit_76 : decode cX5_readUnit 76 = .ok (.goto 29, 3) := by decide +kernel
theorem dX5_readUnit_79 : decode cX5_readUnit 79 = .ok (.aload_n 1, 1) := by decide +kernel
theorem dX5_readUnit_80 : decode cX5_readUnit 80 = .ok (.ldc 98, 2) := by decide +kernel
theorem dX5_readUnit_82 : decode cX5_readUnit 82 = .ok (.invokevirtual 90, 3) := by decide +kernel
theorem dX5_readUnit_85 : decode cX5_readUnit 85 = .ok (.ifCond .eq 15, 3) := by decide +kernel
theorem dX5_readUnit_88 : decode cX5_readUnit 88 = .ok (.aload_n 0, 1) := by decide +kernel
theorem dX5_readUnit_89 : decode cX5_readUnit 89 = .ok (.aload_n 1, 1) := by decide +kernel
theorem dX5_readUnit_90 : decode cX5_readUnit 90 = .ok (.iload_n 2, 1) := by decide +kernel
theorem dX5_readUnit_91 : decode cX5_readUnit 91 = .ok (.sipush 2006, 3) := by decide +kernel
theorem dX5_readUnit_94 : decode cX5_readUnit 94 = .ok (.invokevirtual 94, 3) := by decide +kernel
theorem dX5_readUnit_97 : decode cX5_readUnit 97 = .ok (.goto 8, 3) := by decide +kernel
theorem dX5_readUnit_100 : decode cX5_readUnit 100 = .ok (.aload_n 0, 1) := by decide +kernel
theorem dX5_readUnit_101 : decode cX5_readUnit 101 = .ok (.aload_n 1, 1) := by decide +kernel
theorem dX5_readUnit_102 : decode cX5_readUnit 102 = .ok (.invokevirtual 100, 3) := by decide +kernel
theorem dX5_readUnit_105 : decode cX5_readUnit 105 = .ok (.return_, 1) := by decide +kernel
theorem dX8_copyFrom_0 : decode cX8_copyFrom 0 = .ok (.aload_n 1, 1) := by decide +kernel
theorem dX8_copyFrom_1 : decode cX8_copyFrom 1 = .ok (.getfield 9, 3) := by decide +kernel
theorem dX8_copyFrom_4 : decode cX8_copyFrom 4 = .ok (.iconst 0, 1) := by decide +kernel
theorem dX8_copyFrom_5 : decode cX8_copyFrom 5 = .ok (.aload_n 0, 1) := by decide +kernel
theorem dX8_copyFrom_6 : decode cX8_copyFrom 6 = .ok (.getfield 9, 3) := by decide +kernel
theorem dX8_copyFrom_9 : decode cX8_copyFrom 9 = .ok (.iconst 0, 1) := by decide +kernel
theorem dX8_copyFrom_10 : decode cX8_copyFrom 10 = .ok (.sipush 384, 3) := by decide +kernel
theorem dX8_copyFrom_13 : decode cX8_copyFrom 13 = .ok (.invokestatic 36, 3) := by decide +kernel
theorem dX8_copyFrom_16 : decode cX8_copyFrom 16 = .ok (.aload_n 1, 1) := by decide +kernel
theorem dX8_copyFrom_17 : decode cX8_copyFrom 17 = .ok (.getfield 15, 3) := by decide +kernel
theorem dX8_copyFrom_20 : decode cX8_copyFrom 20 = .ok (.iconst 0, 1) := by decide +kernel
theorem dX8_copyFrom_21 : decode cX8_copyFrom 21 = .ok (.aload_n 0, 1) := by decide +kernel
theorem dX8_copyFrom_22 : decode cX8_copyFrom 22 = .ok (.getfield 15, 3) := by decide +kernel
theorem dX8_copyFrom_25 : decode cX8_copyFrom 25 = .ok (.iconst 0, 1) := by decide +kernel
theorem dX8_copyFrom_26 : decode cX8_copyFrom 26 = .ok (.bipush 64, 2) := by decide +kernel
theorem dX8_copyFrom_28 : decode cX8_copyFrom 28 = .ok (.invokestatic 36, 3) := by decide +kernel
theorem dX8_copyFrom_31 : decode cX8_copyFrom 31 = .ok (.aload_n 1, 1) := by decide +kernel
theorem dX8_copyFrom_32 : decode cX8_copyFrom 32 = .ok (.getfield 18, 3) := by decide +kernel
theorem dX8_copyFrom_35 : decode cX8_copyFrom 35 = .ok (.iconst 0, 1) := by decide +kernel
theorem dX8_copyFrom_36 : decode cX8_copyFrom 36 = .ok (.aload_n 0, 1) := by decide +kernel
theorem dX8_copyFrom_37 : decode cX8_copyFrom 37 = .ok (.getfield 18, 3) := by decide +kernel
theorem dX8_copyFrom_40 : decode cX8_copyFrom 40 = .ok (.iconst 0, 1) := by decide +kernel
theorem dX8_copyFrom_41 : decode cX8_copyFrom 41 = .ok (.bipush 64, 2) := by decide +kernel
theorem dX8_copyFrom_43 : decode cX8_copyFrom 43 = .ok (.invokestatic 36, 3) := by decide +kernel
theorem dX8_copyFrom_46 : decode cX8_copyFrom 46 = .ok (.aload_n 1, 1) := by decide +kernel
theorem dX8_copyFrom_47 : decode cX8_copyFrom 47 = .ok (.getfield 21, 3) := by decide +kernel
theorem dX8_copyFrom_50 : decode cX8_copyFrom 50 = .ok (.iconst 0, 1) := by decide +kernel
theorem dX8_copyFrom_51 : decode cX8_copyFrom 51 = .ok (.aload_n 0, 1) := by decide +kernel
theorem dX8_copyFrom_52 : decode cX8_copyFrom 52 = .ok (.getfield 21, 3) := by decide +kernel
theorem dX8_copyFrom_55 : decode cX8_copyFrom 55 = .ok (.iconst 0, 1) := by decide +kernel
theorem dX8_copyFrom_56 : decode cX8_copyFrom 56 = .ok (.bipush 64, 2) := by decide +kernel
theorem dX8_copyFrom_58 : decode cX8_copyFrom 58 = .ok (.invokestatic 36, 3) := by decide +kernel
theorem dX8_copyFrom_61 : decode cX8_copyFrom 61 = .ok (.aload_n 1, 1) := by decide +kernel
theorem dX8_copyFrom_62 : decode cX8_copyFrom 62 = .ok (.getfield 24, 3) := by decide +kernel
theorem dX8_copyFrom_65 : decode cX8_copyFrom 65 = .ok (.iconst 0, 1) := by decide +kernel
theorem dX8_copyFrom_66 : decode cX8_copyFrom 66 = .ok (.aload_n 0, 1) := by decide +kernel
theorem dX8_copyFrom_67 : decode cX8_copyFrom 67 = .ok (.getfield 24, 3) := by decide +kernel
theorem dX8_copyFrom_70 : decode cX8_copyFrom 70 = .ok (.iconst 0, 1) := by decide +kernel
theorem dX8_copyFrom_71 : decode cX8_copyFrom 71 = .ok (.bipush 6, 2) := by decide +kernel
theorem dX8_copyFrom_73 : decode cX8_copyFrom 73 = .ok (.invokestatic 36, 3) := by decide +kernel
theorem dX8_copyFrom_76 : decode cX8_copyFrom 76 = .ok (.aload_n 0, 1) := by decide +kernel
theorem dX8_copyFrom_77 : decode cX8_copyFrom 77 = .ok (.aload_n 1, 1) := by decide +kernel
theorem dX8_copyFrom_78 : decode cX8_copyFrom 78 = .ok (.getfield 43, 3) := by decide +kernel
theorem dX8_copyFrom_81 : decode cX8_copyFrom 81 = .ok (.putfield 43, 3) := by decide +kernel
theorem dX8_copyFrom_84 : decode cX8_copyFrom 84 = .ok (.return_, 1) := by decide +kernel
theorem dX8_drop_0 : decode cX8_drop 0 = .ok (.aload_n 0, 1) := by decide +kernel
theorem dX8_drop_1 : decode cX8_drop 1 = .ok (.iload_n 1, 1) := by decide +kernel
theorem dX8_drop_2 : decode cX8_drop 2 = .ok (.iload_n 2, 1) := by decide +kernel
theorem dX8_drop_3 : decode cX8_drop 3 = .ok (.invokevirtual 47, 3) := by decide +kernel
theorem dX8_drop_6 : decode cX8_drop 6 = .ok (.ifCond .eq 13, 3) := by decide +kernel
theorem dX8_drop_9 : decode cX8_drop 9 = .ok (.aload_n 0, 1) := by decide +kernel
theorem dX8_drop_10 : decode cX8_drop 10 = .ok (.getfield 15, 3) := by decide +kernel
theorem dX8_drop_13 : decode cX8_drop 13 = .ok (.iload_n 2, 1) := by decide +kernel
theorem dX8_drop_14 : decode cX8_drop 14 = .ok (.dup2, 1) := by decide +kernel
theorem dX8_drop_15 : decode cX8_drop 15 = .ok (.iaload, 1) := by decide +kernel
theorem dX8_drop_16 : decode cX8_drop 16 = .ok (.iconst 1, 1) := by decide +kernel
theorem dX8_drop_17 : decode cX8_drop 17 = .ok (.isub, 1) := by decide +kernel
theorem dX8_drop_18 : decode cX8_drop 18 = .ok (.iastore, 1) := by decide +kernel
theorem dX8_drop_19 : decode cX8_drop 19 = .ok (.aload_n 0, 1) := by decide +kernel
theorem dX8_drop_20 : decode cX8_drop 20 = .ok (.getfield 9, 3) := by decide +kernel
theorem dX8_drop_23 : decode cX8_drop 23 = .ok (.iload_n 1, 1) := by decide +kernel
theorem dX8_drop_24 : decode cX8_drop 24 = .ok (.bipush 64, 2) := by decide +kernel
theorem dX8_drop_26 : decode cX8_drop 26 = .ok (.imul, 1) := by decide +kernel
theorem dX8_drop_27 : decode cX8_drop 27 = .ok (.iload_n 2, 1) := by decide +kernel
theorem dX8_drop_28 : decode cX8_drop 28 = .ok (.iadd, 1) := by decide +kernel
theorem dX8_drop_29 : decode cX8_drop 29 = .ok (.iconst (-1), 1) := by decide +kernel
theorem dX8_drop_30 : decode cX8_drop 30 = .ok (.iastore, 1) := by decide +kernel
theorem dX8_drop_31 : decode cX8_drop 31 = .ok (.return_, 1) := by decide +kernel
theorem dX8_dropAll_0 : decode cX8_dropAll 0 = .ok (.iconst 0, 1) := by decide +kernel
theorem dX8_dropAll_1 : decode cX8_dropAll 1 = .ok (.istore_n 2, 1) := by decide +kernel
theorem dX8_dropAll_2 : decode cX8_dropAll 2 = .ok (.iconst 0, 1) := by decide +kernel
theorem dX8_dropAll_3 : decode cX8_dropAll 3 = .ok (.istore_n 3, 1) := by decide +kernel
theorem dX8_dropAll_4 : decode cX8_dropAll 4 = .ok (.iload_n 3, 1) := by decide +kernel
theorem dX8_dropAll_5 : decode cX8_dropAll 5 = .ok (.bipush 64, 2) := by decide +kernel
theorem dX8_dropAll_7 : decode cX8_dropAll 7 = .ok (.if_icmp .ge 34, 3) := by decide +kernel
theorem dX8_dropAll_10 : decode cX8_dropAll 10 = .ok (.iload_n 2, 1) := by decide +kernel
theorem dX8_dropAll_11 : decode cX8_dropAll 11 = .ok (.ifCond .ne 12, 3) := by decide +kernel
theorem dX8_dropAll_14 : decode cX8_dropAll 14 = .ok (.aload_n 0, 1) := by decide +kernel
theorem dX8_dropAll_15 : decode cX8_dropAll 15 = .ok (.iload_n 1, 1) := by decide +kernel
theorem dX8_dropAll_16 : decode cX8_dropAll 16 = .ok (.iload_n 3, 1) := by decide +kernel
theorem dX8_dropAll_17 : decode cX8_dropAll 17 = .ok (.invokevirtual 47, 3) := by decide +kernel
theorem dX8_dropAll_20 : decode cX8_dropAll 20 = .ok (.ifCond .eq 7, 3) := by decide +kernel
theorem dX8_dropAll_23 : decode cX8_dropAll 23 = .ok (.iconst 1, 1) := by decide +kernel
theorem dX8_dropAll_24 : decode cX8_dropAll 24 = .ok (.goto 4, 3) := by decide +kernel
theorem dX8_dropAll_27 : decode cX8_dropAll 27 = .ok (.iconst 0, 1) := by decide +kernel
theorem dX8_dropAll_28 : decode cX8_dropAll 28 = .ok (.istore_n 2, 1) := by decide +kernel
theorem dX8_dropAll_29 : decode cX8_dropAll 29 = .ok (.aload_n 0, 1) := by decide +kernel
theorem dX8_dropAll_30 : decode cX8_dropAll 30 = .ok (.iload_n 1, 1) := by decide +kernel
theorem dX8_dropAll_31 : decode cX8_dropAll 31 = .ok (.iload_n 3, 1) := by decide +kernel
theorem dX8_dropAll_32 : decode cX8_dropAll 32 = .ok (.invokevirtual 51, 3) := by decide +kernel
theorem dX8_dropAll_35 : decode cX8_dropAll 35 = .ok (.iinc 3 1, 3) := by decide +kernel
theorem dX8_dropAll_38 : decode cX8_dropAll 38 = .ok (.goto (-34), 3) := by decide +kernel
theorem dX8_dropAll_41 : decode cX8_dropAll 41 = .ok (.iload_n 2, 1) := by decide +kernel
theorem dX8_dropAll_42 : decode cX8_dropAll 42 = .ok (.ireturn, 1) := by decide +kernel
theorem dX8_has_0 : decode cX8_has 0 = .ok (.aload_n 0, 1) := by decide +kernel
theorem dX8_has_1 : decode cX8_has 1 = .ok (.getfield 9, 3) := by decide +kernel
theorem dX8_has_4 : decode cX8_has 4 = .ok (.iload_n 1, 1) := by decide +kernel
theorem dX8_has_5 : decode cX8_has 5 = .ok (.bipush 64, 2) := by decide +kernel
theorem dX8_has_7 : decode cX8_has 7 = .ok (.imul, 1) := by decide +kernel
theorem dX8_has_8 : decode cX8_has 8 = .ok (.iload_n 2, 1) := by decide +kernel
theorem dX8_has_9 : decode cX8_has 9 = .ok (.iadd, 1) := by decide +kernel
theorem dX8_has_10 : decode cX8_has 10 = .ok (.iaload, 1) := by decide +kernel
theorem dX8_has_11 : decode cX8_has 11 = .ok (.iconst (-1), 1) := by decide +kernel
theorem dX8_has_12 : decode cX8_has 12 = .ok (.if_icmp .eq 7, 3) := by decide +kernel
theorem dX8_has_15 : decode cX8_has 15 = .ok (.iconst 1, 1) := by decide +kernel
theorem dX8_has_16 : decode cX8_has 16 = .ok (.goto 4, 3) := by decide +kernel
theorem dX8_has_19 : decode cX8_has 19 = .ok (.iconst 0, 1) := by decide +kernel
theorem dX8_has_20 : decode cX8_has 20 = .ok (.ireturn, 1) := by decide +kernel
theorem dX8_init_0 : decode cX8_init 0 = .ok (.aload_n 0, 1) := by decide +kernel
theorem dX8_init_1 : decode cX8_init 1 = .ok (.invokespecial 3, 3) := by decide +kernel
theorem dX8_init_4 : decode cX8_init 4 = .ok (.aload_n 0, 1) := by decide +kernel
theorem dX8_init_5 : decode cX8_init 5 = .ok (.sipush 384, 3) := by decide +kernel
theorem dX8_init_8 : decode cX8_init 8 = .ok (.newarray .int, 2) := by decide +kernel
theorem dX8_init_10 : decode cX8_init 10 = .ok (.putfield 9, 3) := by decide +kernel
theorem dX8_init_13 : decode cX8_init 13 = .ok (.aload_n 0, 1) := by decide +kernel
theorem dX8_init_14 : decode cX8_init 14 = .ok (.bipush 64, 2) := by decide +kernel
theorem dX8_init_16 : decode cX8_init 16 = .ok (.newarray .int, 2) := by decide +kernel
theorem dX8_init_18 : decode cX8_init 18 = .ok (.putfield 15, 3) := by decide +kernel
theorem dX8_init_21 : decode cX8_init 21 = .ok (.aload_n 0, 1) := by decide +kernel
theorem dX8_init_22 : decode cX8_init 22 = .ok (.bipush 64, 2) := by decide +kernel
theorem dX8_init_24 : decode cX8_init 24 = .ok (.newarray .int, 2) := by decide +kernel
theorem dX8_init_26 : decode cX8_init 26 = .ok (.putfield 18, 3) := by decide +kernel
theorem dX8_init_29 : decode cX8_init 29 = .ok (.aload_n 0, 1) := by decide +kernel
theorem dX8_init_30 : decode cX8_init 30 = .ok (.bipush 64, 2) := by decide +kernel
theorem dX8_init_32 : decode cX8_init 32 = .ok (.newarray .int, 2) := by decide +kernel
theorem dX8_init_34 : decode cX8_init 34 = .ok (.putfield 21, 3) := by decide +kernel
theorem dX8_init_37 : decode cX8_init 37 = .ok (.aload_n 0, 1) := by decide +kernel
theorem dX8_init_38 : decode cX8_init 38 = .ok (.bipush 6, 2) := by decide +kernel
theorem dX8_init_40 : decode cX8_init 40 = .ok (.newarray .int, 2) := by decide +kernel
theorem dX8_init_42 : decode cX8_init 42 = .ok (.putfield 24, 3) := by decide +kernel
theorem dX8_init_45 : decode cX8_init 45 = .ok (.return_, 1) := by decide +kernel
theorem dX8_put_0 : decode cX8_put 0 = .ok (.aload_n 0, 1) := by decide +kernel
theorem dX8_put_1 : decode cX8_put 1 = .ok (.iload_n 1, 1) := by decide +kernel
theorem dX8_put_2 : decode cX8_put 2 = .ok (.iload_n 2, 1) := by decide +kernel
theorem dX8_put_3 : decode cX8_put 3 = .ok (.invokevirtual 47, 3) := by decide +kernel
theorem dX8_put_6 : decode cX8_put 6 = .ok (.ifCond .ne 13, 3) := by decide +kernel
theorem dX8_put_9 : decode cX8_put 9 = .ok (.aload_n 0, 1) := by decide +kernel
theorem dX8_put_10 : decode cX8_put 10 = .ok (.getfield 15, 3) := by decide +kernel
theorem dX8_put_13 : decode cX8_put 13 = .ok (.iload_n 2, 1) := by decide +kernel
theorem dX8_put_14 : decode cX8_put 14 = .ok (.dup2, 1) := by decide +kernel
theorem dX8_put_15 : decode cX8_put 15 = .ok (.iaload, 1) := by decide +kernel
theorem dX8_put_16 : decode cX8_put 16 = .ok (.iconst 1, 1) := by decide +kernel
theorem dX8_put_17 : decode cX8_put 17 = .ok (.iadd, 1) := by decide +kernel
theorem dX8_put_18 : decode cX8_put 18 = .ok (.iastore, 1) := by decide +kernel
theorem dX8_put_19 : decode cX8_put 19 = .ok (.aload_n 0, 1) := by decide +kernel
theorem dX8_put_20 : decode cX8_put 20 = .ok (.getfield 9, 3) := by decide +kernel
theorem dX8_put_23 : decode cX8_put 23 = .ok (.iload_n 1, 1) := by decide +kernel
theorem dX8_put_24 : decode cX8_put 24 = .ok (.bipush 64, 2) := by decide +kernel
theorem dX8_put_26 : decode cX8_put 26 = .ok (.imul, 1) := by decide +kernel
theorem dX8_put_27 : decode cX8_put 27 = .ok (.iload_n 2, 1) := by decide +kernel
theorem dX8_put_28 : decode cX8_put 28 = .ok (.iadd, 1) := by decide +kernel
theorem dX8_put_29 : decode cX8_put 29 = .ok (.iload_n 3, 1) := by decide +kernel
theorem dX8_put_30 : decode cX8_put 30 = .ok (.iastore, 1) := by decide +kernel
theorem dX8_put_31 : decode cX8_put 31 = .ok (.return_, 1) := by decide +kernel
theorem dX8_sizeOf_0 : decode cX8_sizeOf 0 = .ok (.iconst 0, 1) := by decide +kernel
theorem dX8_sizeOf_1 : decode cX8_sizeOf 1 = .ok (.istore_n 2, 1) := by decide +kernel
theorem dX8_sizeOf_2 : decode cX8_sizeOf 2 = .ok (.iconst 0, 1) := by decide +kernel
theorem dX8_sizeOf_3 : decode cX8_sizeOf 3 = .ok (.istore_n 3, 1) := by decide +kernel
theorem dX8_sizeOf_4 : decode cX8_sizeOf 4 = .ok (.iload_n 3, 1) := by decide +kernel
theorem dX8_sizeOf_5 : decode cX8_sizeOf 5 = .ok (.bipush 64, 2) := by decide +kernel
theorem dX8_sizeOf_7 : decode cX8_sizeOf 7 = .ok (.if_icmp .ge 26, 3) := by decide +kernel
theorem dX8_sizeOf_10 : decode cX8_sizeOf 10 = .ok (.iload_n 2, 1) := by decide +kernel
theorem dX8_sizeOf_11 : decode cX8_sizeOf 11 = .ok (.aload_n 0, 1) := by decide +kernel
theorem dX8_sizeOf_12 : decode cX8_sizeOf 12 = .ok (.iload_n 1, 1) := by decide +kernel
theorem dX8_sizeOf_13 : decode cX8_sizeOf 13 = .ok (.iload_n 3, 1) := by decide +kernel
theorem dX8_sizeOf_14 : decode cX8_sizeOf 14 = .ok (.invokevirtual 47, 3) := by decide +kernel
theorem dX8_sizeOf_17 : decode cX8_sizeOf 17 = .ok (.ifCond .eq 7, 3) := by decide +kernel
theorem dX8_sizeOf_20 : decode cX8_sizeOf 20 = .ok (.iconst 1, 1) := by decide +kernel
theorem dX8_sizeOf_21 : decode cX8_sizeOf 21 = .ok (.goto 4, 3) := by decide +kernel
theorem dX8_sizeOf_24 : decode cX8_sizeOf 24 = .ok (.iconst 0, 1) := by decide +kernel
theorem dX8_sizeOf_25 : decode cX8_sizeOf 25 = .ok (.iadd, 1) := by decide +kernel
theorem dX8_sizeOf_26 : decode cX8_sizeOf 26 = .ok (.istore_n 2, 1) := by decide +kernel
theorem dX8_sizeOf_27 : decode cX8_sizeOf 27 = .ok (.iinc 3 1, 3) := by decide +kernel
theorem dX8_sizeOf_30 : decode cX8_sizeOf 30 = .ok (.goto (-26), 3) := by decide +kernel
theorem dX8_sizeOf_33 : decode cX8_sizeOf 33 = .ok (.iload_n 2, 1) := by decide +kernel
theorem dX8_sizeOf_34 : decode cX8_sizeOf 34 = .ok (.ireturn, 1) := by decide +kernel
theorem dX8_start_0 : decode cX8_start 0 = .ok (.aload_n 0, 1) := by decide +kernel
theorem dX8_start_1 : decode cX8_start 1 = .ok (.getfield 9, 3) := by decide +kernel
theorem dX8_start_4 : decode cX8_start 4 = .ok (.iconst (-1), 1) := by decide +kernel
theorem dX8_start_5 : decode cX8_start 5 = .ok (.invokestatic 27, 3) := by decide +kernel
theorem dX8_start_8 : decode cX8_start 8 = .ok (.aload_n 0, 1) := by decide +kernel
theorem dX8_start_9 : decode cX8_start 9 = .ok (.getfield 15, 3) := by decide +kernel
theorem dX8_start_12 : decode cX8_start 12 = .ok (.iconst 0, 1) := by decide +kernel
theorem dX8_start_13 : decode cX8_start 13 = .ok (.invokestatic 27, 3) := by decide +kernel
theorem dX8_start_16 : decode cX8_start 16 = .ok (.aload_n 0, 1) := by decide +kernel
theorem dX8_start_17 : decode cX8_start 17 = .ok (.getfield 18, 3) := by decide +kernel
theorem dX8_start_20 : decode cX8_start 20 = .ok (.iconst 0, 1) := by decide +kernel
theorem dX8_start_21 : decode cX8_start 21 = .ok (.invokestatic 27, 3) := by decide +kernel
theorem dX8_start_24 : decode cX8_start 24 = .ok (.aload_n 1, 1) := by decide +kernel
theorem dX8_start_25 : decode cX8_start 25 = .ok (.getfield 33, 3) := by decide +kernel
theorem dX8_start_28 : decode cX8_start 28 = .ok (.iconst 0, 1) := by decide +kernel
theorem dX8_start_29 : decode cX8_start 29 = .ok (.aload_n 0, 1) := by decide +kernel
theorem dX8_start_30 : decode cX8_start 30 = .ok (.getfield 21, 3) := by decide +kernel
theorem dX8_start_33 : decode cX8_start 33 = .ok (.iconst 0, 1) := by decide +kernel
theorem dX8_start_34 : decode cX8_start 34 = .ok (.bipush 64, 2) := by decide +kernel
theorem dX8_start_36 : decode cX8_start 36 = .ok (.invokestatic 36, 3) := by decide +kernel
theorem dX8_start_39 : decode cX8_start 39 = .ok (.aload_n 1, 1) := by decide +kernel
theorem dX8_start_40 : decode cX8_start 40 = .ok (.getfield 42, 3) := by decide +kernel
theorem dX8_start_43 : decode cX8_start 43 = .ok (.iconst 0, 1) := by decide +kernel
theorem dX8_start_44 : decode cX8_start 44 = .ok (.aload_n 0, 1) := by decide +kernel
theorem dX8_start_45 : decode cX8_start 45 = .ok (.getfield 24, 3) := by decide +kernel
theorem dX8_start_48 : decode cX8_start 48 = .ok (.iconst 0, 1) := by decide +kernel
theorem dX8_start_49 : decode cX8_start 49 = .ok (.bipush 6, 2) := by decide +kernel
theorem dX8_start_51 : decode cX8_start 51 = .ok (.invokestatic 36, 3) := by decide +kernel
theorem dX8_start_54 : decode cX8_start 54 = .ok (.aload_n 0, 1) := by decide +kernel
theorem dX8_start_55 : decode cX8_start 55 = .ok (.iconst 0, 1) := by decide +kernel
theorem dX8_start_56 : decode cX8_start 56 = .ok (.putfield 43, 3) := by decide +kernel
theorem dX8_start_59 : decode cX8_start 59 = .ok (.return_, 1) := by decide +kernel
theorem dX9_above_0 : decode cX9_above 0 = .ok (.aload_n 1, 1) := by decide +kernel
theorem dX9_above_1 : decode cX9_above 1 = .ok (.getfield 70, 3) := by decide +kernel
theorem dX9_above_4 : decode cX9_above 4 = .ok (.iload_n 2, 1) := by decide +kernel
theorem dX9_above_5 : decode cX9_above 5 = .ok (.bipush 64, 2) := by decide +kernel
theorem dX9_above_7 : decode cX9_above 7 = .ok (.imul, 1) := by decide +kernel
theorem dX9_above_8 : decode cX9_above 8 = .ok (.iload_n 3, 1) := by decide +kernel
theorem dX9_above_9 : decode cX9_above 9 = .ok (.iadd, 1) := by decide +kernel
theorem dX9_above_10 : decode cX9_above 10 = .ok (.iaload, 1) := by decide +kernel
theorem dX9_above_11 : decode cX9_above 11 = .ok (.istore 4, 2) := by decide +kernel
theorem dX9_above_13 : decode cX9_above 13 = .ok (.iload 4, 2) := by decide +kernel
theorem dX9_above_15 : decode cX9_above 15 = .ok (.iconst (-1), 1) := by decide +kernel
theorem dX9_above_16 : decode cX9_above 16 = .ok (.if_icmp .eq 9, 3) := by decide +kernel
theorem dX9_above_19 : decode cX9_above 19 = .ok (.iload 4, 2) := by decide +kernel
theorem dX9_above_21 : decode cX9_above 21 = .ok (.iconst 4, 1) := by decide +kernel
theorem dX9_above_22 : decode cX9_above 22 = .ok (.if_icmp .ne 7, 3) := by decide +kernel
theorem dX9_above_25 : decode cX9_above 25 = .ok (.iconst (-1), 1) := by decide +kernel
theorem dX9_above_26 : decode cX9_above 26 = .ok (.goto 17, 3) := by decide +kernel
theorem dX9_above_29 : decode cX9_above 29 = .ok (.aload_n 0, 1) := by decide +kernel
theorem dX9_above_30 : decode cX9_above 30 = .ok (.getfield 15, 3) := by decide +kernel
theorem dX9_above_33 : decode cX9_above 33 = .ok (.getfield 73, 3) := by decide +kernel
theorem dX9_above_36 : decode cX9_above 36 = .ok (.iload_n 3, 1) := by decide +kernel
theorem dX9_above_37 : decode cX9_above 37 = .ok (.iconst 4, 1) := by decide +kernel
theorem dX9_above_38 : decode cX9_above 38 = .ok (.imul, 1) := by decide +kernel
theorem dX9_above_39 : decode cX9_above 39 = .ok (.iload 4, 2) := by decide +kernel
theorem dX9_above_41 : decode cX9_above 41 = .ok (.iadd, 1) := by decide +kernel
theorem dX9_above_42 : decode cX9_above 42 = .ok (.iaload, 1) := by decide +kernel
theorem dX9_above_43 : decode cX9_above 43 = .ok (.ireturn, 1) := by decide +kernel
theorem dX9_allIsDone_0 : decode cX9_allIsDone 0 = .ok (.aload_n 0, 1) := by decide +kernel
theorem dX9_allIsDone_1 : decode cX9_allIsDone 1 = .ok (.aload_n 1, 1) := by decide +kernel
theorem dX9_allIsDone_2 : decode cX9_allIsDone 2 = .ok (.invokevirtual 51, 3) := by decide +kernel
theorem dX9_allIsDone_5 : decode cX9_allIsDone 5 = .ok (.iconst 1, 1) := by decide +kernel
theorem dX9_allIsDone_6 : decode cX9_allIsDone 6 = .ok (.aload_n 0, 1) := by decide +kernel
theorem dX9_allIsDone_7 : decode cX9_allIsDone 7 = .ok (.getfield 15, 3) := by decide +kernel
theorem dX9_allIsDone_10 : decode cX9_allIsDone 10 = .ok (.getfield 43, 3) := by decide +kernel
theorem dX9_allIsDone_13 : decode cX9_allIsDone 13 = .ok (.ishl, 1) := by decide +kernel
theorem dX9_allIsDone_14 : decode cX9_allIsDone 14 = .ok (.iconst 1, 1) := by decide +kernel
theorem dX9_allIsDone_15 : decode cX9_allIsDone 15 = .ok (.isub, 1) := by decide +kernel
theorem dX9_allIsDone_16 : decode cX9_allIsDone 16 = .ok (.if_icmp .ne 15, 3) := by decide +kernel
theorem dX9_allIsDone_19 : decode cX9_allIsDone 19 = .ok (.aload_n 0, 1) := by decide +kernel
theorem dX9_allIsDone_20 : decode cX9_allIsDone 20 = .ok (.aload_n 1, 1) := by decide +kernel
theorem dX9_allIsDone_21 : decode cX9_allIsDone 21 = .ok (.invokevirtual 55, 3) := by decide +kernel
theorem dX9_allIsDone_24 : decode cX9_allIsDone 24 = .ok (.ifCond .ne 7, 3) := by decide +kernel
theorem dX9_allIsDone_27 : decode cX9_allIsDone 27 = .ok (.iconst 1, 1) := by decide +kernel
theorem dX9_allIsDone_28 : decode cX9_allIsDone 28 = .ok (.goto 4, 3) := by decide +kernel
theorem dX9_allIsDone_31 : decode cX9_allIsDone 31 = .ok (.iconst 0, 1) := by decide +kernel
theorem dX9_allIsDone_32 : decode cX9_allIsDone 32 = .ok (.ireturn, 1) := by decide +kernel
theorem dX9_countChildren_0 : decode cX9_countChildren 0 = .ok (.aload_n 0, 1) := by decide +kernel
theorem dX9_countChildren_1 : decode cX9_countChildren 1 = .ok (.getfield 9, 3) := by decide +kernel
theorem dX9_countChildren_4 : decode cX9_countChildren 4 = .ok (.iconst 0, 1) := by decide +kernel
theorem dX9_countChildren_5 : decode cX9_countChildren 5 = .ok (.invokestatic 87, 3) := by decide +kernel
theorem dX9_countChildren_8 : decode cX9_countChildren 8 = .ok (.iconst 0, 1) := by decide +kernel
theorem dX9_countChildren_9 : decode cX9_countChildren 9 = .ok (.istore_n 3, 1) := by decide +kernel
theorem dX9_countChildren_10 : decode cX9_countChildren 10 = .ok (.iload_n 3, 1) := by decide +kernel
theorem dX9_countChildren_11 : decode cX9_countChildren 11 = .ok (.bipush 64, 2) := by decide +kernel
theorem dX9_countChildren_13 : decode cX9_countChildren 13 = .ok (.if_icmp .ge 35, 3) := by decide +kernel
theorem dX9_countChildren_16 : decode cX9_countChildren 16 = .ok (.aload_n 0, 1) := by decide +kernel
theorem dX9_countChildren_17 : decode cX9_countChildren 17 = .ok (.aload_n 1, 1) := by decide +kernel
theorem dX9_countChildren_18 : decode cX9_countChildren 18 = .ok (.iload_n 2, 1) := by decide +kernel
theorem dX9_countChildren_19 : decode cX9_countChildren 19 = .ok (.iload_n 3, 1) := by decide +kernel
theorem dX9_countChildren_20 : decode cX9_countChildren 20 = .ok (.invokevirtual 76, 3) := by decide +kernel
theorem dX9_countChildren_23 : decode cX9_countChildren 23 = .ok (.istore 4, 2) := by decide +kernel
theorem dX9_countChildren_25 : decode cX9_countChildren 25 = .ok (.iload 4, 2) := by decide +kernel
theorem dX9_countChildren_27 : decode cX9_countChildren 27 = .ok (.iconst (-1), 1) := by decide +kernel
theorem dX9_countChildren_28 : decode cX9_countChildren 28 = .ok (.if_icmp .eq 14, 3) := by decide +kernel
theorem dX9_countChildren_31 : decode cX9_countChildren 31 = .ok (.aload_n 0, 1) := by decide +kernel
theorem dX9_countChildren_32 : decode cX9_countChildren 32 = .ok (.getfield 9, 3) := by decide +kernel
theorem dX9_countChildren_35 : decode cX9_countChildren 35 = .ok (.iload 4, 2) := by decide +kernel
theorem dX9_countChildren_37 : decode cX9_countChildren 37 = .ok (.dup2, 1) := by decide +kernel
theorem dX9_countChildren_38 : decode cX9_countChildren 38 = .ok (.iaload, 1) := by decide +kernel
theorem dX9_countChildren_39 : decode cX9_countChildren 39 = .ok (.iconst 1, 1) := by decide +kernel
theorem dX9_countChildren_40 : decode cX9_countChildren 40 = .ok (.iadd, 1) := by decide +kernel
theorem dX9_countChildren_41 : decode cX9_countChildren 41 = .ok (.iastore, 1) := by decide +kernel
theorem dX9_countChildren_42 : decode cX9_countChildren 42 = .ok (.iinc 3 1, 3) := by decide +kernel
theorem dX9_countChildren_45 : decode cX9_countChildren 45 = .ok (.goto (-35), 3) := by decide +kernel
theorem dX9_countChildren_48 : decode cX9_countChildren 48 = .ok (.return_, 1) := by decide +kernel
theorem dX9_deepestOf_0 : decode cX9_deepestOf 0 = .ok (.iconst 0, 1) := by decide +kernel
theorem dX9_deepestOf_1 : decode cX9_deepestOf 1 = .ok (.istore_n 3, 1) := by decide +kernel
theorem dX9_deepestOf_2 : decode cX9_deepestOf 2 = .ok (.iconst 0, 1) := by decide +kernel
theorem dX9_deepestOf_3 : decode cX9_deepestOf 3 = .ok (.istore 4, 2) := by decide +kernel
theorem dX9_deepestOf_5 : decode cX9_deepestOf 5 = .ok (.iload 4, 2) := by decide +kernel
theorem dX9_deepestOf_7 : decode cX9_deepestOf 7 = .ok (.bipush 64, 2) := by decide +kernel
theorem dX9_deepestOf_9 : decode cX9_deepestOf 9 = .ok (.if_icmp .ge 32, 3) := by decide +kernel
theorem dX9_deepestOf_12 : decode cX9_deepestOf 12 = .ok (.aload_n 0, 1) := by decide +kernel
theorem dX9_deepestOf_13 : decode cX9_deepestOf 13 = .ok (.aload_n 1, 1) := by decide +kernel
theorem dX9_deepestOf_14 : decode cX9_deepestOf 14 = .ok (.iload_n 2, 1) := by decide +kernel
theorem dX9_deepestOf_15 : decode cX9_deepestOf 15 = .ok (.iload 4, 2) := by decide +kernel
theorem dX9_deepestOf_17 : decode cX9_deepestOf 17 = .ok (.invokevirtual 80, 3) := by decide +kernel
theorem dX9_deepestOf_20 : decode cX9_deepestOf 20 = .ok (.istore 5, 2) := by decide +kernel
theorem dX9_deepestOf_22 : decode cX9_deepestOf 22 = .ok (.iload 5, 2) := by decide +kernel
theorem dX9_deepestOf_24 : decode cX9_deepestOf 24 = .ok (.iload_n 3, 1) := by decide +kernel
theorem dX9_deepestOf_25 : decode cX9_deepestOf 25 = .ok (.if_icmp .le 8, 3) := by decide +kernel
theorem dX9_deepestOf_28 : decode cX9_deepestOf 28 = .ok (.iload 5, 2) := by decide +kernel
theorem dX9_deepestOf_30 : decode cX9_deepestOf 30 = .ok (.goto 4, 3) := by decide +kernel
theorem dX9_deepestOf_33 : decode cX9_deepestOf 33 = .ok (.iload_n 3, 1) := by decide +kernel
theorem dX9_deepestOf_34 : decode cX9_deepestOf 34 = .ok (.istore_n 3, 1) := by decide +kernel
theorem dX9_deepestOf_35 : decode cX9_deepestOf 35 = .ok (.iinc 4 1, 3) := by decide +kernel
theorem dX9_deepestOf_38 : decode cX9_deepestOf 38 = .ok (.goto (-33), 3) := by decide +kernel
theorem dX9_deepestOf_41 : decode cX9_deepestOf 41 = .ok (.iload_n 3, 1) := by decide +kernel
theorem dX9_deepestOf_42 : decode cX9_deepestOf 42 = .ok (.ireturn, 1) := by decide +kernel
theorem dX9_delayOf_0 : decode cX9_delayOf 0 = .ok (.iconst 0, 1) := by decide +kernel
theorem dX9_delayOf_1 : decode cX9_delayOf 1 = .ok (.istore_n 3, 1) := by decide +kernel
theorem dX9_delayOf_2 : decode cX9_delayOf 2 = .ok (.iconst 0, 1) := by decide +kernel
theorem dX9_delayOf_3 : decode cX9_delayOf 3 = .ok (.istore 4, 2) := by decide +kernel
theorem dX9_delayOf_5 : decode cX9_delayOf 5 = .ok (.iload 4, 2) := by decide +kernel
theorem dX9_delayOf_7 : decode cX9_delayOf 7 = .ok (.aload_n 0, 1) := by decide +kernel
theorem dX9_delayOf_8 : decode cX9_delayOf 8 = .ok (.getfield 15, 3) := by decide +kernel
theorem dX9_delayOf_11 : decode cX9_delayOf 11 = .ok (.getfield 37, 3) := by decide +kernel
theorem dX9_delayOf_14 : decode cX9_delayOf 14 = .ok (.iload_n 2, 1) := by decide +kernel
theorem dX9_delayOf_15 : decode cX9_delayOf 15 = .ok (.iaload, 1) := by decide +kernel
theorem dX9_delayOf_16 : decode cX9_delayOf 16 = .ok (.if_icmp .ge 44, 3) := by decide +kernel
theorem dX9_delayOf_19 : decode cX9_delayOf 19 = .ok (.aload_n 0, 1) := by decide +kernel
theorem dX9_delayOf_20 : decode cX9_delayOf 20 = .ok (.aload_n 1, 1) := by decide +kernel
theorem dX9_delayOf_21 : decode cX9_delayOf 21 = .ok (.iload_n 2, 1) := by decide +kernel
theorem dX9_delayOf_22 : decode cX9_delayOf 22 = .ok (.aload_n 0, 1) := by decide +kernel
theorem dX9_delayOf_23 : decode cX9_delayOf 23 = .ok (.getfield 15, 3) := by decide +kernel
theorem dX9_delayOf_26 : decode cX9_delayOf 26 = .ok (.getfield 40, 3) := by decide +kernel
theorem dX9_delayOf_29 : decode cX9_delayOf 29 = .ok (.iload_n 2, 1) := by decide +kernel
theorem dX9_delayOf_30 : decode cX9_delayOf 30 = .ok (.iconst 4, 1) := by decide +kernel
theorem dX9_delayOf_31 : decode cX9_delayOf 31 = .ok (.imul, 1) := by decide +kernel
theorem dX9_delayOf_32 : decode cX9_delayOf 32 = .ok (.iload 4, 2) := by decide +kernel
theorem dX9_delayOf_34 : decode cX9_delayOf 34 = .ok (.iadd, 1) := by decide +kernel
theorem dX9_delayOf_35 : decode cX9_delayOf 35 = .ok (.iaload, 1) := by decide +kernel
theorem dX9_delayOf_36 : decode cX9_delayOf 36 = .ok (.invokevirtual 80, 3) := by decide +kernel
theorem dX9_delayOf_39 : decode cX9_delayOf 39 = .ok (.istore 5, 2) := by decide +kernel
theorem dX9_delayOf_41 : decode cX9_delayOf 41 = .ok (.iload 5, 2) := by decide +kernel
theorem dX9_delayOf_43 : decode cX9_delayOf 43 = .ok (.iload_n 3, 1) := by decide +kernel
theorem dX9_delayOf_44 : decode cX9_delayOf 44 = .ok (.if_icmp .le 8, 3) := by decide +kernel
theorem dX9_delayOf_47 : decode cX9_delayOf 47 = .ok (.iload 5, 2) := by decide +kernel
theorem dX9_delayOf_49 : decode cX9_delayOf 49 = .ok (.goto 4, 3) := by decide +kernel
theorem dX9_delayOf_52 : decode cX9_delayOf 52 = .ok (.iload_n 3, 1) := by decide +kernel
theorem dX9_delayOf_53 : decode cX9_delayOf 53 = .ok (.istore_n 3, 1) := by decide +kernel
theorem dX9_delayOf_54 : decode cX9_delayOf 54 = .ok (.iinc 4 1, 3) := by decide +kernel
theorem dX9_delayOf_57 : decode cX9_delayOf 57 = .ok (.goto (-52), 3) := by decide +kernel
theorem dX9_delayOf_60 : decode cX9_delayOf 60 = .ok (.iload_n 3, 1) := by decide +kernel
theorem dX9_delayOf_61 : decode cX9_delayOf 61 = .ok (.ireturn, 1) := by decide +kernel
theorem dX9_forksOf_0 : decode cX9_forksOf 0 = .ok (.aload_n 0, 1) := by decide +kernel
theorem dX9_forksOf_1 : decode cX9_forksOf 1 = .ok (.aload_n 1, 1) := by decide +kernel
theorem dX9_forksOf_2 : decode cX9_forksOf 2 = .ok (.iload_n 2, 1) := by decide +kernel
theorem dX9_forksOf_3 : decode cX9_forksOf 3 = .ok (.invokevirtual 83, 3) := by decide +kernel
theorem dX9_forksOf_6 : decode cX9_forksOf 6 = .ok (.iconst 0, 1) := by decide +kernel
theorem dX9_forksOf_7 : decode cX9_forksOf 7 = .ok (.istore_n 3, 1) := by decide +kernel
theorem dX9_forksOf_8 : decode cX9_forksOf 8 = .ok (.iconst 0, 1) := by decide +kernel
theorem dX9_forksOf_9 : decode cX9_forksOf 9 = .ok (.istore 4, 2) := by decide +kernel
theorem dX9_forksOf_11 : decode cX9_forksOf 11 = .ok (.iload 4, 2) := by decide +kernel
theorem dX9_forksOf_13 : decode cX9_forksOf 13 = .ok (.bipush 64, 2) := by decide +kernel
theorem dX9_forksOf_15 : decode cX9_forksOf 15 = .ok (.if_icmp .ge 28, 3) := by decide +kernel
theorem dX9_forksOf_18 : decode cX9_forksOf 18 = .ok (.iload_n 3, 1) := by decide +kernel
theorem dX9_forksOf_19 : decode cX9_forksOf 19 = .ok (.aload_n 0, 1) := by decide +kernel
theorem dX9_forksOf_20 : decode cX9_forksOf 20 = .ok (.getfield 9, 3) := by decide +kernel
theorem dX9_forksOf_23 : decode cX9_forksOf 23 = .ok (.iload 4, 2) := by decide +kernel
theorem dX9_forksOf_25 : decode cX9_forksOf 25 = .ok (.iaload, 1) := by decide +kernel
theorem dX9_forksOf_26 : decode cX9_forksOf 26 = .ok (.iconst 2, 1) := by decide +kernel
theorem dX9_forksOf_27 : decode cX9_forksOf 27 = .ok (.if_icmp .lt 7, 3) := by decide +kernel
theorem dX9_forksOf_30 : decode cX9_forksOf 30 = .ok (.iconst 1, 1) := by decide +kernel
theorem dX9_forksOf_31 : decode cX9_forksOf 31 = .ok (.goto 4, 3) := by decide +kernel
theorem dX9_forksOf_34 : decode cX9_forksOf 34 = .ok (.iconst 0, 1) := by decide +kernel
theorem dX9_forksOf_35 : decode cX9_forksOf 35 = .ok (.iadd, 1) := by decide +kernel
theorem dX9_forksOf_36 : decode cX9_forksOf 36 = .ok (.istore_n 3, 1) := by decide +kernel
theorem dX9_forksOf_37 : decode cX9_forksOf 37 = .ok (.iinc 4 1, 3) := by decide +kernel
theorem dX9_forksOf_40 : decode cX9_forksOf 40 = .ok (.goto (-29), 3) := by decide +kernel
theorem dX9_forksOf_43 : decode cX9_forksOf 43 = .ok (.iload_n 3, 1) := by decide +kernel
theorem dX9_forksOf_44 : decode cX9_forksOf 44 = .ok (.ireturn, 1) := by decide +kernel
theorem dX9_historiesTogether_0 : decode cX9_historiesTogether 0 = .ok (.iconst 0, 1) := by decide +kernel
theorem dX9_historiesTogether_1 : decode cX9_historiesTogether 1 = .ok (.istore_n 2, 1) := by decide +kernel
theorem dX9_historiesTogether_2 : decode cX9_historiesTogether 2 = .ok (.iconst 0, 1) := by decide +kernel
theorem dX9_historiesTogether_3 : decode cX9_historiesTogether 3 = .ok (.istore_n 3, 1) := by decide +kernel
theorem dX9_historiesTogether_4 : decode cX9_historiesTogether 4 = .ok (.iload_n 3, 1) := by decide +kernel
theorem dX9_historiesTogether_5 : decode cX9_historiesTogether 5 = .ok (.bipush 64, 2) := by decide +kernel
theorem dX9_historiesTogether_7 : decode cX9_historiesTogether 7 = .ok (.if_icmp .ge 18, 3) := by decide +kernel
theorem dX9_historiesTogether_10 : decode cX9_historiesTogether 10 = .ok (.iload_n 2, 1) := by decide +kernel
theorem dX9_historiesTogether_11 : decode cX9_historiesTogether 11 = .ok (.aload_n 1, 1) := by decide +kernel
theorem dX9_historiesTogether_12 : decode cX9_historiesTogether 12 = .ok (.getfield 64, 3) := by decide +kernel
theorem dX9_historiesTogether_15 : decode cX9_historiesTogether 15 = .ok (.iload_n 3, 1) := by decide +kernel
theorem dX9_historiesTogether_16 : decode cX9_historiesTogether 16 = .ok (.iaload, 1) := by decide +kernel
theorem dX9_historiesTogether_17 : decode cX9_historiesTogether 17 = .ok (.iadd, 1) := by decide +kernel
theorem dX9_historiesTogether_18 : decode cX9_historiesTogether 18 = .ok (.istore_n 2, 1) := by decide +kernel
theorem dX9_historiesTogether_19 : decode cX9_historiesTogether 19 = .ok (.iinc 3 1, 3) := by decide +kernel
theorem dX9_historiesTogether_22 : decode cX9_historiesTogether 22 = .ok (.goto (-18), 3) := by decide +kernel
theorem dX9_historiesTogether_25 : decode cX9_historiesTogether 25 = .ok (.iload_n 2, 1) := by decide +kernel
theorem dX9_historiesTogether_26 : decode cX9_historiesTogether 26 = .ok (.ireturn, 1) := by decide +kernel
theorem dX9_init_0 : decode cX9_init 0 = .ok (.aload_n 0, 1) := by decide +kernel
theorem dX9_init_1 : decode cX9_init 1 = .ok (.invokespecial 3, 3) := by decide +kernel
theorem dX9_init_4 : decode cX9_init 4 = .ok (.aload_n 0, 1) := by decide +kernel
theorem dX9_init_5 : decode cX9_init 5 = .ok (.bipush 64, 2) := by decide +kernel
theorem dX9_init_7 : decode cX9_init 7 = .ok (.newarray .int, 2) := by decide +kernel
theorem dX9_init_9 : decode cX9_init 9 = .ok (.putfield 9, 3) := by decide +kernel
theorem dX9_init_12 : decode cX9_init 12 = .ok (.aload_n 0, 1) := by decide +kernel
theorem dX9_init_13 : decode cX9_init 13 = .ok (.aload_n 1, 1) := by decide +kernel
theorem dX9_init_14 : decode cX9_init 14 = .ok (.putfield 15, 3) := by decide +kernel
theorem dX9_init_17 : decode cX9_init 17 = .ok (.return_, 1) := by decide +kernel
theorem dX9_isJoined_0 : decode cX9_isJoined 0 = .ok (.iconst 0, 1) := by decide +kernel
theorem dX9_isJoined_1 : decode cX9_isJoined 1 = .ok (.istore_n 3, 1) := by decide +kernel
theorem dX9_isJoined_2 : decode cX9_isJoined 2 = .ok (.iload_n 3, 1) := by decide +kernel
theorem dX9_isJoined_3 : decode cX9_isJoined 3 = .ok (.aload_n 0, 1) := by decide +kernel
theorem dX9_isJoined_4 : decode cX9_isJoined 4 = .ok (.getfield 15, 3) := by decide +kernel
theorem dX9_isJoined_7 : decode cX9_isJoined 7 = .ok (.getfield 37, 3) := by decide +kernel
theorem dX9_isJoined_10 : decode cX9_isJoined 10 = .ok (.iload_n 2, 1) := by decide +kernel
theorem dX9_isJoined_11 : decode cX9_isJoined 11 = .ok (.iaload, 1) := by decide +kernel
theorem dX9_isJoined_12 : decode cX9_isJoined 12 = .ok (.if_icmp .ge 32, 3) := by decide +kernel
theorem dX9_isJoined_15 : decode cX9_isJoined 15 = .ok (.aload_n 1, 1) := by decide +kernel
theorem dX9_isJoined_16 : decode cX9_isJoined 16 = .ok (.iload_n 2, 1) := by decide +kernel
theorem dX9_isJoined_17 : decode cX9_isJoined 17 = .ok (.aload_n 0, 1) := by decide +kernel
theorem dX9_isJoined_18 : decode cX9_isJoined 18 = .ok (.getfield 15, 3) := by decide +kernel
theorem dX9_isJoined_21 : decode cX9_isJoined 21 = .ok (.getfield 40, 3) := by decide +kernel
theorem dX9_isJoined_24 : decode cX9_isJoined 24 = .ok (.iload_n 2, 1) := by decide +kernel
theorem dX9_isJoined_25 : decode cX9_isJoined 25 = .ok (.iconst 4, 1) := by decide +kernel
theorem dX9_isJoined_26 : decode cX9_isJoined 26 = .ok (.imul, 1) := by decide +kernel
theorem dX9_isJoined_27 : decode cX9_isJoined 27 = .ok (.iload_n 3, 1) := by decide +kernel
theorem dX9_isJoined_28 : decode cX9_isJoined 28 = .ok (.iadd, 1) := by decide +kernel
theorem dX9_isJoined_29 : decode cX9_isJoined 29 = .ok (.iaload, 1) := by decide +kernel
theorem dX9_isJoined_30 : decode cX9_isJoined 30 = .ok (.invokevirtual 33, 3) := by decide +kernel
theorem dX9_isJoined_33 : decode cX9_isJoined 33 = .ok (.ifCond .ne 5, 3) := by decide +kernel
theorem dX9_isJoined_36 : decode cX9_isJoined 36 = .ok (.iconst 0, 1) := by decide +kernel
theorem dX9_isJoined_37 : decode cX9_isJoined 37 = .ok (.ireturn, 1) := by decide +kernel
theorem dX9_isJoined_38 : decode cX9_isJoined 38 = .ok (.iinc 3 1, 3) := by decide +kernel
theorem dX9_isJoined_41 : decode cX9_isJoined 41 = .ok (.goto (-39), 3) := by decide +kernel
theorem dX9_isJoined_44 : decode cX9_isJoined 44 = .ok (.iconst 1, 1) := by decide +kernel
theorem dX9_isJoined_45 : decode cX9_isJoined 45 = .ok (.ireturn, 1) := by decide +kernel
theorem dX9_joinedBits_0 : decode cX9_joinedBits 0 = .ok (.iconst 0, 1) := by decide +kernel
theorem dX9_joinedBits_1 : decode cX9_joinedBits 1 = .ok (.istore_n 2, 1) := by decide +kernel
theorem dX9_joinedBits_2 : decode cX9_joinedBits 2 = .ok (.iconst 0, 1) := by decide +kernel
theorem dX9_joinedBits_3 : decode cX9_joinedBits 3 = .ok (.istore_n 3, 1) := by decide +kernel
theorem dX9_joinedBits_4 : decode cX9_joinedBits 4 = .ok (.iload_n 3, 1) := by decide +kernel
theorem dX9_joinedBits_5 : decode cX9_joinedBits 5 = .ok (.aload_n 0, 1) := by decide +kernel
theorem dX9_joinedBits_6 : decode cX9_joinedBits 6 = .ok (.getfield 15, 3) := by decide +kernel
theorem dX9_joinedBits_9 : decode cX9_joinedBits 9 = .ok (.getfield 43, 3) := by decide +kernel
theorem dX9_joinedBits_12 : decode cX9_joinedBits 12 = .ok (.if_icmp .ge 28, 3) := by decide +kernel
theorem dX9_joinedBits_15 : decode cX9_joinedBits 15 = .ok (.iload_n 2, 1) := by decide +kernel
theorem dX9_joinedBits_16 : decode cX9_joinedBits 16 = .ok (.aload_n 0, 1) := by decide +kernel
theorem dX9_joinedBits_17 : decode cX9_joinedBits 17 = .ok (.aload_n 1, 1) := by decide +kernel
theorem dX9_joinedBits_18 : decode cX9_joinedBits 18 = .ok (.iload_n 3, 1) := by decide +kernel
theorem dX9_joinedBits_19 : decode cX9_joinedBits 19 = .ok (.invokevirtual 47, 3) := by decide +kernel
theorem dX9_joinedBits_22 : decode cX9_joinedBits 22 = .ok (.ifCond .eq 9, 3) := by decide +kernel
theorem dX9_joinedBits_25 : decode cX9_joinedBits 25 = .ok (.iconst 1, 1) := by decide +kernel
theorem dX9_joinedBits_26 : decode cX9_joinedBits 26 = .ok (.iload_n 3, 1) := by decide +kernel
theorem dX9_joinedBits_27 : decode cX9_joinedBits 27 = .ok (.ishl, 1) := by decide +kernel
theorem dX9_joinedBits_28 : decode cX9_joinedBits 28 = .ok (.goto 4, 3) := by decide +kernel
theorem dX9_joinedBits_31 : decode cX9_joinedBits 31 = .ok (.iconst 0, 1) := by decide +kernel
theorem dX9_joinedBits_32 : decode cX9_joinedBits 32 = .ok (.ior, 1) := by decide +kernel
theorem dX9_joinedBits_33 : decode cX9_joinedBits 33 = .ok (.istore_n 2, 1) := by decide +kernel
theorem dX9_joinedBits_34 : decode cX9_joinedBits 34 = .ok (.iinc 3 1, 3) := by decide +kernel
theorem dX9_joinedBits_37 : decode cX9_joinedBits 37 = .ok (.goto (-33), 3) := by decide +kernel
theorem dX9_joinedBits_40 : decode cX9_joinedBits 40 = .ok (.iload_n 2, 1) := by decide +kernel
theorem dX9_joinedBits_41 : decode cX9_joinedBits 41 = .ok (.ireturn, 1) := by decide +kernel
theorem dX9_lateBits_0 : decode cX9_lateBits 0 = .ok (.iconst 0, 1) := by decide +kernel
theorem dX9_lateBits_1 : decode cX9_lateBits 1 = .ok (.istore_n 2, 1) := by decide +kernel
theorem dX9_lateBits_2 : decode cX9_lateBits 2 = .ok (.iconst 0, 1) := by decide +kernel
theorem dX9_lateBits_3 : decode cX9_lateBits 3 = .ok (.istore_n 3, 1) := by decide +kernel
theorem dX9_lateBits_4 : decode cX9_lateBits 4 = .ok (.iload_n 3, 1) := by decide +kernel
theorem dX9_lateBits_5 : decode cX9_lateBits 5 = .ok (.aload_n 0, 1) := by decide +kernel
theorem dX9_lateBits_6 : decode cX9_lateBits 6 = .ok (.getfield 15, 3) := by decide +kernel
theorem dX9_lateBits_9 : decode cX9_lateBits 9 = .ok (.getfield 43, 3) := by decide +kernel
theorem dX9_lateBits_12 : decode cX9_lateBits 12 = .ok (.if_icmp .ge 58, 3) := by decide +kernel
theorem dX9_lateBits_15 : decode cX9_lateBits 15 = .ok (.aload_n 0, 1) := by decide +kernel
theorem dX9_lateBits_16 : decode cX9_lateBits 16 = .ok (.aload_n 1, 1) := by decide +kernel
theorem dX9_lateBits_17 : decode cX9_lateBits 17 = .ok (.iload_n 3, 1) := by decide +kernel
theorem dX9_lateBits_18 : decode cX9_lateBits 18 = .ok (.invokevirtual 47, 3) := by decide +kernel
theorem dX9_lateBits_21 : decode cX9_lateBits 21 = .ok (.ifCond .eq 21, 3) := by decide +kernel
theorem dX9_lateBits_24 : decode cX9_lateBits 24 = .ok (.aload_n 0, 1) := by decide +kernel
theorem dX9_lateBits_25 : decode cX9_lateBits 25 = .ok (.aload_n 1, 1) := by decide +kernel
theorem dX9_lateBits_26 : decode cX9_lateBits 26 = .ok (.iload_n 3, 1) := by decide +kernel
theorem dX9_lateBits_27 : decode cX9_lateBits 27 = .ok (.invokevirtual 58, 3) := by decide +kernel
theorem dX9_lateBits_30 : decode cX9_lateBits 30 = .ok (.aload_n 0, 1) := by decide +kernel
theorem dX9_lateBits_31 : decode cX9_lateBits 31 = .ok (.getfield 15, 3) := by decide +kernel
theorem dX9_lateBits_34 : decode cX9_lateBits 34 = .ok (.getfield 61, 3) := by decide +kernel
theorem dX9_lateBits_37 : decode cX9_lateBits 37 = .ok (.iload_n 3, 1) := by decide +kernel
theorem dX9_lateBits_38 : decode cX9_lateBits 38 = .ok (.iaload, 1) := by decide +kernel
theorem dX9_lateBits_39 : decode cX9_lateBits 39 = .ok (.if_icmp .le 7, 3) := by decide +kernel
theorem dX9_lateBits_42 : decode cX9_lateBits 42 = .ok (.iconst 1, 1) := by decide +kernel
theorem dX9_lateBits_43 : decode cX9_lateBits 43 = .ok (.goto 4, 3) := by decide +kernel
theorem dX9_lateBits_46 : decode cX9_lateBits 46 = .ok (.iconst 0, 1) := by decide +kernel
theorem dX9_lateBits_47 : decode cX9_lateBits 47 = .ok (.istore 4, 2) := by decide +kernel
theorem dX9_lateBits_49 : decode cX9_lateBits 49 = .ok (.iload_n 2, 1) := by decide +kernel
theorem dX9_lateBits_50 : decode cX9_lateBits 50 = .ok (.iload 4, 2) := by decide +kernel
theorem dX9_lateBits_52 : decode cX9_lateBits 52 = .ok (.ifCond .eq 9, 3) := by decide +kernel
theorem dX9_lateBits_55 : decode cX9_lateBits 55 = .ok (.iconst 1, 1) := by decide +kernel
theorem dX9_lateBits_56 : decode cX9_lateBits 56 = .ok (.iload_n 3, 1) := by decide +kernel
theorem dX9_lateBits_57 : decode cX9_lateBits 57 = .ok (.ishl, 1) := by decide +kernel
theorem dX9_lateBits_58 : decode cX9_lateBits 58 = .ok (.goto 4, 3) := by decide +kernel
theorem dX9_lateBits_61 : decode cX9_lateBits 61 = .ok (.iconst 0, 1) := by decide +kernel
theorem dX9_lateBits_62 : decode cX9_lateBits 62 = .ok (.ior, 1) := by decide +kernel
theorem dX9_lateBits_63 : decode cX9_lateBits 63 = .ok (.istore_n 2, 1) := by decide +kernel
theorem dX9_lateBits_64 : decode cX9_lateBits 64 = .ok (.iinc 3 1, 3) := by decide +kernel
theorem dX9_lateBits_67 : decode cX9_lateBits 67 = .ok (.goto (-63), 3) := by decide +kernel
theorem dX9_lateBits_70 : decode cX9_lateBits 70 = .ok (.iload_n 2, 1) := by decide +kernel
theorem dX9_lateBits_71 : decode cX9_lateBits 71 = .ok (.ireturn, 1) := by decide +kernel
theorem dX9_leavesOf_0 : decode cX9_leavesOf 0 = .ok (.aload_n 0, 1) := by decide +kernel
theorem dX9_leavesOf_1 : decode cX9_leavesOf 1 = .ok (.aload_n 1, 1) := by decide +kernel
theorem dX9_leavesOf_2 : decode cX9_leavesOf 2 = .ok (.iload_n 2, 1) := by decide +kernel
theorem dX9_leavesOf_3 : decode cX9_leavesOf 3 = .ok (.invokevirtual 83, 3) := by decide +kernel
theorem dX9_leavesOf_6 : decode cX9_leavesOf 6 = .ok (.iconst 0, 1) := by decide +kernel
theorem dX9_leavesOf_7 : decode cX9_leavesOf 7 = .ok (.istore_n 3, 1) := by decide +kernel
theorem dX9_leavesOf_8 : decode cX9_leavesOf 8 = .ok (.iconst 0, 1) := by decide +kernel
theorem dX9_leavesOf_9 : decode cX9_leavesOf 9 = .ok (.istore 4, 2) := by decide +kernel
theorem dX9_leavesOf_11 : decode cX9_leavesOf 11 = .ok (.iload 4, 2) := by decide +kernel
theorem dX9_leavesOf_13 : decode cX9_leavesOf 13 = .ok (.bipush 64, 2) := by decide +kernel
theorem dX9_leavesOf_15 : decode cX9_leavesOf 15 = .ok (.if_icmp .ge 37, 3) := by decide +kernel
theorem dX9_leavesOf_18 : decode cX9_leavesOf 18 = .ok (.iload_n 3, 1) := by decide +kernel
theorem dX9_leavesOf_19 : decode cX9_leavesOf 19 = .ok (.aload_n 1, 1) := by decide +kernel
theorem dX9_leavesOf_20 : decode cX9_leavesOf 20 = .ok (.iload_n 2, 1) := by decide +kernel
theorem dX9_leavesOf_21 : decode cX9_leavesOf 21 = .ok (.iload 4, 2) := by decide +kernel
theorem dX9_leavesOf_23 : decode cX9_leavesOf 23 = .ok (.invokevirtual 33, 3) := by decide +kernel
theorem dX9_leavesOf_26 : decode cX9_leavesOf 26 = .ok (.ifCond .eq 17, 3) := by decide +kernel
theorem dX9_leavesOf_29 : decode cX9_leavesOf 29 = .ok (.aload_n 0, 1) := by decide +kernel
theorem dX9_leavesOf_30 : decode cX9_leavesOf 30 = .ok (.getfield 9, 3) := by decide +kernel
theorem dX9_leavesOf_33 : decode cX9_leavesOf 33 = .ok (.iload 4, 2) := by decide +kernel
theorem dX9_leavesOf_35 : decode cX9_leavesOf 35 = .ok (.iaload, 1) := by decide +kernel
theorem dX9_leavesOf_36 : decode cX9_leavesOf 36 = .ok (.ifCond .ne 7, 3) := by decide +kernel
theorem dX9_leavesOf_39 : decode cX9_leavesOf 39 = .ok (.iconst 1, 1) := by decide +kernel
theorem dX9_leavesOf_40 : decode cX9_leavesOf 40 = .ok (.goto 4, 3) := by decide +kernel
theorem dX9_leavesOf_43 : decode cX9_leavesOf 43 = .ok (.iconst 0, 1) := by decide +kernel
theorem dX9_leavesOf_44 : decode cX9_leavesOf 44 = .ok (.iadd, 1) := by decide +kernel
theorem dX9_leavesOf_45 : decode cX9_leavesOf 45 = .ok (.istore_n 3, 1) := by decide +kernel
theorem dX9_leavesOf_46 : decode cX9_leavesOf 46 = .ok (.iinc 4 1, 3) := by decide +kernel
theorem dX9_leavesOf_49 : decode cX9_leavesOf 49 = .ok (.goto (-38), 3) := by decide +kernel
theorem dX9_leavesOf_52 : decode cX9_leavesOf 52 = .ok (.iload_n 3, 1) := by decide +kernel
theorem dX9_leavesOf_53 : decode cX9_leavesOf 53 = .ok (.ireturn, 1) := by decide +kernel
theorem dX9_netBits_0 : decode cX9_netBits 0 = .ok (.iconst 0, 1) := by decide +kernel
theorem dX9_netBits_1 : decode cX9_netBits 1 = .ok (.istore_n 3, 1) := by decide +kernel
theorem dX9_netBits_2 : decode cX9_netBits 2 = .ok (.iconst 0, 1) := by decide +kernel
theorem dX9_netBits_3 : decode cX9_netBits 3 = .ok (.istore 4, 2) := by decide +kernel
theorem dX9_netBits_5 : decode cX9_netBits 5 = .ok (.iload 4, 2) := by decide +kernel
theorem dX9_netBits_7 : decode cX9_netBits 7 = .ok (.aload_n 0, 1) := by decide +kernel
theorem dX9_netBits_8 : decode cX9_netBits 8 = .ok (.getfield 15, 3) := by decide +kernel
theorem dX9_netBits_11 : decode cX9_netBits 11 = .ok (.getfield 43, 3) := by decide +kernel
theorem dX9_netBits_14 : decode cX9_netBits 14 = .ok (.if_icmp .ge 30, 3) := by decide +kernel
theorem dX9_netBits_17 : decode cX9_netBits 17 = .ok (.iload_n 3, 1) := by decide +kernel
theorem dX9_netBits_18 : decode cX9_netBits 18 = .ok (.aload_n 1, 1) := by decide +kernel
theorem dX9_netBits_19 : decode cX9_netBits 19 = .ok (.iload 4, 2) := by decide +kernel
theorem dX9_netBits_21 : decode cX9_netBits 21 = .ok (.iload_n 2, 1) := by decide +kernel
theorem dX9_netBits_22 : decode cX9_netBits 22 = .ok (.invokevirtual 33, 3) := by decide +kernel
theorem dX9_netBits_25 : decode cX9_netBits 25 = .ok (.ifCond .eq 10, 3) := by decide +kernel
theorem dX9_netBits_28 : decode cX9_netBits 28 = .ok (.iconst 1, 1) := by decide +kernel
theorem dX9_netBits_29 : decode cX9_netBits 29 = .ok (.iload 4, 2) := by decide +kernel
theorem dX9_netBits_31 : decode cX9_netBits 31 = .ok (.ishl, 1) := by decide +kernel
theorem dX9_netBits_32 : decode cX9_netBits 32 = .ok (.goto 4, 3) := by decide +kernel
theorem dX9_netBits_35 : decode cX9_netBits 35 = .ok (.iconst 0, 1) := by decide +kernel
theorem dX9_netBits_36 : decode cX9_netBits 36 = .ok (.ior, 1) := by decide +kernel
theorem dX9_netBits_37 : decode cX9_netBits 37 = .ok (.istore_n 3, 1) := by decide +kernel
theorem dX9_netBits_38 : decode cX9_netBits 38 = .ok (.iinc 4 1, 3) := by decide +kernel
theorem dX9_netBits_41 : decode cX9_netBits 41 = .ok (.goto (-36), 3) := by decide +kernel
theorem dX9_netBits_44 : decode cX9_netBits 44 = .ok (.iload_n 3, 1) := by decide +kernel
theorem dX9_netBits_45 : decode cX9_netBits 45 = .ok (.ireturn, 1) := by decide +kernel
theorem dX9_overAt_0 : decode cX9_overAt 0 = .ok (.aload_n 1, 1) := by decide +kernel
theorem dX9_overAt_1 : decode cX9_overAt 1 = .ok (.getfield 19, 3) := by decide +kernel
theorem dX9_overAt_4 : decode cX9_overAt 4 = .ok (.iload_n 2, 1) := by decide +kernel
theorem dX9_overAt_5 : decode cX9_overAt 5 = .ok (.iaload, 1) := by decide +kernel
theorem dX9_overAt_6 : decode cX9_overAt 6 = .ok (.aload_n 0, 1) := by decide +kernel
theorem dX9_overAt_7 : decode cX9_overAt 7 = .ok (.getfield 15, 3) := by decide +kernel
theorem dX9_overAt_10 : decode cX9_overAt 10 = .ok (.getfield 24, 3) := by decide +kernel
theorem dX9_overAt_13 : decode cX9_overAt 13 = .ok (.iload_n 2, 1) := by decide +kernel
theorem dX9_overAt_14 : decode cX9_overAt 14 = .ok (.iaload, 1) := by decide +kernel
theorem dX9_overAt_15 : decode cX9_overAt 15 = .ok (.isub, 1) := by decide +kernel
theorem dX9_overAt_16 : decode cX9_overAt 16 = .ok (.istore_n 3, 1) := by decide +kernel
theorem dX9_overAt_17 : decode cX9_overAt 17 = .ok (.iload_n 3, 1) := by decide +kernel
theorem dX9_overAt_18 : decode cX9_overAt 18 = .ok (.ifCond .le 7, 3) := by decide +kernel
theorem dX9_overAt_21 : decode cX9_overAt 21 = .ok (.iload_n 3, 1) := by decide +kernel
theorem dX9_overAt_22 : decode cX9_overAt 22 = .ok (.goto 4, 3) := by decide +kernel
theorem dX9_overAt_25 : decode cX9_overAt 25 = .ok (.iconst 0, 1) := by decide +kernel
theorem dX9_overAt_26 : decode cX9_overAt 26 = .ok (.ireturn, 1) := by decide +kernel
theorem dX9_overPlaces_0 : decode cX9_overPlaces 0 = .ok (.iconst 0, 1) := by decide +kernel
theorem dX9_overPlaces_1 : decode cX9_overPlaces 1 = .ok (.istore_n 2, 1) := by decide +kernel
theorem dX9_overPlaces_2 : decode cX9_overPlaces 2 = .ok (.iconst 0, 1) := by decide +kernel
theorem dX9_overPlaces_3 : decode cX9_overPlaces 3 = .ok (.istore_n 3, 1) := by decide +kernel
theorem dX9_overPlaces_4 : decode cX9_overPlaces 4 = .ok (.iload_n 3, 1) := by decide +kernel
theorem dX9_overPlaces_5 : decode cX9_overPlaces 5 = .ok (.bipush 64, 2) := by decide +kernel
theorem dX9_overPlaces_7 : decode cX9_overPlaces 7 = .ok (.if_icmp .ge 26, 3) := by decide +kernel
theorem dX9_overPlaces_10 : decode cX9_overPlaces 10 = .ok (.iload_n 2, 1) := by decide +kernel
theorem dX9_overPlaces_11 : decode cX9_overPlaces 11 = .ok (.aload_n 0, 1) := by decide +kernel
theorem dX9_overPlaces_12 : decode cX9_overPlaces 12 = .ok (.aload_n 1, 1) := by decide +kernel
theorem dX9_overPlaces_13 : decode cX9_overPlaces 13 = .ok (.iload_n 3, 1) := by decide +kernel
theorem dX9_overPlaces_14 : decode cX9_overPlaces 14 = .ok (.invokevirtual 29, 3) := by decide +kernel
theorem dX9_overPlaces_17 : decode cX9_overPlaces 17 = .ok (.ifCond .le 7, 3) := by decide +kernel
theorem dX9_overPlaces_20 : decode cX9_overPlaces 20 = .ok (.iconst 1, 1) := by decide +kernel
theorem dX9_overPlaces_21 : decode cX9_overPlaces 21 = .ok (.goto 4, 3) := by decide +kernel
theorem dX9_overPlaces_24 : decode cX9_overPlaces 24 = .ok (.iconst 0, 1) := by decide +kernel
theorem dX9_overPlaces_25 : decode cX9_overPlaces 25 = .ok (.iadd, 1) := by decide +kernel
theorem dX9_overPlaces_26 : decode cX9_overPlaces 26 = .ok (.istore_n 2, 1) := by decide +kernel
theorem dX9_overPlaces_27 : decode cX9_overPlaces 27 = .ok (.iinc 3 1, 3) := by decide +kernel
theorem dX9_overPlaces_30 : decode cX9_overPlaces 30 = .ok (.goto (-26), 3) := by decide +kernel
theorem dX9_overPlaces_33 : decode cX9_overPlaces 33 = .ok (.iload_n 2, 1) := by decide +kernel
theorem dX9_overPlaces_34 : decode cX9_overPlaces 34 = .ok (.ireturn, 1) := by decide +kernel
theorem dX9_overPlacesOf_0 : decode cX9_overPlacesOf 0 = .ok (.iconst 0, 1) := by decide +kernel
theorem dX9_overPlacesOf_1 : decode cX9_overPlacesOf 1 = .ok (.istore_n 3, 1) := by decide +kernel
theorem dX9_overPlacesOf_2 : decode cX9_overPlacesOf 2 = .ok (.iconst 0, 1) := by decide +kernel
theorem dX9_overPlacesOf_3 : decode cX9_overPlacesOf 3 = .ok (.istore 4, 2) := by decide +kernel
theorem dX9_overPlacesOf_5 : decode cX9_overPlacesOf 5 = .ok (.iload 4, 2) := by decide +kernel
theorem dX9_overPlacesOf_7 : decode cX9_overPlacesOf 7 = .ok (.bipush 64, 2) := by decide +kernel
theorem dX9_overPlacesOf_9 : decode cX9_overPlacesOf 9 = .ok (.if_icmp .ge 37, 3) := by decide +kernel
theorem dX9_overPlacesOf_12 : decode cX9_overPlacesOf 12 = .ok (.iload_n 3, 1) := by decide +kernel
theorem dX9_overPlacesOf_13 : decode cX9_overPlacesOf 13 = .ok (.aload_n 1, 1) := by decide +kernel
theorem dX9_overPlacesOf_14 : decode cX9_overPlacesOf 14 = .ok (.iload_n 2, 1) := by decide +kernel
theorem dX9_overPlacesOf_15 : decode cX9_overPlacesOf 15 = .ok (.iload 4, 2) := by decide +kernel
theorem dX9_overPlacesOf_17 : decode cX9_overPlacesOf 17 = .ok (.invokevirtual 33, 3) := by decide +kernel
theorem dX9_overPlacesOf_20 : decode cX9_overPlacesOf 20 = .ok (.ifCond .eq 17, 3) := by decide +kernel
theorem dX9_overPlacesOf_23 : decode cX9_overPlacesOf 23 = .ok (.aload_n 0, 1) := by decide +kernel
theorem dX9_overPlacesOf_24 : decode cX9_overPlacesOf 24 = .ok (.aload_n 1, 1) := by decide +kernel
theorem dX9_overPlacesOf_25 : decode cX9_overPlacesOf 25 = .ok (.iload 4, 2) := by decide +kernel
theorem dX9_overPlacesOf_27 : decode cX9_overPlacesOf 27 = .ok (.invokevirtual 29, 3) := by decide +kernel
theorem dX9_overPlacesOf_30 : decode cX9_overPlacesOf 30 = .ok (.ifCond .le 7, 3) := by decide +kernel
theorem dX9_overPlacesOf_33 : decode cX9_overPlacesOf 33 = .ok (.iconst 1, 1) := by decide +kernel
theorem dX9_overPlacesOf_34 : decode cX9_overPlacesOf 34 = .ok (.goto 4, 3) := by decide +kernel
theorem dX9_overPlacesOf_37 : decode cX9_overPlacesOf 37 = .ok (.iconst 0, 1) := by decide +kernel
theorem dX9_overPlacesOf_38 : decode cX9_overPlacesOf 38 = .ok (.iadd, 1) := by decide +kernel
theorem dX9_overPlacesOf_39 : decode cX9_overPlacesOf 39 = .ok (.istore_n 3, 1) := by decide +kernel
theorem dX9_overPlacesOf_40 : decode cX9_overPlacesOf 40 = .ok (.iinc 4 1, 3) := by decide +kernel
theorem dX9_overPlacesOf_43 : decode cX9_overPlacesOf 43 = .ok (.goto (-38), 3) := by decide +kernel
theorem dX9_overPlacesOf_46 : decode cX9_overPlacesOf 46 = .ok (.iload_n 3, 1) := by decide +kernel
theorem dX9_overPlacesOf_47 : decode cX9_overPlacesOf 47 = .ok (.ireturn, 1) := by decide +kernel
theorem dX9_stepsToRoot_0 : decode cX9_stepsToRoot 0 = .ok (.aload_n 0, 1) := by decide +kernel
theorem dX9_stepsToRoot_1 : decode cX9_stepsToRoot 1 = .ok (.aload_n 1, 1) := by decide +kernel
theorem dX9_stepsToRoot_2 : decode cX9_stepsToRoot 2 = .ok (.iload_n 2, 1) := by decide +kernel
theorem dX9_stepsToRoot_3 : decode cX9_stepsToRoot 3 = .ok (.iload_n 3, 1) := by decide +kernel
theorem dX9_stepsToRoot_4 : decode cX9_stepsToRoot 4 = .ok (.invokevirtual 76, 3) := by decide +kernel
theorem dX9_stepsToRoot_7 : decode cX9_stepsToRoot 7 = .ok (.istore 4, 2) := by decide +kernel
theorem dX9_stepsToRoot_9 : decode cX9_stepsToRoot 9 = .ok (.iconst 0, 1) := by decide +kernel
theorem dX9_stepsToRoot_10 : decode cX9_stepsToRoot 10 = .ok (.istore 5, 2) := by decide +kernel
theorem dX9_stepsToRoot_12 : decode cX9_stepsToRoot 12 = .ok (.iload 5, 2) := by decide +kernel
theorem dX9_stepsToRoot_14 : decode cX9_stepsToRoot 14 = .ok (.bipush 64, 2) := by decide +kernel
theorem dX9_stepsToRoot_16 : decode cX9_stepsToRoot 16 = .ok (.if_icmp .ge 25, 3) := by decide +kernel
theorem dX9_stepsToRoot_19 : decode cX9_stepsToRoot 19 = .ok (.iload 4, 2) := by decide +kernel
theorem dX9_stepsToRoot_21 : decode cX9_stepsToRoot 21 = .ok (.iconst (-1), 1) := by decide +kernel
theorem dX9_stepsToRoot_22 : decode cX9_stepsToRoot 22 = .ok (.if_icmp .eq 19, 3) := by decide +kernel
theorem dX9_stepsToRoot_25 : decode cX9_stepsToRoot 25 = .ok (.aload_n 0, 1) := by decide +kernel
theorem dX9_stepsToRoot_26 : decode cX9_stepsToRoot 26 = .ok (.aload_n 1, 1) := by decide +kernel
theorem dX9_stepsToRoot_27 : decode cX9_stepsToRoot 27 = .ok (.iload_n 2, 1) := by decide +kernel
theorem dX9_stepsToRoot_28 : decode cX9_stepsToRoot 28 = .ok (.iload 4, 2) := by decide +kernel
theorem dX9_stepsToRoot_30 : decode cX9_stepsToRoot 30 = .ok (.invokevirtual 76, 3) := by decide +kernel
theorem dX9_stepsToRoot_33 : decode cX9_stepsToRoot 33 = .ok (.istore 4, 2) := by decide +kernel
theorem dX9_stepsToRoot_35 : decode cX9_stepsToRoot 35 = .ok (.iinc 5 1, 3) := by decide +kernel
theorem dX9_stepsToRoot_38 : decode cX9_stepsToRoot 38 = .ok (.goto (-26), 3) := by decide +kernel
theorem dX9_stepsToRoot_41 : decode cX9_stepsToRoot 41 = .ok (.iload 5, 2) := by decide +kernel
theorem dX9_stepsToRoot_43 : decode cX9_stepsToRoot 43 = .ok (.ireturn, 1) := by decide +kernel
theorem dX9_usesTogether_0 : decode cX9_usesTogether 0 = .ok (.iconst 0, 1) := by decide +kernel
theorem dX9_usesTogether_1 : decode cX9_usesTogether 1 = .ok (.istore_n 2, 1) := by decide +kernel
theorem dX9_usesTogether_2 : decode cX9_usesTogether 2 = .ok (.iconst 0, 1) := by decide +kernel
theorem dX9_usesTogether_3 : decode cX9_usesTogether 3 = .ok (.istore_n 3, 1) := by decide +kernel
theorem dX9_usesTogether_4 : decode cX9_usesTogether 4 = .ok (.iload_n 3, 1) := by decide +kernel
theorem dX9_usesTogether_5 : decode cX9_usesTogether 5 = .ok (.bipush 64, 2) := by decide +kernel
theorem dX9_usesTogether_7 : decode cX9_usesTogether 7 = .ok (.if_icmp .ge 18, 3) := by decide +kernel
theorem dX9_usesTogether_10 : decode cX9_usesTogether 10 = .ok (.iload_n 2, 1) := by decide +kernel
theorem dX9_usesTogether_11 : decode cX9_usesTogether 11 = .ok (.aload_n 1, 1) := by decide +kernel
theorem dX9_usesTogether_12 : decode cX9_usesTogether 12 = .ok (.getfield 19, 3) := by decide +kernel
theorem dX9_usesTogether_15 : decode cX9_usesTogether 15 = .ok (.iload_n 3, 1) := by decide +kernel
theorem dX9_usesTogether_16 : decode cX9_usesTogether 16 = .ok (.iaload, 1) := by decide +kernel
theorem dX9_usesTogether_17 : decode cX9_usesTogether 17 = .ok (.iadd, 1) := by decide +kernel
theorem dX9_usesTogether_18 : decode cX9_usesTogether 18 = .ok (.istore_n 2, 1) := by decide +kernel
theorem dX9_usesTogether_19 : decode cX9_usesTogether 19 = .ok (.iinc 3 1, 3) := by decide +kernel
theorem dX9_usesTogether_22 : decode cX9_usesTogether 22 = .ok (.goto (-18), 3) := by decide +kernel
theorem dX9_usesTogether_25 : decode cX9_usesTogether 25 = .ok (.iload_n 2, 1) := by decide +kernel
theorem dX9_usesTogether_26 : decode cX9_usesTogether 26 = .ok (.ireturn, 1) := by decide +kernel
theorem dX9_wallPlaces_0 : decode cX9_wallPlaces 0 = .ok (.iconst 0, 1) := by decide +kernel
theorem dX9_wallPlaces_1 : decode cX9_wallPlaces 1 = .ok (.istore_n 2, 1) := by decide +kernel
theorem dX9_wallPlaces_2 : decode cX9_wallPlaces 2 = .ok (.iconst 0, 1) := by decide +kernel
theorem dX9_wallPlaces_3 : decode cX9_wallPlaces 3 = .ok (.istore_n 3, 1) := by decide +kernel
theorem dX9_wallPlaces_4 : decode cX9_wallPlaces 4 = .ok (.iload_n 3, 1) := by decide +kernel
theorem dX9_wallPlaces_5 : decode cX9_wallPlaces 5 = .ok (.bipush 64, 2) := by decide +kernel
theorem dX9_wallPlaces_7 : decode cX9_wallPlaces 7 = .ok (.if_icmp .ge 18, 3) := by decide +kernel
theorem dX9_wallPlaces_10 : decode cX9_wallPlaces 10 = .ok (.iload_n 2, 1) := by decide +kernel
theorem dX9_wallPlaces_11 : decode cX9_wallPlaces 11 = .ok (.aload_n 1, 1) := by decide +kernel
theorem dX9_wallPlaces_12 : decode cX9_wallPlaces 12 = .ok (.getfield 67, 3) := by decide +kernel
theorem dX9_wallPlaces_15 : decode cX9_wallPlaces 15 = .ok (.iload_n 3, 1) := by decide +kernel
theorem dX9_wallPlaces_16 : decode cX9_wallPlaces 16 = .ok (.iaload, 1) := by decide +kernel
theorem dX9_wallPlaces_17 : decode cX9_wallPlaces 17 = .ok (.iadd, 1) := by decide +kernel
theorem dX9_wallPlaces_18 : decode cX9_wallPlaces 18 = .ok (.istore_n 2, 1) := by decide +kernel
theorem dX9_wallPlaces_19 : decode cX9_wallPlaces 19 = .ok (.iinc 3 1, 3) := by decide +kernel
theorem dX9_wallPlaces_22 : decode cX9_wallPlaces 22 = .ok (.goto (-18), 3) := by decide +kernel
theorem dX9_wallPlaces_25 : decode cX9_wallPlaces 25 = .ok (.iload_n 2, 1) := by decide +kernel
theorem dX9_wallPlaces_26 : decode cX9_wallPlaces 26 = .ok (.ireturn, 1) := by decide +kernel
