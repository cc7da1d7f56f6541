theorem dX13_ahead_0 : decode cX13_ahead 0 = .ok (.aload_n 0, 1) := by decide +kernel
theorem dX13_ahead_1 : decode cX13_ahead 1 = .ok (.iconst 0, 1) := by decide +kernel
theorem dX13_ahead_2 : decode cX13_ahead 2 = .ok (.putfield 107, 3) := by decide +kernel
theorem dX13_ahead_5 : decode cX13_ahead 5 = .ok (.aload_n 0, 1) := by decide +kernel
theorem dX13_ahead_6 : decode cX13_ahead 6 = .ok (.iload_n 1, 1) := by decide +kernel
theorem dX13_ahead_7 : decode cX13_ahead 7 = .ok (.iconst 0, 1) := by decide +kernel
theorem dX13_ahead_8 : decode cX13_ahead 8 = .ok (.bipush 40, 2) := by decide +kernel
theorem dX13_ahead_10 : decode cX13_ahead 10 = .ok (.invokestatic 141, 3) := by decide +kernel
theorem dX13_ahead_13 : decode cX13_ahead 13 = .ok (.ifCond .eq 12, 3) := by decide +kernel
theorem dX13_ahead_16 : decode cX13_ahead 16 = .ok (.iload_n 2, 1) := by decide +kernel
theorem dX13_ahead_17 : decode cX13_ahead 17 = .ok (.iconst 0, 1) := by decide +kernel
theorem dX13_ahead_18 : decode cX13_ahead 18 = .ok (.iconst 3, 1) := by decide +kernel
theorem dX13_ahead_19 : decode cX13_ahead 19 = .ok (.invokestatic 141, 3) := by decide +kernel
theorem dX13_ahead_22 : decode cX13_ahead 22 = .ok (.ifCond .ne 7, 3) := by decide +kernel
theorem dX13_ahead_25 : decode cX13_ahead 25 = .ok (.iconst 1, 1) := by decide +kernel
theorem dX13_ahead_26 : decode cX13_ahead 26 = .ok (.goto 4, 3) := by decide +kernel
theorem dX13_ahead_29 : decode cX13_ahead 29 = .ok (.iconst 0, 1) := by decide +kernel
theorem dX13_ahead_30 : decode cX13_ahead 30 = .ok (.iconst 1, 1) := by decide +kernel
theorem dX13_ahead_31 : decode cX13_ahead 31 = .ok (.iconst 1, 1) := by decide +kernel
theorem dX13_ahead_32 : decode cX13_ahead 32 = .ok (.invokevirtual 186, 3) := by decide +kernel
theorem dX13_ahead_35 : decode cX13_ahead 35 = .ok (.ifCond .eq 5, 3) := by decide +kernel
theorem dX13_ahead_38 : decode cX13_ahead 38 = .ok (.iconst 0, 1) := by decide +kernel
theorem dX13_ahead_39 : decode cX13_ahead 39 = .ok (.ireturn, 1) := by decide +kernel
theorem dX13_ahead_40 : decode cX13_ahead 40 = .ok (.aload_n 0, 1) := by decide +kernel
theorem dX13_ahead_41 : decode cX13_ahead 41 = .ok (.iload_n 1, 1) := by decide +kernel
theorem dX13_ahead_42 : decode cX13_ahead 42 = .ok (.invokevirtual 421, 3) := by decide +kernel
theorem dX13_ahead_45 : decode cX13_ahead 45 = .ok (.iload_n 2, 1) := by decide +kernel
theorem dX13_ahead_46 : decode cX13_ahead 46 = .ok (.ifCond .ne 14, 3) := by decide +kernel
theorem dX13_ahead_49 : decode cX13_ahead 49 = .ok (.aload_n 0, 1) := by decide +kernel
theorem dX13_ahead_50 : decode cX13_ahead 50 = .ok (.aload_n 0, 1) := by decide +kernel
theorem dX13_ahead_51 : decode cX13_ahead 51 = .ok (.getfield 73, 3) := by decide +kernel
theorem dX13_ahead_54 : decode cX13_ahead 54 = .ok (.invokevirtual 387, 3) := by decide +kernel
theorem dX13_ahead_57 : decode cX13_ahead 57 = .ok (.goto 45, 3) := by decide +kernel
theorem dX13_ahead_60 : decode cX13_ahead 60 = .ok (.iload_n 2, 1) := by decide +kernel
theorem dX13_ahead_61 : decode cX13_ahead 61 = .ok (.iconst 1, 1) := by decide +kernel
theorem dX13_ahead_62 : decode cX13_ahead 62 = .ok (.if_icmp .ne 14, 3) := by decide +kernel
theorem dX13_ahead_65 : decode cX13_ahead 65 = .ok (.aload_n 0, 1) := by decide +kernel
theorem dX13_ahead_66 : decode cX13_ahead 66 = .ok (.aload_n 0, 1) := by decide +kernel
theorem dX13_ahead_67 : decode cX13_ahead 67 = .ok (.getfield 73, 3) := by decide +kernel
theorem dX13_ahead_70 : decode cX13_ahead 70 = .ok (.invokevirtual 383, 3) := by decide +kernel
theorem dX13_ahead_73 : decode cX13_ahead 73 = .ok (.goto 29, 3) := by decide +kernel
theorem dX13_ahead_76 : decode cX13_ahead 76 = .ok (.iload_n 2, 1) := by decide +kernel
theorem dX13_ahead_77 : decode cX13_ahead 77 = .ok (.iconst 2, 1) := by decide +kernel
theorem dX13_ahead_78 : decode cX13_ahead 78 = .ok (.if_icmp .ne 14, 3) := by decide +kernel
theorem dX13_ahead_81 : decode cX13_ahead 81 = .ok (.aload_n 0, 1) := by decide +kernel
theorem dX13_ahead_82 : decode cX13_ahead 82 = .ok (.aload_n 0, 1) := by decide +kernel
theorem dX13_ahead_83 : decode cX13_ahead 83 = .ok (.getfield 73, 3) := by decide +kernel
theorem dX13_ahead_86 : decode cX13_ahead 86 = .ok (.invokevirtual 403, 3) := by decide +kernel
theorem dX13_ahead_89 : decode cX13_ahead 89 = .ok (.goto 13, 3) := by decide +kernel
theorem dX13_ahead_92 : decode cX13_ahead 92 = .ok (.aload_n 0, 1) := by decide +kernel
theorem dX13_ahead_93 : decode cX13_ahead 93 = .ok (.getfield 73, 3) := by decide +kernel
theorem dX13_ahead_96 : decode cX13_ahead 96 = .ok (.sipush 384, 3) := by decide +kernel
theorem dX13_ahead_99 : decode cX13_ahead 99 = .ok (.invokestatic 406, 3) := by decide +kernel
theorem dX13_ahead_102 : decode cX13_ahead 102 = .ok (.ireturn, 1) := by decide +kernel
theorem dX13_asTold_0 : decode cX13_asTold 0 = .ok (.iload_n 0, 1) := by decide +kernel
theorem dX13_asTold_1 : decode cX13_asTold 1 = .ok (.iconst (-1), 1) := by decide +kernel
theorem dX13_asTold_2 : decode cX13_asTold 2 = .ok (.if_icmp .ne 7, 3) := by decide +kernel
theorem dX13_asTold_5 : decode cX13_asTold 5 = .ok (.iconst (-1), 1) := by decide +kernel
theorem dX13_asTold_6 : decode cX13_asTold 6 = .ok (.goto 15, 3) := by decide +kernel
theorem dX13_asTold_9 : decode cX13_asTold 9 = .ok (.bipush 10, 2) := by decide +kernel
theorem dX13_asTold_11 : decode cX13_asTold 11 = .ok (.iload_n 0, 1) := by decide +kernel
theorem dX13_asTold_12 : decode cX13_asTold 12 = .ok (.bipush 8, 2) := by decide +kernel
theorem dX13_asTold_14 : decode cX13_asTold 14 = .ok (.idiv, 1) := by decide +kernel
theorem dX13_asTold_15 : decode cX13_asTold 15 = .ok (.imul, 1) := by decide +kernel
theorem dX13_asTold_16 : decode cX13_asTold 16 = .ok (.iload_n 0, 1) := by decide +kernel
theorem dX13_asTold_17 : decode cX13_asTold 17 = .ok (.bipush 8, 2) := by decide +kernel
theorem dX13_asTold_19 : decode cX13_asTold 19 = .ok (.irem, 1) := by decide +kernel
theorem dX13_asTold_20 : decode cX13_asTold 20 = .ok (.iadd, 1) := by decide +kernel
theorem dX13_asTold_21 : decode cX13_asTold 21 = .ok (.ireturn, 1) := by decide +kernel
theorem dX13_away_0 : decode cX13_away 0 = .ok (.iload_n 0, 1) := by decide +kernel
theorem dX13_away_1 : decode cX13_away 1 = .ok (.bipush 8, 2) := by decide +kernel
theorem dX13_away_3 : decode cX13_away 3 = .ok (.irem, 1) := by decide +kernel
theorem dX13_away_4 : decode cX13_away 4 = .ok (.iload_n 1, 1) := by decide +kernel
theorem dX13_away_5 : decode cX13_away 5 = .ok (.bipush 8, 2) := by decide +kernel
theorem dX13_away_7 : decode cX13_away 7 = .ok (.irem, 1) := by decide +kernel
theorem dX13_away_8 : decode cX13_away 8 = .ok (.isub, 1) := by decide +kernel
theorem dX13_away_9 : decode cX13_away 9 = .ok (.istore_n 2, 1) := by decide +kernel
theorem dX13_away_10 : decode cX13_away 10 = .ok (.iload_n 0, 1) := by decide +kernel
theorem dX13_away_11 : decode cX13_away 11 = .ok (.bipush 8, 2) := by decide +kernel
theorem dX13_away_13 : decode cX13_away 13 = .ok (.idiv, 1) := by decide +kernel
theorem dX13_away_14 : decode cX13_away 14 = .ok (.iload_n 1, 1) := by decide +kernel
theorem dX13_away_15 : decode cX13_away 15 = .ok (.bipush 8, 2) := by decide +kernel
theorem dX13_away_17 : decode cX13_away 17 = .ok (.idiv, 1) := by decide +kernel
theorem dX13_away_18 : decode cX13_away 18 = .ok (.isub, 1) := by decide +kernel
theorem dX13_away_19 : decode cX13_away 19 = .ok (.istore_n 3, 1) := by decide +kernel
theorem dX13_away_20 : decode cX13_away 20 = .ok (.iload_n 2, 1) := by decide +kernel
theorem dX13_away_21 : decode cX13_away 21 = .ok (.iload_n 2, 1) := by decide +kernel
theorem dX13_away_22 : decode cX13_away 22 = .ok (.ineg, 1) := by decide +kernel
theorem dX13_away_23 : decode cX13_away 23 = .ok (.invokestatic 262, 3) := by decide +kernel
theorem dX13_away_26 : decode cX13_away 26 = .ok (.iload_n 3, 1) := by decide +kernel
theorem dX13_away_27 : decode cX13_away 27 = .ok (.iload_n 3, 1) := by decide +kernel
theorem dX13_away_28 : decode cX13_away 28 = .ok (.ineg, 1) := by decide +kernel
theorem dX13_away_29 : decode cX13_away 29 = .ok (.invokestatic 262, 3) := by decide +kernel
theorem dX13_away_32 : decode cX13_away 32 = .ok (.iadd, 1) := by decide +kernel
theorem dX13_away_33 : decode cX13_away 33 = .ok (.ireturn, 1) := by decide +kernel
theorem dX13_bad_0 : decode cX13_bad 0 = .ok (.iload_n 1, 1) := by decide +kernel
theorem dX13_bad_1 : decode cX13_bad 1 = .ok (.ifCond .eq 25, 3) := by decide +kernel
theorem dX13_bad_4 : decode cX13_bad 4 = .ok (.aload_n 0, 1) := by decide +kernel
theorem dX13_bad_5 : decode cX13_bad 5 = .ok (.getfield 107, 3) := by decide +kernel
theorem dX13_bad_8 : decode cX13_bad 8 = .ok (.ifCond .ne 18, 3) := by decide +kernel
theorem dX13_bad_11 : decode cX13_bad 11 = .ok (.aload_n 0, 1) := by decide +kernel
theorem dX13_bad_12 : decode cX13_bad 12 = .ok (.iload_n 2, 1) := by decide +kernel
theorem dX13_bad_13 : decode cX13_bad 13 = .ok (.putfield 107, 3) := by decide +kernel
theorem dX13_bad_16 : decode cX13_bad 16 = .ok (.aload_n 0, 1) := by decide +kernel
theorem dX13_bad_17 : decode cX13_bad 17 = .ok (.getfield 17, 3) := by decide +kernel
theorem dX13_bad_20 : decode cX13_bad 20 = .ok (.iload_n 3, 1) := by decide +kernel
theorem dX13_bad_21 : decode cX13_bad 21 = .ok (.dup2, 1) := by decide +kernel
theorem dX13_bad_22 : decode cX13_bad 22 = .ok (.iaload, 1) := by decide +kernel
theorem dX13_bad_23 : decode cX13_bad 23 = .ok (.iconst 1, 1) := by decide +kernel
theorem dX13_bad_24 : decode cX13_bad 24 = .ok (.iadd, 1) := by decide +kernel
theorem dX13_bad_25 : decode cX13_bad 25 = .ok (.iastore, 1) := by decide +kernel
theorem dX13_bad_26 : decode cX13_bad 26 = .ok (.aload_n 0, 1) := by decide +kernel
theorem dX13_bad_27 : decode cX13_bad 27 = .ok (.getfield 107, 3) := by decide +kernel
theorem dX13_bad_30 : decode cX13_bad 30 = .ok (.ifCond .eq 7, 3) := by decide +kernel
theorem dX13_bad_33 : decode cX13_bad 33 = .ok (.iconst 1, 1) := by decide +kernel
theorem dX13_bad_34 : decode cX13_bad 34 = .ok (.goto 4, 3) := by decide +kernel
theorem dX13_bad_37 : decode cX13_bad 37 = .ok (.iconst 0, 1) := by decide +kernel
theorem dX13_bad_38 : decode cX13_bad 38 = .ok (.ireturn, 1) := by decide +kernel
theorem dX13_beginsAnew_0 : decode cX13_beginsAnew 0 = .ok (.iconst 0, 1) := by decide +kernel
theorem dX13_beginsAnew_1 : decode cX13_beginsAnew 1 = .ok (.istore_n 1, 1) := by decide +kernel
theorem dX13_beginsAnew_2 : decode cX13_beginsAnew 2 = .ok (.iload_n 1, 1) := by decide +kernel
theorem dX13_beginsAnew_3 : decode cX13_beginsAnew 3 = .ok (.iconst 4, 1) := by decide +kernel
theorem dX13_beginsAnew_4 : decode cX13_beginsAnew 4 = .ok (.if_icmp .ge 21, 3) := by decide +kernel
theorem dX13_beginsAnew_7 : decode cX13_beginsAnew 7 = .ok (.aload_n 0, 1) := by decide +kernel
theorem dX13_beginsAnew_8 : decode cX13_beginsAnew 8 = .ok (.getfield 23, 3) := by decide +kernel
theorem dX13_beginsAnew_11 : decode cX13_beginsAnew 11 = .ok (.iload_n 1, 1) := by decide +kernel
theorem dX13_beginsAnew_12 : decode cX13_beginsAnew 12 = .ok (.aload_n 0, 1) := by decide +kernel
theorem dX13_beginsAnew_13 : decode cX13_beginsAnew 13 = .ok (.getfield 20, 3) := by decide +kernel
theorem dX13_beginsAnew_16 : decode cX13_beginsAnew 16 = .ok (.iload_n 1, 1) := by decide +kernel
theorem dX13_beginsAnew_17 : decode cX13_beginsAnew 17 = .ok (.iaload, 1) := by decide +kernel
theorem dX13_beginsAnew_18 : decode cX13_beginsAnew 18 = .ok (.iastore, 1) := by decide +kernel
theorem dX13_beginsAnew_19 : decode cX13_beginsAnew 19 = .ok (.iinc 1 1, 3) := by decide +kernel
theorem dX13_beginsAnew_22 : decode cX13_beginsAnew 22 = .ok (.goto (-20), 3) := by decide +kernel
theorem dX13_beginsAnew_25 : decode cX13_beginsAnew 25 = .ok (.iconst 0, 1) := by decide +kernel
theorem dX13_beginsAnew_26 : decode cX13_beginsAnew 26 = .ok (.istore_n 1, 1) := by decide +kernel
theorem dX13_beginsAnew_27 : decode cX13_beginsAnew 27 = .ok (.iload_n 1, 1) := by decide +kernel
theorem dX13_beginsAnew_28 : decode cX13_beginsAnew 28 = .ok (.sipush 519, 3) := by decide +kernel
theorem dX13_beginsAnew_31 : decode cX13_beginsAnew 31 = .ok (.if_icmp .ge 27, 3) := by decide +kernel
theorem dX13_beginsAnew_34 : decode cX13_beginsAnew 34 = .ok (.aload_n 0, 1) := by decide +kernel
theorem dX13_beginsAnew_35 : decode cX13_beginsAnew 35 = .ok (.getfield 70, 3) := by decide +kernel
theorem dX13_beginsAnew_38 : decode cX13_beginsAnew 38 = .ok (.iload_n 1, 1) := by decide +kernel
theorem dX13_beginsAnew_39 : decode cX13_beginsAnew 39 = .ok (.iload_n 1, 1) := by decide +kernel
theorem dX13_beginsAnew_40 : decode cX13_beginsAnew 40 = .ok (.sipush 384, 3) := by decide +kernel
theorem dX13_beginsAnew_43 : decode cX13_beginsAnew 43 = .ok (.if_icmp .ge 7, 3) := by decide +kernel
theorem dX13_beginsAnew_46 : decode cX13_beginsAnew 46 = .ok (.iconst (-1), 1) := by decide +kernel
theorem dX13_beginsAnew_47 : decode cX13_beginsAnew 47 = .ok (.goto 4, 3) := by decide +kernel
theorem dX13_beginsAnew_50 : decode cX13_beginsAnew 50 = .ok (.iconst 0, 1) := by decide +kernel
theorem dX13_beginsAnew_51 : decode cX13_beginsAnew 51 = .ok (.iastore, 1) := by decide +kernel
theorem dX13_beginsAnew_52 : decode cX13_beginsAnew 52 = .ok (.iinc 1 1, 3) := by decide +kernel
theorem dX13_beginsAnew_55 : decode cX13_beginsAnew 55 = .ok (.goto (-28), 3) := by decide +kernel
theorem dX13_beginsAnew_58 : decode cX13_beginsAnew 58 = .ok (.iconst 0, 1) := by decide +kernel
theorem dX13_beginsAnew_59 : decode cX13_beginsAnew 59 = .ok (.istore_n 1, 1) := by decide +kernel
theorem dX13_beginsAnew_60 : decode cX13_beginsAnew 60 = .ok (.iload_n 1, 1) := by decide +kernel
theorem dX13_beginsAnew_61 : decode cX13_beginsAnew 61 = .ok (.aload_n 0, 1) := by decide +kernel
theorem dX13_beginsAnew_62 : decode cX13_beginsAnew 62 = .ok (.getfield 23, 3) := by decide +kernel
theorem dX13_beginsAnew_65 : decode cX13_beginsAnew 65 = .ok (.iconst 2, 1) := by decide +kernel
theorem dX13_beginsAnew_66 : decode cX13_beginsAnew 66 = .ok (.iaload, 1) := by decide +kernel
theorem dX13_beginsAnew_67 : decode cX13_beginsAnew 67 = .ok (.if_icmp .ge 64, 3) := by decide +kernel
theorem dX13_beginsAnew_70 : decode cX13_beginsAnew 70 = .ok (.aload_n 0, 1) := by decide +kernel
theorem dX13_beginsAnew_71 : decode cX13_beginsAnew 71 = .ok (.getfield 40, 3) := by decide +kernel
theorem dX13_beginsAnew_74 : decode cX13_beginsAnew 74 = .ok (.iload_n 1, 1) := by decide +kernel
theorem dX13_beginsAnew_75 : decode cX13_beginsAnew 75 = .ok (.aaload, 1) := by decide +kernel
theorem dX13_beginsAnew_76 : decode cX13_beginsAnew 76 = .ok (.iconst 0, 1) := by decide +kernel
theorem dX13_beginsAnew_77 : decode cX13_beginsAnew 77 = .ok (.aload_n 0, 1) := by decide +kernel
theorem dX13_beginsAnew_78 : decode cX13_beginsAnew 78 = .ok (.getfield 37, 3) := by decide +kernel
theorem dX13_beginsAnew_81 : decode cX13_beginsAnew 81 = .ok (.iload_n 1, 1) := by decide +kernel
theorem dX13_beginsAnew_82 : decode cX13_beginsAnew 82 = .ok (.aaload, 1) := by decide +kernel
theorem dX13_beginsAnew_83 : decode cX13_beginsAnew 83 = .ok (.iconst 0, 1) := by decide +kernel
theorem dX13_beginsAnew_84 : decode cX13_beginsAnew 84 = .ok (.iaload, 1) := by decide +kernel
theorem dX13_beginsAnew_85 : decode cX13_beginsAnew 85 = .ok (.iastore, 1) := by decide +kernel
theorem dX13_beginsAnew_86 : decode cX13_beginsAnew 86 = .ok (.aload_n 0, 1) := by decide +kernel
theorem dX13_beginsAnew_87 : decode cX13_beginsAnew 87 = .ok (.getfield 40, 3) := by decide +kernel
theorem dX13_beginsAnew_90 : decode cX13_beginsAnew 90 = .ok (.iload_n 1, 1) := by decide +kernel
theorem dX13_beginsAnew_91 : decode cX13_beginsAnew 91 = .ok (.aaload, 1) := by decide +kernel
theorem dX13_beginsAnew_92 : decode cX13_beginsAnew 92 = .ok (.iconst 1, 1) := by decide +kernel
theorem dX13_beginsAnew_93 : decode cX13_beginsAnew 93 = .ok (.aload_n 0, 1) := by decide +kernel
theorem dX13_beginsAnew_94 : decode cX13_beginsAnew 94 = .ok (.getfield 37, 3) := by decide +kernel
theorem dX13_beginsAnew_97 : decode cX13_beginsAnew 97 = .ok (.iload_n 1, 1) := by decide +kernel
theorem dX13_beginsAnew_98 : decode cX13_beginsAnew 98 = .ok (.aaload, 1) := by decide +kernel
theorem dX13_beginsAnew_99 : decode cX13_beginsAnew 99 = .ok (.iconst 1, 1) := by decide +kernel
theorem dX13_beginsAnew_100 : decode cX13_beginsAnew 100 = .ok (.iaload, 1) := by decide +kernel
theorem dX13_beginsAnew_101 : decode cX13_beginsAnew 101 = .ok (.iastore, 1) := by decide +kernel
theorem dX13_beginsAnew_102 : decode cX13_beginsAnew 102 = .ok (.aload_n 0, 1) := by decide +kernel
theorem dX13_beginsAnew_103 : decode cX13_beginsAnew 103 = .ok (.iload_n 1, 1) := by decide +kernel
theorem dX13_beginsAnew_104 : decode cX13_beginsAnew 104 = .ok (.invokevirtual 206, 3) := by decide +kernel
theorem dX13_beginsAnew_107 : decode cX13_beginsAnew 107 = .ok (.aload_n 0, 1) := by decide +kernel
theorem dX13_beginsAnew_108 : decode cX13_beginsAnew 108 = .ok (.getfield 70, 3) := by decide +kernel
theorem dX13_beginsAnew_111 : decode cX13_beginsAnew 111 = .ok (.sipush 512, 3) := by decide +kernel
theorem dX13_beginsAnew_114 : decode cX13_beginsAnew 114 = .ok (.iload_n 1, 1) := by decide +kernel
theorem dX13_beginsAnew_115 : decode cX13_beginsAnew 115 = .ok (.iadd, 1) := by decide +kernel
theorem dX13_beginsAnew_116 : decode cX13_beginsAnew 116 = .ok (.aload_n 0, 1) := by decide +kernel
theorem dX13_beginsAnew_117 : decode cX13_beginsAnew 117 = .ok (.getfield 40, 3) := by decide +kernel
theorem dX13_beginsAnew_120 : decode cX13_beginsAnew 120 = .ok (.iload_n 1, 1) := by decide +kernel
theorem dX13_beginsAnew_121 : decode cX13_beginsAnew 121 = .ok (.aaload, 1) := by decide +kernel
theorem dX13_beginsAnew_122 : decode cX13_beginsAnew 122 = .ok (.iconst 0, 1) := by decide +kernel
theorem dX13_beginsAnew_123 : decode cX13_beginsAnew 123 = .ok (.iaload, 1) := by decide +kernel
theorem dX13_beginsAnew_124 : decode cX13_beginsAnew 124 = .ok (.iastore, 1) := by decide +kernel
theorem dX13_beginsAnew_125 : decode cX13_beginsAnew 125 = .ok (.iinc 1 1, 3) := by decide +kernel
theorem dX13_beginsAnew_128 : decode cX13_beginsAnew 128 = .ok (.goto (-68), 3) := by decide +kernel
theorem dX13_beginsAnew_131 : decode cX13_beginsAnew 131 = .ok (.iconst 0, 1) := by decide +kernel
theorem dX13_beginsAnew_132 : decode cX13_beginsAnew 132 = .ok (.istore_n 1, 1) := by decide +kernel
theorem dX13_beginsAnew_133 : decode cX13_beginsAnew 133 = .ok (.iload_n 1, 1) := by decide +kernel
theorem dX13_beginsAnew_134 : decode cX13_beginsAnew 134 = .ok (.bipush 64, 2) := by decide +kernel
theorem dX13_beginsAnew_136 : decode cX13_beginsAnew 136 = .ok (.if_icmp .ge 62, 3) := by decide +kernel
theorem dX13_beginsAnew_139 : decode cX13_beginsAnew 139 = .ok (.aload_n 0, 1) := by decide +kernel
theorem dX13_beginsAnew_140 : decode cX13_beginsAnew 140 = .ok (.getfield 32, 3) := by decide +kernel
theorem dX13_beginsAnew_143 : decode cX13_beginsAnew 143 = .ok (.iload_n 1, 1) := by decide +kernel
theorem dX13_beginsAnew_144 : decode cX13_beginsAnew 144 = .ok (.aload_n 0, 1) := by decide +kernel
theorem dX13_beginsAnew_145 : decode cX13_beginsAnew 145 = .ok (.getfield 29, 3) := by decide +kernel
theorem dX13_beginsAnew_148 : decode cX13_beginsAnew 148 = .ok (.iload_n 1, 1) := by decide +kernel
theorem dX13_beginsAnew_149 : decode cX13_beginsAnew 149 = .ok (.iaload, 1) := by decide +kernel
theorem dX13_beginsAnew_150 : decode cX13_beginsAnew 150 = .ok (.iastore, 1) := by decide +kernel
theorem dX13_beginsAnew_151 : decode cX13_beginsAnew 151 = .ok (.aload_n 0, 1) := by decide +kernel
theorem dX13_beginsAnew_152 : decode cX13_beginsAnew 152 = .ok (.getfield 70, 3) := by decide +kernel
theorem dX13_beginsAnew_155 : decode cX13_beginsAnew 155 = .ok (.sipush 448, 3) := by decide +kernel
theorem dX13_beginsAnew_158 : decode cX13_beginsAnew 158 = .ok (.iload_n 1, 1) := by decide +kernel
theorem dX13_beginsAnew_159 : decode cX13_beginsAnew 159 = .ok (.iadd, 1) := by decide +kernel
theorem dX13_beginsAnew_160 : decode cX13_beginsAnew 160 = .ok (.aload_n 0, 1) := by decide +kernel
theorem dX13_beginsAnew_161 : decode cX13_beginsAnew 161 = .ok (.iload_n 1, 1) := by decide +kernel
theorem dX13_beginsAnew_162 : decode cX13_beginsAnew 162 = .ok (.invokevirtual 199, 3) := by decide +kernel
theorem dX13_beginsAnew_165 : decode cX13_beginsAnew 165 = .ok (.ifCond .eq 25, 3) := by decide +kernel
theorem dX13_beginsAnew_168 : decode cX13_beginsAnew 168 = .ok (.aload_n 0, 1) := by decide +kernel
theorem dX13_beginsAnew_169 : decode cX13_beginsAnew 169 = .ok (.getfield 26, 3) := by decide +kernel
theorem dX13_beginsAnew_172 : decode cX13_beginsAnew 172 = .ok (.iload_n 1, 1) := by decide +kernel
theorem dX13_beginsAnew_173 : decode cX13_beginsAnew 173 = .ok (.iaload, 1) := by decide +kernel
theorem dX13_beginsAnew_174 : decode cX13_beginsAnew 174 = .ok (.iconst 1, 1) := by decide +kernel
theorem dX13_beginsAnew_175 : decode cX13_beginsAnew 175 = .ok (.if_icmp .ne 15, 3) := by decide +kernel
theorem dX13_beginsAnew_178 : decode cX13_beginsAnew 178 = .ok (.aload_n 0, 1) := by decide +kernel
theorem dX13_beginsAnew_179 : decode cX13_beginsAnew 179 = .ok (.iload_n 1, 1) := by decide +kernel
theorem dX13_beginsAnew_180 : decode cX13_beginsAnew 180 = .ok (.invokevirtual 209, 3) := by decide +kernel
theorem dX13_beginsAnew_183 : decode cX13_beginsAnew 183 = .ok (.ifCond .ne 7, 3) := by decide +kernel
theorem dX13_beginsAnew_186 : decode cX13_beginsAnew 186 = .ok (.iconst 1, 1) := by decide +kernel
theorem dX13_beginsAnew_187 : decode cX13_beginsAnew 187 = .ok (.goto 4, 3) := by decide +kernel
theorem dX13_beginsAnew_190 : decode cX13_beginsAnew 190 = .ok (.iconst 0, 1) := by decide +kernel
theorem dX13_beginsAnew_191 : decode cX13_beginsAnew 191 = .ok (.iastore, 1) := by decide +kernel
theorem dX13_beginsAnew_192 : decode cX13_beginsAnew 192 = .ok (.iinc 1 1, 3) := by decide +kernel
theorem dX13_beginsAnew_195 : decode cX13_beginsAnew 195 = .ok (.goto (-62), 3) := by decide +kernel
theorem dX13_beginsAnew_198 : decode cX13_beginsAnew 198 = .ok (.aload_n 0, 1) := by decide +kernel
theorem dX13_beginsAnew_199 : decode cX13_beginsAnew 199 = .ok (.iconst 0, 1) := by decide +kernel
theorem dX13_beginsAnew_200 : decode cX13_beginsAnew 200 = .ok (.putfield 212, 3) := by decide +kernel
theorem dX13_beginsAnew_203 : decode cX13_beginsAnew 203 = .ok (.aload_n 0, 1) := by decide +kernel
theorem dX13_beginsAnew_204 : decode cX13_beginsAnew 204 = .ok (.iconst 0, 1) := by decide +kernel
theorem dX13_beginsAnew_205 : decode cX13_beginsAnew 205 = .ok (.putfield 215, 3) := by decide +kernel
theorem dX13_beginsAnew_208 : decode cX13_beginsAnew 208 = .ok (.aload_n 0, 1) := by decide +kernel
theorem dX13_beginsAnew_209 : decode cX13_beginsAnew 209 = .ok (.iconst 0, 1) := by decide +kernel
theorem dX13_beginsAnew_210 : decode cX13_beginsAnew 210 = .ok (.putfield 218, 3) := by decide +kernel
theorem dX13_beginsAnew_213 : decode cX13_beginsAnew 213 = .ok (.aload_n 0, 1) := by decide +kernel
theorem dX13_beginsAnew_214 : decode cX13_beginsAnew 214 = .ok (.iconst 0, 1) := by decide +kernel
theorem dX13_beginsAnew_215 : decode cX13_beginsAnew 215 = .ok (.putfield 221, 3) := by decide +kernel
theorem dX13_beginsAnew_218 : decode cX13_beginsAnew 218 = .ok (.aload_n 0, 1) := by decide +kernel
theorem dX13_beginsAnew_219 : decode cX13_beginsAnew 219 = .ok (.iconst 0, 1) := by decide +kernel
theorem dX13_beginsAnew_220 : decode cX13_beginsAnew 220 = .ok (.putfield 224, 3) := by decide +kernel
theorem dX13_beginsAnew_223 : decode cX13_beginsAnew 223 = .ok (.return_, 1) := by decide +kernel
theorem dX13_blanks_0 : decode cX13_blanks 0 = .ok (.aload_n 0, 1) := by decide +kernel
theorem dX13_blanks_1 : decode cX13_blanks 1 = .ok (.aload_n 0, 1) := by decide +kernel
theorem dX13_blanks_2 : decode cX13_blanks 2 = .ok (.getfield 116, 3) := by decide +kernel
theorem dX13_blanks_5 : decode cX13_blanks 5 = .ok (.invokevirtual 119, 3) := by decide +kernel
theorem dX13_blanks_8 : decode cX13_blanks 8 = .ok (.bipush 32, 2) := by decide +kernel
theorem dX13_blanks_10 : decode cX13_blanks 10 = .ok (.if_icmp .ne 16, 3) := by decide +kernel
theorem dX13_blanks_13 : decode cX13_blanks 13 = .ok (.aload_n 0, 1) := by decide +kernel
theorem dX13_blanks_14 : decode cX13_blanks 14 = .ok (.dup, 1) := by decide +kernel
theorem dX13_blanks_15 : decode cX13_blanks 15 = .ok (.getfield 116, 3) := by decide +kernel
theorem dX13_blanks_18 : decode cX13_blanks 18 = .ok (.iconst 1, 1) := by decide +kernel
theorem dX13_blanks_19 : decode cX13_blanks 19 = .ok (.iadd, 1) := by decide +kernel
theorem dX13_blanks_20 : decode cX13_blanks 20 = .ok (.putfield 116, 3) := by decide +kernel
theorem dX13_blanks_23 : decode cX13_blanks 23 = .ok (.goto (-23), 3) := by decide +kernel
theorem dX13_blanks_26 : decode cX13_blanks 26 = .ok (.return_, 1) := by decide +kernel
theorem dX13_blocks_0 : decode cX13_blocks 0 = .ok (.aload_n 0, 1) := by decide +kernel
theorem dX13_blocks_1 : decode cX13_blocks 1 = .ok (.aload_n 1, 1) := by decide +kernel
theorem dX13_blocks_2 : decode cX13_blocks 2 = .ok (.iload_n 2, 1) := by decide +kernel
theorem dX13_blocks_3 : decode cX13_blocks 3 = .ok (.invokevirtual 291, 3) := by decide +kernel
theorem dX13_blocks_6 : decode cX13_blocks 6 = .ok (.ifCond .ne 11, 3) := by decide +kernel
theorem dX13_blocks_9 : decode cX13_blocks 9 = .ok (.aload_n 0, 1) := by decide +kernel
theorem dX13_blocks_10 : decode cX13_blocks 10 = .ok (.iload_n 2, 1) := by decide +kernel
theorem dX13_blocks_11 : decode cX13_blocks 11 = .ok (.invokevirtual 209, 3) := by decide +kernel
theorem dX13_blocks_14 : decode cX13_blocks 14 = .ok (.ifCond .eq 5, 3) := by decide +kernel
theorem dX13_blocks_17 : decode cX13_blocks 17 = .ok (.iconst 0, 1) := by decide +kernel
theorem dX13_blocks_18 : decode cX13_blocks 18 = .ok (.ireturn, 1) := by decide +kernel
theorem dX13_blocks_19 : decode cX13_blocks 19 = .ok (.aload_n 1, 1) := by decide +kernel
theorem dX13_blocks_20 : decode cX13_blocks 20 = .ok (.sipush 448, 3) := by decide +kernel
theorem dX13_blocks_23 : decode cX13_blocks 23 = .ok (.iload_n 2, 1) := by decide +kernel
theorem dX13_blocks_24 : decode cX13_blocks 24 = .ok (.iadd, 1) := by decide +kernel
theorem dX13_blocks_25 : decode cX13_blocks 25 = .ok (.iconst 1, 1) := by decide +kernel
theorem dX13_blocks_26 : decode cX13_blocks 26 = .ok (.aload_n 1, 1) := by decide +kernel
theorem dX13_blocks_27 : decode cX13_blocks 27 = .ok (.sipush 448, 3) := by decide +kernel
theorem dX13_blocks_30 : decode cX13_blocks 30 = .ok (.iload_n 2, 1) := by decide +kernel
theorem dX13_blocks_31 : decode cX13_blocks 31 = .ok (.iadd, 1) := by decide +kernel
theorem dX13_blocks_32 : decode cX13_blocks 32 = .ok (.iaload, 1) := by decide +kernel
theorem dX13_blocks_33 : decode cX13_blocks 33 = .ok (.isub, 1) := by decide +kernel
theorem dX13_blocks_34 : decode cX13_blocks 34 = .ok (.iastore, 1) := by decide +kernel
theorem dX13_blocks_35 : decode cX13_blocks 35 = .ok (.iconst 1, 1) := by decide +kernel
theorem dX13_blocks_36 : decode cX13_blocks 36 = .ok (.ireturn, 1) := by decide +kernel
theorem dX13_board_0 : decode cX13_board 0 = .ok (.aload_n 0, 1) := by decide +kernel
theorem dX13_board_1 : decode cX13_board 1 = .ok (.iconst 0, 1) := by decide +kernel
theorem dX13_board_2 : decode cX13_board 2 = .ok (.putfield 107, 3) := by decide +kernel
theorem dX13_board_5 : decode cX13_board 5 = .ok (.aload_n 0, 1) := by decide +kernel
theorem dX13_board_6 : decode cX13_board 6 = .ok (.iload_n 1, 1) := by decide +kernel
theorem dX13_board_7 : decode cX13_board 7 = .ok (.iconst 0, 1) := by decide +kernel
theorem dX13_board_8 : decode cX13_board 8 = .ok (.aload_n 0, 1) := by decide +kernel
theorem dX13_board_9 : decode cX13_board 9 = .ok (.getfield 110, 3) := by decide +kernel
theorem dX13_board_12 : decode cX13_board 12 = .ok (.invokestatic 141, 3) := by decide +kernel
theorem dX13_board_15 : decode cX13_board 15 = .ok (.ifCond .ne 7, 3) := by decide +kernel
theorem dX13_board_18 : decode cX13_board 18 = .ok (.iconst 1, 1) := by decide +kernel
theorem dX13_board_19 : decode cX13_board 19 = .ok (.goto 4, 3) := by decide +kernel
theorem dX13_board_22 : decode cX13_board 22 = .ok (.iconst 0, 1) := by decide +kernel
theorem dX13_board_23 : decode cX13_board 23 = .ok (.iconst 1, 1) := by decide +kernel
theorem dX13_board_24 : decode cX13_board 24 = .ok (.iconst 1, 1) := by decide +kernel
theorem dX13_board_25 : decode cX13_board 25 = .ok (.invokevirtual 186, 3) := by decide +kernel
theorem dX13_board_28 : decode cX13_board 28 = .ok (.ifCond .eq 5, 3) := by decide +kernel
theorem dX13_board_31 : decode cX13_board 31 = .ok (.iconst 0, 1) := by decide +kernel
theorem dX13_board_32 : decode cX13_board 32 = .ok (.ireturn, 1) := by decide +kernel
theorem dX13_board_33 : decode cX13_board 33 = .ok (.aload_n 0, 1) := by decide +kernel
theorem dX13_board_34 : decode cX13_board 34 = .ok (.iload_n 1, 1) := by decide +kernel
theorem dX13_board_35 : decode cX13_board 35 = .ok (.invokevirtual 190, 3) := by decide +kernel
theorem dX13_board_38 : decode cX13_board 38 = .ok (.aload_n 0, 1) := by decide +kernel
theorem dX13_board_39 : decode cX13_board 39 = .ok (.invokevirtual 101, 3) := by decide +kernel
theorem dX13_board_42 : decode cX13_board 42 = .ok (.aload_n 0, 1) := by decide +kernel
theorem dX13_board_43 : decode cX13_board 43 = .ok (.getfield 123, 3) := by decide +kernel
theorem dX13_board_46 : decode cX13_board 46 = .ok (.ifCond .ne 25, 3) := by decide +kernel
theorem dX13_board_49 : decode cX13_board 49 = .ok (.aload_n 0, 1) := by decide +kernel
theorem dX13_board_50 : decode cX13_board 50 = .ok (.getfield 116, 3) := by decide +kernel
theorem dX13_board_53 : decode cX13_board 53 = .ok (.aload_n 0, 1) := by decide +kernel
theorem dX13_board_54 : decode cX13_board 54 = .ok (.getfield 113, 3) := by decide +kernel
theorem dX13_board_57 : decode cX13_board 57 = .ok (.if_icmp .ge 14, 3) := by decide +kernel
theorem dX13_board_60 : decode cX13_board 60 = .ok (.aload_n 0, 1) := by decide +kernel
theorem dX13_board_61 : decode cX13_board 61 = .ok (.invokevirtual 193, 3) := by decide +kernel
theorem dX13_board_64 : decode cX13_board 64 = .ok (.aload_n 0, 1) := by decide +kernel
theorem dX13_board_65 : decode cX13_board 65 = .ok (.invokevirtual 129, 3) := by decide +kernel
theorem dX13_board_68 : decode cX13_board 68 = .ok (.goto (-26), 3) := by decide +kernel
theorem dX13_board_71 : decode cX13_board 71 = .ok (.aload_n 0, 1) := by decide +kernel
theorem dX13_board_72 : decode cX13_board 72 = .ok (.getfield 123, 3) := by decide +kernel
theorem dX13_board_75 : decode cX13_board 75 = .ok (.ifCond .eq 8, 3) := by decide +kernel
theorem dX13_board_78 : decode cX13_board 78 = .ok (.aload_n 0, 1) := by decide +kernel
theorem dX13_board_79 : decode cX13_board 79 = .ok (.invokevirtual 196, 3) := by decide +kernel
theorem dX13_board_82 : decode cX13_board 82 = .ok (.ireturn, 1) := by decide +kernel
theorem dX13_board_83 : decode cX13_board 83 = .ok (.aload_n 0, 1) := by decide +kernel
theorem dX13_board_84 : decode cX13_board 84 = .ok (.iconst (-1), 1) := by decide +kernel
theorem dX13_board_85 : decode cX13_board 85 = .ok (.putfield 9, 3) := by decide +kernel
theorem dX13_board_88 : decode cX13_board 88 = .ok (.aload_n 0, 1) := by decide +kernel
theorem dX13_board_89 : decode cX13_board 89 = .ok (.invokevirtual 104, 3) := by decide +kernel
theorem dX13_board_92 : decode cX13_board 92 = .ok (.aload_n 0, 1) := by decide +kernel
theorem dX13_board_93 : decode cX13_board 93 = .ok (.getfield 23, 3) := by decide +kernel
theorem dX13_board_96 : decode cX13_board 96 = .ok (.iconst 2, 1) := by decide +kernel
theorem dX13_board_97 : decode cX13_board 97 = .ok (.iaload, 1) := by decide +kernel
theorem dX13_board_98 : decode cX13_board 98 = .ok (.ireturn, 1) := by decide +kernel
theorem dX13_book_0 : decode cX13_book 0 = .ok (.aload_n 0, 1) := by decide +kernel
theorem dX13_book_1 : decode cX13_book 1 = .ok (.iconst 0, 1) := by decide +kernel
theorem dX13_book_2 : decode cX13_book 2 = .ok (.putfield 107, 3) := by decide +kernel
theorem dX13_book_5 : decode cX13_book 5 = .ok (.aload_n 0, 1) := by decide +kernel
theorem dX13_book_6 : decode cX13_book 6 = .ok (.iload_n 1, 1) := by decide +kernel
theorem dX13_book_7 : decode cX13_book 7 = .ok (.iconst 0, 1) := by decide +kernel
theorem dX13_book_8 : decode cX13_book 8 = .ok (.aload_n 0, 1) := by decide +kernel
theorem dX13_book_9 : decode cX13_book 9 = .ok (.getfield 110, 3) := by decide +kernel
theorem dX13_book_12 : decode cX13_book 12 = .ok (.invokestatic 141, 3) := by decide +kernel
theorem dX13_book_15 : decode cX13_book 15 = .ok (.ifCond .eq 9, 3) := by decide +kernel
theorem dX13_book_18 : decode cX13_book 18 = .ok (.iload_n 1, 1) := by decide +kernel
theorem dX13_book_19 : decode cX13_book 19 = .ok (.bipush 60, 2) := by decide +kernel
theorem dX13_book_21 : decode cX13_book 21 = .ok (.if_icmp .le 7, 3) := by decide +kernel
theorem dX13_book_24 : decode cX13_book 24 = .ok (.iconst 1, 1) := by decide +kernel
theorem dX13_book_25 : decode cX13_book 25 = .ok (.goto 4, 3) := by decide +kernel
theorem dX13_book_28 : decode cX13_book 28 = .ok (.iconst 0, 1) := by decide +kernel
theorem dX13_book_29 : decode cX13_book 29 = .ok (.iconst 1, 1) := by decide +kernel
theorem dX13_book_30 : decode cX13_book 30 = .ok (.iconst 1, 1) := by decide +kernel
theorem dX13_book_31 : decode cX13_book 31 = .ok (.invokevirtual 186, 3) := by decide +kernel
theorem dX13_book_34 : decode cX13_book 34 = .ok (.ifCond .eq 5, 3) := by decide +kernel
theorem dX13_book_37 : decode cX13_book 37 = .ok (.iconst 0, 1) := by decide +kernel
theorem dX13_book_38 : decode cX13_book 38 = .ok (.ireturn, 1) := by decide +kernel
theorem dX13_book_39 : decode cX13_book 39 = .ok (.aload_n 0, 1) := by decide +kernel
theorem dX13_book_40 : decode cX13_book 40 = .ok (.iload_n 1, 1) := by decide +kernel
theorem dX13_book_41 : decode cX13_book 41 = .ok (.invokevirtual 190, 3) := by decide +kernel
theorem dX13_book_44 : decode cX13_book 44 = .ok (.iconst 0, 1) := by decide +kernel
theorem dX13_book_45 : decode cX13_book 45 = .ok (.istore_n 2, 1) := by decide +kernel
theorem dX13_book_46 : decode cX13_book 46 = .ok (.aload_n 0, 1) := by decide +kernel
theorem dX13_book_47 : decode cX13_book 47 = .ok (.getfield 123, 3) := by decide +kernel
theorem dX13_book_50 : decode cX13_book 50 = .ok (.ifCond .ne 189, 3) := by decide +kernel
theorem dX13_book_53 : decode cX13_book 53 = .ok (.aload_n 0, 1) := by decide +kernel
theorem dX13_book_54 : decode cX13_book 54 = .ok (.getfield 116, 3) := by decide +kernel
theorem dX13_book_57 : decode cX13_book 57 = .ok (.aload_n 0, 1) := by decide +kernel
theorem dX13_book_58 : decode cX13_book 58 = .ok (.getfield 113, 3) := by decide +kernel
theorem dX13_book_61 : decode cX13_book 61 = .ok (.if_icmp .ge 178, 3) := by decide +kernel
theorem dX13_book_64 : decode cX13_book 64 = .ok (.aload_n 0, 1) := by decide +kernel
theorem dX13_book_65 : decode cX13_book 65 = .ok (.invokevirtual 129, 3) := by decide +kernel
theorem dX13_book_68 : decode cX13_book 68 = .ok (.aload_n 0, 1) := by decide +kernel
theorem dX13_book_69 : decode cX13_book 69 = .ok (.getfield 116, 3) := by decide +kernel
theorem dX13_book_72 : decode cX13_book 72 = .ok (.istore_n 3, 1) := by decide +kernel
theorem dX13_book_73 : decode cX13_book 73 = .ok (.aload_n 0, 1) := by decide +kernel
theorem dX13_book_74 : decode cX13_book 74 = .ok (.iconst 0, 1) := by decide +kernel
theorem dX13_book_75 : decode cX13_book 75 = .ok (.aload_n 0, 1) := by decide +kernel
theorem dX13_book_76 : decode cX13_book 76 = .ok (.getfield 23, 3) := by decide +kernel
theorem dX13_book_79 : decode cX13_book 79 = .ok (.iconst 0, 1) := by decide +kernel
theorem dX13_book_80 : decode cX13_book 80 = .ok (.iaload, 1) := by decide +kernel
theorem dX13_book_81 : decode cX13_book 81 = .ok (.iconst 1, 1) := by decide +kernel
theorem dX13_book_82 : decode cX13_book 82 = .ok (.isub, 1) := by decide +kernel
theorem dX13_book_83 : decode cX13_book 83 = .ok (.invokevirtual 169, 3) := by decide +kernel
theorem dX13_book_86 : decode cX13_book 86 = .ok (.istore 4, 2) := by decide +kernel
theorem dX13_book_88 : decode cX13_book 88 = .ok (.aload_n 0, 1) := by decide +kernel
theorem dX13_book_89 : decode cX13_book 89 = .ok (.getfield 123, 3) := by decide +kernel
theorem dX13_book_92 : decode cX13_book 92 = .ok (.ifCond .ne 15, 3) := by decide +kernel
theorem dX13_book_95 : decode cX13_book 95 = .ok (.iload_n 2, 1) := by decide +kernel
theorem dX13_book_96 : decode cX13_book 96 = .ok (.bipush 8, 2) := by decide +kernel
theorem dX13_book_98 : decode cX13_book 98 = .ok (.if_icmp .ne 9, 3) := by decide +kernel
theorem dX13_book_101 : decode cX13_book 101 = .ok (.aload_n 0, 1) := by decide +kernel
theorem dX13_book_102 : decode cX13_book 102 = .ok (.iconst 3, 1) := by decide +kernel
theorem dX13_book_103 : decode cX13_book 103 = .ok (.iload_n 3, 1) := by decide +kernel
theorem dX13_book_104 : decode cX13_book 104 = .ok (.invokevirtual 136, 3) := by decide +kernel
theorem dX13_book_107 : decode cX13_book 107 = .ok (.aload_n 0, 1) := by decide +kernel
theorem dX13_book_108 : decode cX13_book 108 = .ok (.invokevirtual 129, 3) := by decide +kernel
theorem dX13_book_111 : decode cX13_book 111 = .ok (.aload_n 0, 1) := by decide +kernel
theorem dX13_book_112 : decode cX13_book 112 = .ok (.getfield 116, 3) := by decide +kernel
theorem dX13_book_115 : decode cX13_book 115 = .ok (.istore 5, 2) := by decide +kernel
theorem dX13_book_117 : decode cX13_book 117 = .ok (.aload_n 0, 1) := by decide +kernel
theorem dX13_book_118 : decode cX13_book 118 = .ok (.iconst 0, 1) := by decide +kernel
theorem dX13_book_119 : decode cX13_book 119 = .ok (.aload_n 0, 1) := by decide +kernel
theorem dX13_book_120 : decode cX13_book 120 = .ok (.getfield 23, 3) := by decide +kernel
theorem dX13_book_123 : decode cX13_book 123 = .ok (.iconst 1, 1) := by decide +kernel
theorem dX13_book_124 : decode cX13_book 124 = .ok (.iaload, 1) := by decide +kernel
theorem dX13_book_125 : decode cX13_book 125 = .ok (.iconst 1, 1) := by decide +kernel
theorem dX13_book_126 : decode cX13_book 126 = .ok (.isub, 1) := by decide +kernel
theorem dX13_book_127 : decode cX13_book 127 = .ok (.invokevirtual 169, 3) := by decide +kernel
theorem dX13_book_130 : decode cX13_book 130 = .ok (.istore 6, 2) := by decide +kernel
theorem dX13_book_132 : decode cX13_book 132 = .ok (.iconst 0, 1) := by decide +kernel
theorem dX13_book_133 : decode cX13_book 133 = .ok (.istore 7, 2) := by decide +kernel
theorem dX13_book_135 : decode cX13_book 135 = .ok (.iload 7, 2) := by decide +kernel
theorem dX13_book_137 : decode cX13_book 137 = .ok (.iload_n 2, 1) := by decide +kernel
theorem dX13_book_138 : decode cX13_book 138 = .ok (.if_icmp .ge 43, 3) := by decide +kernel
theorem dX13_book_141 : decode cX13_book 141 = .ok (.aload_n 0, 1) := by decide +kernel
theorem dX13_book_142 : decode cX13_book 142 = .ok (.getfield 123, 3) := by decide +kernel
theorem dX13_book_145 : decode cX13_book 145 = .ok (.ifCond .ne 36, 3) := by decide +kernel
theorem dX13_book_148 : decode cX13_book 148 = .ok (.aload_n 0, 1) := by decide +kernel
theorem dX13_book_149 : decode cX13_book 149 = .ok (.getfield 58, 3) := by decide +kernel
theorem dX13_book_152 : decode cX13_book 152 = .ok (.iload 7, 2) := by decide +kernel
theorem dX13_book_154 : decode cX13_book 154 = .ok (.aaload, 1) := by decide +kernel
theorem dX13_book_155 : decode cX13_book 155 = .ok (.iconst 0, 1) := by decide +kernel
theorem dX13_book_156 : decode cX13_book 156 = .ok (.iaload, 1) := by decide +kernel
theorem dX13_book_157 : decode cX13_book 157 = .ok (.bipush 8, 2) := by decide +kernel
theorem dX13_book_159 : decode cX13_book 159 = .ok (.iload 6, 2) := by decide +kernel
theorem dX13_book_161 : decode cX13_book 161 = .ok (.imul, 1) := by decide +kernel
theorem dX13_book_162 : decode cX13_book 162 = .ok (.iload 4, 2) := by decide +kernel
theorem dX13_book_164 : decode cX13_book 164 = .ok (.iadd, 1) := by decide +kernel
theorem dX13_book_165 : decode cX13_book 165 = .ok (.if_icmp .ne 10, 3) := by decide +kernel
theorem dX13_book_168 : decode cX13_book 168 = .ok (.aload_n 0, 1) := by decide +kernel
theorem dX13_book_169 : decode cX13_book 169 = .ok (.iconst 2, 1) := by decide +kernel
theorem dX13_book_170 : decode cX13_book 170 = .ok (.iload 5, 2) := by decide +kernel
theorem dX13_book_172 : decode cX13_book 172 = .ok (.invokevirtual 136, 3) := by decide +kernel
theorem dX13_book_175 : decode cX13_book 175 = .ok (.iinc 7 1, 3) := by decide +kernel
theorem dX13_book_178 : decode cX13_book 178 = .ok (.goto (-43), 3) := by decide +kernel
theorem dX13_book_181 : decode cX13_book 181 = .ok (.aload_n 0, 1) := by decide +kernel
theorem dX13_book_182 : decode cX13_book 182 = .ok (.iconst 0, 1) := by decide +kernel
theorem dX13_book_183 : decode cX13_book 183 = .ok (.bipush 6, 2) := by decide +kernel
theorem dX13_book_185 : decode cX13_book 185 = .ok (.invokevirtual 169, 3) := by decide +kernel
theorem dX13_book_188 : decode cX13_book 188 = .ok (.istore 7, 2) := by decide +kernel
theorem dX13_book_190 : decode cX13_book 190 = .ok (.aload_n 0, 1) := by decide +kernel
theorem dX13_book_191 : decode cX13_book 191 = .ok (.bipush 59, 2) := by decide +kernel
theorem dX13_book_193 : decode cX13_book 193 = .ok (.invokevirtual 176, 3) := by decide +kernel
theorem dX13_book_196 : decode cX13_book 196 = .ok (.aload_n 0, 1) := by decide +kernel
theorem dX13_book_197 : decode cX13_book 197 = .ok (.getfield 123, 3) := by decide +kernel
theorem dX13_book_200 : decode cX13_book 200 = .ok (.ifCond .ne 32, 3) := by decide +kernel
theorem dX13_book_203 : decode cX13_book 203 = .ok (.aload_n 0, 1) := by decide +kernel
theorem dX13_book_204 : decode cX13_book 204 = .ok (.getfield 58, 3) := by decide +kernel
theorem dX13_book_207 : decode cX13_book 207 = .ok (.iload_n 2, 1) := by decide +kernel
theorem dX13_book_208 : decode cX13_book 208 = .ok (.aaload, 1) := by decide +kernel
theorem dX13_book_209 : decode cX13_book 209 = .ok (.iconst 0, 1) := by decide +kernel
theorem dX13_book_210 : decode cX13_book 210 = .ok (.bipush 8, 2) := by decide +kernel
theorem dX13_book_212 : decode cX13_book 212 = .ok (.iload 6, 2) := by decide +kernel
theorem dX13_book_214 : decode cX13_book 214 = .ok (.imul, 1) := by decide +kernel
theorem dX13_book_215 : decode cX13_book 215 = .ok (.iload 4, 2) := by decide +kernel
theorem dX13_book_217 : decode cX13_book 217 = .ok (.iadd, 1) := by decide +kernel
theorem dX13_book_218 : decode cX13_book 218 = .ok (.iastore, 1) := by decide +kernel
theorem dX13_book_219 : decode cX13_book 219 = .ok (.aload_n 0, 1) := by decide +kernel
theorem dX13_book_220 : decode cX13_book 220 = .ok (.getfield 58, 3) := by decide +kernel
theorem dX13_book_223 : decode cX13_book 223 = .ok (.iload_n 2, 1) := by decide +kernel
theorem dX13_book_224 : decode cX13_book 224 = .ok (.aaload, 1) := by decide +kernel
theorem dX13_book_225 : decode cX13_book 225 = .ok (.iconst 1, 1) := by decide +kernel
theorem dX13_book_226 : decode cX13_book 226 = .ok (.iload 7, 2) := by decide +kernel
theorem dX13_book_228 : decode cX13_book 228 = .ok (.iastore, 1) := by decide +kernel
theorem dX13_book_229 : decode cX13_book 229 = .ok (.iinc 2 1, 3) := by decide +kernel
theorem dX13_book_232 : decode cX13_book 232 = .ok (.aload_n 0, 1) := by decide +kernel
theorem dX13_book_233 : decode cX13_book 233 = .ok (.invokevirtual 129, 3) := by decide +kernel
theorem dX13_book_236 : decode cX13_book 236 = .ok (.goto (-190), 3) := by decide +kernel
theorem dX13_book_239 : decode cX13_book 239 = .ok (.aload_n 0, 1) := by decide +kernel
theorem dX13_book_240 : decode cX13_book 240 = .ok (.getfield 123, 3) := by decide +kernel
theorem dX13_book_243 : decode cX13_book 243 = .ok (.ifCond .eq 8, 3) := by decide +kernel
theorem dX13_book_246 : decode cX13_book 246 = .ok (.aload_n 0, 1) := by decide +kernel
theorem dX13_book_247 : decode cX13_book 247 = .ok (.invokevirtual 196, 3) := by decide +kernel
theorem dX13_book_250 : decode cX13_book 250 = .ok (.ireturn, 1) := by decide +kernel
theorem dX13_book_251 : decode cX13_book 251 = .ok (.aload_n 0, 1) := by decide +kernel
theorem dX13_book_252 : decode cX13_book 252 = .ok (.iconst (-1), 1) := by decide +kernel
theorem dX13_book_253 : decode cX13_book 253 = .ok (.putfield 9, 3) := by decide +kernel
theorem dX13_book_256 : decode cX13_book 256 = .ok (.aload_n 0, 1) := by decide +kernel
theorem dX13_book_257 : decode cX13_book 257 = .ok (.iload_n 2, 1) := by decide +kernel
theorem dX13_book_258 : decode cX13_book 258 = .ok (.putfield 215, 3) := by decide +kernel
theorem dX13_book_261 : decode cX13_book 261 = .ok (.aload_n 0, 1) := by decide +kernel
theorem dX13_book_262 : decode cX13_book 262 = .ok (.getfield 58, 3) := by decide +kernel
theorem dX13_book_265 : decode cX13_book 265 = .ok (.aload_n 0, 1) := by decide +kernel
theorem dX13_book_266 : decode cX13_book 266 = .ok (.getfield 55, 3) := by decide +kernel
theorem dX13_book_269 : decode cX13_book 269 = .ok (.iload_n 2, 1) := by decide +kernel
theorem dX13_book_270 : decode cX13_book 270 = .ok (.invokestatic 255, 3) := by decide +kernel
theorem dX13_book_273 : decode cX13_book 273 = .ok (.iload_n 2, 1) := by decide +kernel
theorem dX13_book_274 : decode cX13_book 274 = .ok (.ireturn, 1) := by decide +kernel
theorem dX13_by_0 : decode cX13_by 0 = .ok (.iload_n 0, 1) := by decide +kernel
theorem dX13_by_1 : decode cX13_by 1 = .ok (.tableswitch 96 2 7 #[39, 43, 47, 51, 73, 90], 39) := by decide +kernel
theorem dX13_by_40 : decode cX13_by 40 = .ok (.iload_n 1, 1) := by decide +kernel
theorem dX13_by_41 : decode cX13_by 41 = .ok (.iload_n 2, 1) := by decide +kernel
theorem dX13_by_42 : decode cX13_by 42 = .ok (.iadd, 1) := by decide +kernel
theorem dX13_by_43 : decode cX13_by 43 = .ok (.ireturn, 1) := by decide +kernel
theorem dX13_by_44 : decode cX13_by 44 = .ok (.iload_n 1, 1) := by decide +kernel
theorem dX13_by_45 : decode cX13_by 45 = .ok (.iload_n 2, 1) := by decide +kernel
theorem dX13_by_46 : decode cX13_by 46 = .ok (.isub, 1) := by decide +kernel
theorem dX13_by_47 : decode cX13_by 47 = .ok (.ireturn, 1) := by decide +kernel
theorem dX13_by_48 : decode cX13_by 48 = .ok (.iload_n 1, 1) := by decide +kernel
theorem dX13_by_49 : decode cX13_by 49 = .ok (.iload_n 2, 1) := by decide +kernel
theorem dX13_by_50 : decode cX13_by 50 = .ok (.imul, 1) := by decide +kernel
theorem dX13_by_51 : decode cX13_by 51 = .ok (.ireturn, 1) := by decide +kernel
theorem dX13_by_52 : decode cX13_by 52 = .ok (.iload_n 2, 1) := by decide +kernel
theorem dX13_by_53 : decode cX13_by 53 = .ok (.ifCond .ne 7, 3) := by decide +kernel
theorem dX13_by_56 : decode cX13_by 56 = .ok (.iconst 0, 1) := by decide +kernel
theorem dX13_by_57 : decode cX13_by 57 = .ok (.goto 16, 3) := by decide +kernel
theorem dX13_by_60 : decode cX13_by 60 = .ok (.iload_n 2, 1) := by decide +kernel
theorem dX13_by_61 : decode cX13_by 61 = .ok (.iconst (-1), 1) := by decide +kernel
theorem dX13_by_62 : decode cX13_by 62 = .ok (.if_icmp .ne 8, 3) := by decide +kernel
theorem dX13_by_65 : decode cX13_by 65 = .ok (.iload_n 1, 1) := by decide +kernel
theorem dX13_by_66 : decode cX13_by 66 = .ok (.ineg, 1) := by decide +kernel
theorem dX13_by_67 : decode cX13_by 67 = .ok (.goto 6, 3) := by decide +kernel
theorem dX13_by_70 : decode cX13_by 70 = .ok (.iload_n 1, 1) := by decide +kernel
theorem dX13_by_71 : decode cX13_by 71 = .ok (.iload_n 2, 1) := by decide +kernel
theorem dX13_by_72 : decode cX13_by 72 = .ok (.idiv, 1) := by decide +kernel
theorem dX13_by_73 : decode cX13_by 73 = .ok (.ireturn, 1) := by decide +kernel
theorem dX13_by_74 : decode cX13_by 74 = .ok (.iload_n 2, 1) := by decide +kernel
theorem dX13_by_75 : decode cX13_by 75 = .ok (.ifCond .eq 8, 3) := by decide +kernel
theorem dX13_by_78 : decode cX13_by 78 = .ok (.iload_n 2, 1) := by decide +kernel
theorem dX13_by_79 : decode cX13_by 79 = .ok (.iconst (-1), 1) := by decide +kernel
theorem dX13_by_80 : decode cX13_by 80 = .ok (.if_icmp .ne 7, 3) := by decide +kernel
theorem dX13_by_83 : decode cX13_by 83 = .ok (.iconst 0, 1) := by decide +kernel
theorem dX13_by_84 : decode cX13_by 84 = .ok (.goto 6, 3) := by decide +kernel
theorem dX13_by_87 : decode cX13_by 87 = .ok (.iload_n 1, 1) := by decide +kernel
theorem dX13_by_88 : decode cX13_by 88 = .ok (.iload_n 2, 1) := by decide +kernel
theorem dX13_by_89 : decode cX13_by 89 = .ok (.irem, 1) := by decide +kernel
theorem dX13_by_90 : decode cX13_by 90 = .ok (.ireturn, 1) := by decide +kernel
theorem dX13_by_91 : decode cX13_by 91 = .ok (.iload_n 1, 1) := by decide +kernel
theorem dX13_by_92 : decode cX13_by 92 = .ok (.iload_n 2, 1) := by decide +kernel
theorem dX13_by_93 : decode cX13_by 93 = .ok (.invokestatic 259, 3) := by decide +kernel
theorem dX13_by_96 : decode cX13_by 96 = .ok (.ireturn, 1) := by decide +kernel
theorem dX13_by_97 : decode cX13_by 97 = .ok (.iload_n 1, 1) := by decide +kernel
theorem dX13_by_98 : decode cX13_by 98 = .ok (.iload_n 2, 1) := by decide +kernel
theorem dX13_by_99 : decode cX13_by 99 = .ok (.invokestatic 262, 3) := by decide +kernel
theorem dX13_by_102 : decode cX13_by 102 = .ok (.ireturn, 1) := by decide +kernel
theorem dX13_byLaw_0 : decode cX13_byLaw 0 = .ok (.iconst 0, 1) := by decide +kernel
theorem dX13_byLaw_1 : decode cX13_byLaw 1 = .ok (.istore_n 1, 1) := by decide +kernel
theorem dX13_byLaw_2 : decode cX13_byLaw 2 = .ok (.aload_n 0, 1) := by decide +kernel
theorem dX13_byLaw_3 : decode cX13_byLaw 3 = .ok (.getfield 61, 3) := by decide +kernel
theorem dX13_byLaw_6 : decode cX13_byLaw 6 = .ok (.iconst 0, 1) := by decide +kernel
theorem dX13_byLaw_7 : decode cX13_byLaw 7 = .ok (.iconst 1, 1) := by decide +kernel
theorem dX13_byLaw_8 : decode cX13_byLaw 8 = .ok (.aload_n 0, 1) := by decide +kernel
theorem dX13_byLaw_9 : decode cX13_byLaw 9 = .ok (.getfield 64, 3) := by decide +kernel
theorem dX13_byLaw_12 : decode cX13_byLaw 12 = .ok (.iconst 0, 1) := by decide +kernel
theorem dX13_byLaw_13 : decode cX13_byLaw 13 = .ok (.iaload, 1) := by decide +kernel
theorem dX13_byLaw_14 : decode cX13_byLaw 14 = .ok (.aload_n 0, 1) := by decide +kernel
theorem dX13_byLaw_15 : decode cX13_byLaw 15 = .ok (.getfield 64, 3) := by decide +kernel
theorem dX13_byLaw_18 : decode cX13_byLaw 18 = .ok (.iconst 1, 1) := by decide +kernel
theorem dX13_byLaw_19 : decode cX13_byLaw 19 = .ok (.iaload, 1) := by decide +kernel
theorem dX13_byLaw_20 : decode cX13_byLaw 20 = .ok (.aload_n 0, 1) := by decide +kernel
theorem dX13_byLaw_21 : decode cX13_byLaw 21 = .ok (.getfield 64, 3) := by decide +kernel
theorem dX13_byLaw_24 : decode cX13_byLaw 24 = .ok (.iconst 3, 1) := by decide +kernel
theorem dX13_byLaw_25 : decode cX13_byLaw 25 = .ok (.iaload, 1) := by decide +kernel
theorem dX13_byLaw_26 : decode cX13_byLaw 26 = .ok (.iconst 3, 1) := by decide +kernel
theorem dX13_byLaw_27 : decode cX13_byLaw 27 = .ok (.iadd, 1) := by decide +kernel
theorem dX13_byLaw_28 : decode cX13_byLaw 28 = .ok (.imul, 1) := by decide +kernel
theorem dX13_byLaw_29 : decode cX13_byLaw 29 = .ok (.iadd, 1) := by decide +kernel
theorem dX13_byLaw_30 : decode cX13_byLaw 30 = .ok (.bipush 10, 2) := by decide +kernel
theorem dX13_byLaw_32 : decode cX13_byLaw 32 = .ok (.aload_n 0, 1) := by decide +kernel
theorem dX13_byLaw_33 : decode cX13_byLaw 33 = .ok (.getfield 64, 3) := by decide +kernel
theorem dX13_byLaw_36 : decode cX13_byLaw 36 = .ok (.iconst 2, 1) := by decide +kernel
theorem dX13_byLaw_37 : decode cX13_byLaw 37 = .ok (.iaload, 1) := by decide +kernel
theorem dX13_byLaw_38 : decode cX13_byLaw 38 = .ok (.isub, 1) := by decide +kernel
theorem dX13_byLaw_39 : decode cX13_byLaw 39 = .ok (.imul, 1) := by decide +kernel
theorem dX13_byLaw_40 : decode cX13_byLaw 40 = .ok (.bipush 10, 2) := by decide +kernel
theorem dX13_byLaw_42 : decode cX13_byLaw 42 = .ok (.idiv, 1) := by decide +kernel
theorem dX13_byLaw_43 : decode cX13_byLaw 43 = .ok (.iadd, 1) := by decide +kernel
theorem dX13_byLaw_44 : decode cX13_byLaw 44 = .ok (.iastore, 1) := by decide +kernel
theorem dX13_byLaw_45 : decode cX13_byLaw 45 = .ok (.iconst 0, 1) := by decide +kernel
theorem dX13_byLaw_46 : decode cX13_byLaw 46 = .ok (.istore_n 2, 1) := by decide +kernel
theorem dX13_byLaw_47 : decode cX13_byLaw 47 = .ok (.iload_n 2, 1) := by decide +kernel
theorem dX13_byLaw_48 : decode cX13_byLaw 48 = .ok (.aload_n 0, 1) := by decide +kernel
theorem dX13_byLaw_49 : decode cX13_byLaw 49 = .ok (.getfield 212, 3) := by decide +kernel
theorem dX13_byLaw_52 : decode cX13_byLaw 52 = .ok (.if_icmp .ge 104, 3) := by decide +kernel
theorem dX13_byLaw_55 : decode cX13_byLaw 55 = .ok (.aload_n 0, 1) := by decide +kernel
theorem dX13_byLaw_56 : decode cX13_byLaw 56 = .ok (.getfield 49, 3) := by decide +kernel
theorem dX13_byLaw_59 : decode cX13_byLaw 59 = .ok (.iload_n 2, 1) := by decide +kernel
theorem dX13_byLaw_60 : decode cX13_byLaw 60 = .ok (.aaload, 1) := by decide +kernel
theorem dX13_byLaw_61 : decode cX13_byLaw 61 = .ok (.iconst 0, 1) := by decide +kernel
theorem dX13_byLaw_62 : decode cX13_byLaw 62 = .ok (.iaload, 1) := by decide +kernel
theorem dX13_byLaw_63 : decode cX13_byLaw 63 = .ok (.iconst 2, 1) := by decide +kernel
theorem dX13_byLaw_64 : decode cX13_byLaw 64 = .ok (.if_icmp .ge 50, 3) := by decide +kernel
theorem dX13_byLaw_67 : decode cX13_byLaw 67 = .ok (.aload_n 0, 1) := by decide +kernel
theorem dX13_byLaw_68 : decode cX13_byLaw 68 = .ok (.getfield 61, 3) := by decide +kernel
theorem dX13_byLaw_71 : decode cX13_byLaw 71 = .ok (.iload_n 1, 1) := by decide +kernel
theorem dX13_byLaw_72 : decode cX13_byLaw 72 = .ok (.aload_n 0, 1) := by decide +kernel
theorem dX13_byLaw_73 : decode cX13_byLaw 73 = .ok (.getfield 49, 3) := by decide +kernel
theorem dX13_byLaw_76 : decode cX13_byLaw 76 = .ok (.iload_n 2, 1) := by decide +kernel
theorem dX13_byLaw_77 : decode cX13_byLaw 77 = .ok (.aaload, 1) := by decide +kernel
theorem dX13_byLaw_78 : decode cX13_byLaw 78 = .ok (.iconst 0, 1) := by decide +kernel
theorem dX13_byLaw_79 : decode cX13_byLaw 79 = .ok (.iaload, 1) := by decide +kernel
theorem dX13_byLaw_80 : decode cX13_byLaw 80 = .ok (.ifCond .ne 14, 3) := by decide +kernel
theorem dX13_byLaw_83 : decode cX13_byLaw 83 = .ok (.aload_n 0, 1) := by decide +kernel
theorem dX13_byLaw_84 : decode cX13_byLaw 84 = .ok (.getfield 49, 3) := by decide +kernel
theorem dX13_byLaw_87 : decode cX13_byLaw 87 = .ok (.iload_n 2, 1) := by decide +kernel
theorem dX13_byLaw_88 : decode cX13_byLaw 88 = .ok (.aaload, 1) := by decide +kernel
theorem dX13_byLaw_89 : decode cX13_byLaw 89 = .ok (.iconst 1, 1) := by decide +kernel
theorem dX13_byLaw_90 : decode cX13_byLaw 90 = .ok (.iaload, 1) := by decide +kernel
theorem dX13_byLaw_91 : decode cX13_byLaw 91 = .ok (.goto 16, 3) := by decide +kernel
theorem dX13_byLaw_94 : decode cX13_byLaw 94 = .ok (.aload_n 0, 1) := by decide +kernel
theorem dX13_byLaw_95 : decode cX13_byLaw 95 = .ok (.getfield 64, 3) := by decide +kernel
theorem dX13_byLaw_98 : decode cX13_byLaw 98 = .ok (.aload_n 0, 1) := by decide +kernel
theorem dX13_byLaw_99 : decode cX13_byLaw 99 = .ok (.getfield 49, 3) := by decide +kernel
theorem dX13_byLaw_102 : decode cX13_byLaw 102 = .ok (.iload_n 2, 1) := by decide +kernel
theorem dX13_byLaw_103 : decode cX13_byLaw 103 = .ok (.aaload, 1) := by decide +kernel
theorem dX13_byLaw_104 : decode cX13_byLaw 104 = .ok (.iconst 1, 1) := by decide +kernel
theorem dX13_byLaw_105 : decode cX13_byLaw 105 = .ok (.iaload, 1) := by decide +kernel
theorem dX13_byLaw_106 : decode cX13_byLaw 106 = .ok (.iaload, 1) := by decide +kernel
theorem dX13_byLaw_107 : decode cX13_byLaw 107 = .ok (.iastore, 1) := by decide +kernel
theorem dX13_byLaw_108 : decode cX13_byLaw 108 = .ok (.iinc 1 1, 3) := by decide +kernel
theorem dX13_byLaw_111 : decode cX13_byLaw 111 = .ok (.goto 39, 3) := by decide +kernel
theorem dX13_byLaw_114 : decode cX13_byLaw 114 = .ok (.iinc 1 (-1), 3) := by decide +kernel
theorem dX13_byLaw_117 : decode cX13_byLaw 117 = .ok (.aload_n 0, 1) := by decide +kernel
theorem dX13_byLaw_118 : decode cX13_byLaw 118 = .ok (.getfield 61, 3) := by decide +kernel
theorem dX13_byLaw_121 : decode cX13_byLaw 121 = .ok (.iload_n 1, 1) := by decide +kernel
theorem dX13_byLaw_122 : decode cX13_byLaw 122 = .ok (.iconst 1, 1) := by decide +kernel
theorem dX13_byLaw_123 : decode cX13_byLaw 123 = .ok (.isub, 1) := by decide +kernel
theorem dX13_byLaw_124 : decode cX13_byLaw 124 = .ok (.aload_n 0, 1) := by decide +kernel
theorem dX13_byLaw_125 : decode cX13_byLaw 125 = .ok (.getfield 49, 3) := by decide +kernel
theorem dX13_byLaw_128 : decode cX13_byLaw 128 = .ok (.iload_n 2, 1) := by decide +kernel
theorem dX13_byLaw_129 : decode cX13_byLaw 129 = .ok (.aaload, 1) := by decide +kernel
theorem dX13_byLaw_130 : decode cX13_byLaw 130 = .ok (.iconst 0, 1) := by decide +kernel
theorem dX13_byLaw_131 : decode cX13_byLaw 131 = .ok (.iaload, 1) := by decide +kernel
theorem dX13_byLaw_132 : decode cX13_byLaw 132 = .ok (.aload_n 0, 1) := by decide +kernel
theorem dX13_byLaw_133 : decode cX13_byLaw 133 = .ok (.getfield 61, 3) := by decide +kernel
theorem dX13_byLaw_136 : decode cX13_byLaw 136 = .ok (.iload_n 1, 1) := by decide +kernel
theorem dX13_byLaw_137 : decode cX13_byLaw 137 = .ok (.iconst 1, 1) := by decide +kernel
theorem dX13_byLaw_138 : decode cX13_byLaw 138 = .ok (.isub, 1) := by decide +kernel
theorem dX13_byLaw_139 : decode cX13_byLaw 139 = .ok (.iaload, 1) := by decide +kernel
theorem dX13_byLaw_140 : decode cX13_byLaw 140 = .ok (.aload_n 0, 1) := by decide +kernel
theorem dX13_byLaw_141 : decode cX13_byLaw 141 = .ok (.getfield 61, 3) := by decide +kernel
theorem dX13_byLaw_144 : decode cX13_byLaw 144 = .ok (.iload_n 1, 1) := by decide +kernel
theorem dX13_byLaw_145 : decode cX13_byLaw 145 = .ok (.iaload, 1) := by decide +kernel
theorem dX13_byLaw_146 : decode cX13_byLaw 146 = .ok (.invokestatic 265, 3) := by decide +kernel
theorem dX13_byLaw_149 : decode cX13_byLaw 149 = .ok (.iastore, 1) := by decide +kernel
theorem dX13_byLaw_150 : decode cX13_byLaw 150 = .ok (.iinc 2 1, 3) := by decide +kernel
theorem dX13_byLaw_153 : decode cX13_byLaw 153 = .ok (.goto (-106), 3) := by decide +kernel
theorem dX13_byLaw_156 : decode cX13_byLaw 156 = .ok (.sipush 999, 3) := by decide +kernel
theorem dX13_byLaw_159 : decode cX13_byLaw 159 = .ok (.iconst 1, 1) := by decide +kernel
theorem dX13_byLaw_160 : decode cX13_byLaw 160 = .ok (.aload_n 0, 1) := by decide +kernel
theorem dX13_byLaw_161 : decode cX13_byLaw 161 = .ok (.getfield 61, 3) := by decide +kernel
theorem dX13_byLaw_164 : decode cX13_byLaw 164 = .ok (.iconst 0, 1) := by decide +kernel
theorem dX13_byLaw_165 : decode cX13_byLaw 165 = .ok (.iaload, 1) := by decide +kernel
theorem dX13_byLaw_166 : decode cX13_byLaw 166 = .ok (.invokestatic 262, 3) := by decide +kernel
theorem dX13_byLaw_169 : decode cX13_byLaw 169 = .ok (.invokestatic 259, 3) := by decide +kernel
theorem dX13_byLaw_172 : decode cX13_byLaw 172 = .ok (.ireturn, 1) := by decide +kernel
theorem dX13_byteAt_0 : decode cX13_byteAt 0 = .ok (.iload_n 1, 1) := by decide +kernel
theorem dX13_byteAt_1 : decode cX13_byteAt 1 = .ok (.aload_n 0, 1) := by decide +kernel
theorem dX13_byteAt_2 : decode cX13_byteAt 2 = .ok (.getfield 113, 3) := by decide +kernel
theorem dX13_byteAt_5 : decode cX13_byteAt 5 = .ok (.if_icmp .lt 7, 3) := by decide +kernel
theorem dX13_byteAt_8 : decode cX13_byteAt 8 = .ok (.iconst (-1), 1) := by decide +kernel
theorem dX13_byteAt_9 : decode cX13_byteAt 9 = .ok (.goto 9, 3) := by decide +kernel
theorem dX13_byteAt_12 : decode cX13_byteAt 12 = .ok (.aload_n 0, 1) := by decide +kernel
theorem dX13_byteAt_13 : decode cX13_byteAt 13 = .ok (.getfield 13, 3) := by decide +kernel
theorem dX13_byteAt_16 : decode cX13_byteAt 16 = .ok (.iload_n 1, 1) := by decide +kernel
theorem dX13_byteAt_17 : decode cX13_byteAt 17 = .ok (.iaload, 1) := by decide +kernel
theorem dX13_byteAt_18 : decode cX13_byteAt 18 = .ok (.ireturn, 1) := by decide +kernel
theorem dX13_childrenOf_0 : decode cX13_childrenOf 0 = .ok (.iconst 0, 1) := by decide +kernel
theorem dX13_childrenOf_1 : decode cX13_childrenOf 1 = .ok (.istore_n 3, 1) := by decide +kernel
theorem dX13_childrenOf_2 : decode cX13_childrenOf 2 = .ok (.iconst 0, 1) := by decide +kernel
theorem dX13_childrenOf_3 : decode cX13_childrenOf 3 = .ok (.istore 4, 2) := by decide +kernel
theorem dX13_childrenOf_5 : decode cX13_childrenOf 5 = .ok (.iload 4, 2) := by decide +kernel
theorem dX13_childrenOf_7 : decode cX13_childrenOf 7 = .ok (.iconst 4, 1) := by decide +kernel
theorem dX13_childrenOf_8 : decode cX13_childrenOf 8 = .ok (.if_icmp .ge 52, 3) := by decide +kernel
theorem dX13_childrenOf_11 : decode cX13_childrenOf 11 = .ok (.aload_n 0, 1) := by decide +kernel
theorem dX13_childrenOf_12 : decode cX13_childrenOf 12 = .ok (.iload_n 2, 1) := by decide +kernel
theorem dX13_childrenOf_13 : decode cX13_childrenOf 13 = .ok (.iload 4, 2) := by decide +kernel
theorem dX13_childrenOf_15 : decode cX13_childrenOf 15 = .ok (.invokevirtual 309, 3) := by decide +kernel
theorem dX13_childrenOf_18 : decode cX13_childrenOf 18 = .ok (.istore 5, 2) := by decide +kernel
theorem dX13_childrenOf_20 : decode cX13_childrenOf 20 = .ok (.iload_n 3, 1) := by decide +kernel
theorem dX13_childrenOf_21 : decode cX13_childrenOf 21 = .ok (.iload 5, 2) := by decide +kernel
theorem dX13_childrenOf_23 : decode cX13_childrenOf 23 = .ok (.iconst (-1), 1) := by decide +kernel
theorem dX13_childrenOf_24 : decode cX13_childrenOf 24 = .ok (.if_icmp .eq 27, 3) := by decide +kernel
theorem dX13_childrenOf_27 : decode cX13_childrenOf 27 = .ok (.aload_n 0, 1) := by decide +kernel
theorem dX13_childrenOf_28 : decode cX13_childrenOf 28 = .ok (.getfield 70, 3) := by decide +kernel
theorem dX13_childrenOf_31 : decode cX13_childrenOf 31 = .ok (.iload_n 1, 1) := by decide +kernel
theorem dX13_childrenOf_32 : decode cX13_childrenOf 32 = .ok (.iload 5, 2) := by decide +kernel
theorem dX13_childrenOf_34 : decode cX13_childrenOf 34 = .ok (.invokestatic 284, 3) := by decide +kernel
theorem dX13_childrenOf_37 : decode cX13_childrenOf 37 = .ok (.iaload, 1) := by decide +kernel
theorem dX13_childrenOf_38 : decode cX13_childrenOf 38 = .ok (.iload 4, 2) := by decide +kernel
theorem dX13_childrenOf_40 : decode cX13_childrenOf 40 = .ok (.iconst 2, 1) := by decide +kernel
theorem dX13_childrenOf_41 : decode cX13_childrenOf 41 = .ok (.iadd, 1) := by decide +kernel
theorem dX13_childrenOf_42 : decode cX13_childrenOf 42 = .ok (.iconst 4, 1) := by decide +kernel
theorem dX13_childrenOf_43 : decode cX13_childrenOf 43 = .ok (.irem, 1) := by decide +kernel
theorem dX13_childrenOf_44 : decode cX13_childrenOf 44 = .ok (.if_icmp .ne 7, 3) := by decide +kernel
theorem dX13_childrenOf_47 : decode cX13_childrenOf 47 = .ok (.iconst 1, 1) := by decide +kernel
theorem dX13_childrenOf_48 : decode cX13_childrenOf 48 = .ok (.goto 4, 3) := by decide +kernel
theorem dX13_childrenOf_51 : decode cX13_childrenOf 51 = .ok (.iconst 0, 1) := by decide +kernel
theorem dX13_childrenOf_52 : decode cX13_childrenOf 52 = .ok (.iadd, 1) := by decide +kernel
theorem dX13_childrenOf_53 : decode cX13_childrenOf 53 = .ok (.istore_n 3, 1) := by decide +kernel
theorem dX13_childrenOf_54 : decode cX13_childrenOf 54 = .ok (.iinc 4 1, 3) := by decide +kernel
theorem dX13_childrenOf_57 : decode cX13_childrenOf 57 = .ok (.goto (-52), 3) := by decide +kernel
theorem dX13_childrenOf_60 : decode cX13_childrenOf 60 = .ok (.iload_n 3, 1) := by decide +kernel
theorem dX13_childrenOf_61 : decode cX13_childrenOf 61 = .ok (.ireturn, 1) := by decide +kernel
theorem dX13_clause_0 : decode cX13_clause 0 = .ok (.aload_n 0, 1) := by decide +kernel
theorem dX13_clause_1 : decode cX13_clause 1 = .ok (.invokevirtual 180, 3) := by decide +kernel
theorem dX13_clause_4 : decode cX13_clause 4 = .ok (.istore_n 1, 1) := by decide +kernel
theorem dX13_clause_5 : decode cX13_clause 5 = .ok (.iload_n 1, 1) := by decide +kernel
theorem dX13_clause_6 : decode cX13_clause 6 = .ok (.iconst (-1), 1) := by decide +kernel
theorem dX13_clause_7 : decode cX13_clause 7 = .ok (.if_icmp .ne 15, 3) := by decide +kernel
theorem dX13_clause_10 : decode cX13_clause 10 = .ok (.aload_n 0, 1) := by decide +kernel
theorem dX13_clause_11 : decode cX13_clause 11 = .ok (.iconst 1, 1) := by decide +kernel
theorem dX13_clause_12 : decode cX13_clause 12 = .ok (.aload_n 0, 1) := by decide +kernel
theorem dX13_clause_13 : decode cX13_clause 13 = .ok (.getfield 116, 3) := by decide +kernel
theorem dX13_clause_16 : decode cX13_clause 16 = .ok (.invokevirtual 136, 3) := by decide +kernel
theorem dX13_clause_19 : decode cX13_clause 19 = .ok (.goto 37, 3) := by decide +kernel
theorem dX13_clause_22 : decode cX13_clause 22 = .ok (.aload_n 0, 1) := by decide +kernel
theorem dX13_clause_23 : decode cX13_clause 23 = .ok (.getfield 163, 3) := by decide +kernel
theorem dX13_clause_26 : decode cX13_clause 26 = .ok (.bipush 60, 2) := by decide +kernel
theorem dX13_clause_28 : decode cX13_clause 28 = .ok (.if_icmp .eq 19, 3) := by decide +kernel
theorem dX13_clause_31 : decode cX13_clause 31 = .ok (.iload_n 1, 1) := by decide +kernel
theorem dX13_clause_32 : decode cX13_clause 32 = .ok (.iconst 3, 1) := by decide +kernel
theorem dX13_clause_33 : decode cX13_clause 33 = .ok (.if_icmp .ne 23, 3) := by decide +kernel
theorem dX13_clause_36 : decode cX13_clause 36 = .ok (.aload_n 0, 1) := by decide +kernel
theorem dX13_clause_37 : decode cX13_clause 37 = .ok (.getfield 20, 3) := by decide +kernel
theorem dX13_clause_40 : decode cX13_clause 40 = .ok (.iconst 2, 1) := by decide +kernel
theorem dX13_clause_41 : decode cX13_clause 41 = .ok (.iaload, 1) := by decide +kernel
theorem dX13_clause_42 : decode cX13_clause 42 = .ok (.bipush 6, 2) := by decide +kernel
theorem dX13_clause_44 : decode cX13_clause 44 = .ok (.if_icmp .ne 12, 3) := by decide +kernel
theorem dX13_clause_47 : decode cX13_clause 47 = .ok (.aload_n 0, 1) := by decide +kernel
theorem dX13_clause_48 : decode cX13_clause 48 = .ok (.iconst 3, 1) := by decide +kernel
theorem dX13_clause_49 : decode cX13_clause 49 = .ok (.aload_n 0, 1) := by decide +kernel
theorem dX13_clause_50 : decode cX13_clause 50 = .ok (.getfield 116, 3) := by decide +kernel
theorem dX13_clause_53 : decode cX13_clause 53 = .ok (.invokevirtual 136, 3) := by decide +kernel
theorem dX13_clause_56 : decode cX13_clause 56 = .ok (.aload_n 0, 1) := by decide +kernel
theorem dX13_clause_57 : decode cX13_clause 57 = .ok (.getfield 123, 3) := by decide +kernel
theorem dX13_clause_60 : decode cX13_clause 60 = .ok (.ifCond .eq 4, 3) := by decide +kernel
theorem dX13_clause_63 : decode cX13_clause 63 = .ok (.return_, 1) := by decide +kernel
theorem dX13_clause_64 : decode cX13_clause 64 = .ok (.aload_n 0, 1) := by decide +kernel
theorem dX13_clause_65 : decode cX13_clause 65 = .ok (.invokevirtual 160, 3) := by decide +kernel
theorem dX13_clause_68 : decode cX13_clause 68 = .ok (.aload_n 0, 1) := by decide +kernel
theorem dX13_clause_69 : decode cX13_clause 69 = .ok (.dup, 1) := by decide +kernel
theorem dX13_clause_70 : decode cX13_clause 70 = .ok (.getfield 163, 3) := by decide +kernel
theorem dX13_clause_73 : decode cX13_clause 73 = .ok (.iconst 1, 1) := by decide +kernel
theorem dX13_clause_74 : decode cX13_clause 74 = .ok (.iadd, 1) := by decide +kernel
theorem dX13_clause_75 : decode cX13_clause 75 = .ok (.putfield 163, 3) := by decide +kernel
theorem dX13_clause_78 : decode cX13_clause 78 = .ok (.iload_n 1, 1) := by decide +kernel
theorem dX13_clause_79 : decode cX13_clause 79 = .ok (.iconst 4, 1) := by decide +kernel
theorem dX13_clause_80 : decode cX13_clause 80 = .ok (.if_icmp .ne 8, 3) := by decide +kernel
theorem dX13_clause_83 : decode cX13_clause 83 = .ok (.aload_n 0, 1) := by decide +kernel
theorem dX13_clause_84 : decode cX13_clause 84 = .ok (.invokevirtual 183, 3) := by decide +kernel
theorem dX13_clause_87 : decode cX13_clause 87 = .ok (.return_, 1) := by decide +kernel
theorem dX13_clause_88 : decode cX13_clause 88 = .ok (.iload_n 1, 1) := by decide +kernel
theorem dX13_clause_89 : decode cX13_clause 89 = .ok (.ifCond .ne 29, 3) := by decide +kernel
theorem dX13_clause_92 : decode cX13_clause 92 = .ok (.aload_n 0, 1) := by decide +kernel
theorem dX13_clause_93 : decode cX13_clause 93 = .ok (.getfield 20, 3) := by decide +kernel
theorem dX13_clause_96 : decode cX13_clause 96 = .ok (.iconst 0, 1) := by decide +kernel
theorem dX13_clause_97 : decode cX13_clause 97 = .ok (.aload_n 0, 1) := by decide +kernel
theorem dX13_clause_98 : decode cX13_clause 98 = .ok (.iconst 2, 1) := by decide +kernel
theorem dX13_clause_99 : decode cX13_clause 99 = .ok (.bipush 8, 2) := by decide +kernel
theorem dX13_clause_101 : decode cX13_clause 101 = .ok (.invokevirtual 169, 3) := by decide +kernel
theorem dX13_clause_104 : decode cX13_clause 104 = .ok (.iastore, 1) := by decide +kernel
theorem dX13_clause_105 : decode cX13_clause 105 = .ok (.aload_n 0, 1) := by decide +kernel
theorem dX13_clause_106 : decode cX13_clause 106 = .ok (.getfield 20, 3) := by decide +kernel
theorem dX13_clause_109 : decode cX13_clause 109 = .ok (.iconst 1, 1) := by decide +kernel
theorem dX13_clause_110 : decode cX13_clause 110 = .ok (.aload_n 0, 1) := by decide +kernel
theorem dX13_clause_111 : decode cX13_clause 111 = .ok (.iconst 2, 1) := by decide +kernel
theorem dX13_clause_112 : decode cX13_clause 112 = .ok (.bipush 8, 2) := by decide +kernel
theorem dX13_clause_114 : decode cX13_clause 114 = .ok (.invokevirtual 169, 3) := by decide +kernel
theorem dX13_clause_117 : decode cX13_clause 117 = .ok (.iastore, 1) := by decide +kernel
theorem dX13_clause_118 : decode cX13_clause 118 = .ok (.iload_n 1, 1) := by decide +kernel
theorem dX13_clause_119 : decode cX13_clause 119 = .ok (.iconst 1, 1) := by decide +kernel
theorem dX13_clause_120 : decode cX13_clause 120 = .ok (.if_icmp .eq 8, 3) := by decide +kernel
theorem dX13_clause_123 : decode cX13_clause 123 = .ok (.iload_n 1, 1) := by decide +kernel
theorem dX13_clause_124 : decode cX13_clause 124 = .ok (.iconst 2, 1) := by decide +kernel
theorem dX13_clause_125 : decode cX13_clause 125 = .ok (.if_icmp .ne 62, 3) := by decide +kernel
theorem dX13_clause_128 : decode cX13_clause 128 = .ok (.aload_n 0, 1) := by decide +kernel
theorem dX13_clause_129 : decode cX13_clause 129 = .ok (.invokevirtual 173, 3) := by decide +kernel
theorem dX13_clause_132 : decode cX13_clause 132 = .ok (.istore_n 2, 1) := by decide +kernel
theorem dX13_clause_133 : decode cX13_clause 133 = .ok (.iload_n 1, 1) := by decide +kernel
theorem dX13_clause_134 : decode cX13_clause 134 = .ok (.iconst 1, 1) := by decide +kernel
theorem dX13_clause_135 : decode cX13_clause 135 = .ok (.if_icmp .ne 7, 3) := by decide +kernel
theorem dX13_clause_138 : decode cX13_clause 138 = .ok (.iconst 1, 1) := by decide +kernel
theorem dX13_clause_139 : decode cX13_clause 139 = .ok (.goto 9, 3) := by decide +kernel
theorem dX13_clause_142 : decode cX13_clause 142 = .ok (.aload_n 0, 1) := by decide +kernel
theorem dX13_clause_143 : decode cX13_clause 143 = .ok (.iconst 1, 1) := by decide +kernel
theorem dX13_clause_144 : decode cX13_clause 144 = .ok (.iconst 3, 1) := by decide +kernel
theorem dX13_clause_145 : decode cX13_clause 145 = .ok (.invokevirtual 169, 3) := by decide +kernel
theorem dX13_clause_148 : decode cX13_clause 148 = .ok (.istore_n 3, 1) := by decide +kernel
theorem dX13_clause_149 : decode cX13_clause 149 = .ok (.aload_n 0, 1) := by decide +kernel
theorem dX13_clause_150 : decode cX13_clause 150 = .ok (.getfield 123, 3) := by decide +kernel
theorem dX13_clause_153 : decode cX13_clause 153 = .ok (.ifCond .ne 15, 3) := by decide +kernel
theorem dX13_clause_156 : decode cX13_clause 156 = .ok (.iload_n 1, 1) := by decide +kernel
theorem dX13_clause_157 : decode cX13_clause 157 = .ok (.iconst 1, 1) := by decide +kernel
theorem dX13_clause_158 : decode cX13_clause 158 = .ok (.if_icmp .ne 10, 3) := by decide +kernel
theorem dX13_clause_161 : decode cX13_clause 161 = .ok (.aload_n 0, 1) := by decide +kernel
theorem dX13_clause_162 : decode cX13_clause 162 = .ok (.getfield 26, 3) := by decide +kernel
theorem dX13_clause_165 : decode cX13_clause 165 = .ok (.iload_n 2, 1) := by decide +kernel
theorem dX13_clause_166 : decode cX13_clause 166 = .ok (.iconst 1, 1) := by decide +kernel
theorem dX13_clause_167 : decode cX13_clause 167 = .ok (.iastore, 1) := by decide +kernel
theorem dX13_clause_168 : decode cX13_clause 168 = .ok (.aload_n 0, 1) := by decide +kernel
theorem dX13_clause_169 : decode cX13_clause 169 = .ok (.getfield 123, 3) := by decide +kernel
theorem dX13_clause_172 : decode cX13_clause 172 = .ok (.ifCond .ne 15, 3) := by decide +kernel
theorem dX13_clause_175 : decode cX13_clause 175 = .ok (.iload_n 1, 1) := by decide +kernel
theorem dX13_clause_176 : decode cX13_clause 176 = .ok (.iconst 2, 1) := by decide +kernel
theorem dX13_clause_177 : decode cX13_clause 177 = .ok (.if_icmp .ne 10, 3) := by decide +kernel
theorem dX13_clause_180 : decode cX13_clause 180 = .ok (.aload_n 0, 1) := by decide +kernel
theorem dX13_clause_181 : decode cX13_clause 181 = .ok (.getfield 29, 3) := by decide +kernel
theorem dX13_clause_184 : decode cX13_clause 184 = .ok (.iload_n 2, 1) := by decide +kernel
theorem dX13_clause_185 : decode cX13_clause 185 = .ok (.iload_n 3, 1) := by decide +kernel
theorem dX13_clause_186 : decode cX13_clause 186 = .ok (.iastore, 1) := by decide +kernel
theorem dX13_clause_187 : decode cX13_clause 187 = .ok (.iload_n 1, 1) := by decide +kernel
theorem dX13_clause_188 : decode cX13_clause 188 = .ok (.iconst 3, 1) := by decide +kernel
theorem dX13_clause_189 : decode cX13_clause 189 = .ok (.if_icmp .ne 57, 3) := by decide +kernel
theorem dX13_clause_192 : decode cX13_clause 192 = .ok (.aload_n 0, 1) := by decide +kernel
theorem dX13_clause_193 : decode cX13_clause 193 = .ok (.getfield 37, 3) := by decide +kernel
theorem dX13_clause_196 : decode cX13_clause 196 = .ok (.aload_n 0, 1) := by decide +kernel
theorem dX13_clause_197 : decode cX13_clause 197 = .ok (.getfield 20, 3) := by decide +kernel
theorem dX13_clause_200 : decode cX13_clause 200 = .ok (.iconst 2, 1) := by decide +kernel
theorem dX13_clause_201 : decode cX13_clause 201 = .ok (.iaload, 1) := by decide +kernel
theorem dX13_clause_202 : decode cX13_clause 202 = .ok (.aaload, 1) := by decide +kernel
theorem dX13_clause_203 : decode cX13_clause 203 = .ok (.iconst 0, 1) := by decide +kernel
theorem dX13_clause_204 : decode cX13_clause 204 = .ok (.aload_n 0, 1) := by decide +kernel
theorem dX13_clause_205 : decode cX13_clause 205 = .ok (.iconst 0, 1) := by decide +kernel
theorem dX13_clause_206 : decode cX13_clause 206 = .ok (.bipush 9, 2) := by decide +kernel
theorem dX13_clause_208 : decode cX13_clause 208 = .ok (.invokevirtual 169, 3) := by decide +kernel
theorem dX13_clause_211 : decode cX13_clause 211 = .ok (.iastore, 1) := by decide +kernel
theorem dX13_clause_212 : decode cX13_clause 212 = .ok (.aload_n 0, 1) := by decide +kernel
theorem dX13_clause_213 : decode cX13_clause 213 = .ok (.getfield 37, 3) := by decide +kernel
theorem dX13_clause_216 : decode cX13_clause 216 = .ok (.aload_n 0, 1) := by decide +kernel
theorem dX13_clause_217 : decode cX13_clause 217 = .ok (.getfield 20, 3) := by decide +kernel
theorem dX13_clause_220 : decode cX13_clause 220 = .ok (.iconst 2, 1) := by decide +kernel
theorem dX13_clause_221 : decode cX13_clause 221 = .ok (.iaload, 1) := by decide +kernel
theorem dX13_clause_222 : decode cX13_clause 222 = .ok (.aaload, 1) := by decide +kernel
theorem dX13_clause_223 : decode cX13_clause 223 = .ok (.iconst 1, 1) := by decide +kernel
theorem dX13_clause_224 : decode cX13_clause 224 = .ok (.aload_n 0, 1) := by decide +kernel
theorem dX13_clause_225 : decode cX13_clause 225 = .ok (.iconst 0, 1) := by decide +kernel
theorem dX13_clause_226 : decode cX13_clause 226 = .ok (.bipush 60, 2) := by decide +kernel
theorem dX13_clause_228 : decode cX13_clause 228 = .ok (.invokevirtual 169, 3) := by decide +kernel
theorem dX13_clause_231 : decode cX13_clause 231 = .ok (.iastore, 1) := by decide +kernel
theorem dX13_clause_232 : decode cX13_clause 232 = .ok (.aload_n 0, 1) := by decide +kernel
theorem dX13_clause_233 : decode cX13_clause 233 = .ok (.getfield 37, 3) := by decide +kernel
theorem dX13_clause_236 : decode cX13_clause 236 = .ok (.aload_n 0, 1) := by decide +kernel
theorem dX13_clause_237 : decode cX13_clause 237 = .ok (.getfield 20, 3) := by decide +kernel
theorem dX13_clause_240 : decode cX13_clause 240 = .ok (.iconst 2, 1) := by decide +kernel
theorem dX13_clause_241 : decode cX13_clause 241 = .ok (.iaload, 1) := by decide +kernel
theorem dX13_clause_242 : decode cX13_clause 242 = .ok (.aaload, 1) := by decide +kernel
theorem dX13_clause_243 : decode cX13_clause 243 = .ok (.iconst 2, 1) := by decide +kernel
theorem dX13_clause_244 : decode cX13_clause 244 = .ok (.iconst 0, 1) := by decide +kernel
theorem dX13_clause_245 : decode cX13_clause 245 = .ok (.iastore, 1) := by decide +kernel
theorem dX13_clause_246 : decode cX13_clause 246 = .ok (.iload_n 1, 1) := by decide +kernel
theorem dX13_clause_247 : decode cX13_clause 247 = .ok (.iconst 5, 1) := by decide +kernel
theorem dX13_clause_248 : decode cX13_clause 248 = .ok (.if_icmp .ne 16, 3) := by decide +kernel
theorem dX13_clause_251 : decode cX13_clause 251 = .ok (.aload_n 0, 1) := by decide +kernel
theorem dX13_clause_252 : decode cX13_clause 252 = .ok (.getfield 20, 3) := by decide +kernel
theorem dX13_clause_255 : decode cX13_clause 255 = .ok (.iconst 3, 1) := by decide +kernel
theorem dX13_clause_256 : decode cX13_clause 256 = .ok (.aload_n 0, 1) := by decide +kernel
theorem dX13_clause_257 : decode cX13_clause 257 = .ok (.iconst 0, 1) := by decide +kernel
theorem dX13_clause_258 : decode cX13_clause 258 = .ok (.bipush 9, 2) := by decide +kernel
theorem dX13_clause_260 : decode cX13_clause 260 = .ok (.invokevirtual 169, 3) := by decide +kernel
theorem dX13_clause_263 : decode cX13_clause 263 = .ok (.iastore, 1) := by decide +kernel
theorem dX13_clause_264 : decode cX13_clause 264 = .ok (.aload_n 0, 1) := by decide +kernel
theorem dX13_clause_265 : decode cX13_clause 265 = .ok (.bipush 59, 2) := by decide +kernel
theorem dX13_clause_267 : decode cX13_clause 267 = .ok (.invokevirtual 176, 3) := by decide +kernel
theorem dX13_clause_270 : decode cX13_clause 270 = .ok (.aload_n 0, 1) := by decide +kernel
theorem dX13_clause_271 : decode cX13_clause 271 = .ok (.getfield 20, 3) := by decide +kernel
theorem dX13_clause_274 : decode cX13_clause 274 = .ok (.iconst 2, 1) := by decide +kernel
theorem dX13_clause_275 : decode cX13_clause 275 = .ok (.dup2, 1) := by decide +kernel
theorem dX13_clause_276 : decode cX13_clause 276 = .ok (.iaload, 1) := by decide +kernel
theorem dX13_clause_277 : decode cX13_clause 277 = .ok (.aload_n 0, 1) := by decide +kernel
theorem dX13_clause_278 : decode cX13_clause 278 = .ok (.getfield 123, 3) := by decide +kernel
theorem dX13_clause_281 : decode cX13_clause 281 = .ok (.ifCond .ne 12, 3) := by decide +kernel
theorem dX13_clause_284 : decode cX13_clause 284 = .ok (.iload_n 1, 1) := by decide +kernel
theorem dX13_clause_285 : decode cX13_clause 285 = .ok (.iconst 3, 1) := by decide +kernel
theorem dX13_clause_286 : decode cX13_clause 286 = .ok (.if_icmp .ne 7, 3) := by decide +kernel
theorem dX13_clause_289 : decode cX13_clause 289 = .ok (.iconst 1, 1) := by decide +kernel
theorem dX13_clause_290 : decode cX13_clause 290 = .ok (.goto 4, 3) := by decide +kernel
theorem dX13_clause_293 : decode cX13_clause 293 = .ok (.iconst 0, 1) := by decide +kernel
theorem dX13_clause_294 : decode cX13_clause 294 = .ok (.iadd, 1) := by decide +kernel
theorem dX13_clause_295 : decode cX13_clause 295 = .ok (.iastore, 1) := by decide +kernel
theorem dX13_clause_296 : decode cX13_clause 296 = .ok (.return_, 1) := by decide +kernel
theorem dX13_copies_0 : decode cX13_copies 0 = .ok (.iconst 0, 1) := by decide +kernel
theorem dX13_copies_1 : decode cX13_copies 1 = .ok (.istore_n 2, 1) := by decide +kernel
theorem dX13_copies_2 : decode cX13_copies 2 = .ok (.iload_n 2, 1) := by decide +kernel
theorem dX13_copies_3 : decode cX13_copies 3 = .ok (.sipush 519, 3) := by decide +kernel
theorem dX13_copies_6 : decode cX13_copies 6 = .ok (.if_icmp .ge 15, 3) := by decide +kernel
theorem dX13_copies_9 : decode cX13_copies 9 = .ok (.aload_n 1, 1) := by decide +kernel
theorem dX13_copies_10 : decode cX13_copies 10 = .ok (.iload_n 2, 1) := by decide +kernel
theorem dX13_copies_11 : decode cX13_copies 11 = .ok (.aload_n 0, 1) := by decide +kernel
theorem dX13_copies_12 : decode cX13_copies 12 = .ok (.iload_n 2, 1) := by decide +kernel
theorem dX13_copies_13 : decode cX13_copies 13 = .ok (.iaload, 1) := by decide +kernel
theorem dX13_copies_14 : decode cX13_copies 14 = .ok (.iastore, 1) := by decide +kernel
theorem dX13_copies_15 : decode cX13_copies 15 = .ok (.iinc 2 1, 3) := by decide +kernel
theorem dX13_copies_18 : decode cX13_copies 18 = .ok (.goto (-16), 3) := by decide +kernel
theorem dX13_copies_21 : decode cX13_copies 21 = .ok (.return_, 1) := by decide +kernel
theorem dX13_cost_0 : decode cX13_cost 0 = .ok (.aload_n 0, 1) := by decide +kernel
theorem dX13_cost_1 : decode cX13_cost 1 = .ok (.iconst 0, 1) := by decide +kernel
theorem dX13_cost_2 : decode cX13_cost 2 = .ok (.putfield 107, 3) := by decide +kernel
theorem dX13_cost_5 : decode cX13_cost 5 = .ok (.aload_n 0, 1) := by decide +kernel
theorem dX13_cost_6 : decode cX13_cost 6 = .ok (.aload_n 0, 1) := by decide +kernel
theorem dX13_cost_7 : decode cX13_cost 7 = .ok (.iload_n 1, 1) := by decide +kernel
theorem dX13_cost_8 : decode cX13_cost 8 = .ok (.invokevirtual 412, 3) := by decide +kernel
theorem dX13_cost_11 : decode cX13_cost 11 = .ok (.ifCond .eq 12, 3) := by decide +kernel
theorem dX13_cost_14 : decode cX13_cost 14 = .ok (.aload_n 0, 1) := by decide +kernel
theorem dX13_cost_15 : decode cX13_cost 15 = .ok (.iload_n 2, 1) := by decide +kernel
theorem dX13_cost_16 : decode cX13_cost 16 = .ok (.iload_n 3, 1) := by decide +kernel
theorem dX13_cost_17 : decode cX13_cost 17 = .ok (.invokevirtual 281, 3) := by decide +kernel
theorem dX13_cost_20 : decode cX13_cost 20 = .ok (.ifCond .ne 7, 3) := by decide +kernel
theorem dX13_cost_23 : decode cX13_cost 23 = .ok (.iconst 1, 1) := by decide +kernel
theorem dX13_cost_24 : decode cX13_cost 24 = .ok (.goto 4, 3) := by decide +kernel
theorem dX13_cost_27 : decode cX13_cost 27 = .ok (.iconst 0, 1) := by decide +kernel
theorem dX13_cost_28 : decode cX13_cost 28 = .ok (.iconst 1, 1) := by decide +kernel
theorem dX13_cost_29 : decode cX13_cost 29 = .ok (.iconst 0, 1) := by decide +kernel
theorem dX13_cost_30 : decode cX13_cost 30 = .ok (.invokevirtual 186, 3) := by decide +kernel
theorem dX13_cost_33 : decode cX13_cost 33 = .ok (.ifCond .eq 5, 3) := by decide +kernel
theorem dX13_cost_36 : decode cX13_cost 36 = .ok (.iconst 0, 1) := by decide +kernel
theorem dX13_cost_37 : decode cX13_cost 37 = .ok (.ireturn, 1) := by decide +kernel
theorem dX13_cost_38 : decode cX13_cost 38 = .ok (.aload_n 0, 1) := by decide +kernel
theorem dX13_cost_39 : decode cX13_cost 39 = .ok (.aload_n 0, 1) := by decide +kernel
theorem dX13_cost_40 : decode cX13_cost 40 = .ok (.getfield 70, 3) := by decide +kernel
theorem dX13_cost_43 : decode cX13_cost 43 = .ok (.iload_n 1, 1) := by decide +kernel
theorem dX13_cost_44 : decode cX13_cost 44 = .ok (.bipush 8, 2) := by decide +kernel
theorem dX13_cost_46 : decode cX13_cost 46 = .ok (.iload_n 3, 1) := by decide +kernel
theorem dX13_cost_47 : decode cX13_cost 47 = .ok (.imul, 1) := by decide +kernel
theorem dX13_cost_48 : decode cX13_cost 48 = .ok (.iload_n 2, 1) := by decide +kernel
theorem dX13_cost_49 : decode cX13_cost 49 = .ok (.iadd, 1) := by decide +kernel
theorem dX13_cost_50 : decode cX13_cost 50 = .ok (.invokevirtual 305, 3) := by decide +kernel
theorem dX13_cost_53 : decode cX13_cost 53 = .ok (.ireturn, 1) := by decide +kernel
theorem dX13_costBy_0 : decode cX13_costBy 0 = .ok (.aload_n 0, 1) := by decide +kernel
theorem dX13_costBy_1 : decode cX13_costBy 1 = .ok (.getfield 64, 3) := by decide +kernel
theorem dX13_costBy_4 : decode cX13_costBy 4 = .ok (.iconst 0, 1) := by decide +kernel
theorem dX13_costBy_5 : decode cX13_costBy 5 = .ok (.iload_n 1, 1) := by decide +kernel
theorem dX13_costBy_6 : decode cX13_costBy 6 = .ok (.iastore, 1) := by decide +kernel
theorem dX13_costBy_7 : decode cX13_costBy 7 = .ok (.aload_n 0, 1) := by decide +kernel
theorem dX13_costBy_8 : decode cX13_costBy 8 = .ok (.getfield 64, 3) := by decide +kernel
theorem dX13_costBy_11 : decode cX13_costBy 11 = .ok (.iconst 1, 1) := by decide +kernel
theorem dX13_costBy_12 : decode cX13_costBy 12 = .ok (.iload_n 2, 1) := by decide +kernel
theorem dX13_costBy_13 : decode cX13_costBy 13 = .ok (.iastore, 1) := by decide +kernel
theorem dX13_costBy_14 : decode cX13_costBy 14 = .ok (.aload_n 0, 1) := by decide +kernel
theorem dX13_costBy_15 : decode cX13_costBy 15 = .ok (.getfield 64, 3) := by decide +kernel
theorem dX13_costBy_18 : decode cX13_costBy 18 = .ok (.iconst 2, 1) := by decide +kernel
theorem dX13_costBy_19 : decode cX13_costBy 19 = .ok (.iload_n 3, 1) := by decide +kernel
theorem dX13_costBy_20 : decode cX13_costBy 20 = .ok (.iastore, 1) := by decide +kernel
theorem dX13_costBy_21 : decode cX13_costBy 21 = .ok (.aload_n 0, 1) := by decide +kernel
theorem dX13_costBy_22 : decode cX13_costBy 22 = .ok (.getfield 64, 3) := by decide +kernel
theorem dX13_costBy_25 : decode cX13_costBy 25 = .ok (.iconst 3, 1) := by decide +kernel
theorem dX13_costBy_26 : decode cX13_costBy 26 = .ok (.iload 4, 2) := by decide +kernel
theorem dX13_costBy_28 : decode cX13_costBy 28 = .ok (.iastore, 1) := by decide +kernel
theorem dX13_costBy_29 : decode cX13_costBy 29 = .ok (.aload_n 0, 1) := by decide +kernel
theorem dX13_costBy_30 : decode cX13_costBy 30 = .ok (.getfield 64, 3) := by decide +kernel
theorem dX13_costBy_33 : decode cX13_costBy 33 = .ok (.iconst 4, 1) := by decide +kernel
theorem dX13_costBy_34 : decode cX13_costBy 34 = .ok (.iload 5, 2) := by decide +kernel
theorem dX13_costBy_36 : decode cX13_costBy 36 = .ok (.iastore, 1) := by decide +kernel
theorem dX13_costBy_37 : decode cX13_costBy 37 = .ok (.aload_n 0, 1) := by decide +kernel
theorem dX13_costBy_38 : decode cX13_costBy 38 = .ok (.getfield 64, 3) := by decide +kernel
theorem dX13_costBy_41 : decode cX13_costBy 41 = .ok (.iconst 5, 1) := by decide +kernel
theorem dX13_costBy_42 : decode cX13_costBy 42 = .ok (.iload 6, 2) := by decide +kernel
theorem dX13_costBy_44 : decode cX13_costBy 44 = .ok (.iastore, 1) := by decide +kernel
theorem dX13_costBy_45 : decode cX13_costBy 45 = .ok (.aload_n 0, 1) := by decide +kernel
theorem dX13_costBy_46 : decode cX13_costBy 46 = .ok (.getfield 64, 3) := by decide +kernel
theorem dX13_costBy_49 : decode cX13_costBy 49 = .ok (.bipush 6, 2) := by decide +kernel
theorem dX13_costBy_51 : decode cX13_costBy 51 = .ok (.iload 7, 2) := by decide +kernel
theorem dX13_costBy_53 : decode cX13_costBy 53 = .ok (.iastore, 1) := by decide +kernel
theorem dX13_costBy_54 : decode cX13_costBy 54 = .ok (.aload_n 0, 1) := by decide +kernel
theorem dX13_costBy_55 : decode cX13_costBy 55 = .ok (.getfield 64, 3) := by decide +kernel
theorem dX13_costBy_58 : decode cX13_costBy 58 = .ok (.bipush 7, 2) := by decide +kernel
theorem dX13_costBy_60 : decode cX13_costBy 60 = .ok (.iload 8, 2) := by decide +kernel
theorem dX13_costBy_62 : decode cX13_costBy 62 = .ok (.iastore, 1) := by decide +kernel
theorem dX13_costBy_63 : decode cX13_costBy 63 = .ok (.aload_n 0, 1) := by decide +kernel
theorem dX13_costBy_64 : decode cX13_costBy 64 = .ok (.invokevirtual 298, 3) := by decide +kernel
theorem dX13_costBy_67 : decode cX13_costBy 67 = .ok (.ireturn, 1) := by decide +kernel
theorem dX13_costOf_0 : decode cX13_costOf 0 = .ok (.iconst 1, 1) := by decide +kernel
theorem dX13_costOf_1 : decode cX13_costOf 1 = .ok (.iload_n 2, 1) := by decide +kernel
theorem dX13_costOf_2 : decode cX13_costOf 2 = .ok (.ishl, 1) := by decide +kernel
theorem dX13_costOf_3 : decode cX13_costOf 3 = .ok (.iconst (-1), 1) := by decide +kernel
theorem dX13_costOf_4 : decode cX13_costOf 4 = .ok (.ixor, 1) := by decide +kernel
theorem dX13_costOf_5 : decode cX13_costOf 5 = .ok (.istore 4, 2) := by decide +kernel
theorem dX13_costOf_7 : decode cX13_costOf 7 = .ok (.aload_n 0, 1) := by decide +kernel
theorem dX13_costOf_8 : decode cX13_costOf 8 = .ok (.aload_n 1, 1) := by decide +kernel
theorem dX13_costOf_9 : decode cX13_costOf 9 = .ok (.sipush 384, 3) := by decide +kernel
theorem dX13_costOf_12 : decode cX13_costOf 12 = .ok (.iload_n 3, 1) := by decide +kernel
theorem dX13_costOf_13 : decode cX13_costOf 13 = .ok (.iadd, 1) := by decide +kernel
theorem dX13_costOf_14 : decode cX13_costOf 14 = .ok (.iaload, 1) := by decide +kernel
theorem dX13_costOf_15 : decode cX13_costOf 15 = .ok (.iconst 0, 1) := by decide +kernel
theorem dX13_costOf_16 : decode cX13_costOf 16 = .ok (.aload_n 0, 1) := by decide +kernel
theorem dX13_costOf_17 : decode cX13_costOf 17 = .ok (.aload_n 1, 1) := by decide +kernel
theorem dX13_costOf_18 : decode cX13_costOf 18 = .ok (.iload_n 3, 1) := by decide +kernel
theorem dX13_costOf_19 : decode cX13_costOf 19 = .ok (.invokevirtual 291, 3) := by decide +kernel
theorem dX13_costOf_22 : decode cX13_costOf 22 = .ok (.iload 4, 2) := by decide +kernel
theorem dX13_costOf_24 : decode cX13_costOf 24 = .ok (.iand, 1) := by decide +kernel
theorem dX13_costOf_25 : decode cX13_costOf 25 = .ok (.invokestatic 295, 3) := by decide +kernel
theorem dX13_costOf_28 : decode cX13_costOf 28 = .ok (.iconst 1, 1) := by decide +kernel
theorem dX13_costOf_29 : decode cX13_costOf 29 = .ok (.iadd, 1) := by decide +kernel
theorem dX13_costOf_30 : decode cX13_costOf 30 = .ok (.aload_n 0, 1) := by decide +kernel
theorem dX13_costOf_31 : decode cX13_costOf 31 = .ok (.getfield 32, 3) := by decide +kernel
theorem dX13_costOf_34 : decode cX13_costOf 34 = .ok (.iload_n 3, 1) := by decide +kernel
theorem dX13_costOf_35 : decode cX13_costOf 35 = .ok (.iaload, 1) := by decide +kernel
theorem dX13_costOf_36 : decode cX13_costOf 36 = .ok (.isub, 1) := by decide +kernel
theorem dX13_costOf_37 : decode cX13_costOf 37 = .ok (.invokestatic 262, 3) := by decide +kernel
theorem dX13_costOf_40 : decode cX13_costOf 40 = .ok (.aload_n 1, 1) := by decide +kernel
theorem dX13_costOf_41 : decode cX13_costOf 41 = .ok (.sipush 512, 3) := by decide +kernel
theorem dX13_costOf_44 : decode cX13_costOf 44 = .ok (.iload_n 2, 1) := by decide +kernel
theorem dX13_costOf_45 : decode cX13_costOf 45 = .ok (.iadd, 1) := by decide +kernel
theorem dX13_costOf_46 : decode cX13_costOf 46 = .ok (.iaload, 1) := by decide +kernel
theorem dX13_costOf_47 : decode cX13_costOf 47 = .ok (.aload_n 1, 1) := by decide +kernel
theorem dX13_costOf_48 : decode cX13_costOf 48 = .ok (.sipush 518, 3) := by decide +kernel
theorem dX13_costOf_51 : decode cX13_costOf 51 = .ok (.iaload, 1) := by decide +kernel
theorem dX13_costOf_52 : decode cX13_costOf 52 = .ok (.aload_n 0, 1) := by decide +kernel
theorem dX13_costOf_53 : decode cX13_costOf 53 = .ok (.getfield 32, 3) := by decide +kernel
theorem dX13_costOf_56 : decode cX13_costOf 56 = .ok (.iload_n 3, 1) := by decide +kernel
theorem dX13_costOf_57 : decode cX13_costOf 57 = .ok (.iaload, 1) := by decide +kernel
theorem dX13_costOf_58 : decode cX13_costOf 58 = .ok (.iload_n 3, 1) := by decide +kernel
theorem dX13_costOf_59 : decode cX13_costOf 59 = .ok (.bipush 8, 2) := by decide +kernel
theorem dX13_costOf_61 : decode cX13_costOf 61 = .ok (.irem, 1) := by decide +kernel
theorem dX13_costOf_62 : decode cX13_costOf 62 = .ok (.iload_n 3, 1) := by decide +kernel
theorem dX13_costOf_63 : decode cX13_costOf 63 = .ok (.bipush 8, 2) := by decide +kernel
theorem dX13_costOf_65 : decode cX13_costOf 65 = .ok (.idiv, 1) := by decide +kernel
theorem dX13_costOf_66 : decode cX13_costOf 66 = .ok (.aload_n 0, 1) := by decide +kernel
theorem dX13_costOf_67 : decode cX13_costOf 67 = .ok (.iload_n 3, 1) := by decide +kernel
theorem dX13_costOf_68 : decode cX13_costOf 68 = .ok (.invokevirtual 209, 3) := by decide +kernel
theorem dX13_costOf_71 : decode cX13_costOf 71 = .ok (.iload 4, 2) := by decide +kernel
theorem dX13_costOf_73 : decode cX13_costOf 73 = .ok (.iand, 1) := by decide +kernel
theorem dX13_costOf_74 : decode cX13_costOf 74 = .ok (.invokestatic 295, 3) := by decide +kernel
theorem dX13_costOf_77 : decode cX13_costOf 77 = .ok (.invokevirtual 301, 3) := by decide +kernel
theorem dX13_costOf_80 : decode cX13_costOf 80 = .ok (.ireturn, 1) := by decide +kernel
theorem dX13_count_0 : decode cX13_count 0 = .ok (.aload_n 0, 1) := by decide +kernel
theorem dX13_count_1 : decode cX13_count 1 = .ok (.iconst 0, 1) := by decide +kernel
theorem dX13_count_2 : decode cX13_count 2 = .ok (.putfield 107, 3) := by decide +kernel
theorem dX13_count_5 : decode cX13_count 5 = .ok (.iload_n 1, 1) := by decide +kernel
theorem dX13_count_6 : decode cX13_count 6 = .ok (.ifCond .ne 10, 3) := by decide +kernel
theorem dX13_count_9 : decode cX13_count 9 = .ok (.aload_n 0, 1) := by decide +kernel
theorem dX13_count_10 : decode cX13_count 10 = .ok (.getfield 224, 3) := by decide +kernel
theorem dX13_count_13 : decode cX13_count 13 = .ok (.goto 28, 3) := by decide +kernel
theorem dX13_count_16 : decode cX13_count 16 = .ok (.iload_n 1, 1) := by decide +kernel
theorem dX13_count_17 : decode cX13_count 17 = .ok (.iconst 1, 1) := by decide +kernel
theorem dX13_count_18 : decode cX13_count 18 = .ok (.if_icmp .ne 10, 3) := by decide +kernel
theorem dX13_count_21 : decode cX13_count 21 = .ok (.aload_n 0, 1) := by decide +kernel
theorem dX13_count_22 : decode cX13_count 22 = .ok (.getfield 110, 3) := by decide +kernel
theorem dX13_count_25 : decode cX13_count 25 = .ok (.goto 16, 3) := by decide +kernel
theorem dX13_count_28 : decode cX13_count 28 = .ok (.iload_n 1, 1) := by decide +kernel
theorem dX13_count_29 : decode cX13_count 29 = .ok (.iconst 2, 1) := by decide +kernel
theorem dX13_count_30 : decode cX13_count 30 = .ok (.if_icmp .ne 10, 3) := by decide +kernel
theorem dX13_count_33 : decode cX13_count 33 = .ok (.aload_n 0, 1) := by decide +kernel
theorem dX13_count_34 : decode cX13_count 34 = .ok (.getfield 218, 3) := by decide +kernel
theorem dX13_count_37 : decode cX13_count 37 = .ok (.goto 4, 3) := by decide +kernel
theorem dX13_count_40 : decode cX13_count 40 = .ok (.iconst (-1), 1) := by decide +kernel
theorem dX13_count_41 : decode cX13_count 41 = .ok (.ireturn, 1) := by decide +kernel
theorem dX13_countsUses_0 : decode cX13_countsUses 0 = .ok (.iconst 0, 1) := by decide +kernel
theorem dX13_countsUses_1 : decode cX13_countsUses 1 = .ok (.istore_n 1, 1) := by decide +kernel
theorem dX13_countsUses_2 : decode cX13_countsUses 2 = .ok (.iload_n 1, 1) := by decide +kernel
theorem dX13_countsUses_3 : decode cX13_countsUses 3 = .ok (.bipush 64, 2) := by decide +kernel
theorem dX13_countsUses_5 : decode cX13_countsUses 5 = .ok (.if_icmp .ge 32, 3) := by decide +kernel
theorem dX13_countsUses_8 : decode cX13_countsUses 8 = .ok (.iconst 0, 1) := by decide +kernel
theorem dX13_countsUses_9 : decode cX13_countsUses 9 = .ok (.istore_n 2, 1) := by decide +kernel
theorem dX13_countsUses_10 : decode cX13_countsUses 10 = .ok (.iload_n 2, 1) := by decide +kernel
theorem dX13_countsUses_11 : decode cX13_countsUses 11 = .ok (.bipush 6, 2) := by decide +kernel
theorem dX13_countsUses_13 : decode cX13_countsUses 13 = .ok (.if_icmp .gt 18, 3) := by decide +kernel
theorem dX13_countsUses_16 : decode cX13_countsUses 16 = .ok (.aload_n 0, 1) := by decide +kernel
theorem dX13_countsUses_17 : decode cX13_countsUses 17 = .ok (.getfield 98, 3) := by decide +kernel
theorem dX13_countsUses_20 : decode cX13_countsUses 20 = .ok (.iload_n 1, 1) := by decide +kernel
theorem dX13_countsUses_21 : decode cX13_countsUses 21 = .ok (.aaload, 1) := by decide +kernel
theorem dX13_countsUses_22 : decode cX13_countsUses 22 = .ok (.iload_n 2, 1) := by decide +kernel
theorem dX13_countsUses_23 : decode cX13_countsUses 23 = .ok (.iconst 0, 1) := by decide +kernel
theorem dX13_countsUses_24 : decode cX13_countsUses 24 = .ok (.iastore, 1) := by decide +kernel
theorem dX13_countsUses_25 : decode cX13_countsUses 25 = .ok (.iinc 2 1, 3) := by decide +kernel
theorem dX13_countsUses_28 : decode cX13_countsUses 28 = .ok (.goto (-18), 3) := by decide +kernel
theorem dX13_countsUses_31 : decode cX13_countsUses 31 = .ok (.iinc 1 1, 3) := by decide +kernel
theorem dX13_countsUses_34 : decode cX13_countsUses 34 = .ok (.goto (-32), 3) := by decide +kernel
theorem dX13_countsUses_37 : decode cX13_countsUses 37 = .ok (.iconst 0, 1) := by decide +kernel
theorem dX13_countsUses_38 : decode cX13_countsUses 38 = .ok (.istore_n 1, 1) := by decide +kernel
theorem dX13_countsUses_39 : decode cX13_countsUses 39 = .ok (.iload_n 1, 1) := by decide +kernel
theorem dX13_countsUses_40 : decode cX13_countsUses 40 = .ok (.aload_n 0, 1) := by decide +kernel
theorem dX13_countsUses_41 : decode cX13_countsUses 41 = .ok (.getfield 23, 3) := by decide +kernel
theorem dX13_countsUses_44 : decode cX13_countsUses 44 = .ok (.iconst 2, 1) := by decide +kernel
theorem dX13_countsUses_45 : decode cX13_countsUses 45 = .ok (.iaload, 1) := by decide +kernel
theorem dX13_countsUses_46 : decode cX13_countsUses 46 = .ok (.if_icmp .ge 68, 3) := by decide +kernel
theorem dX13_countsUses_49 : decode cX13_countsUses 49 = .ok (.iconst 0, 1) := by decide +kernel
theorem dX13_countsUses_50 : decode cX13_countsUses 50 = .ok (.istore_n 2, 1) := by decide +kernel
theorem dX13_countsUses_51 : decode cX13_countsUses 51 = .ok (.iload_n 2, 1) := by decide +kernel
theorem dX13_countsUses_52 : decode cX13_countsUses 52 = .ok (.iconst 2, 1) := by decide +kernel
theorem dX13_countsUses_53 : decode cX13_countsUses 53 = .ok (.if_icmp .ge 55, 3) := by decide +kernel
theorem dX13_countsUses_56 : decode cX13_countsUses 56 = .ok (.aload_n 0, 1) := by decide +kernel
theorem dX13_countsUses_57 : decode cX13_countsUses 57 = .ok (.iload_n 1, 1) := by decide +kernel
theorem dX13_countsUses_58 : decode cX13_countsUses 58 = .ok (.iload_n 2, 1) := by decide +kernel
theorem dX13_countsUses_59 : decode cX13_countsUses 59 = .ok (.invokevirtual 434, 3) := by decide +kernel
theorem dX13_countsUses_62 : decode cX13_countsUses 62 = .ok (.ifCond .eq 40, 3) := by decide +kernel
theorem dX13_countsUses_65 : decode cX13_countsUses 65 = .ok (.iconst 0, 1) := by decide +kernel
theorem dX13_countsUses_66 : decode cX13_countsUses 66 = .ok (.istore_n 3, 1) := by decide +kernel
theorem dX13_countsUses_67 : decode cX13_countsUses 67 = .ok (.iload_n 3, 1) := by decide +kernel
theorem dX13_countsUses_68 : decode cX13_countsUses 68 = .ok (.bipush 64, 2) := by decide +kernel
theorem dX13_countsUses_70 : decode cX13_countsUses 70 = .ok (.if_icmp .ge 32, 3) := by decide +kernel
theorem dX13_countsUses_73 : decode cX13_countsUses 73 = .ok (.aload_n 0, 1) := by decide +kernel
theorem dX13_countsUses_74 : decode cX13_countsUses 74 = .ok (.getfield 98, 3) := by decide +kernel
theorem dX13_countsUses_77 : decode cX13_countsUses 77 = .ok (.iload_n 3, 1) := by decide +kernel
theorem dX13_countsUses_78 : decode cX13_countsUses 78 = .ok (.aaload, 1) := by decide +kernel
theorem dX13_countsUses_79 : decode cX13_countsUses 79 = .ok (.aload_n 0, 1) := by decide +kernel
theorem dX13_countsUses_80 : decode cX13_countsUses 80 = .ok (.aload_n 0, 1) := by decide +kernel
theorem dX13_countsUses_81 : decode cX13_countsUses 81 = .ok (.getfield 76, 3) := by decide +kernel
theorem dX13_countsUses_84 : decode cX13_countsUses 84 = .ok (.iload_n 3, 1) := by decide +kernel
theorem dX13_countsUses_85 : decode cX13_countsUses 85 = .ok (.invokevirtual 291, 3) := by decide +kernel
theorem dX13_countsUses_88 : decode cX13_countsUses 88 = .ok (.invokestatic 295, 3) := by decide +kernel
theorem dX13_countsUses_91 : decode cX13_countsUses 91 = .ok (.dup2, 1) := by decide +kernel
theorem dX13_countsUses_92 : decode cX13_countsUses 92 = .ok (.iaload, 1) := by decide +kernel
theorem dX13_countsUses_93 : decode cX13_countsUses 93 = .ok (.iconst 1, 1) := by decide +kernel
theorem dX13_countsUses_94 : decode cX13_countsUses 94 = .ok (.iadd, 1) := by decide +kernel
theorem dX13_countsUses_95 : decode cX13_countsUses 95 = .ok (.iastore, 1) := by decide +kernel
theorem dX13_countsUses_96 : decode cX13_countsUses 96 = .ok (.iinc 3 1, 3) := by decide +kernel
theorem dX13_countsUses_99 : decode cX13_countsUses 99 = .ok (.goto (-32), 3) := by decide +kernel
theorem dX13_countsUses_102 : decode cX13_countsUses 102 = .ok (.iinc 2 1, 3) := by decide +kernel
theorem dX13_countsUses_105 : decode cX13_countsUses 105 = .ok (.goto (-54), 3) := by decide +kernel
theorem dX13_countsUses_108 : decode cX13_countsUses 108 = .ok (.iinc 1 1, 3) := by decide +kernel
theorem dX13_countsUses_111 : decode cX13_countsUses 111 = .ok (.goto (-72), 3) := by decide +kernel
theorem dX13_countsUses_114 : decode cX13_countsUses 114 = .ok (.return_, 1) := by decide +kernel
theorem dX13_crits_0 : decode cX13_crits 0 = .ok (.aload_n 0, 1) := by decide +kernel
theorem dX13_crits_1 : decode cX13_crits 1 = .ok (.sipush 512, 3) := by decide +kernel
theorem dX13_crits_4 : decode cX13_crits 4 = .ok (.iload_n 1, 1) := by decide +kernel
theorem dX13_crits_5 : decode cX13_crits 5 = .ok (.iadd, 1) := by decide +kernel
theorem dX13_crits_6 : decode cX13_crits 6 = .ok (.iaload, 1) := by decide +kernel
theorem dX13_crits_7 : decode cX13_crits 7 = .ok (.iload_n 2, 1) := by decide +kernel
theorem dX13_crits_8 : decode cX13_crits 8 = .ok (.if_icmp .ne 5, 3) := by decide +kernel
theorem dX13_crits_11 : decode cX13_crits 11 = .ok (.iconst 0, 1) := by decide +kernel
theorem dX13_crits_12 : decode cX13_crits 12 = .ok (.ireturn, 1) := by decide +kernel
theorem dX13_crits_13 : decode cX13_crits 13 = .ok (.aload_n 0, 1) := by decide +kernel
theorem dX13_crits_14 : decode cX13_crits 14 = .ok (.sipush 512, 3) := by decide +kernel
theorem dX13_crits_17 : decode cX13_crits 17 = .ok (.iload_n 1, 1) := by decide +kernel
theorem dX13_crits_18 : decode cX13_crits 18 = .ok (.iadd, 1) := by decide +kernel
theorem dX13_crits_19 : decode cX13_crits 19 = .ok (.iload_n 2, 1) := by decide +kernel
theorem dX13_crits_20 : decode cX13_crits 20 = .ok (.iastore, 1) := by decide +kernel
theorem dX13_crits_21 : decode cX13_crits 21 = .ok (.iconst 1, 1) := by decide +kernel
theorem dX13_crits_22 : decode cX13_crits 22 = .ok (.ireturn, 1) := by decide +kernel
theorem dX13_crowd_0 : decode cX13_crowd 0 = .ok (.aload_n 0, 1) := by decide +kernel
theorem dX13_crowd_1 : decode cX13_crowd 1 = .ok (.iconst 0, 1) := by decide +kernel
theorem dX13_crowd_2 : decode cX13_crowd 2 = .ok (.putfield 107, 3) := by decide +kernel
theorem dX13_crowd_5 : decode cX13_crowd 5 = .ok (.aload_n 0, 1) := by decide +kernel
theorem dX13_crowd_6 : decode cX13_crowd 6 = .ok (.iload_n 1, 1) := by decide +kernel
theorem dX13_crowd_7 : decode cX13_crowd 7 = .ok (.iconst 0, 1) := by decide +kernel
theorem dX13_crowd_8 : decode cX13_crowd 8 = .ok (.iconst 1, 1) := by decide +kernel
theorem dX13_crowd_9 : decode cX13_crowd 9 = .ok (.invokestatic 141, 3) := by decide +kernel
theorem dX13_crowd_12 : decode cX13_crowd 12 = .ok (.ifCond .ne 7, 3) := by decide +kernel
theorem dX13_crowd_15 : decode cX13_crowd 15 = .ok (.iconst 1, 1) := by decide +kernel
theorem dX13_crowd_16 : decode cX13_crowd 16 = .ok (.goto 4, 3) := by decide +kernel
theorem dX13_crowd_19 : decode cX13_crowd 19 = .ok (.iconst 0, 1) := by decide +kernel
theorem dX13_crowd_20 : decode cX13_crowd 20 = .ok (.iconst 1, 1) := by decide +kernel
theorem dX13_crowd_21 : decode cX13_crowd 21 = .ok (.iconst 1, 1) := by decide +kernel
theorem dX13_crowd_22 : decode cX13_crowd 22 = .ok (.invokevirtual 186, 3) := by decide +kernel
theorem dX13_crowd_25 : decode cX13_crowd 25 = .ok (.ifCond .eq 5, 3) := by decide +kernel
theorem dX13_crowd_28 : decode cX13_crowd 28 = .ok (.iconst 0, 1) := by decide +kernel
theorem dX13_crowd_29 : decode cX13_crowd 29 = .ok (.ireturn, 1) := by decide +kernel
theorem dX13_crowd_30 : decode cX13_crowd 30 = .ok (.iconst 0, 1) := by decide +kernel
theorem dX13_crowd_31 : decode cX13_crowd 31 = .ok (.istore_n 2, 1) := by decide +kernel
theorem dX13_crowd_32 : decode cX13_crowd 32 = .ok (.iconst 0, 1) := by decide +kernel
theorem dX13_crowd_33 : decode cX13_crowd 33 = .ok (.istore_n 3, 1) := by decide +kernel
theorem dX13_crowd_34 : decode cX13_crowd 34 = .ok (.iload_n 3, 1) := by decide +kernel
theorem dX13_crowd_35 : decode cX13_crowd 35 = .ok (.bipush 64, 2) := by decide +kernel
theorem dX13_crowd_37 : decode cX13_crowd 37 = .ok (.if_icmp .ge 42, 3) := by decide +kernel
theorem dX13_crowd_40 : decode cX13_crowd 40 = .ok (.aload_n 0, 1) := by decide +kernel
theorem dX13_crowd_41 : decode cX13_crowd 41 = .ok (.aload_n 0, 1) := by decide +kernel
theorem dX13_crowd_42 : decode cX13_crowd 42 = .ok (.getfield 70, 3) := by decide +kernel
theorem dX13_crowd_45 : decode cX13_crowd 45 = .ok (.iload_n 3, 1) := by decide +kernel
theorem dX13_crowd_46 : decode cX13_crowd 46 = .ok (.invokevirtual 291, 3) := by decide +kernel
theorem dX13_crowd_49 : decode cX13_crowd 49 = .ok (.invokestatic 295, 3) := by decide +kernel
theorem dX13_crowd_52 : decode cX13_crowd 52 = .ok (.aload_n 0, 1) := by decide +kernel
theorem dX13_crowd_53 : decode cX13_crowd 53 = .ok (.aload_n 0, 1) := by decide +kernel
theorem dX13_crowd_54 : decode cX13_crowd 54 = .ok (.getfield 70, 3) := by decide +kernel
theorem dX13_crowd_57 : decode cX13_crowd 57 = .ok (.iload_n 2, 1) := by decide +kernel
theorem dX13_crowd_58 : decode cX13_crowd 58 = .ok (.invokevirtual 291, 3) := by decide +kernel
theorem dX13_crowd_61 : decode cX13_crowd 61 = .ok (.invokestatic 295, 3) := by decide +kernel
theorem dX13_crowd_64 : decode cX13_crowd 64 = .ok (.if_icmp .le 7, 3) := by decide +kernel
theorem dX13_crowd_67 : decode cX13_crowd 67 = .ok (.iload_n 3, 1) := by decide +kernel
theorem dX13_crowd_68 : decode cX13_crowd 68 = .ok (.goto 4, 3) := by decide +kernel
theorem dX13_crowd_71 : decode cX13_crowd 71 = .ok (.iload_n 2, 1) := by decide +kernel
theorem dX13_crowd_72 : decode cX13_crowd 72 = .ok (.istore_n 2, 1) := by decide +kernel
theorem dX13_crowd_73 : decode cX13_crowd 73 = .ok (.iinc 3 1, 3) := by decide +kernel
theorem dX13_crowd_76 : decode cX13_crowd 76 = .ok (.goto (-42), 3) := by decide +kernel
theorem dX13_crowd_79 : decode cX13_crowd 79 = .ok (.iload_n 1, 1) := by decide +kernel
theorem dX13_crowd_80 : decode cX13_crowd 80 = .ok (.ifCond .ne 10, 3) := by decide +kernel
theorem dX13_crowd_83 : decode cX13_crowd 83 = .ok (.iload_n 2, 1) := by decide +kernel
theorem dX13_crowd_84 : decode cX13_crowd 84 = .ok (.invokestatic 443, 3) := by decide +kernel
theorem dX13_crowd_87 : decode cX13_crowd 87 = .ok (.goto 15, 3) := by decide +kernel
theorem dX13_crowd_90 : decode cX13_crowd 90 = .ok (.aload_n 0, 1) := by decide +kernel
theorem dX13_crowd_91 : decode cX13_crowd 91 = .ok (.aload_n 0, 1) := by decide +kernel
theorem dX13_crowd_92 : decode cX13_crowd 92 = .ok (.getfield 70, 3) := by decide +kernel
theorem dX13_crowd_95 : decode cX13_crowd 95 = .ok (.iload_n 2, 1) := by decide +kernel
theorem dX13_crowd_96 : decode cX13_crowd 96 = .ok (.invokevirtual 291, 3) := by decide +kernel
theorem dX13_crowd_99 : decode cX13_crowd 99 = .ok (.invokestatic 295, 3) := by decide +kernel
theorem dX13_crowd_102 : decode cX13_crowd 102 = .ok (.ireturn, 1) := by decide +kernel
theorem dX13_dear_0 : decode cX13_dear 0 = .ok (.aload_n 0, 1) := by decide +kernel
theorem dX13_dear_1 : decode cX13_dear 1 = .ok (.iconst 0, 1) := by decide +kernel
theorem dX13_dear_2 : decode cX13_dear 2 = .ok (.putfield 107, 3) := by decide +kernel
theorem dX13_dear_5 : decode cX13_dear 5 = .ok (.aload_n 0, 1) := by decide +kernel
theorem dX13_dear_6 : decode cX13_dear 6 = .ok (.aload_n 0, 1) := by decide +kernel
theorem dX13_dear_7 : decode cX13_dear 7 = .ok (.iload_n 1, 1) := by decide +kernel
theorem dX13_dear_8 : decode cX13_dear 8 = .ok (.invokevirtual 412, 3) := by decide +kernel
theorem dX13_dear_11 : decode cX13_dear 11 = .ok (.ifCond .ne 7, 3) := by decide +kernel
theorem dX13_dear_14 : decode cX13_dear 14 = .ok (.iconst 1, 1) := by decide +kernel
theorem dX13_dear_15 : decode cX13_dear 15 = .ok (.goto 4, 3) := by decide +kernel
theorem dX13_dear_18 : decode cX13_dear 18 = .ok (.iconst 0, 1) := by decide +kernel
theorem dX13_dear_19 : decode cX13_dear 19 = .ok (.iconst 1, 1) := by decide +kernel
theorem dX13_dear_20 : decode cX13_dear 20 = .ok (.iconst 0, 1) := by decide +kernel
theorem dX13_dear_21 : decode cX13_dear 21 = .ok (.invokevirtual 186, 3) := by decide +kernel
theorem dX13_dear_24 : decode cX13_dear 24 = .ok (.ifCond .eq 5, 3) := by decide +kernel
theorem dX13_dear_27 : decode cX13_dear 27 = .ok (.iconst 0, 1) := by decide +kernel
theorem dX13_dear_28 : decode cX13_dear 28 = .ok (.ireturn, 1) := by decide +kernel
theorem dX13_dear_29 : decode cX13_dear 29 = .ok (.iconst 0, 1) := by decide +kernel
theorem dX13_dear_30 : decode cX13_dear 30 = .ok (.istore_n 2, 1) := by decide +kernel
theorem dX13_dear_31 : decode cX13_dear 31 = .ok (.iconst 0, 1) := by decide +kernel
theorem dX13_dear_32 : decode cX13_dear 32 = .ok (.istore_n 3, 1) := by decide +kernel
theorem dX13_dear_33 : decode cX13_dear 33 = .ok (.iload_n 3, 1) := by decide +kernel
theorem dX13_dear_34 : decode cX13_dear 34 = .ok (.bipush 64, 2) := by decide +kernel
theorem dX13_dear_36 : decode cX13_dear 36 = .ok (.if_icmp .ge 52, 3) := by decide +kernel
theorem dX13_dear_39 : decode cX13_dear 39 = .ok (.iload_n 2, 1) := by decide +kernel
theorem dX13_dear_40 : decode cX13_dear 40 = .ok (.aload_n 0, 1) := by decide +kernel
theorem dX13_dear_41 : decode cX13_dear 41 = .ok (.getfield 70, 3) := by decide +kernel
theorem dX13_dear_44 : decode cX13_dear 44 = .ok (.iload_n 1, 1) := by decide +kernel
theorem dX13_dear_45 : decode cX13_dear 45 = .ok (.iload_n 3, 1) := by decide +kernel
theorem dX13_dear_46 : decode cX13_dear 46 = .ok (.invokestatic 287, 3) := by decide +kernel
theorem dX13_dear_49 : decode cX13_dear 49 = .ok (.ifCond .eq 30, 3) := by decide +kernel
theorem dX13_dear_52 : decode cX13_dear 52 = .ok (.aload_n 0, 1) := by decide +kernel
theorem dX13_dear_53 : decode cX13_dear 53 = .ok (.getfield 70, 3) := by decide +kernel
theorem dX13_dear_56 : decode cX13_dear 56 = .ok (.iload_n 1, 1) := by decide +kernel
theorem dX13_dear_57 : decode cX13_dear 57 = .ok (.iload_n 3, 1) := by decide +kernel
theorem dX13_dear_58 : decode cX13_dear 58 = .ok (.invokestatic 284, 3) := by decide +kernel
theorem dX13_dear_61 : decode cX13_dear 61 = .ok (.iaload, 1) := by decide +kernel
theorem dX13_dear_62 : decode cX13_dear 62 = .ok (.iconst 4, 1) := by decide +kernel
theorem dX13_dear_63 : decode cX13_dear 63 = .ok (.if_icmp .eq 16, 3) := by decide +kernel
theorem dX13_dear_66 : decode cX13_dear 66 = .ok (.aload_n 0, 1) := by decide +kernel
theorem dX13_dear_67 : decode cX13_dear 67 = .ok (.aload_n 0, 1) := by decide +kernel
theorem dX13_dear_68 : decode cX13_dear 68 = .ok (.getfield 70, 3) := by decide +kernel
theorem dX13_dear_71 : decode cX13_dear 71 = .ok (.iload_n 1, 1) := by decide +kernel
theorem dX13_dear_72 : decode cX13_dear 72 = .ok (.iload_n 3, 1) := by decide +kernel
theorem dX13_dear_73 : decode cX13_dear 73 = .ok (.invokevirtual 305, 3) := by decide +kernel
theorem dX13_dear_76 : decode cX13_dear 76 = .ok (.goto 4, 3) := by decide +kernel
theorem dX13_dear_79 : decode cX13_dear 79 = .ok (.iconst 0, 1) := by decide +kernel
theorem dX13_dear_80 : decode cX13_dear 80 = .ok (.iadd, 1) := by decide +kernel
theorem dX13_dear_81 : decode cX13_dear 81 = .ok (.istore_n 2, 1) := by decide +kernel
theorem dX13_dear_82 : decode cX13_dear 82 = .ok (.iinc 3 1, 3) := by decide +kernel
theorem dX13_dear_85 : decode cX13_dear 85 = .ok (.goto (-52), 3) := by decide +kernel
theorem dX13_dear_88 : decode cX13_dear 88 = .ok (.iload_n 2, 1) := by decide +kernel
theorem dX13_dear_89 : decode cX13_dear 89 = .ok (.ireturn, 1) := by decide +kernel
theorem dX13_delay_0 : decode cX13_delay 0 = .ok (.iconst 0, 1) := by decide +kernel
theorem dX13_delay_1 : decode cX13_delay 1 = .ok (.istore_n 3, 1) := by decide +kernel
theorem dX13_delay_2 : decode cX13_delay 2 = .ok (.iconst 0, 1) := by decide +kernel
theorem dX13_delay_3 : decode cX13_delay 3 = .ok (.istore 4, 2) := by decide +kernel
theorem dX13_delay_5 : decode cX13_delay 5 = .ok (.iload 4, 2) := by decide +kernel
theorem dX13_delay_7 : decode cX13_delay 7 = .ok (.aload_n 0, 1) := by decide +kernel
theorem dX13_delay_8 : decode cX13_delay 8 = .ok (.getfield 40, 3) := by decide +kernel
theorem dX13_delay_11 : decode cX13_delay 11 = .ok (.iload_n 2, 1) := by decide +kernel
theorem dX13_delay_12 : decode cX13_delay 12 = .ok (.aaload, 1) := by decide +kernel
theorem dX13_delay_13 : decode cX13_delay 13 = .ok (.iconst 2, 1) := by decide +kernel
theorem dX13_delay_14 : decode cX13_delay 14 = .ok (.iaload, 1) := by decide +kernel
theorem dX13_delay_15 : decode cX13_delay 15 = .ok (.if_icmp .ge 50, 3) := by decide +kernel
theorem dX13_delay_18 : decode cX13_delay 18 = .ok (.aload_n 1, 1) := by decide +kernel
theorem dX13_delay_19 : decode cX13_delay 19 = .ok (.iload_n 2, 1) := by decide +kernel
theorem dX13_delay_20 : decode cX13_delay 20 = .ok (.aload_n 0, 1) := by decide +kernel
theorem dX13_delay_21 : decode cX13_delay 21 = .ok (.getfield 46, 3) := by decide +kernel
theorem dX13_delay_24 : decode cX13_delay 24 = .ok (.iload_n 2, 1) := by decide +kernel
theorem dX13_delay_25 : decode cX13_delay 25 = .ok (.aaload, 1) := by decide +kernel
theorem dX13_delay_26 : decode cX13_delay 26 = .ok (.iload 4, 2) := by decide +kernel
theorem dX13_delay_28 : decode cX13_delay 28 = .ok (.iaload, 1) := by decide +kernel
theorem dX13_delay_29 : decode cX13_delay 29 = .ok (.invokestatic 287, 3) := by decide +kernel
theorem dX13_delay_32 : decode cX13_delay 32 = .ok (.ifCond .eq 25, 3) := by decide +kernel
theorem dX13_delay_35 : decode cX13_delay 35 = .ok (.iload_n 3, 1) := by decide +kernel
theorem dX13_delay_36 : decode cX13_delay 36 = .ok (.aload_n 0, 1) := by decide +kernel
theorem dX13_delay_37 : decode cX13_delay 37 = .ok (.aload_n 1, 1) := by decide +kernel
theorem dX13_delay_38 : decode cX13_delay 38 = .ok (.iload_n 2, 1) := by decide +kernel
theorem dX13_delay_39 : decode cX13_delay 39 = .ok (.aload_n 0, 1) := by decide +kernel
theorem dX13_delay_40 : decode cX13_delay 40 = .ok (.getfield 46, 3) := by decide +kernel
theorem dX13_delay_43 : decode cX13_delay 43 = .ok (.iload_n 2, 1) := by decide +kernel
theorem dX13_delay_44 : decode cX13_delay 44 = .ok (.aaload, 1) := by decide +kernel
theorem dX13_delay_45 : decode cX13_delay 45 = .ok (.iload 4, 2) := by decide +kernel
theorem dX13_delay_47 : decode cX13_delay 47 = .ok (.iaload, 1) := by decide +kernel
theorem dX13_delay_48 : decode cX13_delay 48 = .ok (.invokevirtual 390, 3) := by decide +kernel
theorem dX13_delay_51 : decode cX13_delay 51 = .ok (.invokestatic 262, 3) := by decide +kernel
theorem dX13_delay_54 : decode cX13_delay 54 = .ok (.goto 4, 3) := by decide +kernel
theorem dX13_delay_57 : decode cX13_delay 57 = .ok (.iload_n 3, 1) := by decide +kernel
theorem dX13_delay_58 : decode cX13_delay 58 = .ok (.istore_n 3, 1) := by decide +kernel
theorem dX13_delay_59 : decode cX13_delay 59 = .ok (.iinc 4 1, 3) := by decide +kernel
theorem dX13_delay_62 : decode cX13_delay 62 = .ok (.goto (-57), 3) := by decide +kernel
theorem dX13_delay_65 : decode cX13_delay 65 = .ok (.iload_n 3, 1) := by decide +kernel
theorem dX13_delay_66 : decode cX13_delay 66 = .ok (.ireturn, 1) := by decide +kernel
theorem dX13_dist_0 : decode cX13_dist 0 = .ok (.aload_n 0, 1) := by decide +kernel
theorem dX13_dist_1 : decode cX13_dist 1 = .ok (.iconst 0, 1) := by decide +kernel
theorem dX13_dist_2 : decode cX13_dist 2 = .ok (.putfield 107, 3) := by decide +kernel
theorem dX13_dist_5 : decode cX13_dist 5 = .ok (.aload_n 0, 1) := by decide +kernel
theorem dX13_dist_6 : decode cX13_dist 6 = .ok (.aload_n 0, 1) := by decide +kernel
theorem dX13_dist_7 : decode cX13_dist 7 = .ok (.iload_n 1, 1) := by decide +kernel
theorem dX13_dist_8 : decode cX13_dist 8 = .ok (.invokevirtual 412, 3) := by decide +kernel
theorem dX13_dist_11 : decode cX13_dist 11 = .ok (.ifCond .eq 12, 3) := by decide +kernel
theorem dX13_dist_14 : decode cX13_dist 14 = .ok (.aload_n 0, 1) := by decide +kernel
theorem dX13_dist_15 : decode cX13_dist 15 = .ok (.iload_n 2, 1) := by decide +kernel
theorem dX13_dist_16 : decode cX13_dist 16 = .ok (.iload_n 3, 1) := by decide +kernel
theorem dX13_dist_17 : decode cX13_dist 17 = .ok (.invokevirtual 281, 3) := by decide +kernel
theorem dX13_dist_20 : decode cX13_dist 20 = .ok (.ifCond .ne 7, 3) := by decide +kernel
theorem dX13_dist_23 : decode cX13_dist 23 = .ok (.iconst 1, 1) := by decide +kernel
theorem dX13_dist_24 : decode cX13_dist 24 = .ok (.goto 4, 3) := by decide +kernel
theorem dX13_dist_27 : decode cX13_dist 27 = .ok (.iconst 0, 1) := by decide +kernel
theorem dX13_dist_28 : decode cX13_dist 28 = .ok (.iconst 1, 1) := by decide +kernel
theorem dX13_dist_29 : decode cX13_dist 29 = .ok (.iconst 0, 1) := by decide +kernel
theorem dX13_dist_30 : decode cX13_dist 30 = .ok (.invokevirtual 186, 3) := by decide +kernel
theorem dX13_dist_33 : decode cX13_dist 33 = .ok (.ifCond .eq 5, 3) := by decide +kernel
theorem dX13_dist_36 : decode cX13_dist 36 = .ok (.iconst 0, 1) := by decide +kernel
theorem dX13_dist_37 : decode cX13_dist 37 = .ok (.ireturn, 1) := by decide +kernel
theorem dX13_dist_38 : decode cX13_dist 38 = .ok (.aload_n 0, 1) := by decide +kernel
theorem dX13_dist_39 : decode cX13_dist 39 = .ok (.aload_n 0, 1) := by decide +kernel
theorem dX13_dist_40 : decode cX13_dist 40 = .ok (.getfield 70, 3) := by decide +kernel
theorem dX13_dist_43 : decode cX13_dist 43 = .ok (.iload_n 1, 1) := by decide +kernel
theorem dX13_dist_44 : decode cX13_dist 44 = .ok (.invokevirtual 316, 3) := by decide +kernel
theorem dX13_dist_47 : decode cX13_dist 47 = .ok (.aload_n 0, 1) := by decide +kernel
theorem dX13_dist_48 : decode cX13_dist 48 = .ok (.getfield 85, 3) := by decide +kernel
theorem dX13_dist_51 : decode cX13_dist 51 = .ok (.bipush 8, 2) := by decide +kernel
theorem dX13_dist_53 : decode cX13_dist 53 = .ok (.iload_n 3, 1) := by decide +kernel
theorem dX13_dist_54 : decode cX13_dist 54 = .ok (.imul, 1) := by decide +kernel
theorem dX13_dist_55 : decode cX13_dist 55 = .ok (.iload_n 2, 1) := by decide +kernel
theorem dX13_dist_56 : decode cX13_dist 56 = .ok (.iadd, 1) := by decide +kernel
theorem dX13_dist_57 : decode cX13_dist 57 = .ok (.iaload, 1) := by decide +kernel
theorem dX13_dist_58 : decode cX13_dist 58 = .ok (.ireturn, 1) := by decide +kernel
theorem dX13_does_0 : decode cX13_does 0 = .ok (.aload_n 2, 1) := by decide +kernel
theorem dX13_does_1 : decode cX13_does 1 = .ok (.iconst 0, 1) := by decide +kernel
theorem dX13_does_2 : decode cX13_does 2 = .ok (.iaload, 1) := by decide +kernel
theorem dX13_does_3 : decode cX13_does 3 = .ok (.tableswitch 91 0 4 #[33, 53, 62, 71, 82], 33) := by decide +kernel
theorem dX13_does_36 : decode cX13_does 36 = .ok (.aload_n 1, 1) := by decide +kernel
theorem dX13_does_37 : decode cX13_does 37 = .ok (.sipush 518, 3) := by decide +kernel
theorem dX13_does_40 : decode cX13_does 40 = .ok (.iaload, 1) := by decide +kernel
theorem dX13_does_41 : decode cX13_does 41 = .ok (.sipush 400, 3) := by decide +kernel
theorem dX13_does_44 : decode cX13_does 44 = .ok (.if_icmp .lt 5, 3) := by decide +kernel
theorem dX13_does_47 : decode cX13_does 47 = .ok (.iconst 0, 1) := by decide +kernel
theorem dX13_does_48 : decode cX13_does 48 = .ok (.ireturn, 1) := by decide +kernel
theorem dX13_does_49 : decode cX13_does 49 = .ok (.aload_n 0, 1) := by decide +kernel
theorem dX13_does_50 : decode cX13_does 50 = .ok (.aload_n 1, 1) := by decide +kernel
theorem dX13_does_51 : decode cX13_does 51 = .ok (.invokevirtual 347, 3) := by decide +kernel
theorem dX13_does_54 : decode cX13_does 54 = .ok (.iconst 1, 1) := by decide +kernel
theorem dX13_does_55 : decode cX13_does 55 = .ok (.ireturn, 1) := by decide +kernel
theorem dX13_does_56 : decode cX13_does 56 = .ok (.aload_n 0, 1) := by decide +kernel
theorem dX13_does_57 : decode cX13_does 57 = .ok (.aload_n 1, 1) := by decide +kernel
theorem dX13_does_58 : decode cX13_does 58 = .ok (.aload_n 2, 1) := by decide +kernel
theorem dX13_does_59 : decode cX13_does 59 = .ok (.iconst 1, 1) := by decide +kernel
theorem dX13_does_60 : decode cX13_does 60 = .ok (.iaload, 1) := by decide +kernel
theorem dX13_does_61 : decode cX13_does 61 = .ok (.invokevirtual 351, 3) := by decide +kernel
theorem dX13_does_64 : decode cX13_does 64 = .ok (.ireturn, 1) := by decide +kernel
theorem dX13_does_65 : decode cX13_does 65 = .ok (.aload_n 0, 1) := by decide +kernel
theorem dX13_does_66 : decode cX13_does 66 = .ok (.aload_n 1, 1) := by decide +kernel
theorem dX13_does_67 : decode cX13_does 67 = .ok (.aload_n 2, 1) := by decide +kernel
theorem dX13_does_68 : decode cX13_does 68 = .ok (.iconst 1, 1) := by decide +kernel
theorem dX13_does_69 : decode cX13_does 69 = .ok (.iaload, 1) := by decide +kernel
theorem dX13_does_70 : decode cX13_does 70 = .ok (.invokevirtual 354, 3) := by decide +kernel
theorem dX13_does_73 : decode cX13_does 73 = .ok (.ireturn, 1) := by decide +kernel
theorem dX13_does_74 : decode cX13_does 74 = .ok (.aload_n 1, 1) := by decide +kernel
theorem dX13_does_75 : decode cX13_does 75 = .ok (.aload_n 2, 1) := by decide +kernel
theorem dX13_does_76 : decode cX13_does 76 = .ok (.iconst 1, 1) := by decide +kernel
theorem dX13_does_77 : decode cX13_does 77 = .ok (.iaload, 1) := by decide +kernel
theorem dX13_does_78 : decode cX13_does 78 = .ok (.aload_n 2, 1) := by decide +kernel
theorem dX13_does_79 : decode cX13_does 79 = .ok (.iconst 2, 1) := by decide +kernel
theorem dX13_does_80 : decode cX13_does 80 = .ok (.iaload, 1) := by decide +kernel
theorem dX13_does_81 : decode cX13_does 81 = .ok (.invokestatic 357, 3) := by decide +kernel
theorem dX13_does_84 : decode cX13_does 84 = .ok (.ireturn, 1) := by decide +kernel
theorem dX13_does_85 : decode cX13_does 85 = .ok (.aload_n 0, 1) := by decide +kernel
theorem dX13_does_86 : decode cX13_does 86 = .ok (.aload_n 1, 1) := by decide +kernel
theorem dX13_does_87 : decode cX13_does 87 = .ok (.aload_n 2, 1) := by decide +kernel
theorem dX13_does_88 : decode cX13_does 88 = .ok (.iconst 1, 1) := by decide +kernel
theorem dX13_does_89 : decode cX13_does 89 = .ok (.iaload, 1) := by decide +kernel
theorem dX13_does_90 : decode cX13_does 90 = .ok (.invokevirtual 360, 3) := by decide +kernel
theorem dX13_does_93 : decode cX13_does 93 = .ok (.ireturn, 1) := by decide +kernel
theorem dX13_does_94 : decode cX13_does 94 = .ok (.aload_n 1, 1) := by decide +kernel
theorem dX13_does_95 : decode cX13_does 95 = .ok (.aload_n 2, 1) := by decide +kernel
theorem dX13_does_96 : decode cX13_does 96 = .ok (.iconst 1, 1) := by decide +kernel
theorem dX13_does_97 : decode cX13_does 97 = .ok (.iaload, 1) := by decide +kernel
theorem dX13_does_98 : decode cX13_does 98 = .ok (.invokestatic 363, 3) := by decide +kernel
theorem dX13_does_101 : decode cX13_does 101 = .ok (.iconst 1, 1) := by decide +kernel
theorem dX13_does_102 : decode cX13_does 102 = .ok (.ireturn, 1) := by decide +kernel
theorem dX13_draw_0 : decode cX13_draw 0 = .ok (.aload_n 0, 1) := by decide +kernel
theorem dX13_draw_1 : decode cX13_draw 1 = .ok (.aload_n 0, 1) := by decide +kernel
theorem dX13_draw_2 : decode cX13_draw 2 = .ok (.getfield 446, 3) := by decide +kernel
theorem dX13_draw_5 : decode cX13_draw 5 = .ok (.ldc_w 449, 3) := by decide +kernel
theorem dX13_draw_8 : decode cX13_draw 8 = .ok (.imul, 1) := by decide +kernel
theorem dX13_draw_9 : decode cX13_draw 9 = .ok (.sipush 12345, 3) := by decide +kernel
theorem dX13_draw_12 : decode cX13_draw 12 = .ok (.iadd, 1) := by decide +kernel
theorem dX13_draw_13 : decode cX13_draw 13 = .ok (.putfield 446, 3) := by decide +kernel
theorem dX13_draw_16 : decode cX13_draw 16 = .ok (.aload_n 0, 1) := by decide +kernel
theorem dX13_draw_17 : decode cX13_draw 17 = .ok (.getfield 446, 3) := by decide +kernel
theorem dX13_draw_20 : decode cX13_draw 20 = .ok (.bipush 16, 2) := by decide +kernel
theorem dX13_draw_22 : decode cX13_draw 22 = .ok (.ishr, 1) := by decide +kernel
theorem dX13_draw_23 : decode cX13_draw 23 = .ok (.sipush 32767, 3) := by decide +kernel
theorem dX13_draw_26 : decode cX13_draw 26 = .ok (.iand, 1) := by decide +kernel
theorem dX13_draw_27 : decode cX13_draw 27 = .ok (.iload_n 1, 1) := by decide +kernel
theorem dX13_draw_28 : decode cX13_draw 28 = .ok (.irem, 1) := by decide +kernel
theorem dX13_draw_29 : decode cX13_draw 29 = .ok (.ireturn, 1) := by decide +kernel
theorem dX13_eases_0 : decode cX13_eases 0 = .ok (.iconst 0, 1) := by decide +kernel
theorem dX13_eases_1 : decode cX13_eases 1 = .ok (.istore_n 2, 1) := by decide +kernel
theorem dX13_eases_2 : decode cX13_eases 2 = .ok (.iload_n 2, 1) := by decide +kernel
theorem dX13_eases_3 : decode cX13_eases 3 = .ok (.bipush 64, 2) := by decide +kernel
theorem dX13_eases_5 : decode cX13_eases 5 = .ok (.if_icmp .ge 29, 3) := by decide +kernel
theorem dX13_eases_8 : decode cX13_eases 8 = .ok (.aload_n 0, 1) := by decide +kernel
theorem dX13_eases_9 : decode cX13_eases 9 = .ok (.sipush 384, 3) := by decide +kernel
theorem dX13_eases_12 : decode cX13_eases 12 = .ok (.iload_n 2, 1) := by decide +kernel
theorem dX13_eases_13 : decode cX13_eases 13 = .ok (.iadd, 1) := by decide +kernel
theorem dX13_eases_14 : decode cX13_eases 14 = .ok (.iconst 0, 1) := by decide +kernel
theorem dX13_eases_15 : decode cX13_eases 15 = .ok (.aload_n 0, 1) := by decide +kernel
theorem dX13_eases_16 : decode cX13_eases 16 = .ok (.sipush 384, 3) := by decide +kernel
theorem dX13_eases_19 : decode cX13_eases 19 = .ok (.iload_n 2, 1) := by decide +kernel
theorem dX13_eases_20 : decode cX13_eases 20 = .ok (.iadd, 1) := by decide +kernel
theorem dX13_eases_21 : decode cX13_eases 21 = .ok (.iaload, 1) := by decide +kernel
theorem dX13_eases_22 : decode cX13_eases 22 = .ok (.iload_n 1, 1) := by decide +kernel
theorem dX13_eases_23 : decode cX13_eases 23 = .ok (.isub, 1) := by decide +kernel
theorem dX13_eases_24 : decode cX13_eases 24 = .ok (.invokestatic 262, 3) := by decide +kernel
theorem dX13_eases_27 : decode cX13_eases 27 = .ok (.iastore, 1) := by decide +kernel
theorem dX13_eases_28 : decode cX13_eases 28 = .ok (.iinc 2 1, 3) := by decide +kernel
theorem dX13_eases_31 : decode cX13_eases 31 = .ok (.goto (-29), 3) := by decide +kernel
theorem dX13_eases_34 : decode cX13_eases 34 = .ok (.return_, 1) := by decide +kernel
theorem dX13_ends_0 : decode cX13_ends 0 = .ok (.aload_n 0, 1) := by decide +kernel
theorem dX13_ends_1 : decode cX13_ends 1 = .ok (.aload_n 0, 1) := by decide +kernel
theorem dX13_ends_2 : decode cX13_ends 2 = .ok (.getfield 126, 3) := by decide +kernel
theorem dX13_ends_5 : decode cX13_ends 5 = .ok (.putfield 9, 3) := by decide +kernel
theorem dX13_ends_8 : decode cX13_ends 8 = .ok (.aload_n 0, 1) := by decide +kernel
theorem dX13_ends_9 : decode cX13_ends 9 = .ok (.getfield 123, 3) := by decide +kernel
theorem dX13_ends_12 : decode cX13_ends 12 = .ok (.bipush 10, 2) := by decide +kernel
theorem dX13_ends_14 : decode cX13_ends 14 = .ok (.isub, 1) := by decide +kernel
theorem dX13_ends_15 : decode cX13_ends 15 = .ok (.ireturn, 1) := by decide +kernel
theorem dX13_fault_0 : decode cX13_fault 0 = .ok (.aload_n 0, 1) := by decide +kernel
theorem dX13_fault_1 : decode cX13_fault 1 = .ok (.iconst 0, 1) := by decide +kernel
theorem dX13_fault_2 : decode cX13_fault 2 = .ok (.putfield 107, 3) := by decide +kernel
theorem dX13_fault_5 : decode cX13_fault 5 = .ok (.aload_n 0, 1) := by decide +kernel
theorem dX13_fault_6 : decode cX13_fault 6 = .ok (.getfield 9, 3) := by decide +kernel
theorem dX13_fault_9 : decode cX13_fault 9 = .ok (.ireturn, 1) := by decide +kernel
theorem dX13_feed_0 : decode cX13_feed 0 = .ok (.aload_n 0, 1) := by decide +kernel
theorem dX13_feed_1 : decode cX13_feed 1 = .ok (.iconst 0, 1) := by decide +kernel
theorem dX13_feed_2 : decode cX13_feed 2 = .ok (.putfield 107, 3) := by decide +kernel
theorem dX13_feed_5 : decode cX13_feed 5 = .ok (.aload_n 0, 1) := by decide +kernel
theorem dX13_feed_6 : decode cX13_feed 6 = .ok (.getfield 110, 3) := by decide +kernel
theorem dX13_feed_9 : decode cX13_feed 9 = .ok (.bipush 20, 2) := by decide +kernel
theorem dX13_feed_11 : decode cX13_feed 11 = .ok (.iadd, 1) := by decide +kernel
theorem dX13_feed_12 : decode cX13_feed 12 = .ok (.sipush 600, 3) := by decide +kernel
theorem dX13_feed_15 : decode cX13_feed 15 = .ok (.if_icmp .le 5, 3) := by decide +kernel
theorem dX13_feed_18 : decode cX13_feed 18 = .ok (.iconst (-1), 1) := by decide +kernel
theorem dX13_feed_19 : decode cX13_feed 19 = .ok (.ireturn, 1) := by decide +kernel
theorem dX13_feed_20 : decode cX13_feed 20 = .ok (.iconst 0, 1) := by decide +kernel
theorem dX13_feed_21 : decode cX13_feed 21 = .ok (.istore 6, 2) := by decide +kernel
theorem dX13_feed_23 : decode cX13_feed 23 = .ok (.iload 6, 2) := by decide +kernel
theorem dX13_feed_25 : decode cX13_feed 25 = .ok (.bipush 20, 2) := by decide +kernel
theorem dX13_feed_27 : decode cX13_feed 27 = .ok (.if_icmp .ge 93, 3) := by decide +kernel
theorem dX13_feed_30 : decode cX13_feed 30 = .ok (.iload 6, 2) := by decide +kernel
theorem dX13_feed_32 : decode cX13_feed 32 = .ok (.iconst 4, 1) := by decide +kernel
theorem dX13_feed_33 : decode cX13_feed 33 = .ok (.if_icmp .ge 7, 3) := by decide +kernel
theorem dX13_feed_36 : decode cX13_feed 36 = .ok (.iload_n 1, 1) := by decide +kernel
theorem dX13_feed_37 : decode cX13_feed 37 = .ok (.goto 39, 3) := by decide +kernel
theorem dX13_feed_40 : decode cX13_feed 40 = .ok (.iload 6, 2) := by decide +kernel
theorem dX13_feed_42 : decode cX13_feed 42 = .ok (.bipush 8, 2) := by decide +kernel
theorem dX13_feed_44 : decode cX13_feed 44 = .ok (.if_icmp .ge 7, 3) := by decide +kernel
theorem dX13_feed_47 : decode cX13_feed 47 = .ok (.iload_n 2, 1) := by decide +kernel
theorem dX13_feed_48 : decode cX13_feed 48 = .ok (.goto 28, 3) := by decide +kernel
theorem dX13_feed_51 : decode cX13_feed 51 = .ok (.iload 6, 2) := by decide +kernel
theorem dX13_feed_53 : decode cX13_feed 53 = .ok (.bipush 12, 2) := by decide +kernel
theorem dX13_feed_55 : decode cX13_feed 55 = .ok (.if_icmp .ge 7, 3) := by decide +kernel
theorem dX13_feed_58 : decode cX13_feed 58 = .ok (.iload_n 3, 1) := by decide +kernel
theorem dX13_feed_59 : decode cX13_feed 59 = .ok (.goto 17, 3) := by decide +kernel
theorem dX13_feed_62 : decode cX13_feed 62 = .ok (.iload 6, 2) := by decide +kernel
theorem dX13_feed_64 : decode cX13_feed 64 = .ok (.bipush 16, 2) := by decide +kernel
theorem dX13_feed_66 : decode cX13_feed 66 = .ok (.if_icmp .ge 8, 3) := by decide +kernel
theorem dX13_feed_69 : decode cX13_feed 69 = .ok (.iload 4, 2) := by decide +kernel
theorem dX13_feed_71 : decode cX13_feed 71 = .ok (.goto 5, 3) := by decide +kernel
theorem dX13_feed_74 : decode cX13_feed 74 = .ok (.iload 5, 2) := by decide +kernel
theorem dX13_feed_76 : decode cX13_feed 76 = .ok (.istore 7, 2) := by decide +kernel
theorem dX13_feed_78 : decode cX13_feed 78 = .ok (.aload_n 0, 1) := by decide +kernel
theorem dX13_feed_79 : decode cX13_feed 79 = .ok (.getfield 13, 3) := by decide +kernel
theorem dX13_feed_82 : decode cX13_feed 82 = .ok (.aload_n 0, 1) := by decide +kernel
theorem dX13_feed_83 : decode cX13_feed 83 = .ok (.getfield 110, 3) := by decide +kernel
theorem dX13_feed_86 : decode cX13_feed 86 = .ok (.iload 7, 2) := by decide +kernel
theorem dX13_feed_88 : decode cX13_feed 88 = .ok (.bipush 24, 2) := by decide +kernel
theorem dX13_feed_90 : decode cX13_feed 90 = .ok (.bipush 8, 2) := by decide +kernel
theorem dX13_feed_92 : decode cX13_feed 92 = .ok (.iload 6, 2) := by decide +kernel
theorem dX13_feed_94 : decode cX13_feed 94 = .ok (.iconst 4, 1) := by decide +kernel
theorem dX13_feed_95 : decode cX13_feed 95 = .ok (.irem, 1) := by decide +kernel
theorem dX13_feed_96 : decode cX13_feed 96 = .ok (.imul, 1) := by decide +kernel
theorem dX13_feed_97 : decode cX13_feed 97 = .ok (.isub, 1) := by decide +kernel
theorem dX13_feed_98 : decode cX13_feed 98 = .ok (.ishr, 1) := by decide +kernel
theorem dX13_feed_99 : decode cX13_feed 99 = .ok (.sipush 255, 3) := by decide +kernel
theorem dX13_feed_102 : decode cX13_feed 102 = .ok (.iand, 1) := by decide +kernel
theorem dX13_feed_103 : decode cX13_feed 103 = .ok (.iastore, 1) := by decide +kernel
theorem dX13_feed_104 : decode cX13_feed 104 = .ok (.aload_n 0, 1) := by decide +kernel
theorem dX13_feed_105 : decode cX13_feed 105 = .ok (.dup, 1) := by decide +kernel
theorem dX13_feed_106 : decode cX13_feed 106 = .ok (.getfield 110, 3) := by decide +kernel
theorem dX13_feed_109 : decode cX13_feed 109 = .ok (.iconst 1, 1) := by decide +kernel
theorem dX13_feed_110 : decode cX13_feed 110 = .ok (.iadd, 1) := by decide +kernel
theorem dX13_feed_111 : decode cX13_feed 111 = .ok (.putfield 110, 3) := by decide +kernel
theorem dX13_feed_114 : decode cX13_feed 114 = .ok (.iinc 6 1, 3) := by decide +kernel
theorem dX13_feed_117 : decode cX13_feed 117 = .ok (.goto (-94), 3) := by decide +kernel
theorem dX13_feed_120 : decode cX13_feed 120 = .ok (.aload_n 0, 1) := by decide +kernel
theorem dX13_feed_121 : decode cX13_feed 121 = .ok (.getfield 110, 3) := by decide +kernel
theorem dX13_feed_124 : decode cX13_feed 124 = .ok (.ireturn, 1) := by decide +kernel
theorem dX13_fewest_0 : decode cX13_fewest 0 = .ok (.aload_n 0, 1) := by decide +kernel
theorem dX13_fewest_1 : decode cX13_fewest 1 = .ok (.iconst 0, 1) := by decide +kernel
theorem dX13_fewest_2 : decode cX13_fewest 2 = .ok (.putfield 107, 3) := by decide +kernel
theorem dX13_fewest_5 : decode cX13_fewest 5 = .ok (.aload_n 0, 1) := by decide +kernel
theorem dX13_fewest_6 : decode cX13_fewest 6 = .ok (.aload_n 0, 1) := by decide +kernel
theorem dX13_fewest_7 : decode cX13_fewest 7 = .ok (.iload_n 1, 1) := by decide +kernel
theorem dX13_fewest_8 : decode cX13_fewest 8 = .ok (.invokevirtual 412, 3) := by decide +kernel
theorem dX13_fewest_11 : decode cX13_fewest 11 = .ok (.ifCond .ne 7, 3) := by decide +kernel
theorem dX13_fewest_14 : decode cX13_fewest 14 = .ok (.iconst 1, 1) := by decide +kernel
theorem dX13_fewest_15 : decode cX13_fewest 15 = .ok (.goto 4, 3) := by decide +kernel
theorem dX13_fewest_18 : decode cX13_fewest 18 = .ok (.iconst 0, 1) := by decide +kernel
theorem dX13_fewest_19 : decode cX13_fewest 19 = .ok (.iconst 1, 1) := by decide +kernel
theorem dX13_fewest_20 : decode cX13_fewest 20 = .ok (.iconst 0, 1) := by decide +kernel
theorem dX13_fewest_21 : decode cX13_fewest 21 = .ok (.invokevirtual 186, 3) := by decide +kernel
theorem dX13_fewest_24 : decode cX13_fewest 24 = .ok (.ifCond .eq 5, 3) := by decide +kernel
theorem dX13_fewest_27 : decode cX13_fewest 27 = .ok (.iconst 0, 1) := by decide +kernel
theorem dX13_fewest_28 : decode cX13_fewest 28 = .ok (.ireturn, 1) := by decide +kernel
theorem dX13_fewest_29 : decode cX13_fewest 29 = .ok (.iconst 1, 1) := by decide +kernel
theorem dX13_fewest_30 : decode cX13_fewest 30 = .ok (.aload_n 0, 1) := by decide +kernel
theorem dX13_fewest_31 : decode cX13_fewest 31 = .ok (.getfield 40, 3) := by decide +kernel
theorem dX13_fewest_34 : decode cX13_fewest 34 = .ok (.iload_n 1, 1) := by decide +kernel
theorem dX13_fewest_35 : decode cX13_fewest 35 = .ok (.aaload, 1) := by decide +kernel
theorem dX13_fewest_36 : decode cX13_fewest 36 = .ok (.iconst 2, 1) := by decide +kernel
theorem dX13_fewest_37 : decode cX13_fewest 37 = .ok (.iaload, 1) := by decide +kernel
theorem dX13_fewest_38 : decode cX13_fewest 38 = .ok (.ishl, 1) := by decide +kernel
theorem dX13_fewest_39 : decode cX13_fewest 39 = .ok (.iconst 1, 1) := by decide +kernel
theorem dX13_fewest_40 : decode cX13_fewest 40 = .ok (.isub, 1) := by decide +kernel
theorem dX13_fewest_41 : decode cX13_fewest 41 = .ok (.istore_n 2, 1) := by decide +kernel
theorem dX13_fewest_42 : decode cX13_fewest 42 = .ok (.iload_n 2, 1) := by decide +kernel
theorem dX13_fewest_43 : decode cX13_fewest 43 = .ok (.ifCond .ne 5, 3) := by decide +kernel
theorem dX13_fewest_46 : decode cX13_fewest 46 = .ok (.iconst 0, 1) := by decide +kernel
theorem dX13_fewest_47 : decode cX13_fewest 47 = .ok (.ireturn, 1) := by decide +kernel
theorem dX13_fewest_48 : decode cX13_fewest 48 = .ok (.iconst 1, 1) := by decide +kernel
theorem dX13_fewest_49 : decode cX13_fewest 49 = .ok (.istore_n 3, 1) := by decide +kernel
theorem dX13_fewest_50 : decode cX13_fewest 50 = .ok (.iload_n 3, 1) := by decide +kernel
theorem dX13_fewest_51 : decode cX13_fewest 51 = .ok (.iload_n 2, 1) := by decide +kernel
theorem dX13_fewest_52 : decode cX13_fewest 52 = .ok (.if_icmp .gt 120, 3) := by decide +kernel
theorem dX13_fewest_55 : decode cX13_fewest 55 = .ok (.iconst 0, 1) := by decide +kernel
theorem dX13_fewest_56 : decode cX13_fewest 56 = .ok (.istore 4, 2) := by decide +kernel
theorem dX13_fewest_58 : decode cX13_fewest 58 = .ok (.iload 4, 2) := by decide +kernel
theorem dX13_fewest_60 : decode cX13_fewest 60 = .ok (.bipush 64, 2) := by decide +kernel
theorem dX13_fewest_62 : decode cX13_fewest 62 = .ok (.if_icmp .ge 21, 3) := by decide +kernel
theorem dX13_fewest_65 : decode cX13_fewest 65 = .ok (.aload_n 0, 1) := by decide +kernel
theorem dX13_fewest_66 : decode cX13_fewest 66 = .ok (.getfield 95, 3) := by decide +kernel
theorem dX13_fewest_69 : decode cX13_fewest 69 = .ok (.iload_n 3, 1) := by decide +kernel
theorem dX13_fewest_70 : decode cX13_fewest 70 = .ok (.aaload, 1) := by decide +kernel
theorem dX13_fewest_71 : decode cX13_fewest 71 = .ok (.iload 4, 2) := by decide +kernel
theorem dX13_fewest_73 : decode cX13_fewest 73 = .ok (.ldc_w 424, 3) := by decide +kernel
theorem dX13_fewest_76 : decode cX13_fewest 76 = .ok (.iastore, 1) := by decide +kernel
theorem dX13_fewest_77 : decode cX13_fewest 77 = .ok (.iinc 4 1, 3) := by decide +kernel
theorem dX13_fewest_80 : decode cX13_fewest 80 = .ok (.goto (-22), 3) := by decide +kernel
theorem dX13_fewest_83 : decode cX13_fewest 83 = .ok (.iconst 0, 1) := by decide +kernel
theorem dX13_fewest_84 : decode cX13_fewest 84 = .ok (.istore 4, 2) := by decide +kernel
theorem dX13_fewest_86 : decode cX13_fewest 86 = .ok (.iload 4, 2) := by decide +kernel
theorem dX13_fewest_88 : decode cX13_fewest 88 = .ok (.aload_n 0, 1) := by decide +kernel
theorem dX13_fewest_89 : decode cX13_fewest 89 = .ok (.getfield 40, 3) := by decide +kernel
theorem dX13_fewest_92 : decode cX13_fewest 92 = .ok (.iload_n 1, 1) := by decide +kernel
theorem dX13_fewest_93 : decode cX13_fewest 93 = .ok (.aaload, 1) := by decide +kernel
theorem dX13_fewest_94 : decode cX13_fewest 94 = .ok (.iconst 2, 1) := by decide +kernel
theorem dX13_fewest_95 : decode cX13_fewest 95 = .ok (.iaload, 1) := by decide +kernel
theorem dX13_fewest_96 : decode cX13_fewest 96 = .ok (.if_icmp .ge 34, 3) := by decide +kernel
theorem dX13_fewest_99 : decode cX13_fewest 99 = .ok (.iload_n 3, 1) := by decide +kernel
theorem dX13_fewest_100 : decode cX13_fewest 100 = .ok (.iconst 1, 1) := by decide +kernel
theorem dX13_fewest_101 : decode cX13_fewest 101 = .ok (.iload 4, 2) := by decide +kernel
theorem dX13_fewest_103 : decode cX13_fewest 103 = .ok (.ishl, 1) := by decide +kernel
theorem dX13_fewest_104 : decode cX13_fewest 104 = .ok (.if_icmp .ne 20, 3) := by decide +kernel
theorem dX13_fewest_107 : decode cX13_fewest 107 = .ok (.aload_n 0, 1) := by decide +kernel
theorem dX13_fewest_108 : decode cX13_fewest 108 = .ok (.getfield 95, 3) := by decide +kernel
theorem dX13_fewest_111 : decode cX13_fewest 111 = .ok (.iload_n 3, 1) := by decide +kernel
theorem dX13_fewest_112 : decode cX13_fewest 112 = .ok (.aaload, 1) := by decide +kernel
theorem dX13_fewest_113 : decode cX13_fewest 113 = .ok (.aload_n 0, 1) := by decide +kernel
theorem dX13_fewest_114 : decode cX13_fewest 114 = .ok (.getfield 46, 3) := by decide +kernel
theorem dX13_fewest_117 : decode cX13_fewest 117 = .ok (.iload_n 1, 1) := by decide +kernel
theorem dX13_fewest_118 : decode cX13_fewest 118 = .ok (.aaload, 1) := by decide +kernel
theorem dX13_fewest_119 : decode cX13_fewest 119 = .ok (.iload 4, 2) := by decide +kernel
theorem dX13_fewest_121 : decode cX13_fewest 121 = .ok (.iaload, 1) := by decide +kernel
theorem dX13_fewest_122 : decode cX13_fewest 122 = .ok (.iconst 1, 1) := by decide +kernel
theorem dX13_fewest_123 : decode cX13_fewest 123 = .ok (.iastore, 1) := by decide +kernel
theorem dX13_fewest_124 : decode cX13_fewest 124 = .ok (.iinc 4 1, 3) := by decide +kernel
theorem dX13_fewest_127 : decode cX13_fewest 127 = .ok (.goto (-41), 3) := by decide +kernel
theorem dX13_fewest_130 : decode cX13_fewest 130 = .ok (.iconst 1, 1) := by decide +kernel
theorem dX13_fewest_131 : decode cX13_fewest 131 = .ok (.istore 4, 2) := by decide +kernel
theorem dX13_fewest_133 : decode cX13_fewest 133 = .ok (.iload 4, 2) := by decide +kernel
theorem dX13_fewest_135 : decode cX13_fewest 135 = .ok (.iload_n 3, 1) := by decide +kernel
theorem dX13_fewest_136 : decode cX13_fewest 136 = .ok (.if_icmp .ge 25, 3) := by decide +kernel
theorem dX13_fewest_139 : decode cX13_fewest 139 = .ok (.iload 4, 2) := by decide +kernel
theorem dX13_fewest_141 : decode cX13_fewest 141 = .ok (.iload_n 3, 1) := by decide +kernel
theorem dX13_fewest_142 : decode cX13_fewest 142 = .ok (.iconst (-1), 1) := by decide +kernel
theorem dX13_fewest_143 : decode cX13_fewest 143 = .ok (.ixor, 1) := by decide +kernel
theorem dX13_fewest_144 : decode cX13_fewest 144 = .ok (.iand, 1) := by decide +kernel
theorem dX13_fewest_145 : decode cX13_fewest 145 = .ok (.ifCond .ne 10, 3) := by decide +kernel
theorem dX13_fewest_148 : decode cX13_fewest 148 = .ok (.aload_n 0, 1) := by decide +kernel
theorem dX13_fewest_149 : decode cX13_fewest 149 = .ok (.iload_n 3, 1) := by decide +kernel
theorem dX13_fewest_150 : decode cX13_fewest 150 = .ok (.iload 4, 2) := by decide +kernel
theorem dX13_fewest_152 : decode cX13_fewest 152 = .ok (.invokevirtual 425, 3) := by decide +kernel
theorem dX13_fewest_155 : decode cX13_fewest 155 = .ok (.iinc 4 1, 3) := by decide +kernel
theorem dX13_fewest_158 : decode cX13_fewest 158 = .ok (.goto (-25), 3) := by decide +kernel
theorem dX13_fewest_161 : decode cX13_fewest 161 = .ok (.aload_n 0, 1) := by decide +kernel
theorem dX13_fewest_162 : decode cX13_fewest 162 = .ok (.iload_n 3, 1) := by decide +kernel
theorem dX13_fewest_163 : decode cX13_fewest 163 = .ok (.invokevirtual 428, 3) := by decide +kernel
theorem dX13_fewest_166 : decode cX13_fewest 166 = .ok (.iinc 3 1, 3) := by decide +kernel
theorem dX13_fewest_169 : decode cX13_fewest 169 = .ok (.goto (-119), 3) := by decide +kernel
theorem dX13_fewest_172 : decode cX13_fewest 172 = .ok (.aload_n 0, 1) := by decide +kernel
theorem dX13_fewest_173 : decode cX13_fewest 173 = .ok (.getfield 95, 3) := by decide +kernel
theorem dX13_fewest_176 : decode cX13_fewest 176 = .ok (.iload_n 2, 1) := by decide +kernel
theorem dX13_fewest_177 : decode cX13_fewest 177 = .ok (.aaload, 1) := by decide +kernel
theorem dX13_fewest_178 : decode cX13_fewest 178 = .ok (.aload_n 0, 1) := by decide +kernel
theorem dX13_fewest_179 : decode cX13_fewest 179 = .ok (.getfield 46, 3) := by decide +kernel
theorem dX13_fewest_182 : decode cX13_fewest 182 = .ok (.iload_n 1, 1) := by decide +kernel
theorem dX13_fewest_183 : decode cX13_fewest 183 = .ok (.aaload, 1) := by decide +kernel
theorem dX13_fewest_184 : decode cX13_fewest 184 = .ok (.iconst 0, 1) := by decide +kernel
theorem dX13_fewest_185 : decode cX13_fewest 185 = .ok (.iaload, 1) := by decide +kernel
theorem dX13_fewest_186 : decode cX13_fewest 186 = .ok (.iaload, 1) := by decide +kernel
theorem dX13_fewest_187 : decode cX13_fewest 187 = .ok (.istore_n 3, 1) := by decide +kernel
theorem dX13_fewest_188 : decode cX13_fewest 188 = .ok (.iload_n 3, 1) := by decide +kernel
theorem dX13_fewest_189 : decode cX13_fewest 189 = .ok (.ldc_w 424, 3) := by decide +kernel
theorem dX13_fewest_192 : decode cX13_fewest 192 = .ok (.if_icmp .lt 7, 3) := by decide +kernel
theorem dX13_fewest_195 : decode cX13_fewest 195 = .ok (.iconst (-1), 1) := by decide +kernel
theorem dX13_fewest_196 : decode cX13_fewest 196 = .ok (.goto 4, 3) := by decide +kernel
theorem dX13_fewest_199 : decode cX13_fewest 199 = .ok (.iload_n 3, 1) := by decide +kernel
theorem dX13_fewest_200 : decode cX13_fewest 200 = .ok (.ireturn, 1) := by decide +kernel
theorem dX13_fits_0 : decode cX13_fits 0 = .ok (.aload_n 0, 1) := by decide +kernel
theorem dX13_fits_1 : decode cX13_fits 1 = .ok (.iconst 0, 1) := by decide +kernel
theorem dX13_fits_2 : decode cX13_fits 2 = .ok (.putfield 107, 3) := by decide +kernel
theorem dX13_fits_5 : decode cX13_fits 5 = .ok (.aload_n 0, 1) := by decide +kernel
theorem dX13_fits_6 : decode cX13_fits 6 = .ok (.iload_n 1, 1) := by decide +kernel
theorem dX13_fits_7 : decode cX13_fits 7 = .ok (.iconst 0, 1) := by decide +kernel
theorem dX13_fits_8 : decode cX13_fits 8 = .ok (.iconst 1, 1) := by decide +kernel
theorem dX13_fits_9 : decode cX13_fits 9 = .ok (.invokestatic 141, 3) := by decide +kernel
theorem dX13_fits_12 : decode cX13_fits 12 = .ok (.ifCond .ne 7, 3) := by decide +kernel
theorem dX13_fits_15 : decode cX13_fits 15 = .ok (.iconst 1, 1) := by decide +kernel
theorem dX13_fits_16 : decode cX13_fits 16 = .ok (.goto 4, 3) := by decide +kernel
theorem dX13_fits_19 : decode cX13_fits 19 = .ok (.iconst 0, 1) := by decide +kernel
theorem dX13_fits_20 : decode cX13_fits 20 = .ok (.iconst 1, 1) := by decide +kernel
theorem dX13_fits_21 : decode cX13_fits 21 = .ok (.iconst 1, 1) := by decide +kernel
theorem dX13_fits_22 : decode cX13_fits 22 = .ok (.invokevirtual 186, 3) := by decide +kernel
theorem dX13_fits_25 : decode cX13_fits 25 = .ok (.ifCond .eq 5, 3) := by decide +kernel
theorem dX13_fits_28 : decode cX13_fits 28 = .ok (.iconst 0, 1) := by decide +kernel
theorem dX13_fits_29 : decode cX13_fits 29 = .ok (.ireturn, 1) := by decide +kernel
theorem dX13_fits_30 : decode cX13_fits 30 = .ok (.iconst 0, 1) := by decide +kernel
theorem dX13_fits_31 : decode cX13_fits 31 = .ok (.istore_n 2, 1) := by decide +kernel
theorem dX13_fits_32 : decode cX13_fits 32 = .ok (.iconst (-1), 1) := by decide +kernel
theorem dX13_fits_33 : decode cX13_fits 33 = .ok (.istore_n 3, 1) := by decide +kernel
theorem dX13_fits_34 : decode cX13_fits 34 = .ok (.iconst 0, 1) := by decide +kernel
theorem dX13_fits_35 : decode cX13_fits 35 = .ok (.istore 4, 2) := by decide +kernel
theorem dX13_fits_37 : decode cX13_fits 37 = .ok (.iload 4, 2) := by decide +kernel
theorem dX13_fits_39 : decode cX13_fits 39 = .ok (.aload_n 0, 1) := by decide +kernel
theorem dX13_fits_40 : decode cX13_fits 40 = .ok (.getfield 23, 3) := by decide +kernel
theorem dX13_fits_43 : decode cX13_fits 43 = .ok (.iconst 2, 1) := by decide +kernel
theorem dX13_fits_44 : decode cX13_fits 44 = .ok (.iaload, 1) := by decide +kernel
theorem dX13_fits_45 : decode cX13_fits 45 = .ok (.if_icmp .ge 58, 3) := by decide +kernel
theorem dX13_fits_48 : decode cX13_fits 48 = .ok (.iconst 0, 1) := by decide +kernel
theorem dX13_fits_49 : decode cX13_fits 49 = .ok (.istore 5, 2) := by decide +kernel
theorem dX13_fits_51 : decode cX13_fits 51 = .ok (.iload 5, 2) := by decide +kernel
theorem dX13_fits_53 : decode cX13_fits 53 = .ok (.iconst 2, 1) := by decide +kernel
theorem dX13_fits_54 : decode cX13_fits 54 = .ok (.if_icmp .ge 43, 3) := by decide +kernel
theorem dX13_fits_57 : decode cX13_fits 57 = .ok (.aload_n 0, 1) := by decide +kernel
theorem dX13_fits_58 : decode cX13_fits 58 = .ok (.iload 4, 2) := by decide +kernel
theorem dX13_fits_60 : decode cX13_fits 60 = .ok (.iload 5, 2) := by decide +kernel
theorem dX13_fits_62 : decode cX13_fits 62 = .ok (.invokevirtual 434, 3) := by decide +kernel
theorem dX13_fits_65 : decode cX13_fits 65 = .ok (.ifCond .ne 6, 3) := by decide +kernel
theorem dX13_fits_68 : decode cX13_fits 68 = .ok (.goto 23, 3) := by decide +kernel
theorem dX13_fits_71 : decode cX13_fits 71 = .ok (.iload_n 2, 1) := by decide +kernel
theorem dX13_fits_72 : decode cX13_fits 72 = .ok (.ifCond .ne 14, 3) := by decide +kernel
theorem dX13_fits_75 : decode cX13_fits 75 = .ok (.bipush 10, 2) := by decide +kernel
theorem dX13_fits_77 : decode cX13_fits 77 = .ok (.iload 4, 2) := by decide +kernel
theorem dX13_fits_79 : decode cX13_fits 79 = .ok (.imul, 1) := by decide +kernel
theorem dX13_fits_80 : decode cX13_fits 80 = .ok (.iload 5, 2) := by decide +kernel
theorem dX13_fits_82 : decode cX13_fits 82 = .ok (.iadd, 1) := by decide +kernel
theorem dX13_fits_83 : decode cX13_fits 83 = .ok (.goto 4, 3) := by decide +kernel
theorem dX13_fits_86 : decode cX13_fits 86 = .ok (.iload_n 3, 1) := by decide +kernel
theorem dX13_fits_87 : decode cX13_fits 87 = .ok (.istore_n 3, 1) := by decide +kernel
theorem dX13_fits_88 : decode cX13_fits 88 = .ok (.iinc 2 1, 3) := by decide +kernel
theorem dX13_fits_91 : decode cX13_fits 91 = .ok (.iinc 5 1, 3) := by decide +kernel
theorem dX13_fits_94 : decode cX13_fits 94 = .ok (.goto (-43), 3) := by decide +kernel
theorem dX13_fits_97 : decode cX13_fits 97 = .ok (.iinc 4 1, 3) := by decide +kernel
theorem dX13_fits_100 : decode cX13_fits 100 = .ok (.goto (-63), 3) := by decide +kernel
theorem dX13_fits_103 : decode cX13_fits 103 = .ok (.iload_n 1, 1) := by decide +kernel
theorem dX13_fits_104 : decode cX13_fits 104 = .ok (.ifCond .ne 7, 3) := by decide +kernel
theorem dX13_fits_107 : decode cX13_fits 107 = .ok (.iload_n 2, 1) := by decide +kernel
theorem dX13_fits_108 : decode cX13_fits 108 = .ok (.goto 4, 3) := by decide +kernel
theorem dX13_fits_111 : decode cX13_fits 111 = .ok (.iload_n 3, 1) := by decide +kernel
theorem dX13_fits_112 : decode cX13_fits 112 = .ok (.ireturn, 1) := by decide +kernel
theorem dX13_goes_0 : decode cX13_goes 0 = .ok (.iload_n 1, 1) := by decide +kernel
theorem dX13_goes_1 : decode cX13_goes 1 = .ok (.istore_n 3, 1) := by decide +kernel
theorem dX13_goes_2 : decode cX13_goes 2 = .ok (.iload_n 3, 1) := by decide +kernel
theorem dX13_goes_3 : decode cX13_goes 3 = .ok (.iload_n 2, 1) := by decide +kernel
theorem dX13_goes_4 : decode cX13_goes 4 = .ok (.if_icmp .ge 152, 3) := by decide +kernel
theorem dX13_goes_7 : decode cX13_goes 7 = .ok (.aload_n 0, 1) := by decide +kernel
theorem dX13_goes_8 : decode cX13_goes 8 = .ok (.getfield 366, 3) := by decide +kernel
theorem dX13_goes_11 : decode cX13_goes 11 = .ok (.sipush 200, 3) := by decide +kernel
theorem dX13_goes_14 : decode cX13_goes 14 = .ok (.if_icmp .ge 142, 3) := by decide +kernel
theorem dX13_goes_17 : decode cX13_goes 17 = .ok (.aload_n 0, 1) := by decide +kernel
theorem dX13_goes_18 : decode cX13_goes 18 = .ok (.dup, 1) := by decide +kernel
theorem dX13_goes_19 : decode cX13_goes 19 = .ok (.getfield 366, 3) := by decide +kernel
theorem dX13_goes_22 : decode cX13_goes 22 = .ok (.iconst 1, 1) := by decide +kernel
theorem dX13_goes_23 : decode cX13_goes 23 = .ok (.iadd, 1) := by decide +kernel
theorem dX13_goes_24 : decode cX13_goes 24 = .ok (.putfield 366, 3) := by decide +kernel
theorem dX13_goes_27 : decode cX13_goes 27 = .ok (.aload_n 0, 1) := by decide +kernel
theorem dX13_goes_28 : decode cX13_goes 28 = .ok (.getfield 67, 3) := by decide +kernel
theorem dX13_goes_31 : decode cX13_goes 31 = .ok (.iload_n 3, 1) := by decide +kernel
theorem dX13_goes_32 : decode cX13_goes 32 = .ok (.aaload, 1) := by decide +kernel
theorem dX13_goes_33 : decode cX13_goes 33 = .ok (.iconst 0, 1) := by decide +kernel
theorem dX13_goes_34 : decode cX13_goes 34 = .ok (.iaload, 1) := by decide +kernel
theorem dX13_goes_35 : decode cX13_goes 35 = .ok (.bipush 6, 2) := by decide +kernel
theorem dX13_goes_37 : decode cX13_goes 37 = .ok (.if_icmp .ne 53, 3) := by decide +kernel
theorem dX13_goes_40 : decode cX13_goes 40 = .ok (.iconst 0, 1) := by decide +kernel
theorem dX13_goes_41 : decode cX13_goes 41 = .ok (.istore 4, 2) := by decide +kernel
theorem dX13_goes_43 : decode cX13_goes 43 = .ok (.iload 4, 2) := by decide +kernel
theorem dX13_goes_45 : decode cX13_goes 45 = .ok (.aload_n 0, 1) := by decide +kernel
theorem dX13_goes_46 : decode cX13_goes 46 = .ok (.getfield 67, 3) := by decide +kernel
theorem dX13_goes_49 : decode cX13_goes 49 = .ok (.iload_n 3, 1) := by decide +kernel
theorem dX13_goes_50 : decode cX13_goes 50 = .ok (.aaload, 1) := by decide +kernel
theorem dX13_goes_51 : decode cX13_goes 51 = .ok (.iconst 1, 1) := by decide +kernel
theorem dX13_goes_52 : decode cX13_goes 52 = .ok (.iaload, 1) := by decide +kernel
theorem dX13_goes_53 : decode cX13_goes 53 = .ok (.if_icmp .ge 34, 3) := by decide +kernel
theorem dX13_goes_56 : decode cX13_goes 56 = .ok (.aload_n 0, 1) := by decide +kernel
theorem dX13_goes_57 : decode cX13_goes 57 = .ok (.getfield 366, 3) := by decide +kernel
theorem dX13_goes_60 : decode cX13_goes 60 = .ok (.sipush 200, 3) := by decide +kernel
theorem dX13_goes_63 : decode cX13_goes 63 = .ok (.if_icmp .ge 24, 3) := by decide +kernel
theorem dX13_goes_66 : decode cX13_goes 66 = .ok (.aload_n 0, 1) := by decide +kernel
theorem dX13_goes_67 : decode cX13_goes 67 = .ok (.iload_n 3, 1) := by decide +kernel
theorem dX13_goes_68 : decode cX13_goes 68 = .ok (.iconst 1, 1) := by decide +kernel
theorem dX13_goes_69 : decode cX13_goes 69 = .ok (.iadd, 1) := by decide +kernel
theorem dX13_goes_70 : decode cX13_goes 70 = .ok (.aload_n 0, 1) := by decide +kernel
theorem dX13_goes_71 : decode cX13_goes 71 = .ok (.getfield 67, 3) := by decide +kernel
theorem dX13_goes_74 : decode cX13_goes 74 = .ok (.iload_n 3, 1) := by decide +kernel
theorem dX13_goes_75 : decode cX13_goes 75 = .ok (.aaload, 1) := by decide +kernel
theorem dX13_goes_76 : decode cX13_goes 76 = .ok (.iconst 3, 1) := by decide +kernel
theorem dX13_goes_77 : decode cX13_goes 77 = .ok (.iaload, 1) := by decide +kernel
theorem dX13_goes_78 : decode cX13_goes 78 = .ok (.invokevirtual 369, 3) := by decide +kernel
theorem dX13_goes_81 : decode cX13_goes 81 = .ok (.iinc 4 1, 3) := by decide +kernel
theorem dX13_goes_84 : decode cX13_goes 84 = .ok (.goto (-41), 3) := by decide +kernel
theorem dX13_goes_87 : decode cX13_goes 87 = .ok (.goto 57, 3) := by decide +kernel
theorem dX13_goes_90 : decode cX13_goes 90 = .ok (.aload_n 0, 1) := by decide +kernel
theorem dX13_goes_91 : decode cX13_goes 91 = .ok (.aload_n 0, 1) := by decide +kernel
theorem dX13_goes_92 : decode cX13_goes 92 = .ok (.getfield 70, 3) := by decide +kernel
theorem dX13_goes_95 : decode cX13_goes 95 = .ok (.aload_n 0, 1) := by decide +kernel
theorem dX13_goes_96 : decode cX13_goes 96 = .ok (.getfield 67, 3) := by decide +kernel
theorem dX13_goes_99 : decode cX13_goes 99 = .ok (.iload_n 3, 1) := by decide +kernel
theorem dX13_goes_100 : decode cX13_goes 100 = .ok (.aaload, 1) := by decide +kernel
theorem dX13_goes_101 : decode cX13_goes 101 = .ok (.invokevirtual 372, 3) := by decide +kernel
theorem dX13_goes_104 : decode cX13_goes 104 = .ok (.istore 4, 2) := by decide +kernel
theorem dX13_goes_106 : decode cX13_goes 106 = .ok (.aload_n 0, 1) := by decide +kernel
theorem dX13_goes_107 : decode cX13_goes 107 = .ok (.dup, 1) := by decide +kernel
theorem dX13_goes_108 : decode cX13_goes 108 = .ok (.getfield 376, 3) := by decide +kernel
theorem dX13_goes_111 : decode cX13_goes 111 = .ok (.iload 4, 2) := by decide +kernel
theorem dX13_goes_113 : decode cX13_goes 113 = .ok (.ifCond .eq 7, 3) := by decide +kernel
theorem dX13_goes_116 : decode cX13_goes 116 = .ok (.iconst 1, 1) := by decide +kernel
theorem dX13_goes_117 : decode cX13_goes 117 = .ok (.goto 4, 3) := by decide +kernel
theorem dX13_goes_120 : decode cX13_goes 120 = .ok (.iconst 0, 1) := by decide +kernel
theorem dX13_goes_121 : decode cX13_goes 121 = .ok (.iadd, 1) := by decide +kernel
theorem dX13_goes_122 : decode cX13_goes 122 = .ok (.putfield 376, 3) := by decide +kernel
theorem dX13_goes_125 : decode cX13_goes 125 = .ok (.aload_n 0, 1) := by decide +kernel
theorem dX13_goes_126 : decode cX13_goes 126 = .ok (.dup, 1) := by decide +kernel
theorem dX13_goes_127 : decode cX13_goes 127 = .ok (.getfield 221, 3) := by decide +kernel
theorem dX13_goes_130 : decode cX13_goes 130 = .ok (.iload 4, 2) := by decide +kernel
theorem dX13_goes_132 : decode cX13_goes 132 = .ok (.ifCond .eq 7, 3) := by decide +kernel
theorem dX13_goes_135 : decode cX13_goes 135 = .ok (.iconst 0, 1) := by decide +kernel
theorem dX13_goes_136 : decode cX13_goes 136 = .ok (.goto 4, 3) := by decide +kernel
theorem dX13_goes_139 : decode cX13_goes 139 = .ok (.iconst 1, 1) := by decide +kernel
theorem dX13_goes_140 : decode cX13_goes 140 = .ok (.iadd, 1) := by decide +kernel
theorem dX13_goes_141 : decode cX13_goes 141 = .ok (.putfield 221, 3) := by decide +kernel
theorem dX13_goes_144 : decode cX13_goes 144 = .ok (.aload_n 0, 1) := by decide +kernel
theorem dX13_goes_145 : decode cX13_goes 145 = .ok (.getfield 67, 3) := by decide +kernel
theorem dX13_goes_148 : decode cX13_goes 148 = .ok (.iload_n 3, 1) := by decide +kernel
theorem dX13_goes_149 : decode cX13_goes 149 = .ok (.aaload, 1) := by decide +kernel
theorem dX13_goes_150 : decode cX13_goes 150 = .ok (.iconst 3, 1) := by decide +kernel
theorem dX13_goes_151 : decode cX13_goes 151 = .ok (.iaload, 1) := by decide +kernel
theorem dX13_goes_152 : decode cX13_goes 152 = .ok (.istore_n 3, 1) := by decide +kernel
theorem dX13_goes_153 : decode cX13_goes 153 = .ok (.goto (-151), 3) := by decide +kernel
theorem dX13_goes_156 : decode cX13_goes 156 = .ok (.return_, 1) := by decide +kernel
theorem dX13_goesOn_0 : decode cX13_goesOn 0 = .ok (.aload_n 0, 1) := by decide +kernel
theorem dX13_goesOn_1 : decode cX13_goesOn 1 = .ok (.getfield 70, 3) := by decide +kernel
theorem dX13_goesOn_4 : decode cX13_goesOn 4 = .ok (.aload_n 0, 1) := by decide +kernel
theorem dX13_goesOn_5 : decode cX13_goesOn 5 = .ok (.getfield 73, 3) := by decide +kernel
theorem dX13_goesOn_8 : decode cX13_goesOn 8 = .ok (.invokestatic 379, 3) := by decide +kernel
theorem dX13_goesOn_11 : decode cX13_goesOn 11 = .ok (.iconst 0, 1) := by decide +kernel
theorem dX13_goesOn_12 : decode cX13_goesOn 12 = .ok (.istore_n 2, 1) := by decide +kernel
theorem dX13_goesOn_13 : decode cX13_goesOn 13 = .ok (.iload_n 2, 1) := by decide +kernel
theorem dX13_goesOn_14 : decode cX13_goesOn 14 = .ok (.iload_n 1, 1) := by decide +kernel
theorem dX13_goesOn_15 : decode cX13_goesOn 15 = .ok (.if_icmp .ge 17, 3) := by decide +kernel
theorem dX13_goesOn_18 : decode cX13_goesOn 18 = .ok (.aload_n 0, 1) := by decide +kernel
theorem dX13_goesOn_19 : decode cX13_goesOn 19 = .ok (.aload_n 0, 1) := by decide +kernel
theorem dX13_goesOn_20 : decode cX13_goesOn 20 = .ok (.getfield 73, 3) := by decide +kernel
theorem dX13_goesOn_23 : decode cX13_goesOn 23 = .ok (.invokevirtual 347, 3) := by decide +kernel
theorem dX13_goesOn_26 : decode cX13_goesOn 26 = .ok (.iinc 2 1, 3) := by decide +kernel
theorem dX13_goesOn_29 : decode cX13_goesOn 29 = .ok (.goto (-16), 3) := by decide +kernel
theorem dX13_goesOn_32 : decode cX13_goesOn 32 = .ok (.return_, 1) := by decide +kernel
theorem dX13_grows_0 : decode cX13_grows 0 = .ok (.aload_n 0, 1) := by decide +kernel
theorem dX13_grows_1 : decode cX13_grows 1 = .ok (.aload_n 1, 1) := by decide +kernel
theorem dX13_grows_2 : decode cX13_grows 2 = .ok (.iload_n 2, 1) := by decide +kernel
theorem dX13_grows_3 : decode cX13_grows 3 = .ok (.invokevirtual 312, 3) := by decide +kernel
theorem dX13_grows_6 : decode cX13_grows 6 = .ok (.ifCond .ne 61, 3) := by decide +kernel
theorem dX13_grows_9 : decode cX13_grows 9 = .ok (.aload_n 0, 1) := by decide +kernel
theorem dX13_grows_10 : decode cX13_grows 10 = .ok (.aload_n 1, 1) := by decide +kernel
theorem dX13_grows_11 : decode cX13_grows 11 = .ok (.iload_n 2, 1) := by decide +kernel
theorem dX13_grows_12 : decode cX13_grows 12 = .ok (.invokevirtual 316, 3) := by decide +kernel
theorem dX13_grows_15 : decode cX13_grows 15 = .ok (.aload_n 0, 1) := by decide +kernel
theorem dX13_grows_16 : decode cX13_grows 16 = .ok (.aload_n 1, 1) := by decide +kernel
theorem dX13_grows_17 : decode cX13_grows 17 = .ok (.iload_n 2, 1) := by decide +kernel
theorem dX13_grows_18 : decode cX13_grows 18 = .ok (.invokevirtual 320, 3) := by decide +kernel
theorem dX13_grows_21 : decode cX13_grows 21 = .ok (.istore_n 3, 1) := by decide +kernel
theorem dX13_grows_22 : decode cX13_grows 22 = .ok (.iload_n 3, 1) := by decide +kernel
theorem dX13_grows_23 : decode cX13_grows 23 = .ok (.iconst (-1), 1) := by decide +kernel
theorem dX13_grows_24 : decode cX13_grows 24 = .ok (.if_icmp .ne 4, 3) := by decide +kernel
theorem dX13_grows_27 : decode cX13_grows 27 = .ok (.return_, 1) := by decide +kernel
theorem dX13_grows_28 : decode cX13_grows 28 = .ok (.aload_n 1, 1) := by decide +kernel
theorem dX13_grows_29 : decode cX13_grows 29 = .ok (.iload_n 2, 1) := by decide +kernel
theorem dX13_grows_30 : decode cX13_grows 30 = .ok (.iload_n 3, 1) := by decide +kernel
theorem dX13_grows_31 : decode cX13_grows 31 = .ok (.invokestatic 287, 3) := by decide +kernel
theorem dX13_grows_34 : decode cX13_grows 34 = .ok (.ifCond .ne 30, 3) := by decide +kernel
theorem dX13_grows_37 : decode cX13_grows 37 = .ok (.aload_n 0, 1) := by decide +kernel
theorem dX13_grows_38 : decode cX13_grows 38 = .ok (.iload_n 3, 1) := by decide +kernel
theorem dX13_grows_39 : decode cX13_grows 39 = .ok (.invokevirtual 323, 3) := by decide +kernel
theorem dX13_grows_42 : decode cX13_grows 42 = .ok (.istore 4, 2) := by decide +kernel
theorem dX13_grows_44 : decode cX13_grows 44 = .ok (.aload_n 1, 1) := by decide +kernel
theorem dX13_grows_45 : decode cX13_grows 45 = .ok (.iload_n 2, 1) := by decide +kernel
theorem dX13_grows_46 : decode cX13_grows 46 = .ok (.iload_n 3, 1) := by decide +kernel
theorem dX13_grows_47 : decode cX13_grows 47 = .ok (.invokestatic 284, 3) := by decide +kernel
theorem dX13_grows_50 : decode cX13_grows 50 = .ok (.iload 4, 2) := by decide +kernel
theorem dX13_grows_52 : decode cX13_grows 52 = .ok (.iastore, 1) := by decide +kernel
theorem dX13_grows_53 : decode cX13_grows 53 = .ok (.aload_n 0, 1) := by decide +kernel
theorem dX13_grows_54 : decode cX13_grows 54 = .ok (.iload_n 3, 1) := by decide +kernel
theorem dX13_grows_55 : decode cX13_grows 55 = .ok (.iload 4, 2) := by decide +kernel
theorem dX13_grows_57 : decode cX13_grows 57 = .ok (.invokevirtual 309, 3) := by decide +kernel
theorem dX13_grows_60 : decode cX13_grows 60 = .ok (.istore_n 3, 1) := by decide +kernel
theorem dX13_grows_61 : decode cX13_grows 61 = .ok (.goto (-33), 3) := by decide +kernel
theorem dX13_grows_64 : decode cX13_grows 64 = .ok (.goto (-64), 3) := by decide +kernel
theorem dX13_grows_67 : decode cX13_grows 67 = .ok (.return_, 1) := by decide +kernel
theorem dX13_image_0 : decode cX13_image 0 = .ok (.aload_n 0, 1) := by decide +kernel
theorem dX13_image_1 : decode cX13_image 1 = .ok (.iconst 0, 1) := by decide +kernel
theorem dX13_image_2 : decode cX13_image 2 = .ok (.putfield 107, 3) := by decide +kernel
theorem dX13_image_5 : decode cX13_image 5 = .ok (.aload_n 0, 1) := by decide +kernel
theorem dX13_image_6 : decode cX13_image 6 = .ok (.getfield 224, 3) := by decide +kernel
theorem dX13_image_9 : decode cX13_image 9 = .ok (.iconst 3, 1) := by decide +kernel
theorem dX13_image_10 : decode cX13_image 10 = .ok (.if_icmp .ne 5, 3) := by decide +kernel
theorem dX13_image_13 : decode cX13_image 13 = .ok (.iconst (-1), 1) := by decide +kernel
theorem dX13_image_14 : decode cX13_image 14 = .ok (.ireturn, 1) := by decide +kernel
theorem dX13_image_15 : decode cX13_image 15 = .ok (.aload_n 0, 1) := by decide +kernel
theorem dX13_image_16 : decode cX13_image 16 = .ok (.aload_n 0, 1) := by decide +kernel
theorem dX13_image_17 : decode cX13_image 17 = .ok (.getfield 82, 3) := by decide +kernel
theorem dX13_image_20 : decode cX13_image 20 = .ok (.aload_n 0, 1) := by decide +kernel
theorem dX13_image_21 : decode cX13_image 21 = .ok (.getfield 224, 3) := by decide +kernel
theorem dX13_image_24 : decode cX13_image 24 = .ok (.aaload, 1) := by decide +kernel
theorem dX13_image_25 : decode cX13_image 25 = .ok (.iconst 0, 1) := by decide +kernel
theorem dX13_image_26 : decode cX13_image 26 = .ok (.invokevirtual 470, 3) := by decide +kernel
theorem dX13_image_29 : decode cX13_image 29 = .ok (.aload_n 0, 1) := by decide +kernel
theorem dX13_image_30 : decode cX13_image 30 = .ok (.dup, 1) := by decide +kernel
theorem dX13_image_31 : decode cX13_image 31 = .ok (.getfield 224, 3) := by decide +kernel
theorem dX13_image_34 : decode cX13_image 34 = .ok (.iconst 1, 1) := by decide +kernel
theorem dX13_image_35 : decode cX13_image 35 = .ok (.iadd, 1) := by decide +kernel
theorem dX13_image_36 : decode cX13_image 36 = .ok (.putfield 224, 3) := by decide +kernel
theorem dX13_image_39 : decode cX13_image 39 = .ok (.aload_n 0, 1) := by decide +kernel
theorem dX13_image_40 : decode cX13_image 40 = .ok (.getfield 224, 3) := by decide +kernel
theorem dX13_image_43 : decode cX13_image 43 = .ok (.ireturn, 1) := by decide +kernel
theorem dX13_in_0 : decode cX13_in 0 = .ok (.iload_n 0, 1) := by decide +kernel
theorem dX13_in_1 : decode cX13_in 1 = .ok (.iload_n 1, 1) := by decide +kernel
theorem dX13_in_2 : decode cX13_in 2 = .ok (.if_icmp .lt 12, 3) := by decide +kernel
theorem dX13_in_5 : decode cX13_in 5 = .ok (.iload_n 0, 1) := by decide +kernel
theorem dX13_in_6 : decode cX13_in 6 = .ok (.iload_n 2, 1) := by decide +kernel
theorem dX13_in_7 : decode cX13_in 7 = .ok (.if_icmp .gt 7, 3) := by decide +kernel
theorem dX13_in_10 : decode cX13_in 10 = .ok (.iconst 1, 1) := by decide +kernel
theorem dX13_in_11 : decode cX13_in 11 = .ok (.goto 4, 3) := by decide +kernel
theorem dX13_in_14 : decode cX13_in 14 = .ok (.iconst 0, 1) := by decide +kernel
theorem dX13_in_15 : decode cX13_in 15 = .ok (.ireturn, 1) := by decide +kernel
theorem dX13_init_0 : decode cX13_init 0 = .ok (.aload_n 0, 1) := by decide +kernel
theorem dX13_init_1 : decode cX13_init 1 = .ok (.invokespecial 1, 3) := by decide +kernel
theorem dX13_init_4 : decode cX13_init 4 = .ok (.aload_n 0, 1) := by decide +kernel
theorem dX13_init_5 : decode cX13_init 5 = .ok (.iconst (-1), 1) := by decide +kernel
theorem dX13_init_6 : decode cX13_init 6 = .ok (.putfield 9, 3) := by decide +kernel
theorem dX13_init_9 : decode cX13_init 9 = .ok (.aload_n 0, 1) := by decide +kernel
theorem dX13_init_10 : decode cX13_init 10 = .ok (.sipush 600, 3) := by decide +kernel
theorem dX13_init_13 : decode cX13_init 13 = .ok (.newarray .int, 2) := by decide +kernel
theorem dX13_init_15 : decode cX13_init 15 = .ok (.putfield 13, 3) := by decide +kernel
theorem dX13_init_18 : decode cX13_init 18 = .ok (.aload_n 0, 1) := by decide +kernel
theorem dX13_init_19 : decode cX13_init 19 = .ok (.iconst 2, 1) := by decide +kernel
theorem dX13_init_20 : decode cX13_init 20 = .ok (.newarray .int, 2) := by decide +kernel
theorem dX13_init_22 : decode cX13_init 22 = .ok (.putfield 17, 3) := by decide +kernel
theorem dX13_init_25 : decode cX13_init 25 = .ok (.aload_n 0, 1) := by decide +kernel
theorem dX13_init_26 : decode cX13_init 26 = .ok (.iconst 4, 1) := by decide +kernel
theorem dX13_init_27 : decode cX13_init 27 = .ok (.newarray .int, 2) := by decide +kernel
theorem dX13_init_29 : decode cX13_init 29 = .ok (.putfield 20, 3) := by decide +kernel
theorem dX13_init_32 : decode cX13_init 32 = .ok (.aload_n 0, 1) := by decide +kernel
theorem dX13_init_33 : decode cX13_init 33 = .ok (.iconst 4, 1) := by decide +kernel
theorem dX13_init_34 : decode cX13_init 34 = .ok (.newarray .int, 2) := by decide +kernel
theorem dX13_init_36 : decode cX13_init 36 = .ok (.putfield 23, 3) := by decide +kernel
theorem dX13_init_39 : decode cX13_init 39 = .ok (.aload_n 0, 1) := by decide +kernel
theorem dX13_init_40 : decode cX13_init 40 = .ok (.bipush 64, 2) := by decide +kernel
theorem dX13_init_42 : decode cX13_init 42 = .ok (.newarray .int, 2) := by decide +kernel
theorem dX13_init_44 : decode cX13_init 44 = .ok (.putfield 26, 3) := by decide +kernel
theorem dX13_init_47 : decode cX13_init 47 = .ok (.aload_n 0, 1) := by decide +kernel
theorem dX13_init_48 : decode cX13_init 48 = .ok (.bipush 64, 2) := by decide +kernel
theorem dX13_init_50 : decode cX13_init 50 = .ok (.newarray .int, 2) := by decide +kernel
theorem dX13_init_52 : decode cX13_init 52 = .ok (.putfield 29, 3) := by decide +kernel
theorem dX13_init_55 : decode cX13_init 55 = .ok (.aload_n 0, 1) := by decide +kernel
theorem dX13_init_56 : decode cX13_init 56 = .ok (.bipush 64, 2) := by decide +kernel
theorem dX13_init_58 : decode cX13_init 58 = .ok (.newarray .int, 2) := by decide +kernel
theorem dX13_init_60 : decode cX13_init 60 = .ok (.putfield 32, 3) := by decide +kernel
theorem dX13_init_63 : decode cX13_init 63 = .ok (.aload_n 0, 1) := by decide +kernel
theorem dX13_init_64 : decode cX13_init 64 = .ok (.bipush 6, 2) := by decide +kernel
theorem dX13_init_66 : decode cX13_init 66 = .ok (.iconst 3, 1) := by decide +kernel
theorem dX13_init_67 : decode cX13_init 67 = .ok (.multianewarray 35 2, 4) := by decide +kernel
theorem dX13_init_71 : decode cX13_init 71 = .ok (.putfield 37, 3) := by decide +kernel
theorem dX13_init_74 : decode cX13_init 74 = .ok (.aload_n 0, 1) := by decide +kernel
theorem dX13_init_75 : decode cX13_init 75 = .ok (.bipush 6, 2) := by decide +kernel
theorem dX13_init_77 : decode cX13_init 77 = .ok (.iconst 3, 1) := by decide +kernel
theorem dX13_init_78 : decode cX13_init 78 = .ok (.multianewarray 35 2, 4) := by decide +kernel
theorem dX13_init_82 : decode cX13_init 82 = .ok (.putfield 40, 3) := by decide +kernel
theorem dX13_init_85 : decode cX13_init 85 = .ok (.aload_n 0, 1) := by decide +kernel
theorem dX13_init_86 : decode cX13_init 86 = .ok (.bipush 6, 2) := by decide +kernel
theorem dX13_init_88 : decode cX13_init 88 = .ok (.iconst 4, 1) := by decide +kernel
theorem dX13_init_89 : decode cX13_init 89 = .ok (.multianewarray 35 2, 4) := by decide +kernel
theorem dX13_init_93 : decode cX13_init 93 = .ok (.putfield 43, 3) := by decide +kernel
theorem dX13_init_96 : decode cX13_init 96 = .ok (.aload_n 0, 1) := by decide +kernel
theorem dX13_init_97 : decode cX13_init 97 = .ok (.bipush 6, 2) := by decide +kernel
theorem dX13_init_99 : decode cX13_init 99 = .ok (.iconst 4, 1) := by decide +kernel
theorem dX13_init_100 : decode cX13_init 100 = .ok (.multianewarray 35 2, 4) := by decide +kernel
theorem dX13_init_104 : decode cX13_init 104 = .ok (.putfield 46, 3) := by decide +kernel
theorem dX13_init_107 : decode cX13_init 107 = .ok (.aload_n 0, 1) := by decide +kernel
theorem dX13_init_108 : decode cX13_init 108 = .ok (.sipush 160, 3) := by decide +kernel
theorem dX13_init_111 : decode cX13_init 111 = .ok (.iconst 2, 1) := by decide +kernel
theorem dX13_init_112 : decode cX13_init 112 = .ok (.multianewarray 35 2, 4) := by decide +kernel
theorem dX13_init_116 : decode cX13_init 116 = .ok (.putfield 49, 3) := by decide +kernel
theorem dX13_init_119 : decode cX13_init 119 = .ok (.aload_n 0, 1) := by decide +kernel
theorem dX13_init_120 : decode cX13_init 120 = .ok (.sipush 160, 3) := by decide +kernel
theorem dX13_init_123 : decode cX13_init 123 = .ok (.iconst 2, 1) := by decide +kernel
theorem dX13_init_124 : decode cX13_init 124 = .ok (.multianewarray 35 2, 4) := by decide +kernel
theorem dX13_init_128 : decode cX13_init 128 = .ok (.putfield 52, 3) := by decide +kernel
theorem dX13_init_131 : decode cX13_init 131 = .ok (.aload_n 0, 1) := by decide +kernel
theorem dX13_init_132 : decode cX13_init 132 = .ok (.bipush 8, 2) := by decide +kernel
theorem dX13_init_134 : decode cX13_init 134 = .ok (.iconst 2, 1) := by decide +kernel
theorem dX13_init_135 : decode cX13_init 135 = .ok (.multianewarray 35 2, 4) := by decide +kernel
theorem dX13_init_139 : decode cX13_init 139 = .ok (.putfield 55, 3) := by decide +kernel
theorem dX13_init_142 : decode cX13_init 142 = .ok (.aload_n 0, 1) := by decide +kernel
theorem dX13_init_143 : decode cX13_init 143 = .ok (.bipush 8, 2) := by decide +kernel
theorem dX13_init_145 : decode cX13_init 145 = .ok (.iconst 2, 1) := by decide +kernel
theorem dX13_init_146 : decode cX13_init 146 = .ok (.multianewarray 35 2, 4) := by decide +kernel
theorem dX13_init_150 : decode cX13_init 150 = .ok (.putfield 58, 3) := by decide +kernel
theorem dX13_init_153 : decode cX13_init 153 = .ok (.aload_n 0, 1) := by decide +kernel
theorem dX13_init_154 : decode cX13_init 154 = .ok (.sipush 160, 3) := by decide +kernel
theorem dX13_init_157 : decode cX13_init 157 = .ok (.newarray .int, 2) := by decide +kernel
theorem dX13_init_159 : decode cX13_init 159 = .ok (.putfield 61, 3) := by decide +kernel
theorem dX13_init_162 : decode cX13_init 162 = .ok (.aload_n 0, 1) := by decide +kernel
theorem dX13_init_163 : decode cX13_init 163 = .ok (.bipush 8, 2) := by decide +kernel
theorem dX13_init_165 : decode cX13_init 165 = .ok (.newarray .int, 2) := by decide +kernel
theorem dX13_init_167 : decode cX13_init 167 = .ok (.putfield 64, 3) := by decide +kernel
theorem dX13_init_170 : decode cX13_init 170 = .ok (.aload_n 0, 1) := by decide +kernel
theorem dX13_init_171 : decode cX13_init 171 = .ok (.bipush 80, 2) := by decide +kernel
theorem dX13_init_173 : decode cX13_init 173 = .ok (.iconst 4, 1) := by decide +kernel
theorem dX13_init_174 : decode cX13_init 174 = .ok (.multianewarray 35 2, 4) := by decide +kernel
theorem dX13_init_178 : decode cX13_init 178 = .ok (.putfield 67, 3) := by decide +kernel
theorem dX13_init_181 : decode cX13_init 181 = .ok (.aload_n 0, 1) := by decide +kernel
theorem dX13_init_182 : decode cX13_init 182 = .ok (.sipush 519, 3) := by decide +kernel
theorem dX13_init_185 : decode cX13_init 185 = .ok (.newarray .int, 2) := by decide +kernel
theorem dX13_init_187 : decode cX13_init 187 = .ok (.putfield 70, 3) := by decide +kernel
theorem dX13_init_190 : decode cX13_init 190 = .ok (.aload_n 0, 1) := by decide +kernel
theorem dX13_init_191 : decode cX13_init 191 = .ok (.sipush 519, 3) := by decide +kernel
theorem dX13_init_194 : decode cX13_init 194 = .ok (.newarray .int, 2) := by decide +kernel
theorem dX13_init_196 : decode cX13_init 196 = .ok (.putfield 73, 3) := by decide +kernel
theorem dX13_init_199 : decode cX13_init 199 = .ok (.aload_n 0, 1) := by decide +kernel
theorem dX13_init_200 : decode cX13_init 200 = .ok (.sipush 519, 3) := by decide +kernel
theorem dX13_init_203 : decode cX13_init 203 = .ok (.newarray .int, 2) := by decide +kernel
theorem dX13_init_205 : decode cX13_init 205 = .ok (.putfield 76, 3) := by decide +kernel
theorem dX13_init_208 : decode cX13_init 208 = .ok (.aload_n 0, 1) := by decide +kernel
theorem dX13_init_209 : decode cX13_init 209 = .ok (.bipush 16, 2) := by decide +kernel
theorem dX13_init_211 : decode cX13_init 211 = .ok (.sipush 519, 3) := by decide +kernel
theorem dX13_init_214 : decode cX13_init 214 = .ok (.multianewarray 35 2, 4) := by decide +kernel
theorem dX13_init_218 : decode cX13_init 218 = .ok (.putfield 79, 3) := by decide +kernel
theorem dX13_init_221 : decode cX13_init 221 = .ok (.aload_n 0, 1) := by decide +kernel
theorem dX13_init_222 : decode cX13_init 222 = .ok (.iconst 3, 1) := by decide +kernel
theorem dX13_init_223 : decode cX13_init 223 = .ok (.sipush 8824, 3) := by decide +kernel
theorem dX13_init_226 : decode cX13_init 226 = .ok (.multianewarray 35 2, 4) := by decide +kernel
theorem dX13_init_230 : decode cX13_init 230 = .ok (.putfield 82, 3) := by decide +kernel
theorem dX13_init_233 : decode cX13_init 233 = .ok (.aload_n 0, 1) := by decide +kernel
theorem dX13_init_234 : decode cX13_init 234 = .ok (.bipush 64, 2) := by decide +kernel
theorem dX13_init_236 : decode cX13_init 236 = .ok (.newarray .int, 2) := by decide +kernel
theorem dX13_init_238 : decode cX13_init 238 = .ok (.putfield 85, 3) := by decide +kernel
theorem dX13_init_241 : decode cX13_init 241 = .ok (.aload_n 0, 1) := by decide +kernel
theorem dX13_init_242 : decode cX13_init 242 = .ok (.bipush 64, 2) := by decide +kernel
theorem dX13_init_244 : decode cX13_init 244 = .ok (.newarray .int, 2) := by decide +kernel
theorem dX13_init_246 : decode cX13_init 246 = .ok (.putfield 88, 3) := by decide +kernel
theorem dX13_init_249 : decode cX13_init 249 = .ok (.aload_n 0, 1) := by decide +kernel
theorem dX13_init_250 : decode cX13_init 250 = .ok (.bipush 64, 2) := by decide +kernel
theorem dX13_init_252 : decode cX13_init 252 = .ok (.newarray .boolean, 2) := by decide +kernel
theorem dX13_init_254 : decode cX13_init 254 = .ok (.putfield 91, 3) := by decide +kernel
theorem dX13_init_257 : decode cX13_init 257 = .ok (.aload_n 0, 1) := by decide +kernel
theorem dX13_init_258 : decode cX13_init 258 = .ok (.bipush 16, 2) := by decide +kernel
theorem dX13_init_260 : decode cX13_init 260 = .ok (.bipush 64, 2) := by decide +kernel
theorem dX13_init_262 : decode cX13_init 262 = .ok (.multianewarray 35 2, 4) := by decide +kernel
theorem dX13_init_266 : decode cX13_init 266 = .ok (.putfield 95, 3) := by decide +kernel
theorem dX13_init_269 : decode cX13_init 269 = .ok (.aload_n 0, 1) := by decide +kernel
theorem dX13_init_270 : decode cX13_init 270 = .ok (.bipush 64, 2) := by decide +kernel
theorem dX13_init_272 : decode cX13_init 272 = .ok (.bipush 7, 2) := by decide +kernel
theorem dX13_init_274 : decode cX13_init 274 = .ok (.multianewarray 35 2, 4) := by decide +kernel
theorem dX13_init_278 : decode cX13_init 278 = .ok (.putfield 98, 3) := by decide +kernel
theorem dX13_init_281 : decode cX13_init 281 = .ok (.aload_n 0, 1) := by decide +kernel
theorem dX13_init_282 : decode cX13_init 282 = .ok (.invokevirtual 101, 3) := by decide +kernel
theorem dX13_init_285 : decode cX13_init 285 = .ok (.aload_n 0, 1) := by decide +kernel
theorem dX13_init_286 : decode cX13_init 286 = .ok (.invokevirtual 104, 3) := by decide +kernel
theorem dX13_init_289 : decode cX13_init 289 = .ok (.return_, 1) := by decide +kernel
theorem dX13_isDigit_0 : decode cX13_isDigit 0 = .ok (.iload_n 0, 1) := by decide +kernel
theorem dX13_isDigit_1 : decode cX13_isDigit 1 = .ok (.bipush 48, 2) := by decide +kernel
theorem dX13_isDigit_3 : decode cX13_isDigit 3 = .ok (.if_icmp .lt 13, 3) := by decide +kernel
theorem dX13_isDigit_6 : decode cX13_isDigit 6 = .ok (.iload_n 0, 1) := by decide +kernel
theorem dX13_isDigit_7 : decode cX13_isDigit 7 = .ok (.bipush 57, 2) := by decide +kernel
theorem dX13_isDigit_9 : decode cX13_isDigit 9 = .ok (.if_icmp .gt 7, 3) := by decide +kernel
theorem dX13_isDigit_12 : decode cX13_isDigit 12 = .ok (.iconst 1, 1) := by decide +kernel
theorem dX13_isDigit_13 : decode cX13_isDigit 13 = .ok (.goto 4, 3) := by decide +kernel
theorem dX13_isDigit_16 : decode cX13_isDigit 16 = .ok (.iconst 0, 1) := by decide +kernel
theorem dX13_isDigit_17 : decode cX13_isDigit 17 = .ok (.ireturn, 1) := by decide +kernel
theorem dX13_isDone_0 : decode cX13_isDone 0 = .ok (.aload_n 0, 1) := by decide +kernel
theorem dX13_isDone_1 : decode cX13_isDone 1 = .ok (.aload_n 1, 1) := by decide +kernel
theorem dX13_isDone_2 : decode cX13_isDone 2 = .ok (.invokevirtual 383, 3) := by decide +kernel
theorem dX13_isDone_5 : decode cX13_isDone 5 = .ok (.iconst 1, 1) := by decide +kernel
theorem dX13_isDone_6 : decode cX13_isDone 6 = .ok (.aload_n 0, 1) := by decide +kernel
theorem dX13_isDone_7 : decode cX13_isDone 7 = .ok (.getfield 23, 3) := by decide +kernel
theorem dX13_isDone_10 : decode cX13_isDone 10 = .ok (.iconst 2, 1) := by decide +kernel
theorem dX13_isDone_11 : decode cX13_isDone 11 = .ok (.iaload, 1) := by decide +kernel
theorem dX13_isDone_12 : decode cX13_isDone 12 = .ok (.ishl, 1) := by decide +kernel
theorem dX13_isDone_13 : decode cX13_isDone 13 = .ok (.iconst 1, 1) := by decide +kernel
theorem dX13_isDone_14 : decode cX13_isDone 14 = .ok (.isub, 1) := by decide +kernel
theorem dX13_isDone_15 : decode cX13_isDone 15 = .ok (.if_icmp .ne 15, 3) := by decide +kernel
theorem dX13_isDone_18 : decode cX13_isDone 18 = .ok (.aload_n 0, 1) := by decide +kernel
theorem dX13_isDone_19 : decode cX13_isDone 19 = .ok (.aload_n 1, 1) := by decide +kernel
theorem dX13_isDone_20 : decode cX13_isDone 20 = .ok (.invokevirtual 387, 3) := by decide +kernel
theorem dX13_isDone_23 : decode cX13_isDone 23 = .ok (.ifCond .ne 7, 3) := by decide +kernel
theorem dX13_isDone_26 : decode cX13_isDone 26 = .ok (.iconst 1, 1) := by decide +kernel
theorem dX13_isDone_27 : decode cX13_isDone 27 = .ok (.goto 4, 3) := by decide +kernel
theorem dX13_isDone_30 : decode cX13_isDone 30 = .ok (.iconst 0, 1) := by decide +kernel
theorem dX13_isDone_31 : decode cX13_isDone 31 = .ok (.ireturn, 1) := by decide +kernel
theorem dX13_isFree_0 : decode cX13_isFree 0 = .ok (.iload_n 3, 1) := by decide +kernel
theorem dX13_isFree_1 : decode cX13_isFree 1 = .ok (.istore 4, 2) := by decide +kernel
theorem dX13_isFree_3 : decode cX13_isFree 3 = .ok (.aload_n 1, 1) := by decide +kernel
theorem dX13_isFree_4 : decode cX13_isFree 4 = .ok (.iload_n 2, 1) := by decide +kernel
theorem dX13_isFree_5 : decode cX13_isFree 5 = .ok (.iload 4, 2) := by decide +kernel
theorem dX13_isFree_7 : decode cX13_isFree 7 = .ok (.invokestatic 284, 3) := by decide +kernel
theorem dX13_isFree_10 : decode cX13_isFree 10 = .ok (.iaload, 1) := by decide +kernel
theorem dX13_isFree_11 : decode cX13_isFree 11 = .ok (.iconst 4, 1) := by decide +kernel
theorem dX13_isFree_12 : decode cX13_isFree 12 = .ok (.if_icmp .eq 34, 3) := by decide +kernel
theorem dX13_isFree_15 : decode cX13_isFree 15 = .ok (.aload_n 0, 1) := by decide +kernel
theorem dX13_isFree_16 : decode cX13_isFree 16 = .ok (.aload_n 1, 1) := by decide +kernel
theorem dX13_isFree_17 : decode cX13_isFree 17 = .ok (.iload 4, 2) := by decide +kernel
theorem dX13_isFree_19 : decode cX13_isFree 19 = .ok (.invokevirtual 335, 3) := by decide +kernel
theorem dX13_isFree_22 : decode cX13_isFree 22 = .ok (.ifCond .le 5, 3) := by decide +kernel
theorem dX13_isFree_25 : decode cX13_isFree 25 = .ok (.iconst 0, 1) := by decide +kernel
theorem dX13_isFree_26 : decode cX13_isFree 26 = .ok (.ireturn, 1) := by decide +kernel
theorem dX13_isFree_27 : decode cX13_isFree 27 = .ok (.aload_n 0, 1) := by decide +kernel
theorem dX13_isFree_28 : decode cX13_isFree 28 = .ok (.iload 4, 2) := by decide +kernel
theorem dX13_isFree_30 : decode cX13_isFree 30 = .ok (.aload_n 1, 1) := by decide +kernel
theorem dX13_isFree_31 : decode cX13_isFree 31 = .ok (.iload_n 2, 1) := by decide +kernel
theorem dX13_isFree_32 : decode cX13_isFree 32 = .ok (.iload 4, 2) := by decide +kernel
theorem dX13_isFree_34 : decode cX13_isFree 34 = .ok (.invokestatic 284, 3) := by decide +kernel
theorem dX13_isFree_37 : decode cX13_isFree 37 = .ok (.iaload, 1) := by decide +kernel
theorem dX13_isFree_38 : decode cX13_isFree 38 = .ok (.invokevirtual 309, 3) := by decide +kernel
theorem dX13_isFree_41 : decode cX13_isFree 41 = .ok (.istore 4, 2) := by decide +kernel
theorem dX13_isFree_43 : decode cX13_isFree 43 = .ok (.goto (-40), 3) := by decide +kernel
theorem dX13_isFree_46 : decode cX13_isFree 46 = .ok (.iconst 1, 1) := by decide +kernel
theorem dX13_isFree_47 : decode cX13_isFree 47 = .ok (.ireturn, 1) := by decide +kernel
theorem dX13_isHere_0 : decode cX13_isHere 0 = .ok (.aload_n 0, 1) := by decide +kernel
theorem dX13_isHere_1 : decode cX13_isHere 1 = .ok (.iload_n 1, 1) := by decide +kernel
theorem dX13_isHere_2 : decode cX13_isHere 2 = .ok (.bipush 8, 2) := by decide +kernel
theorem dX13_isHere_4 : decode cX13_isHere 4 = .ok (.irem, 1) := by decide +kernel
theorem dX13_isHere_5 : decode cX13_isHere 5 = .ok (.iload_n 1, 1) := by decide +kernel
theorem dX13_isHere_6 : decode cX13_isHere 6 = .ok (.bipush 8, 2) := by decide +kernel
theorem dX13_isHere_8 : decode cX13_isHere 8 = .ok (.idiv, 1) := by decide +kernel
theorem dX13_isHere_9 : decode cX13_isHere 9 = .ok (.invokevirtual 281, 3) := by decide +kernel
theorem dX13_isHere_12 : decode cX13_isHere 12 = .ok (.ireturn, 1) := by decide +kernel
theorem dX13_isIn_0 : decode cX13_isIn 0 = .ok (.aload_n 0, 1) := by decide +kernel
theorem dX13_isIn_1 : decode cX13_isIn 1 = .ok (.iload_n 1, 1) := by decide +kernel
theorem dX13_isIn_2 : decode cX13_isIn 2 = .ok (.iload_n 2, 1) := by decide +kernel
theorem dX13_isIn_3 : decode cX13_isIn 3 = .ok (.invokestatic 284, 3) := by decide +kernel
theorem dX13_isIn_6 : decode cX13_isIn 6 = .ok (.iaload, 1) := by decide +kernel
theorem dX13_isIn_7 : decode cX13_isIn 7 = .ok (.iconst (-1), 1) := by decide +kernel
theorem dX13_isIn_8 : decode cX13_isIn 8 = .ok (.if_icmp .eq 7, 3) := by decide +kernel
theorem dX13_isIn_11 : decode cX13_isIn 11 = .ok (.iconst 1, 1) := by decide +kernel
theorem dX13_isIn_12 : decode cX13_isIn 12 = .ok (.goto 4, 3) := by decide +kernel
theorem dX13_isIn_15 : decode cX13_isIn 15 = .ok (.iconst 0, 1) := by decide +kernel
theorem dX13_isIn_16 : decode cX13_isIn 16 = .ok (.ireturn, 1) := by decide +kernel
theorem dX13_isJoined_0 : decode cX13_isJoined 0 = .ok (.iconst 0, 1) := by decide +kernel
theorem dX13_isJoined_1 : decode cX13_isJoined 1 = .ok (.istore_n 3, 1) := by decide +kernel
theorem dX13_isJoined_2 : decode cX13_isJoined 2 = .ok (.iload_n 3, 1) := by decide +kernel
theorem dX13_isJoined_3 : decode cX13_isJoined 3 = .ok (.aload_n 0, 1) := by decide +kernel
theorem dX13_isJoined_4 : decode cX13_isJoined 4 = .ok (.getfield 40, 3) := by decide +kernel
theorem dX13_isJoined_7 : decode cX13_isJoined 7 = .ok (.iload_n 2, 1) := by decide +kernel
theorem dX13_isJoined_8 : decode cX13_isJoined 8 = .ok (.aaload, 1) := by decide +kernel
theorem dX13_isJoined_9 : decode cX13_isJoined 9 = .ok (.iconst 2, 1) := by decide +kernel
theorem dX13_isJoined_10 : decode cX13_isJoined 10 = .ok (.iaload, 1) := by decide +kernel
theorem dX13_isJoined_11 : decode cX13_isJoined 11 = .ok (.if_icmp .ge 27, 3) := by decide +kernel
theorem dX13_isJoined_14 : decode cX13_isJoined 14 = .ok (.aload_n 1, 1) := by decide +kernel
theorem dX13_isJoined_15 : decode cX13_isJoined 15 = .ok (.iload_n 2, 1) := by decide +kernel
theorem dX13_isJoined_16 : decode cX13_isJoined 16 = .ok (.aload_n 0, 1) := by decide +kernel
theorem dX13_isJoined_17 : decode cX13_isJoined 17 = .ok (.getfield 46, 3) := by decide +kernel
theorem dX13_isJoined_20 : decode cX13_isJoined 20 = .ok (.iload_n 2, 1) := by decide +kernel
theorem dX13_isJoined_21 : decode cX13_isJoined 21 = .ok (.aaload, 1) := by decide +kernel
theorem dX13_isJoined_22 : decode cX13_isJoined 22 = .ok (.iload_n 3, 1) := by decide +kernel
theorem dX13_isJoined_23 : decode cX13_isJoined 23 = .ok (.iaload, 1) := by decide +kernel
theorem dX13_isJoined_24 : decode cX13_isJoined 24 = .ok (.invokestatic 287, 3) := by decide +kernel
theorem dX13_isJoined_27 : decode cX13_isJoined 27 = .ok (.ifCond .ne 5, 3) := by decide +kernel
theorem dX13_isJoined_30 : decode cX13_isJoined 30 = .ok (.iconst 0, 1) := by decide +kernel
theorem dX13_isJoined_31 : decode cX13_isJoined 31 = .ok (.ireturn, 1) := by decide +kernel
theorem dX13_isJoined_32 : decode cX13_isJoined 32 = .ok (.iinc 3 1, 3) := by decide +kernel
theorem dX13_isJoined_35 : decode cX13_isJoined 35 = .ok (.goto (-33), 3) := by decide +kernel
theorem dX13_isJoined_38 : decode cX13_isJoined 38 = .ok (.iconst 1, 1) := by decide +kernel
theorem dX13_isJoined_39 : decode cX13_isJoined 39 = .ok (.ireturn, 1) := by decide +kernel
theorem dX13_isNet_0 : decode cX13_isNet 0 = .ok (.iload_n 1, 1) := by decide +kernel
theorem dX13_isNet_1 : decode cX13_isNet 1 = .ok (.iconst 0, 1) := by decide +kernel
theorem dX13_isNet_2 : decode cX13_isNet 2 = .ok (.aload_n 0, 1) := by decide +kernel
theorem dX13_isNet_3 : decode cX13_isNet 3 = .ok (.getfield 23, 3) := by decide +kernel
theorem dX13_isNet_6 : decode cX13_isNet 6 = .ok (.iconst 2, 1) := by decide +kernel
theorem dX13_isNet_7 : decode cX13_isNet 7 = .ok (.iaload, 1) := by decide +kernel
theorem dX13_isNet_8 : decode cX13_isNet 8 = .ok (.iconst 1, 1) := by decide +kernel
theorem dX13_isNet_9 : decode cX13_isNet 9 = .ok (.isub, 1) := by decide +kernel
theorem dX13_isNet_10 : decode cX13_isNet 10 = .ok (.invokestatic 141, 3) := by decide +kernel
theorem dX13_isNet_13 : decode cX13_isNet 13 = .ok (.ireturn, 1) := by decide +kernel
theorem dX13_isPin_0 : decode cX13_isPin 0 = .ok (.iconst 0, 1) := by decide +kernel
theorem dX13_isPin_1 : decode cX13_isPin 1 = .ok (.istore_n 3, 1) := by decide +kernel
theorem dX13_isPin_2 : decode cX13_isPin 2 = .ok (.iload_n 3, 1) := by decide +kernel
theorem dX13_isPin_3 : decode cX13_isPin 3 = .ok (.aload_n 0, 1) := by decide +kernel
theorem dX13_isPin_4 : decode cX13_isPin 4 = .ok (.getfield 40, 3) := by decide +kernel
theorem dX13_isPin_7 : decode cX13_isPin 7 = .ok (.iload_n 1, 1) := by decide +kernel
theorem dX13_isPin_8 : decode cX13_isPin 8 = .ok (.aaload, 1) := by decide +kernel
theorem dX13_isPin_9 : decode cX13_isPin 9 = .ok (.iconst 2, 1) := by decide +kernel
theorem dX13_isPin_10 : decode cX13_isPin 10 = .ok (.iaload, 1) := by decide +kernel
theorem dX13_isPin_11 : decode cX13_isPin 11 = .ok (.if_icmp .ge 23, 3) := by decide +kernel
theorem dX13_isPin_14 : decode cX13_isPin 14 = .ok (.aload_n 0, 1) := by decide +kernel
theorem dX13_isPin_15 : decode cX13_isPin 15 = .ok (.getfield 46, 3) := by decide +kernel
theorem dX13_isPin_18 : decode cX13_isPin 18 = .ok (.iload_n 1, 1) := by decide +kernel
theorem dX13_isPin_19 : decode cX13_isPin 19 = .ok (.aaload, 1) := by decide +kernel
theorem dX13_isPin_20 : decode cX13_isPin 20 = .ok (.iload_n 3, 1) := by decide +kernel
theorem dX13_isPin_21 : decode cX13_isPin 21 = .ok (.iaload, 1) := by decide +kernel
theorem dX13_isPin_22 : decode cX13_isPin 22 = .ok (.iload_n 2, 1) := by decide +kernel
theorem dX13_isPin_23 : decode cX13_isPin 23 = .ok (.if_icmp .ne 5, 3) := by decide +kernel
theorem dX13_isPin_26 : decode cX13_isPin 26 = .ok (.iconst 1, 1) := by decide +kernel
theorem dX13_isPin_27 : decode cX13_isPin 27 = .ok (.ireturn, 1) := by decide +kernel
theorem dX13_isPin_28 : decode cX13_isPin 28 = .ok (.iinc 3 1, 3) := by decide +kernel
theorem dX13_isPin_31 : decode cX13_isPin 31 = .ok (.goto (-29), 3) := by decide +kernel
theorem dX13_isPin_34 : decode cX13_isPin 34 = .ok (.iconst 0, 1) := by decide +kernel
theorem dX13_isPin_35 : decode cX13_isPin 35 = .ok (.ireturn, 1) := by decide +kernel
theorem dX13_isSeason_0 : decode cX13_isSeason 0 = .ok (.iload_n 0, 1) := by decide +kernel
theorem dX13_isSeason_1 : decode cX13_isSeason 1 = .ok (.iconst 1, 1) := by decide +kernel
theorem dX13_isSeason_2 : decode cX13_isSeason 2 = .ok (.bipush 40, 2) := by decide +kernel
theorem dX13_isSeason_4 : decode cX13_isSeason 4 = .ok (.invokestatic 141, 3) := by decide +kernel
theorem dX13_isSeason_7 : decode cX13_isSeason 7 = .ok (.ifCond .eq 17, 3) := by decide +kernel
theorem dX13_isSeason_10 : decode cX13_isSeason 10 = .ok (.iload_n 1, 1) := by decide +kernel
theorem dX13_isSeason_11 : decode cX13_isSeason 11 = .ok (.iconst 0, 1) := by decide +kernel
theorem dX13_isSeason_12 : decode cX13_isSeason 12 = .ok (.bipush 16, 2) := by decide +kernel
theorem dX13_isSeason_14 : decode cX13_isSeason 14 = .ok (.invokestatic 141, 3) := by decide +kernel
theorem dX13_isSeason_17 : decode cX13_isSeason 17 = .ok (.ifCond .eq 7, 3) := by decide +kernel
theorem dX13_isSeason_20 : decode cX13_isSeason 20 = .ok (.iconst 1, 1) := by decide +kernel
theorem dX13_isSeason_21 : decode cX13_isSeason 21 = .ok (.goto 4, 3) := by decide +kernel
theorem dX13_isSeason_24 : decode cX13_isSeason 24 = .ok (.iconst 0, 1) := by decide +kernel
theorem dX13_isSeason_25 : decode cX13_isSeason 25 = .ok (.ireturn, 1) := by decide +kernel
theorem dX13_isSmall_0 : decode cX13_isSmall 0 = .ok (.iload_n 0, 1) := by decide +kernel
theorem dX13_isSmall_1 : decode cX13_isSmall 1 = .ok (.bipush 97, 2) := by decide +kernel
theorem dX13_isSmall_3 : decode cX13_isSmall 3 = .ok (.if_icmp .lt 13, 3) := by decide +kernel
theorem dX13_isSmall_6 : decode cX13_isSmall 6 = .ok (.iload_n 0, 1) := by decide +kernel
theorem dX13_isSmall_7 : decode cX13_isSmall 7 = .ok (.bipush 122, 2) := by decide +kernel
theorem dX13_isSmall_9 : decode cX13_isSmall 9 = .ok (.if_icmp .gt 7, 3) := by decide +kernel
theorem dX13_isSmall_12 : decode cX13_isSmall 12 = .ok (.iconst 1, 1) := by decide +kernel
theorem dX13_isSmall_13 : decode cX13_isSmall 13 = .ok (.goto 4, 3) := by decide +kernel
theorem dX13_isSmall_16 : decode cX13_isSmall 16 = .ok (.iconst 0, 1) := by decide +kernel
theorem dX13_isSmall_17 : decode cX13_isSmall 17 = .ok (.ireturn, 1) := by decide +kernel
theorem dX13_isSo_0 : decode cX13_isSo 0 = .ok (.aload_n 0, 1) := by decide +kernel
theorem dX13_isSo_1 : decode cX13_isSo 1 = .ok (.iload_n 1, 1) := by decide +kernel
theorem dX13_isSo_2 : decode cX13_isSo 2 = .ok (.iload_n 2, 1) := by decide +kernel
theorem dX13_isSo_3 : decode cX13_isSo 3 = .ok (.invokevirtual 431, 3) := by decide +kernel
theorem dX13_isSo_6 : decode cX13_isSo 6 = .ok (.ifCond .ne 5, 3) := by decide +kernel
theorem dX13_isSo_9 : decode cX13_isSo 9 = .ok (.iconst 0, 1) := by decide +kernel
theorem dX13_isSo_10 : decode cX13_isSo 10 = .ok (.ireturn, 1) := by decide +kernel
theorem dX13_isSo_11 : decode cX13_isSo 11 = .ok (.iconst 0, 1) := by decide +kernel
theorem dX13_isSo_12 : decode cX13_isSo 12 = .ok (.istore_n 3, 1) := by decide +kernel
theorem dX13_isSo_13 : decode cX13_isSo 13 = .ok (.iload_n 3, 1) := by decide +kernel
theorem dX13_isSo_14 : decode cX13_isSo 14 = .ok (.aload_n 0, 1) := by decide +kernel
theorem dX13_isSo_15 : decode cX13_isSo 15 = .ok (.getfield 215, 3) := by decide +kernel
theorem dX13_isSo_18 : decode cX13_isSo 18 = .ok (.if_icmp .ge 41, 3) := by decide +kernel
theorem dX13_isSo_21 : decode cX13_isSo 21 = .ok (.aload_n 0, 1) := by decide +kernel
theorem dX13_isSo_22 : decode cX13_isSo 22 = .ok (.aload_n 0, 1) := by decide +kernel
theorem dX13_isSo_23 : decode cX13_isSo 23 = .ok (.getfield 76, 3) := by decide +kernel
theorem dX13_isSo_26 : decode cX13_isSo 26 = .ok (.aload_n 0, 1) := by decide +kernel
theorem dX13_isSo_27 : decode cX13_isSo 27 = .ok (.getfield 55, 3) := by decide +kernel
theorem dX13_isSo_30 : decode cX13_isSo 30 = .ok (.iload_n 3, 1) := by decide +kernel
theorem dX13_isSo_31 : decode cX13_isSo 31 = .ok (.aaload, 1) := by decide +kernel
theorem dX13_isSo_32 : decode cX13_isSo 32 = .ok (.iconst 0, 1) := by decide +kernel
theorem dX13_isSo_33 : decode cX13_isSo 33 = .ok (.iaload, 1) := by decide +kernel
theorem dX13_isSo_34 : decode cX13_isSo 34 = .ok (.invokevirtual 291, 3) := by decide +kernel
theorem dX13_isSo_37 : decode cX13_isSo 37 = .ok (.invokestatic 295, 3) := by decide +kernel
theorem dX13_isSo_40 : decode cX13_isSo 40 = .ok (.aload_n 0, 1) := by decide +kernel
theorem dX13_isSo_41 : decode cX13_isSo 41 = .ok (.getfield 55, 3) := by decide +kernel
theorem dX13_isSo_44 : decode cX13_isSo 44 = .ok (.iload_n 3, 1) := by decide +kernel
theorem dX13_isSo_45 : decode cX13_isSo 45 = .ok (.aaload, 1) := by decide +kernel
theorem dX13_isSo_46 : decode cX13_isSo 46 = .ok (.iconst 1, 1) := by decide +kernel
theorem dX13_isSo_47 : decode cX13_isSo 47 = .ok (.iaload, 1) := by decide +kernel
theorem dX13_isSo_48 : decode cX13_isSo 48 = .ok (.if_icmp .eq 5, 3) := by decide +kernel
theorem dX13_isSo_51 : decode cX13_isSo 51 = .ok (.iconst 0, 1) := by decide +kernel
theorem dX13_isSo_52 : decode cX13_isSo 52 = .ok (.ireturn, 1) := by decide +kernel
theorem dX13_isSo_53 : decode cX13_isSo 53 = .ok (.iinc 3 1, 3) := by decide +kernel
theorem dX13_isSo_56 : decode cX13_isSo 56 = .ok (.goto (-43), 3) := by decide +kernel
theorem dX13_isSo_59 : decode cX13_isSo 59 = .ok (.iconst 1, 1) := by decide +kernel
theorem dX13_isSo_60 : decode cX13_isSo 60 = .ok (.ireturn, 1) := by decide +kernel
theorem dX13_isTold_0 : decode cX13_isTold 0 = .ok (.iconst 0, 1) := by decide +kernel
theorem dX13_isTold_1 : decode cX13_isTold 1 = .ok (.istore_n 2, 1) := by decide +kernel
theorem dX13_isTold_2 : decode cX13_isTold 2 = .ok (.iload_n 2, 1) := by decide +kernel
theorem dX13_isTold_3 : decode cX13_isTold 3 = .ok (.aload_n 0, 1) := by decide +kernel
theorem dX13_isTold_4 : decode cX13_isTold 4 = .ok (.getfield 215, 3) := by decide +kernel
theorem dX13_isTold_7 : decode cX13_isTold 7 = .ok (.if_icmp .ge 23, 3) := by decide +kernel
theorem dX13_isTold_10 : decode cX13_isTold 10 = .ok (.aload_n 0, 1) := by decide +kernel
theorem dX13_isTold_11 : decode cX13_isTold 11 = .ok (.getfield 55, 3) := by decide +kernel
theorem dX13_isTold_14 : decode cX13_isTold 14 = .ok (.iload_n 2, 1) := by decide +kernel
theorem dX13_isTold_15 : decode cX13_isTold 15 = .ok (.aaload, 1) := by decide +kernel
theorem dX13_isTold_16 : decode cX13_isTold 16 = .ok (.iconst 0, 1) := by decide +kernel
theorem dX13_isTold_17 : decode cX13_isTold 17 = .ok (.iaload, 1) := by decide +kernel
theorem dX13_isTold_18 : decode cX13_isTold 18 = .ok (.iload_n 1, 1) := by decide +kernel
theorem dX13_isTold_19 : decode cX13_isTold 19 = .ok (.if_icmp .ne 5, 3) := by decide +kernel
theorem dX13_isTold_22 : decode cX13_isTold 22 = .ok (.iconst 1, 1) := by decide +kernel
theorem dX13_isTold_23 : decode cX13_isTold 23 = .ok (.ireturn, 1) := by decide +kernel
theorem dX13_isTold_24 : decode cX13_isTold 24 = .ok (.iinc 2 1, 3) := by decide +kernel
theorem dX13_isTold_27 : decode cX13_isTold 27 = .ok (.goto (-25), 3) := by decide +kernel
theorem dX13_isTold_30 : decode cX13_isTold 30 = .ok (.iconst 0, 1) := by decide +kernel
theorem dX13_isTold_31 : decode cX13_isTold 31 = .ok (.ireturn, 1) := by decide +kernel
theorem dX13_isWithin_0 : decode cX13_isWithin 0 = .ok (.iload_n 1, 1) := by decide +kernel
theorem dX13_isWithin_1 : decode cX13_isWithin 1 = .ok (.iconst 0, 1) := by decide +kernel
theorem dX13_isWithin_2 : decode cX13_isWithin 2 = .ok (.aload_n 0, 1) := by decide +kernel
theorem dX13_isWithin_3 : decode cX13_isWithin 3 = .ok (.getfield 23, 3) := by decide +kernel
theorem dX13_isWithin_6 : decode cX13_isWithin 6 = .ok (.iconst 0, 1) := by decide +kernel
theorem dX13_isWithin_7 : decode cX13_isWithin 7 = .ok (.iaload, 1) := by decide +kernel
theorem dX13_isWithin_8 : decode cX13_isWithin 8 = .ok (.iconst 1, 1) := by decide +kernel
theorem dX13_isWithin_9 : decode cX13_isWithin 9 = .ok (.isub, 1) := by decide +kernel
theorem dX13_isWithin_10 : decode cX13_isWithin 10 = .ok (.invokestatic 141, 3) := by decide +kernel
theorem dX13_isWithin_13 : decode cX13_isWithin 13 = .ok (.ifCond .eq 23, 3) := by decide +kernel
theorem dX13_isWithin_16 : decode cX13_isWithin 16 = .ok (.iload_n 2, 1) := by decide +kernel
theorem dX13_isWithin_17 : decode cX13_isWithin 17 = .ok (.iconst 0, 1) := by decide +kernel
theorem dX13_isWithin_18 : decode cX13_isWithin 18 = .ok (.aload_n 0, 1) := by decide +kernel
theorem dX13_isWithin_19 : decode cX13_isWithin 19 = .ok (.getfield 23, 3) := by decide +kernel
theorem dX13_isWithin_22 : decode cX13_isWithin 22 = .ok (.iconst 1, 1) := by decide +kernel
theorem dX13_isWithin_23 : decode cX13_isWithin 23 = .ok (.iaload, 1) := by decide +kernel
theorem dX13_isWithin_24 : decode cX13_isWithin 24 = .ok (.iconst 1, 1) := by decide +kernel
theorem dX13_isWithin_25 : decode cX13_isWithin 25 = .ok (.isub, 1) := by decide +kernel
theorem dX13_isWithin_26 : decode cX13_isWithin 26 = .ok (.invokestatic 141, 3) := by decide +kernel
theorem dX13_isWithin_29 : decode cX13_isWithin 29 = .ok (.ifCond .eq 7, 3) := by decide +kernel
theorem dX13_isWithin_32 : decode cX13_isWithin 32 = .ok (.iconst 1, 1) := by decide +kernel
theorem dX13_isWithin_33 : decode cX13_isWithin 33 = .ok (.goto 4, 3) := by decide +kernel
theorem dX13_isWithin_36 : decode cX13_isWithin 36 = .ok (.iconst 0, 1) := by decide +kernel
theorem dX13_isWithin_37 : decode cX13_isWithin 37 = .ok (.ireturn, 1) := by decide +kernel
theorem dX13_isWord_0 : decode cX13_isWord 0 = .ok (.aload_n 0, 1) := by decide +kernel
theorem dX13_isWord_1 : decode cX13_isWord 1 = .ok (.getfield 123, 3) := by decide +kernel
theorem dX13_isWord_4 : decode cX13_isWord 4 = .ok (.ifCond .ne 26, 3) := by decide +kernel
theorem dX13_isWord_7 : decode cX13_isWord 7 = .ok (.aload_n 0, 1) := by decide +kernel
theorem dX13_isWord_8 : decode cX13_isWord 8 = .ok (.invokevirtual 148, 3) := by decide +kernel
theorem dX13_isWord_11 : decode cX13_isWord 11 = .ok (.iload_n 1, 1) := by decide +kernel
theorem dX13_isWord_12 : decode cX13_isWord 12 = .ok (.iload_n 2, 1) := by decide +kernel
theorem dX13_isWord_13 : decode cX13_isWord 13 = .ok (.iload_n 3, 1) := by decide +kernel
theorem dX13_isWord_14 : decode cX13_isWord 14 = .ok (.iload 4, 2) := by decide +kernel
theorem dX13_isWord_16 : decode cX13_isWord 16 = .ok (.iload 5, 2) := by decide +kernel
theorem dX13_isWord_18 : decode cX13_isWord 18 = .ok (.iload 6, 2) := by decide +kernel
theorem dX13_isWord_20 : decode cX13_isWord 20 = .ok (.invokestatic 152, 3) := by decide +kernel
theorem dX13_isWord_23 : decode cX13_isWord 23 = .ok (.if_icmp .ne 7, 3) := by decide +kernel
theorem dX13_isWord_26 : decode cX13_isWord 26 = .ok (.iconst 1, 1) := by decide +kernel
theorem dX13_isWord_27 : decode cX13_isWord 27 = .ok (.goto 4, 3) := by decide +kernel
theorem dX13_isWord_30 : decode cX13_isWord 30 = .ok (.iconst 0, 1) := by decide +kernel
theorem dX13_isWord_31 : decode cX13_isWord 31 = .ok (.ireturn, 1) := by decide +kernel
theorem dX13_jam_0 : decode cX13_jam 0 = .ok (.aload_n 0, 1) := by decide +kernel
theorem dX13_jam_1 : decode cX13_jam 1 = .ok (.iconst 0, 1) := by decide +kernel
theorem dX13_jam_2 : decode cX13_jam 2 = .ok (.putfield 107, 3) := by decide +kernel
theorem dX13_jam_5 : decode cX13_jam 5 = .ok (.aload_n 0, 1) := by decide +kernel
theorem dX13_jam_6 : decode cX13_jam 6 = .ok (.iload_n 1, 1) := by decide +kernel
theorem dX13_jam_7 : decode cX13_jam 7 = .ok (.iconst 0, 1) := by decide +kernel
theorem dX13_jam_8 : decode cX13_jam 8 = .ok (.aload_n 0, 1) := by decide +kernel
theorem dX13_jam_9 : decode cX13_jam 9 = .ok (.getfield 23, 3) := by decide +kernel
theorem dX13_jam_12 : decode cX13_jam 12 = .ok (.iconst 1, 1) := by decide +kernel
theorem dX13_jam_13 : decode cX13_jam 13 = .ok (.iaload, 1) := by decide +kernel
theorem dX13_jam_14 : decode cX13_jam 14 = .ok (.iconst 1, 1) := by decide +kernel
theorem dX13_jam_15 : decode cX13_jam 15 = .ok (.isub, 1) := by decide +kernel
theorem dX13_jam_16 : decode cX13_jam 16 = .ok (.invokestatic 141, 3) := by decide +kernel
theorem dX13_jam_19 : decode cX13_jam 19 = .ok (.ifCond .ne 7, 3) := by decide +kernel
theorem dX13_jam_22 : decode cX13_jam 22 = .ok (.iconst 1, 1) := by decide +kernel
theorem dX13_jam_23 : decode cX13_jam 23 = .ok (.goto 4, 3) := by decide +kernel
theorem dX13_jam_26 : decode cX13_jam 26 = .ok (.iconst 0, 1) := by decide +kernel
theorem dX13_jam_27 : decode cX13_jam 27 = .ok (.iconst 1, 1) := by decide +kernel
theorem dX13_jam_28 : decode cX13_jam 28 = .ok (.iconst 0, 1) := by decide +kernel
theorem dX13_jam_29 : decode cX13_jam 29 = .ok (.invokevirtual 186, 3) := by decide +kernel
theorem dX13_jam_32 : decode cX13_jam 32 = .ok (.ifCond .eq 5, 3) := by decide +kernel
theorem dX13_jam_35 : decode cX13_jam 35 = .ok (.iconst 0, 1) := by decide +kernel
theorem dX13_jam_36 : decode cX13_jam 36 = .ok (.ireturn, 1) := by decide +kernel
theorem dX13_jam_37 : decode cX13_jam 37 = .ok (.aload_n 0, 1) := by decide +kernel
theorem dX13_jam_38 : decode cX13_jam 38 = .ok (.bipush 40, 2) := by decide +kernel
theorem dX13_jam_40 : decode cX13_jam 40 = .ok (.invokevirtual 421, 3) := by decide +kernel
theorem dX13_jam_43 : decode cX13_jam 43 = .ok (.iconst 0, 1) := by decide +kernel
theorem dX13_jam_44 : decode cX13_jam 44 = .ok (.istore_n 2, 1) := by decide +kernel
theorem dX13_jam_45 : decode cX13_jam 45 = .ok (.iconst 0, 1) := by decide +kernel
theorem dX13_jam_46 : decode cX13_jam 46 = .ok (.istore_n 3, 1) := by decide +kernel
theorem dX13_jam_47 : decode cX13_jam 47 = .ok (.iload_n 3, 1) := by decide +kernel
theorem dX13_jam_48 : decode cX13_jam 48 = .ok (.aload_n 0, 1) := by decide +kernel
theorem dX13_jam_49 : decode cX13_jam 49 = .ok (.getfield 23, 3) := by decide +kernel
theorem dX13_jam_52 : decode cX13_jam 52 = .ok (.iconst 0, 1) := by decide +kernel
theorem dX13_jam_53 : decode cX13_jam 53 = .ok (.iaload, 1) := by decide +kernel
theorem dX13_jam_54 : decode cX13_jam 54 = .ok (.if_icmp .ge 36, 3) := by decide +kernel
theorem dX13_jam_57 : decode cX13_jam 57 = .ok (.iload_n 2, 1) := by decide +kernel
theorem dX13_jam_58 : decode cX13_jam 58 = .ok (.aload_n 0, 1) := by decide +kernel
theorem dX13_jam_59 : decode cX13_jam 59 = .ok (.aload_n 0, 1) := by decide +kernel
theorem dX13_jam_60 : decode cX13_jam 60 = .ok (.getfield 73, 3) := by decide +kernel
theorem dX13_jam_63 : decode cX13_jam 63 = .ok (.bipush 8, 2) := by decide +kernel
theorem dX13_jam_65 : decode cX13_jam 65 = .ok (.iload_n 1, 1) := by decide +kernel
theorem dX13_jam_66 : decode cX13_jam 66 = .ok (.imul, 1) := by decide +kernel
theorem dX13_jam_67 : decode cX13_jam 67 = .ok (.iload_n 3, 1) := by decide +kernel
theorem dX13_jam_68 : decode cX13_jam 68 = .ok (.iadd, 1) := by decide +kernel
theorem dX13_jam_69 : decode cX13_jam 69 = .ok (.invokevirtual 335, 3) := by decide +kernel
theorem dX13_jam_72 : decode cX13_jam 72 = .ok (.ifCond .le 9, 3) := by decide +kernel
theorem dX13_jam_75 : decode cX13_jam 75 = .ok (.iconst 1, 1) := by decide +kernel
theorem dX13_jam_76 : decode cX13_jam 76 = .ok (.iload_n 3, 1) := by decide +kernel
theorem dX13_jam_77 : decode cX13_jam 77 = .ok (.ishl, 1) := by decide +kernel
theorem dX13_jam_78 : decode cX13_jam 78 = .ok (.goto 4, 3) := by decide +kernel
theorem dX13_jam_81 : decode cX13_jam 81 = .ok (.iconst 0, 1) := by decide +kernel
theorem dX13_jam_82 : decode cX13_jam 82 = .ok (.ior, 1) := by decide +kernel
theorem dX13_jam_83 : decode cX13_jam 83 = .ok (.istore_n 2, 1) := by decide +kernel
theorem dX13_jam_84 : decode cX13_jam 84 = .ok (.iinc 3 1, 3) := by decide +kernel
theorem dX13_jam_87 : decode cX13_jam 87 = .ok (.goto (-40), 3) := by decide +kernel
theorem dX13_jam_90 : decode cX13_jam 90 = .ok (.iload_n 2, 1) := by decide +kernel
theorem dX13_jam_91 : decode cX13_jam 91 = .ok (.ireturn, 1) := by decide +kernel
theorem dX13_joinedOnes_0 : decode cX13_joinedOnes 0 = .ok (.iconst 0, 1) := by decide +kernel
theorem dX13_joinedOnes_1 : decode cX13_joinedOnes 1 = .ok (.istore_n 2, 1) := by decide +kernel
theorem dX13_joinedOnes_2 : decode cX13_joinedOnes 2 = .ok (.iconst 0, 1) := by decide +kernel
theorem dX13_joinedOnes_3 : decode cX13_joinedOnes 3 = .ok (.istore_n 3, 1) := by decide +kernel
theorem dX13_joinedOnes_4 : decode cX13_joinedOnes 4 = .ok (.iload_n 3, 1) := by decide +kernel
theorem dX13_joinedOnes_5 : decode cX13_joinedOnes 5 = .ok (.aload_n 0, 1) := by decide +kernel
theorem dX13_joinedOnes_6 : decode cX13_joinedOnes 6 = .ok (.getfield 23, 3) := by decide +kernel
theorem dX13_joinedOnes_9 : decode cX13_joinedOnes 9 = .ok (.iconst 2, 1) := by decide +kernel
theorem dX13_joinedOnes_10 : decode cX13_joinedOnes 10 = .ok (.iaload, 1) := by decide +kernel
theorem dX13_joinedOnes_11 : decode cX13_joinedOnes 11 = .ok (.if_icmp .ge 28, 3) := by decide +kernel
theorem dX13_joinedOnes_14 : decode cX13_joinedOnes 14 = .ok (.iload_n 2, 1) := by decide +kernel
theorem dX13_joinedOnes_15 : decode cX13_joinedOnes 15 = .ok (.aload_n 0, 1) := by decide +kernel
theorem dX13_joinedOnes_16 : decode cX13_joinedOnes 16 = .ok (.aload_n 1, 1) := by decide +kernel
theorem dX13_joinedOnes_17 : decode cX13_joinedOnes 17 = .ok (.iload_n 3, 1) := by decide +kernel
theorem dX13_joinedOnes_18 : decode cX13_joinedOnes 18 = .ok (.invokevirtual 312, 3) := by decide +kernel
theorem dX13_joinedOnes_21 : decode cX13_joinedOnes 21 = .ok (.ifCond .eq 9, 3) := by decide +kernel
theorem dX13_joinedOnes_24 : decode cX13_joinedOnes 24 = .ok (.iconst 1, 1) := by decide +kernel
theorem dX13_joinedOnes_25 : decode cX13_joinedOnes 25 = .ok (.iload_n 3, 1) := by decide +kernel
theorem dX13_joinedOnes_26 : decode cX13_joinedOnes 26 = .ok (.ishl, 1) := by decide +kernel
theorem dX13_joinedOnes_27 : decode cX13_joinedOnes 27 = .ok (.goto 4, 3) := by decide +kernel
theorem dX13_joinedOnes_30 : decode cX13_joinedOnes 30 = .ok (.iconst 0, 1) := by decide +kernel
theorem dX13_joinedOnes_31 : decode cX13_joinedOnes 31 = .ok (.ior, 1) := by decide +kernel
theorem dX13_joinedOnes_32 : decode cX13_joinedOnes 32 = .ok (.istore_n 2, 1) := by decide +kernel
theorem dX13_joinedOnes_33 : decode cX13_joinedOnes 33 = .ok (.iinc 3 1, 3) := by decide +kernel
theorem dX13_joinedOnes_36 : decode cX13_joinedOnes 36 = .ok (.goto (-32), 3) := by decide +kernel
theorem dX13_joinedOnes_39 : decode cX13_joinedOnes 39 = .ok (.iload_n 2, 1) := by decide +kernel
theorem dX13_joinedOnes_40 : decode cX13_joinedOnes 40 = .ok (.ireturn, 1) := by decide +kernel
theorem dX13_kindHere_0 : decode cX13_kindHere 0 = .ok (.aload_n 0, 1) := by decide +kernel
theorem dX13_kindHere_1 : decode cX13_kindHere 1 = .ok (.bipush 19, 2) := by decide +kernel
theorem dX13_kindHere_3 : decode cX13_kindHere 3 = .ok (.bipush 9, 2) := by decide +kernel
theorem dX13_kindHere_5 : decode cX13_kindHere 5 = .ok (.bipush 26, 2) := by decide +kernel
theorem dX13_kindHere_7 : decode cX13_kindHere 7 = .ok (.iconst 5, 1) := by decide +kernel
theorem dX13_kindHere_8 : decode cX13_kindHere 8 = .ok (.iconst 0, 1) := by decide +kernel
theorem dX13_kindHere_9 : decode cX13_kindHere 9 = .ok (.iconst 0, 1) := by decide +kernel
theorem dX13_kindHere_10 : decode cX13_kindHere 10 = .ok (.invokevirtual 156, 3) := by decide +kernel
theorem dX13_kindHere_13 : decode cX13_kindHere 13 = .ok (.ifCond .eq 5, 3) := by decide +kernel
theorem dX13_kindHere_16 : decode cX13_kindHere 16 = .ok (.iconst 0, 1) := by decide +kernel
theorem dX13_kindHere_17 : decode cX13_kindHere 17 = .ok (.ireturn, 1) := by decide +kernel
theorem dX13_kindHere_18 : decode cX13_kindHere 18 = .ok (.aload_n 0, 1) := by decide +kernel
theorem dX13_kindHere_19 : decode cX13_kindHere 19 = .ok (.bipush 23, 2) := by decide +kernel
theorem dX13_kindHere_21 : decode cX13_kindHere 21 = .ok (.iconst 1, 1) := by decide +kernel
theorem dX13_kindHere_22 : decode cX13_kindHere 22 = .ok (.bipush 12, 2) := by decide +kernel
theorem dX13_kindHere_24 : decode cX13_kindHere 24 = .ok (.bipush 12, 2) := by decide +kernel
theorem dX13_kindHere_26 : decode cX13_kindHere 26 = .ok (.iconst 0, 1) := by decide +kernel
theorem dX13_kindHere_27 : decode cX13_kindHere 27 = .ok (.iconst 0, 1) := by decide +kernel
theorem dX13_kindHere_28 : decode cX13_kindHere 28 = .ok (.invokevirtual 156, 3) := by decide +kernel
theorem dX13_kindHere_31 : decode cX13_kindHere 31 = .ok (.ifCond .eq 5, 3) := by decide +kernel
theorem dX13_kindHere_34 : decode cX13_kindHere 34 = .ok (.iconst 1, 1) := by decide +kernel
theorem dX13_kindHere_35 : decode cX13_kindHere 35 = .ok (.ireturn, 1) := by decide +kernel
theorem dX13_kindHere_36 : decode cX13_kindHere 36 = .ok (.aload_n 0, 1) := by decide +kernel
theorem dX13_kindHere_37 : decode cX13_kindHere 37 = .ok (.bipush 23, 2) := by decide +kernel
theorem dX13_kindHere_39 : decode cX13_kindHere 39 = .ok (.bipush 9, 2) := by decide +kernel
theorem dX13_kindHere_41 : decode cX13_kindHere 41 = .ok (.iconst 4, 1) := by decide +kernel
theorem dX13_kindHere_42 : decode cX13_kindHere 42 = .ok (.iconst 5, 1) := by decide +kernel
theorem dX13_kindHere_43 : decode cX13_kindHere 43 = .ok (.iconst 0, 1) := by decide +kernel
theorem dX13_kindHere_44 : decode cX13_kindHere 44 = .ok (.iconst 0, 1) := by decide +kernel
theorem dX13_kindHere_45 : decode cX13_kindHere 45 = .ok (.invokevirtual 156, 3) := by decide +kernel
theorem dX13_kindHere_48 : decode cX13_kindHere 48 = .ok (.ifCond .eq 5, 3) := by decide +kernel
theorem dX13_kindHere_51 : decode cX13_kindHere 51 = .ok (.iconst 2, 1) := by decide +kernel
theorem dX13_kindHere_52 : decode cX13_kindHere 52 = .ok (.ireturn, 1) := by decide +kernel
theorem dX13_kindHere_53 : decode cX13_kindHere 53 = .ok (.aload_n 0, 1) := by decide +kernel
theorem dX13_kindHere_54 : decode cX13_kindHere 54 = .ok (.bipush 14, 2) := by decide +kernel
theorem dX13_kindHere_56 : decode cX13_kindHere 56 = .ok (.iconst 5, 1) := by decide +kernel
theorem dX13_kindHere_57 : decode cX13_kindHere 57 = .ok (.bipush 20, 2) := by decide +kernel
theorem dX13_kindHere_59 : decode cX13_kindHere 59 = .ok (.iconst 0, 1) := by decide +kernel
theorem dX13_kindHere_60 : decode cX13_kindHere 60 = .ok (.iconst 0, 1) := by decide +kernel
theorem dX13_kindHere_61 : decode cX13_kindHere 61 = .ok (.iconst 0, 1) := by decide +kernel
theorem dX13_kindHere_62 : decode cX13_kindHere 62 = .ok (.invokevirtual 156, 3) := by decide +kernel
theorem dX13_kindHere_65 : decode cX13_kindHere 65 = .ok (.ifCond .eq 5, 3) := by decide +kernel
theorem dX13_kindHere_68 : decode cX13_kindHere 68 = .ok (.iconst 3, 1) := by decide +kernel
theorem dX13_kindHere_69 : decode cX13_kindHere 69 = .ok (.ireturn, 1) := by decide +kernel
theorem dX13_kindHere_70 : decode cX13_kindHere 70 = .ok (.aload_n 0, 1) := by decide +kernel
theorem dX13_kindHere_71 : decode cX13_kindHere 71 = .ok (.bipush 16, 2) := by decide +kernel
theorem dX13_kindHere_73 : decode cX13_kindHere 73 = .ok (.bipush 9, 2) := by decide +kernel
theorem dX13_kindHere_75 : decode cX13_kindHere 75 = .ok (.bipush 14, 2) := by decide +kernel
theorem dX13_kindHere_77 : decode cX13_kindHere 77 = .ok (.iconst 0, 1) := by decide +kernel
theorem dX13_kindHere_78 : decode cX13_kindHere 78 = .ok (.iconst 0, 1) := by decide +kernel
theorem dX13_kindHere_79 : decode cX13_kindHere 79 = .ok (.iconst 0, 1) := by decide +kernel
theorem dX13_kindHere_80 : decode cX13_kindHere 80 = .ok (.invokevirtual 156, 3) := by decide +kernel
theorem dX13_kindHere_83 : decode cX13_kindHere 83 = .ok (.ifCond .eq 5, 3) := by decide +kernel
theorem dX13_kindHere_86 : decode cX13_kindHere 86 = .ok (.iconst 4, 1) := by decide +kernel
theorem dX13_kindHere_87 : decode cX13_kindHere 87 = .ok (.ireturn, 1) := by decide +kernel
theorem dX13_kindHere_88 : decode cX13_kindHere 88 = .ok (.aload_n 0, 1) := by decide +kernel
theorem dX13_kindHere_89 : decode cX13_kindHere 89 = .ok (.bipush 7, 2) := by decide +kernel
theorem dX13_kindHere_91 : decode cX13_kindHere 91 = .ok (.iconst 1, 1) := by decide +kernel
theorem dX13_kindHere_92 : decode cX13_kindHere 92 = .ok (.bipush 9, 2) := by decide +kernel
theorem dX13_kindHere_94 : decode cX13_kindHere 94 = .ok (.bipush 14, 2) := by decide +kernel
theorem dX13_kindHere_96 : decode cX13_kindHere 96 = .ok (.iconst 0, 1) := by decide +kernel
theorem dX13_kindHere_97 : decode cX13_kindHere 97 = .ok (.iconst 0, 1) := by decide +kernel
theorem dX13_kindHere_98 : decode cX13_kindHere 98 = .ok (.invokevirtual 156, 3) := by decide +kernel
theorem dX13_kindHere_101 : decode cX13_kindHere 101 = .ok (.ifCond .eq 7, 3) := by decide +kernel
theorem dX13_kindHere_104 : decode cX13_kindHere 104 = .ok (.iconst 5, 1) := by decide +kernel
theorem dX13_kindHere_105 : decode cX13_kindHere 105 = .ok (.goto 4, 3) := by decide +kernel
theorem dX13_kindHere_108 : decode cX13_kindHere 108 = .ok (.iconst (-1), 1) := by decide +kernel
theorem dX13_kindHere_109 : decode cX13_kindHere 109 = .ok (.ireturn, 1) := by decide +kernel
theorem dX13_knownHere_0 : decode cX13_knownHere 0 = .ok (.aload_n 0, 1) := by decide +kernel
theorem dX13_knownHere_1 : decode cX13_knownHere 1 = .ok (.bipush 16, 2) := by decide +kernel
theorem dX13_knownHere_3 : decode cX13_knownHere 3 = .ok (.iconst 1, 1) := by decide +kernel
theorem dX13_knownHere_4 : decode cX13_knownHere 4 = .ok (.bipush 19, 2) := by decide +kernel
theorem dX13_knownHere_6 : decode cX13_knownHere 6 = .ok (.bipush 20, 2) := by decide +kernel
theorem dX13_knownHere_8 : decode cX13_knownHere 8 = .ok (.iconst 0, 1) := by decide +kernel
theorem dX13_knownHere_9 : decode cX13_knownHere 9 = .ok (.iconst 0, 1) := by decide +kernel
theorem dX13_knownHere_10 : decode cX13_knownHere 10 = .ok (.invokevirtual 242, 3) := by decide +kernel
theorem dX13_knownHere_13 : decode cX13_knownHere 13 = .ok (.ifCond .eq 5, 3) := by decide +kernel
theorem dX13_knownHere_16 : decode cX13_knownHere 16 = .ok (.iconst 0, 1) := by decide +kernel
theorem dX13_knownHere_17 : decode cX13_knownHere 17 = .ok (.ireturn, 1) := by decide +kernel
theorem dX13_knownHere_18 : decode cX13_knownHere 18 = .ok (.aload_n 0, 1) := by decide +kernel
theorem dX13_knownHere_19 : decode cX13_knownHere 19 = .ok (.bipush 15, 2) := by decide +kernel
theorem dX13_knownHere_21 : decode cX13_knownHere 21 = .ok (.bipush 22, 2) := by decide +kernel
theorem dX13_knownHere_23 : decode cX13_knownHere 23 = .ok (.iconst 5, 1) := by decide +kernel
theorem dX13_knownHere_24 : decode cX13_knownHere 24 = .ok (.bipush 18, 2) := by decide +kernel
theorem dX13_knownHere_26 : decode cX13_knownHere 26 = .ok (.iconst 0, 1) := by decide +kernel
theorem dX13_knownHere_27 : decode cX13_knownHere 27 = .ok (.iconst 0, 1) := by decide +kernel
theorem dX13_knownHere_28 : decode cX13_knownHere 28 = .ok (.invokevirtual 242, 3) := by decide +kernel
theorem dX13_knownHere_31 : decode cX13_knownHere 31 = .ok (.ifCond .eq 5, 3) := by decide +kernel
theorem dX13_knownHere_34 : decode cX13_knownHere 34 = .ok (.iconst 1, 1) := by decide +kernel
theorem dX13_knownHere_35 : decode cX13_knownHere 35 = .ok (.ireturn, 1) := by decide +kernel
theorem dX13_knownHere_36 : decode cX13_knownHere 36 = .ok (.aload_n 0, 1) := by decide +kernel
theorem dX13_knownHere_37 : decode cX13_knownHere 37 = .ok (.iconst 3, 1) := by decide +kernel
theorem dX13_knownHere_38 : decode cX13_knownHere 38 = .ok (.bipush 18, 2) := by decide +kernel
theorem dX13_knownHere_40 : decode cX13_knownHere 40 = .ok (.bipush 9, 2) := by decide +kernel
theorem dX13_knownHere_42 : decode cX13_knownHere 42 = .ok (.bipush 20, 2) := by decide +kernel
theorem dX13_knownHere_44 : decode cX13_knownHere 44 = .ok (.iconst 0, 1) := by decide +kernel
theorem dX13_knownHere_45 : decode cX13_knownHere 45 = .ok (.iconst 0, 1) := by decide +kernel
theorem dX13_knownHere_46 : decode cX13_knownHere 46 = .ok (.invokevirtual 242, 3) := by decide +kernel
theorem dX13_knownHere_49 : decode cX13_knownHere 49 = .ok (.ifCond .eq 5, 3) := by decide +kernel
theorem dX13_knownHere_52 : decode cX13_knownHere 52 = .ok (.iconst 2, 1) := by decide +kernel
theorem dX13_knownHere_53 : decode cX13_knownHere 53 = .ok (.ireturn, 1) := by decide +kernel
theorem dX13_knownHere_54 : decode cX13_knownHere 54 = .ok (.aload_n 0, 1) := by decide +kernel
theorem dX13_knownHere_55 : decode cX13_knownHere 55 = .ok (.bipush 18, 2) := by decide +kernel
theorem dX13_knownHere_57 : decode cX13_knownHere 57 = .ok (.bipush 15, 2) := by decide +kernel
theorem dX13_knownHere_59 : decode cX13_knownHere 59 = .ok (.bipush 21, 2) := by decide +kernel
theorem dX13_knownHere_61 : decode cX13_knownHere 61 = .ok (.bipush 14, 2) := by decide +kernel
theorem dX13_knownHere_63 : decode cX13_knownHere 63 = .ok (.iconst 4, 1) := by decide +kernel
theorem dX13_knownHere_64 : decode cX13_knownHere 64 = .ok (.iconst 0, 1) := by decide +kernel
theorem dX13_knownHere_65 : decode cX13_knownHere 65 = .ok (.invokevirtual 242, 3) := by decide +kernel
theorem dX13_knownHere_68 : decode cX13_knownHere 68 = .ok (.ifCond .eq 5, 3) := by decide +kernel
theorem dX13_knownHere_71 : decode cX13_knownHere 71 = .ok (.iconst 3, 1) := by decide +kernel
theorem dX13_knownHere_72 : decode cX13_knownHere 72 = .ok (.ireturn, 1) := by decide +kernel
theorem dX13_knownHere_73 : decode cX13_knownHere 73 = .ok (.aload_n 0, 1) := by decide +kernel
theorem dX13_knownHere_74 : decode cX13_knownHere 74 = .ok (.bipush 23, 2) := by decide +kernel
theorem dX13_knownHere_76 : decode cX13_knownHere 76 = .ok (.bipush 9, 2) := by decide +kernel
theorem dX13_knownHere_78 : decode cX13_knownHere 78 = .ok (.iconst 4, 1) := by decide +kernel
theorem dX13_knownHere_79 : decode cX13_knownHere 79 = .ok (.iconst 5, 1) := by decide +kernel
theorem dX13_knownHere_80 : decode cX13_knownHere 80 = .ok (.iconst 0, 1) := by decide +kernel
theorem dX13_knownHere_81 : decode cX13_knownHere 81 = .ok (.iconst 0, 1) := by decide +kernel
theorem dX13_knownHere_82 : decode cX13_knownHere 82 = .ok (.invokevirtual 242, 3) := by decide +kernel
theorem dX13_knownHere_85 : decode cX13_knownHere 85 = .ok (.ifCond .eq 5, 3) := by decide +kernel
theorem dX13_knownHere_88 : decode cX13_knownHere 88 = .ok (.iconst 4, 1) := by decide +kernel
theorem dX13_knownHere_89 : decode cX13_knownHere 89 = .ok (.ireturn, 1) := by decide +kernel
theorem dX13_knownHere_90 : decode cX13_knownHere 90 = .ok (.aload_n 0, 1) := by decide +kernel
theorem dX13_knownHere_91 : decode cX13_knownHere 91 = .ok (.iconst 3, 1) := by decide +kernel
theorem dX13_knownHere_92 : decode cX13_knownHere 92 = .ok (.bipush 15, 2) := by decide +kernel
theorem dX13_knownHere_94 : decode cX13_knownHere 94 = .ok (.bipush 12, 2) := by decide +kernel
theorem dX13_knownHere_96 : decode cX13_knownHere 96 = .ok (.iconst 0, 1) := by decide +kernel
theorem dX13_knownHere_97 : decode cX13_knownHere 97 = .ok (.iconst 0, 1) := by decide +kernel
theorem dX13_knownHere_98 : decode cX13_knownHere 98 = .ok (.iconst 0, 1) := by decide +kernel
theorem dX13_knownHere_99 : decode cX13_knownHere 99 = .ok (.invokevirtual 242, 3) := by decide +kernel
theorem dX13_knownHere_102 : decode cX13_knownHere 102 = .ok (.ifCond .eq 5, 3) := by decide +kernel
theorem dX13_knownHere_105 : decode cX13_knownHere 105 = .ok (.iconst 5, 1) := by decide +kernel
theorem dX13_knownHere_106 : decode cX13_knownHere 106 = .ok (.ireturn, 1) := by decide +kernel
theorem dX13_knownHere_107 : decode cX13_knownHere 107 = .ok (.aload_n 0, 1) := by decide +kernel
theorem dX13_knownHere_108 : decode cX13_knownHere 108 = .ok (.bipush 18, 2) := by decide +kernel
theorem dX13_knownHere_110 : decode cX13_knownHere 110 = .ok (.bipush 15, 2) := by decide +kernel
theorem dX13_knownHere_112 : decode cX13_knownHere 112 = .ok (.bipush 23, 2) := by decide +kernel
theorem dX13_knownHere_114 : decode cX13_knownHere 114 = .ok (.iconst 0, 1) := by decide +kernel
theorem dX13_knownHere_115 : decode cX13_knownHere 115 = .ok (.iconst 0, 1) := by decide +kernel
theorem dX13_knownHere_116 : decode cX13_knownHere 116 = .ok (.iconst 0, 1) := by decide +kernel
theorem dX13_knownHere_117 : decode cX13_knownHere 117 = .ok (.invokevirtual 242, 3) := by decide +kernel
theorem dX13_knownHere_120 : decode cX13_knownHere 120 = .ok (.ifCond .eq 6, 3) := by decide +kernel
theorem dX13_knownHere_123 : decode cX13_knownHere 123 = .ok (.bipush 6, 2) := by decide +kernel
theorem dX13_knownHere_125 : decode cX13_knownHere 125 = .ok (.ireturn, 1) := by decide +kernel
theorem dX13_knownHere_126 : decode cX13_knownHere 126 = .ok (.aload_n 0, 1) := by decide +kernel
theorem dX13_knownHere_127 : decode cX13_knownHere 127 = .ok (.bipush 16, 2) := by decide +kernel
theorem dX13_knownHere_129 : decode cX13_knownHere 129 = .ok (.bipush 9, 2) := by decide +kernel
theorem dX13_knownHere_131 : decode cX13_knownHere 131 = .ok (.bipush 14, 2) := by decide +kernel
theorem dX13_knownHere_133 : decode cX13_knownHere 133 = .ok (.bipush 19, 2) := by decide +kernel
theorem dX13_knownHere_135 : decode cX13_knownHere 135 = .ok (.iconst 0, 1) := by decide +kernel
theorem dX13_knownHere_136 : decode cX13_knownHere 136 = .ok (.iconst 0, 1) := by decide +kernel
theorem dX13_knownHere_137 : decode cX13_knownHere 137 = .ok (.invokevirtual 242, 3) := by decide +kernel
theorem dX13_knownHere_140 : decode cX13_knownHere 140 = .ok (.ifCond .eq 8, 3) := by decide +kernel
theorem dX13_knownHere_143 : decode cX13_knownHere 143 = .ok (.bipush 7, 2) := by decide +kernel
theorem dX13_knownHere_145 : decode cX13_knownHere 145 = .ok (.goto 4, 3) := by decide +kernel
theorem dX13_knownHere_148 : decode cX13_knownHere 148 = .ok (.iconst (-1), 1) := by decide +kernel
theorem dX13_knownHere_149 : decode cX13_knownHere 149 = .ok (.ireturn, 1) := by decide +kernel
theorem dX13_late_0 : decode cX13_late 0 = .ok (.iconst 0, 1) := by decide +kernel
theorem dX13_late_1 : decode cX13_late 1 = .ok (.istore_n 1, 1) := by decide +kernel
theorem dX13_late_2 : decode cX13_late 2 = .ok (.iconst 0, 1) := by decide +kernel
theorem dX13_late_3 : decode cX13_late 3 = .ok (.istore_n 2, 1) := by decide +kernel
theorem dX13_late_4 : decode cX13_late 4 = .ok (.iload_n 2, 1) := by decide +kernel
theorem dX13_late_5 : decode cX13_late 5 = .ok (.aload_n 0, 1) := by decide +kernel
theorem dX13_late_6 : decode cX13_late 6 = .ok (.getfield 23, 3) := by decide +kernel
theorem dX13_late_9 : decode cX13_late 9 = .ok (.iconst 2, 1) := by decide +kernel
theorem dX13_late_10 : decode cX13_late 10 = .ok (.iaload, 1) := by decide +kernel
theorem dX13_late_11 : decode cX13_late 11 = .ok (.if_icmp .ge 51, 3) := by decide +kernel
theorem dX13_late_14 : decode cX13_late 14 = .ok (.iload_n 1, 1) := by decide +kernel
theorem dX13_late_15 : decode cX13_late 15 = .ok (.aload_n 0, 1) := by decide +kernel
theorem dX13_late_16 : decode cX13_late 16 = .ok (.aload_n 0, 1) := by decide +kernel
theorem dX13_late_17 : decode cX13_late 17 = .ok (.getfield 70, 3) := by decide +kernel
theorem dX13_late_20 : decode cX13_late 20 = .ok (.iload_n 2, 1) := by decide +kernel
theorem dX13_late_21 : decode cX13_late 21 = .ok (.invokevirtual 312, 3) := by decide +kernel
theorem dX13_late_24 : decode cX13_late 24 = .ok (.ifCond .eq 23, 3) := by decide +kernel
theorem dX13_late_27 : decode cX13_late 27 = .ok (.aload_n 0, 1) := by decide +kernel
theorem dX13_late_28 : decode cX13_late 28 = .ok (.aload_n 0, 1) := by decide +kernel
theorem dX13_late_29 : decode cX13_late 29 = .ok (.getfield 70, 3) := by decide +kernel
theorem dX13_late_32 : decode cX13_late 32 = .ok (.iload_n 2, 1) := by decide +kernel
theorem dX13_late_33 : decode cX13_late 33 = .ok (.invokevirtual 393, 3) := by decide +kernel
theorem dX13_late_36 : decode cX13_late 36 = .ok (.aload_n 0, 1) := by decide +kernel
theorem dX13_late_37 : decode cX13_late 37 = .ok (.getfield 40, 3) := by decide +kernel
theorem dX13_late_40 : decode cX13_late 40 = .ok (.iload_n 2, 1) := by decide +kernel
theorem dX13_late_41 : decode cX13_late 41 = .ok (.aaload, 1) := by decide +kernel
theorem dX13_late_42 : decode cX13_late 42 = .ok (.iconst 1, 1) := by decide +kernel
theorem dX13_late_43 : decode cX13_late 43 = .ok (.iaload, 1) := by decide +kernel
theorem dX13_late_44 : decode cX13_late 44 = .ok (.if_icmp .le 9, 3) := by decide +kernel
theorem dX13_late_47 : decode cX13_late 47 = .ok (.iconst 1, 1) := by decide +kernel
theorem dX13_late_48 : decode cX13_late 48 = .ok (.iload_n 2, 1) := by decide +kernel
theorem dX13_late_49 : decode cX13_late 49 = .ok (.ishl, 1) := by decide +kernel
theorem dX13_late_50 : decode cX13_late 50 = .ok (.goto 4, 3) := by decide +kernel
theorem dX13_late_53 : decode cX13_late 53 = .ok (.iconst 0, 1) := by decide +kernel
theorem dX13_late_54 : decode cX13_late 54 = .ok (.ior, 1) := by decide +kernel
theorem dX13_late_55 : decode cX13_late 55 = .ok (.istore_n 1, 1) := by decide +kernel
theorem dX13_late_56 : decode cX13_late 56 = .ok (.iinc 2 1, 3) := by decide +kernel
theorem dX13_late_59 : decode cX13_late 59 = .ok (.goto (-55), 3) := by decide +kernel
theorem dX13_late_62 : decode cX13_late 62 = .ok (.iload_n 1, 1) := by decide +kernel
theorem dX13_late_63 : decode cX13_late 63 = .ok (.ireturn, 1) := by decide +kernel
theorem dX13_law_0 : decode cX13_law 0 = .ok (.aload_n 0, 1) := by decide +kernel
theorem dX13_law_1 : decode cX13_law 1 = .ok (.iconst 0, 1) := by decide +kernel
theorem dX13_law_2 : decode cX13_law 2 = .ok (.putfield 107, 3) := by decide +kernel
theorem dX13_law_5 : decode cX13_law 5 = .ok (.aload_n 0, 1) := by decide +kernel
theorem dX13_law_6 : decode cX13_law 6 = .ok (.iload_n 1, 1) := by decide +kernel
theorem dX13_law_7 : decode cX13_law 7 = .ok (.iconst 0, 1) := by decide +kernel
theorem dX13_law_8 : decode cX13_law 8 = .ok (.aload_n 0, 1) := by decide +kernel
theorem dX13_law_9 : decode cX13_law 9 = .ok (.getfield 110, 3) := by decide +kernel
theorem dX13_law_12 : decode cX13_law 12 = .ok (.invokestatic 141, 3) := by decide +kernel
theorem dX13_law_15 : decode cX13_law 15 = .ok (.ifCond .eq 10, 3) := by decide +kernel
theorem dX13_law_18 : decode cX13_law 18 = .ok (.iload_n 1, 1) := by decide +kernel
theorem dX13_law_19 : decode cX13_law 19 = .ok (.sipush 150, 3) := by decide +kernel
theorem dX13_law_22 : decode cX13_law 22 = .ok (.if_icmp .le 7, 3) := by decide +kernel
theorem dX13_law_25 : decode cX13_law 25 = .ok (.iconst 1, 1) := by decide +kernel
theorem dX13_law_26 : decode cX13_law 26 = .ok (.goto 4, 3) := by decide +kernel
theorem dX13_law_29 : decode cX13_law 29 = .ok (.iconst 0, 1) := by decide +kernel
theorem dX13_law_30 : decode cX13_law 30 = .ok (.iconst 1, 1) := by decide +kernel
theorem dX13_law_31 : decode cX13_law 31 = .ok (.iconst 1, 1) := by decide +kernel
theorem dX13_law_32 : decode cX13_law 32 = .ok (.invokevirtual 186, 3) := by decide +kernel
theorem dX13_law_35 : decode cX13_law 35 = .ok (.ifCond .eq 5, 3) := by decide +kernel
theorem dX13_law_38 : decode cX13_law 38 = .ok (.iconst 0, 1) := by decide +kernel
theorem dX13_law_39 : decode cX13_law 39 = .ok (.ireturn, 1) := by decide +kernel
theorem dX13_law_40 : decode cX13_law 40 = .ok (.aload_n 0, 1) := by decide +kernel
theorem dX13_law_41 : decode cX13_law 41 = .ok (.iload_n 1, 1) := by decide +kernel
theorem dX13_law_42 : decode cX13_law 42 = .ok (.invokevirtual 190, 3) := by decide +kernel
theorem dX13_law_45 : decode cX13_law 45 = .ok (.aload_n 0, 1) := by decide +kernel
theorem dX13_law_46 : decode cX13_law 46 = .ok (.iconst 0, 1) := by decide +kernel
theorem dX13_law_47 : decode cX13_law 47 = .ok (.putfield 227, 3) := by decide +kernel
theorem dX13_law_50 : decode cX13_law 50 = .ok (.aload_n 0, 1) := by decide +kernel
theorem dX13_law_51 : decode cX13_law 51 = .ok (.invokevirtual 249, 3) := by decide +kernel
theorem dX13_law_54 : decode cX13_law 54 = .ok (.aload_n 0, 1) := by decide +kernel
theorem dX13_law_55 : decode cX13_law 55 = .ok (.invokevirtual 129, 3) := by decide +kernel
theorem dX13_law_58 : decode cX13_law 58 = .ok (.aload_n 0, 1) := by decide +kernel
theorem dX13_law_59 : decode cX13_law 59 = .ok (.getfield 123, 3) := by decide +kernel
theorem dX13_law_62 : decode cX13_law 62 = .ok (.ifCond .ne 23, 3) := by decide +kernel
theorem dX13_law_65 : decode cX13_law 65 = .ok (.aload_n 0, 1) := by decide +kernel
theorem dX13_law_66 : decode cX13_law 66 = .ok (.getfield 116, 3) := by decide +kernel
theorem dX13_law_69 : decode cX13_law 69 = .ok (.aload_n 0, 1) := by decide +kernel
theorem dX13_law_70 : decode cX13_law 70 = .ok (.getfield 113, 3) := by decide +kernel
theorem dX13_law_73 : decode cX13_law 73 = .ok (.if_icmp .ge 12, 3) := by decide +kernel
theorem dX13_law_76 : decode cX13_law 76 = .ok (.aload_n 0, 1) := by decide +kernel
theorem dX13_law_77 : decode cX13_law 77 = .ok (.iconst 1, 1) := by decide +kernel
theorem dX13_law_78 : decode cX13_law 78 = .ok (.aload_n 0, 1) := by decide +kernel
theorem dX13_law_79 : decode cX13_law 79 = .ok (.getfield 116, 3) := by decide +kernel
theorem dX13_law_82 : decode cX13_law 82 = .ok (.invokevirtual 136, 3) := by decide +kernel
theorem dX13_law_85 : decode cX13_law 85 = .ok (.aload_n 0, 1) := by decide +kernel
theorem dX13_law_86 : decode cX13_law 86 = .ok (.getfield 123, 3) := by decide +kernel
theorem dX13_law_89 : decode cX13_law 89 = .ok (.ifCond .eq 8, 3) := by decide +kernel
theorem dX13_law_92 : decode cX13_law 92 = .ok (.aload_n 0, 1) := by decide +kernel
theorem dX13_law_93 : decode cX13_law 93 = .ok (.invokevirtual 196, 3) := by decide +kernel
theorem dX13_law_96 : decode cX13_law 96 = .ok (.ireturn, 1) := by decide +kernel
theorem dX13_law_97 : decode cX13_law 97 = .ok (.aload_n 0, 1) := by decide +kernel
theorem dX13_law_98 : decode cX13_law 98 = .ok (.iconst (-1), 1) := by decide +kernel
theorem dX13_law_99 : decode cX13_law 99 = .ok (.putfield 9, 3) := by decide +kernel
theorem dX13_law_102 : decode cX13_law 102 = .ok (.aload_n 0, 1) := by decide +kernel
theorem dX13_law_103 : decode cX13_law 103 = .ok (.aload_n 0, 1) := by decide +kernel
theorem dX13_law_104 : decode cX13_law 104 = .ok (.getfield 227, 3) := by decide +kernel
theorem dX13_law_107 : decode cX13_law 107 = .ok (.putfield 212, 3) := by decide +kernel
theorem dX13_law_110 : decode cX13_law 110 = .ok (.aload_n 0, 1) := by decide +kernel
theorem dX13_law_111 : decode cX13_law 111 = .ok (.getfield 52, 3) := by decide +kernel
theorem dX13_law_114 : decode cX13_law 114 = .ok (.aload_n 0, 1) := by decide +kernel
theorem dX13_law_115 : decode cX13_law 115 = .ok (.getfield 49, 3) := by decide +kernel
theorem dX13_law_118 : decode cX13_law 118 = .ok (.aload_n 0, 1) := by decide +kernel
theorem dX13_law_119 : decode cX13_law 119 = .ok (.getfield 212, 3) := by decide +kernel
theorem dX13_law_122 : decode cX13_law 122 = .ok (.invokestatic 255, 3) := by decide +kernel
theorem dX13_law_125 : decode cX13_law 125 = .ok (.iconst 1, 1) := by decide +kernel
theorem dX13_law_126 : decode cX13_law 126 = .ok (.ireturn, 1) := by decide +kernel
theorem dX13_lays_0 : decode cX13_lays 0 = .ok (.iconst 0, 1) := by decide +kernel
theorem dX13_lays_1 : decode cX13_lays 1 = .ok (.istore_n 3, 1) := by decide +kernel
theorem dX13_lays_2 : decode cX13_lays 2 = .ok (.iload_n 3, 1) := by decide +kernel
theorem dX13_lays_3 : decode cX13_lays 3 = .ok (.iload_n 2, 1) := by decide +kernel
theorem dX13_lays_4 : decode cX13_lays 4 = .ok (.if_icmp .ge 39, 3) := by decide +kernel
theorem dX13_lays_7 : decode cX13_lays 7 = .ok (.iconst 0, 1) := by decide +kernel
theorem dX13_lays_8 : decode cX13_lays 8 = .ok (.istore 4, 2) := by decide +kernel
theorem dX13_lays_10 : decode cX13_lays 10 = .ok (.iload 4, 2) := by decide +kernel
theorem dX13_lays_12 : decode cX13_lays 12 = .ok (.aload_n 1, 1) := by decide +kernel
theorem dX13_lays_13 : decode cX13_lays 13 = .ok (.iload_n 3, 1) := by decide +kernel
theorem dX13_lays_14 : decode cX13_lays 14 = .ok (.aaload, 1) := by decide +kernel
theorem dX13_lays_15 : decode cX13_lays 15 = .ok (.arraylength, 1) := by decide +kernel
theorem dX13_lays_16 : decode cX13_lays 16 = .ok (.if_icmp .ge 21, 3) := by decide +kernel
theorem dX13_lays_19 : decode cX13_lays 19 = .ok (.aload_n 1, 1) := by decide +kernel
theorem dX13_lays_20 : decode cX13_lays 20 = .ok (.iload_n 3, 1) := by decide +kernel
theorem dX13_lays_21 : decode cX13_lays 21 = .ok (.aaload, 1) := by decide +kernel
theorem dX13_lays_22 : decode cX13_lays 22 = .ok (.iload 4, 2) := by decide +kernel
theorem dX13_lays_24 : decode cX13_lays 24 = .ok (.aload_n 0, 1) := by decide +kernel
theorem dX13_lays_25 : decode cX13_lays 25 = .ok (.iload_n 3, 1) := by decide +kernel
theorem dX13_lays_26 : decode cX13_lays 26 = .ok (.aaload, 1) := by decide +kernel
theorem dX13_lays_27 : decode cX13_lays 27 = .ok (.iload 4, 2) := by decide +kernel
theorem dX13_lays_29 : decode cX13_lays 29 = .ok (.iaload, 1) := by decide +kernel
theorem dX13_lays_30 : decode cX13_lays 30 = .ok (.iastore, 1) := by decide +kernel
theorem dX13_lays_31 : decode cX13_lays 31 = .ok (.iinc 4 1, 3) := by decide +kernel
theorem dX13_lays_34 : decode cX13_lays 34 = .ok (.goto (-24), 3) := by decide +kernel
theorem dX13_lays_37 : decode cX13_lays 37 = .ok (.iinc 3 1, 3) := by decide +kernel
theorem dX13_lays_40 : decode cX13_lays 40 = .ok (.goto (-38), 3) := by decide +kernel
theorem dX13_lays_43 : decode cX13_lays 43 = .ok (.return_, 1) := by decide +kernel
theorem dX13_laysOne_0 : decode cX13_laysOne 0 = .ok (.aload_n 0, 1) := by decide +kernel
theorem dX13_laysOne_1 : decode cX13_laysOne 1 = .ok (.getfield 40, 3) := by decide +kernel
theorem dX13_laysOne_4 : decode cX13_laysOne 4 = .ok (.iload_n 2, 1) := by decide +kernel
theorem dX13_laysOne_5 : decode cX13_laysOne 5 = .ok (.aaload, 1) := by decide +kernel
theorem dX13_laysOne_6 : decode cX13_laysOne 6 = .ok (.iconst 2, 1) := by decide +kernel
theorem dX13_laysOne_7 : decode cX13_laysOne 7 = .ok (.iaload, 1) := by decide +kernel
theorem dX13_laysOne_8 : decode cX13_laysOne 8 = .ok (.ifCond .ne 5, 3) := by decide +kernel
theorem dX13_laysOne_11 : decode cX13_laysOne 11 = .ok (.iconst 0, 1) := by decide +kernel
theorem dX13_laysOne_12 : decode cX13_laysOne 12 = .ok (.ireturn, 1) := by decide +kernel
theorem dX13_laysOne_13 : decode cX13_laysOne 13 = .ok (.aload_n 1, 1) := by decide +kernel
theorem dX13_laysOne_14 : decode cX13_laysOne 14 = .ok (.iload_n 2, 1) := by decide +kernel
theorem dX13_laysOne_15 : decode cX13_laysOne 15 = .ok (.invokestatic 326, 3) := by decide +kernel
theorem dX13_laysOne_18 : decode cX13_laysOne 18 = .ok (.aload_n 1, 1) := by decide +kernel
theorem dX13_laysOne_19 : decode cX13_laysOne 19 = .ok (.iload_n 2, 1) := by decide +kernel
theorem dX13_laysOne_20 : decode cX13_laysOne 20 = .ok (.aload_n 0, 1) := by decide +kernel
theorem dX13_laysOne_21 : decode cX13_laysOne 21 = .ok (.getfield 46, 3) := by decide +kernel
theorem dX13_laysOne_24 : decode cX13_laysOne 24 = .ok (.iload_n 2, 1) := by decide +kernel
theorem dX13_laysOne_25 : decode cX13_laysOne 25 = .ok (.aaload, 1) := by decide +kernel
theorem dX13_laysOne_26 : decode cX13_laysOne 26 = .ok (.iconst 0, 1) := by decide +kernel
theorem dX13_laysOne_27 : decode cX13_laysOne 27 = .ok (.iaload, 1) := by decide +kernel
theorem dX13_laysOne_28 : decode cX13_laysOne 28 = .ok (.invokestatic 284, 3) := by decide +kernel
theorem dX13_laysOne_31 : decode cX13_laysOne 31 = .ok (.iconst 4, 1) := by decide +kernel
theorem dX13_laysOne_32 : decode cX13_laysOne 32 = .ok (.iastore, 1) := by decide +kernel
theorem dX13_laysOne_33 : decode cX13_laysOne 33 = .ok (.aload_n 0, 1) := by decide +kernel
theorem dX13_laysOne_34 : decode cX13_laysOne 34 = .ok (.aload_n 1, 1) := by decide +kernel
theorem dX13_laysOne_35 : decode cX13_laysOne 35 = .ok (.iload_n 2, 1) := by decide +kernel
theorem dX13_laysOne_36 : decode cX13_laysOne 36 = .ok (.invokevirtual 329, 3) := by decide +kernel
theorem dX13_laysOne_39 : decode cX13_laysOne 39 = .ok (.iconst 1, 1) := by decide +kernel
theorem dX13_laysOne_40 : decode cX13_laysOne 40 = .ok (.ireturn, 1) := by decide +kernel
theorem dX13_laysPins_0 : decode cX13_laysPins 0 = .ok (.aload_n 0, 1) := by decide +kernel
theorem dX13_laysPins_1 : decode cX13_laysPins 1 = .ok (.getfield 40, 3) := by decide +kernel
theorem dX13_laysPins_4 : decode cX13_laysPins 4 = .ok (.iload_n 1, 1) := by decide +kernel
theorem dX13_laysPins_5 : decode cX13_laysPins 5 = .ok (.aaload, 1) := by decide +kernel
theorem dX13_laysPins_6 : decode cX13_laysPins 6 = .ok (.iconst 2, 1) := by decide +kernel
theorem dX13_laysPins_7 : decode cX13_laysPins 7 = .ok (.iconst 0, 1) := by decide +kernel
theorem dX13_laysPins_8 : decode cX13_laysPins 8 = .ok (.iastore, 1) := by decide +kernel
theorem dX13_laysPins_9 : decode cX13_laysPins 9 = .ok (.iconst 0, 1) := by decide +kernel
theorem dX13_laysPins_10 : decode cX13_laysPins 10 = .ok (.istore_n 2, 1) := by decide +kernel
theorem dX13_laysPins_11 : decode cX13_laysPins 11 = .ok (.iload_n 2, 1) := by decide +kernel
theorem dX13_laysPins_12 : decode cX13_laysPins 12 = .ok (.aload_n 0, 1) := by decide +kernel
theorem dX13_laysPins_13 : decode cX13_laysPins 13 = .ok (.getfield 37, 3) := by decide +kernel
theorem dX13_laysPins_16 : decode cX13_laysPins 16 = .ok (.iload_n 1, 1) := by decide +kernel
theorem dX13_laysPins_17 : decode cX13_laysPins 17 = .ok (.aaload, 1) := by decide +kernel
theorem dX13_laysPins_18 : decode cX13_laysPins 18 = .ok (.iconst 2, 1) := by decide +kernel
theorem dX13_laysPins_19 : decode cX13_laysPins 19 = .ok (.iaload, 1) := by decide +kernel
theorem dX13_laysPins_20 : decode cX13_laysPins 20 = .ok (.if_icmp .ge 66, 3) := by decide +kernel
theorem dX13_laysPins_23 : decode cX13_laysPins 23 = .ok (.aload_n 0, 1) := by decide +kernel
theorem dX13_laysPins_24 : decode cX13_laysPins 24 = .ok (.getfield 43, 3) := by decide +kernel
theorem dX13_laysPins_27 : decode cX13_laysPins 27 = .ok (.iload_n 1, 1) := by decide +kernel
theorem dX13_laysPins_28 : decode cX13_laysPins 28 = .ok (.aaload, 1) := by decide +kernel
theorem dX13_laysPins_29 : decode cX13_laysPins 29 = .ok (.iload_n 2, 1) := by decide +kernel
theorem dX13_laysPins_30 : decode cX13_laysPins 30 = .ok (.iaload, 1) := by decide +kernel
theorem dX13_laysPins_31 : decode cX13_laysPins 31 = .ok (.istore_n 3, 1) := by decide +kernel
theorem dX13_laysPins_32 : decode cX13_laysPins 32 = .ok (.aload_n 0, 1) := by decide +kernel
theorem dX13_laysPins_33 : decode cX13_laysPins 33 = .ok (.iload_n 3, 1) := by decide +kernel
theorem dX13_laysPins_34 : decode cX13_laysPins 34 = .ok (.invokevirtual 199, 3) := by decide +kernel
theorem dX13_laysPins_37 : decode cX13_laysPins 37 = .ok (.ifCond .eq 43, 3) := by decide +kernel
theorem dX13_laysPins_40 : decode cX13_laysPins 40 = .ok (.aload_n 0, 1) := by decide +kernel
theorem dX13_laysPins_41 : decode cX13_laysPins 41 = .ok (.iload_n 1, 1) := by decide +kernel
theorem dX13_laysPins_42 : decode cX13_laysPins 42 = .ok (.iload_n 3, 1) := by decide +kernel
theorem dX13_laysPins_43 : decode cX13_laysPins 43 = .ok (.invokevirtual 202, 3) := by decide +kernel
theorem dX13_laysPins_46 : decode cX13_laysPins 46 = .ok (.ifCond .eq 6, 3) := by decide +kernel
theorem dX13_laysPins_49 : decode cX13_laysPins 49 = .ok (.goto 31, 3) := by decide +kernel
theorem dX13_laysPins_52 : decode cX13_laysPins 52 = .ok (.aload_n 0, 1) := by decide +kernel
theorem dX13_laysPins_53 : decode cX13_laysPins 53 = .ok (.getfield 46, 3) := by decide +kernel
theorem dX13_laysPins_56 : decode cX13_laysPins 56 = .ok (.iload_n 1, 1) := by decide +kernel
theorem dX13_laysPins_57 : decode cX13_laysPins 57 = .ok (.aaload, 1) := by decide +kernel
theorem dX13_laysPins_58 : decode cX13_laysPins 58 = .ok (.aload_n 0, 1) := by decide +kernel
theorem dX13_laysPins_59 : decode cX13_laysPins 59 = .ok (.getfield 40, 3) := by decide +kernel
theorem dX13_laysPins_62 : decode cX13_laysPins 62 = .ok (.iload_n 1, 1) := by decide +kernel
theorem dX13_laysPins_63 : decode cX13_laysPins 63 = .ok (.aaload, 1) := by decide +kernel
theorem dX13_laysPins_64 : decode cX13_laysPins 64 = .ok (.iconst 2, 1) := by decide +kernel
theorem dX13_laysPins_65 : decode cX13_laysPins 65 = .ok (.iaload, 1) := by decide +kernel
theorem dX13_laysPins_66 : decode cX13_laysPins 66 = .ok (.iload_n 3, 1) := by decide +kernel
theorem dX13_laysPins_67 : decode cX13_laysPins 67 = .ok (.iastore, 1) := by decide +kernel
theorem dX13_laysPins_68 : decode cX13_laysPins 68 = .ok (.aload_n 0, 1) := by decide +kernel
theorem dX13_laysPins_69 : decode cX13_laysPins 69 = .ok (.getfield 40, 3) := by decide +kernel
theorem dX13_laysPins_72 : decode cX13_laysPins 72 = .ok (.iload_n 1, 1) := by decide +kernel
theorem dX13_laysPins_73 : decode cX13_laysPins 73 = .ok (.aaload, 1) := by decide +kernel
theorem dX13_laysPins_74 : decode cX13_laysPins 74 = .ok (.iconst 2, 1) := by decide +kernel
theorem dX13_laysPins_75 : decode cX13_laysPins 75 = .ok (.dup2, 1) := by decide +kernel
theorem dX13_laysPins_76 : decode cX13_laysPins 76 = .ok (.iaload, 1) := by decide +kernel
theorem dX13_laysPins_77 : decode cX13_laysPins 77 = .ok (.iconst 1, 1) := by decide +kernel
theorem dX13_laysPins_78 : decode cX13_laysPins 78 = .ok (.iadd, 1) := by decide +kernel
theorem dX13_laysPins_79 : decode cX13_laysPins 79 = .ok (.iastore, 1) := by decide +kernel
theorem dX13_laysPins_80 : decode cX13_laysPins 80 = .ok (.iinc 2 1, 3) := by decide +kernel
theorem dX13_laysPins_83 : decode cX13_laysPins 83 = .ok (.goto (-72), 3) := by decide +kernel
theorem dX13_laysPins_86 : decode cX13_laysPins 86 = .ok (.return_, 1) := by decide +kernel
theorem dX13_less_0 : decode cX13_less 0 = .ok (.iload_n 0, 1) := by decide +kernel
theorem dX13_less_1 : decode cX13_less 1 = .ok (.iload_n 1, 1) := by decide +kernel
theorem dX13_less_2 : decode cX13_less 2 = .ok (.if_icmp .ge 7, 3) := by decide +kernel
theorem dX13_less_5 : decode cX13_less 5 = .ok (.iload_n 0, 1) := by decide +kernel
theorem dX13_less_6 : decode cX13_less 6 = .ok (.goto 4, 3) := by decide +kernel
theorem dX13_less_9 : decode cX13_less 9 = .ok (.iload_n 1, 1) := by decide +kernel
theorem dX13_less_10 : decode cX13_less 10 = .ok (.ireturn, 1) := by decide +kernel
theorem dX13_look_0 : decode cX13_look 0 = .ok (.aload_n 0, 1) := by decide +kernel
theorem dX13_look_1 : decode cX13_look 1 = .ok (.iconst 0, 1) := by decide +kernel
theorem dX13_look_2 : decode cX13_look 2 = .ok (.putfield 107, 3) := by decide +kernel
theorem dX13_look_5 : decode cX13_look 5 = .ok (.aload_n 0, 1) := by decide +kernel
theorem dX13_look_6 : decode cX13_look 6 = .ok (.iload_n 1, 1) := by decide +kernel
theorem dX13_look_7 : decode cX13_look 7 = .ok (.iconst 0, 1) := by decide +kernel
theorem dX13_look_8 : decode cX13_look 8 = .ok (.iconst 1, 1) := by decide +kernel
theorem dX13_look_9 : decode cX13_look 9 = .ok (.invokestatic 141, 3) := by decide +kernel
theorem dX13_look_12 : decode cX13_look 12 = .ok (.ifCond .ne 7, 3) := by decide +kernel
theorem dX13_look_15 : decode cX13_look 15 = .ok (.iconst 1, 1) := by decide +kernel
theorem dX13_look_16 : decode cX13_look 16 = .ok (.goto 4, 3) := by decide +kernel
theorem dX13_look_19 : decode cX13_look 19 = .ok (.iconst 0, 1) := by decide +kernel
theorem dX13_look_20 : decode cX13_look 20 = .ok (.iconst 1, 1) := by decide +kernel
theorem dX13_look_21 : decode cX13_look 21 = .ok (.iconst 1, 1) := by decide +kernel
theorem dX13_look_22 : decode cX13_look 22 = .ok (.invokevirtual 186, 3) := by decide +kernel
theorem dX13_look_25 : decode cX13_look 25 = .ok (.ifCond .eq 5, 3) := by decide +kernel
theorem dX13_look_28 : decode cX13_look 28 = .ok (.iconst 0, 1) := by decide +kernel
theorem dX13_look_29 : decode cX13_look 29 = .ok (.ireturn, 1) := by decide +kernel
theorem dX13_look_30 : decode cX13_look 30 = .ok (.iconst (-1), 1) := by decide +kernel
theorem dX13_look_31 : decode cX13_look 31 = .ok (.istore_n 2, 1) := by decide +kernel
theorem dX13_look_32 : decode cX13_look 32 = .ok (.iconst (-1), 1) := by decide +kernel
theorem dX13_look_33 : decode cX13_look 33 = .ok (.istore_n 3, 1) := by decide +kernel
theorem dX13_look_34 : decode cX13_look 34 = .ok (.aload_n 0, 1) := by decide +kernel
theorem dX13_look_35 : decode cX13_look 35 = .ok (.invokevirtual 437, 3) := by decide +kernel
theorem dX13_look_38 : decode cX13_look 38 = .ok (.iconst 0, 1) := by decide +kernel
theorem dX13_look_39 : decode cX13_look 39 = .ok (.istore 4, 2) := by decide +kernel
theorem dX13_look_41 : decode cX13_look 41 = .ok (.iload 4, 2) := by decide +kernel
theorem dX13_look_43 : decode cX13_look 43 = .ok (.bipush 64, 2) := by decide +kernel
theorem dX13_look_45 : decode cX13_look 45 = .ok (.if_icmp .ge 86, 3) := by decide +kernel
theorem dX13_look_48 : decode cX13_look 48 = .ok (.aload_n 0, 1) := by decide +kernel
theorem dX13_look_49 : decode cX13_look 49 = .ok (.iload 4, 2) := by decide +kernel
theorem dX13_look_51 : decode cX13_look 51 = .ok (.invokevirtual 199, 3) := by decide +kernel
theorem dX13_look_54 : decode cX13_look 54 = .ok (.ifCond .eq 71, 3) := by decide +kernel
theorem dX13_look_57 : decode cX13_look 57 = .ok (.aload_n 0, 1) := by decide +kernel
theorem dX13_look_58 : decode cX13_look 58 = .ok (.iload 4, 2) := by decide +kernel
theorem dX13_look_60 : decode cX13_look 60 = .ok (.invokevirtual 440, 3) := by decide +kernel
theorem dX13_look_63 : decode cX13_look 63 = .ok (.ifCond .eq 6, 3) := by decide +kernel
theorem dX13_look_66 : decode cX13_look 66 = .ok (.goto 59, 3) := by decide +kernel
theorem dX13_look_69 : decode cX13_look 69 = .ok (.iconst 0, 1) := by decide +kernel
theorem dX13_look_70 : decode cX13_look 70 = .ok (.istore 5, 2) := by decide +kernel
theorem dX13_look_72 : decode cX13_look 72 = .ok (.iconst 0, 1) := by decide +kernel
theorem dX13_look_73 : decode cX13_look 73 = .ok (.istore 6, 2) := by decide +kernel
theorem dX13_look_75 : decode cX13_look 75 = .ok (.iload 6, 2) := by decide +kernel
theorem dX13_look_77 : decode cX13_look 77 = .ok (.bipush 6, 2) := by decide +kernel
theorem dX13_look_79 : decode cX13_look 79 = .ok (.if_icmp .gt 26, 3) := by decide +kernel
theorem dX13_look_82 : decode cX13_look 82 = .ok (.iload 5, 2) := by decide +kernel
theorem dX13_look_84 : decode cX13_look 84 = .ok (.aload_n 0, 1) := by decide +kernel
theorem dX13_look_85 : decode cX13_look 85 = .ok (.getfield 98, 3) := by decide +kernel
theorem dX13_look_88 : decode cX13_look 88 = .ok (.iload 4, 2) := by decide +kernel
theorem dX13_look_90 : decode cX13_look 90 = .ok (.aaload, 1) := by decide +kernel
theorem dX13_look_91 : decode cX13_look 91 = .ok (.iload 6, 2) := by decide +kernel
theorem dX13_look_93 : decode cX13_look 93 = .ok (.iaload, 1) := by decide +kernel
theorem dX13_look_94 : decode cX13_look 94 = .ok (.invokestatic 262, 3) := by decide +kernel
theorem dX13_look_97 : decode cX13_look 97 = .ok (.istore 5, 2) := by decide +kernel
theorem dX13_look_99 : decode cX13_look 99 = .ok (.iinc 6 1, 3) := by decide +kernel
theorem dX13_look_102 : decode cX13_look 102 = .ok (.goto (-27), 3) := by decide +kernel
theorem dX13_look_105 : decode cX13_look 105 = .ok (.iload_n 2, 1) := by decide +kernel
theorem dX13_look_106 : decode cX13_look 106 = .ok (.iconst (-1), 1) := by decide +kernel
theorem dX13_look_107 : decode cX13_look 107 = .ok (.if_icmp .eq 12, 3) := by decide +kernel
theorem dX13_look_110 : decode cX13_look 110 = .ok (.iload 5, 2) := by decide +kernel
theorem dX13_look_112 : decode cX13_look 112 = .ok (.iload_n 3, 1) := by decide +kernel
theorem dX13_look_113 : decode cX13_look 113 = .ok (.if_icmp .lt 6, 3) := by decide +kernel
theorem dX13_look_116 : decode cX13_look 116 = .ok (.goto 9, 3) := by decide +kernel
theorem dX13_look_119 : decode cX13_look 119 = .ok (.iload 4, 2) := by decide +kernel
theorem dX13_look_121 : decode cX13_look 121 = .ok (.istore_n 2, 1) := by decide +kernel
theorem dX13_look_122 : decode cX13_look 122 = .ok (.iload 5, 2) := by decide +kernel
theorem dX13_look_124 : decode cX13_look 124 = .ok (.istore_n 3, 1) := by decide +kernel
theorem dX13_look_125 : decode cX13_look 125 = .ok (.iinc 4 1, 3) := by decide +kernel
theorem dX13_look_128 : decode cX13_look 128 = .ok (.goto (-87), 3) := by decide +kernel
theorem dX13_look_131 : decode cX13_look 131 = .ok (.iload_n 1, 1) := by decide +kernel
theorem dX13_look_132 : decode cX13_look 132 = .ok (.ifCond .ne 10, 3) := by decide +kernel
theorem dX13_look_135 : decode cX13_look 135 = .ok (.iload_n 2, 1) := by decide +kernel
theorem dX13_look_136 : decode cX13_look 136 = .ok (.invokestatic 443, 3) := by decide +kernel
theorem dX13_look_139 : decode cX13_look 139 = .ok (.goto 4, 3) := by decide +kernel
theorem dX13_look_142 : decode cX13_look 142 = .ok (.iload_n 3, 1) := by decide +kernel
theorem dX13_look_143 : decode cX13_look 143 = .ok (.ireturn, 1) := by decide +kernel
theorem dX13_meet_0 : decode cX13_meet 0 = .ok (.aload_n 0, 1) := by decide +kernel
theorem dX13_meet_1 : decode cX13_meet 1 = .ok (.iconst 0, 1) := by decide +kernel
theorem dX13_meet_2 : decode cX13_meet 2 = .ok (.putfield 107, 3) := by decide +kernel
theorem dX13_meet_5 : decode cX13_meet 5 = .ok (.aload_n 0, 1) := by decide +kernel
theorem dX13_meet_6 : decode cX13_meet 6 = .ok (.aload_n 0, 1) := by decide +kernel
theorem dX13_meet_7 : decode cX13_meet 7 = .ok (.iload_n 1, 1) := by decide +kernel
theorem dX13_meet_8 : decode cX13_meet 8 = .ok (.invokevirtual 412, 3) := by decide +kernel
theorem dX13_meet_11 : decode cX13_meet 11 = .ok (.ifCond .eq 11, 3) := by decide +kernel
theorem dX13_meet_14 : decode cX13_meet 14 = .ok (.aload_n 0, 1) := by decide +kernel
theorem dX13_meet_15 : decode cX13_meet 15 = .ok (.iload_n 2, 1) := by decide +kernel
theorem dX13_meet_16 : decode cX13_meet 16 = .ok (.invokevirtual 412, 3) := by decide +kernel
theorem dX13_meet_19 : decode cX13_meet 19 = .ok (.ifCond .ne 7, 3) := by decide +kernel
theorem dX13_meet_22 : decode cX13_meet 22 = .ok (.iconst 1, 1) := by decide +kernel
theorem dX13_meet_23 : decode cX13_meet 23 = .ok (.goto 4, 3) := by decide +kernel
theorem dX13_meet_26 : decode cX13_meet 26 = .ok (.iconst 0, 1) := by decide +kernel
theorem dX13_meet_27 : decode cX13_meet 27 = .ok (.iconst 1, 1) := by decide +kernel
theorem dX13_meet_28 : decode cX13_meet 28 = .ok (.iconst 0, 1) := by decide +kernel
theorem dX13_meet_29 : decode cX13_meet 29 = .ok (.invokevirtual 186, 3) := by decide +kernel
theorem dX13_meet_32 : decode cX13_meet 32 = .ok (.ifCond .eq 5, 3) := by decide +kernel
theorem dX13_meet_35 : decode cX13_meet 35 = .ok (.iconst 0, 1) := by decide +kernel
theorem dX13_meet_36 : decode cX13_meet 36 = .ok (.ireturn, 1) := by decide +kernel
theorem dX13_meet_37 : decode cX13_meet 37 = .ok (.iconst 0, 1) := by decide +kernel
theorem dX13_meet_38 : decode cX13_meet 38 = .ok (.istore_n 3, 1) := by decide +kernel
theorem dX13_meet_39 : decode cX13_meet 39 = .ok (.iconst 0, 1) := by decide +kernel
theorem dX13_meet_40 : decode cX13_meet 40 = .ok (.istore 4, 2) := by decide +kernel
theorem dX13_meet_42 : decode cX13_meet 42 = .ok (.iload 4, 2) := by decide +kernel
theorem dX13_meet_44 : decode cX13_meet 44 = .ok (.bipush 64, 2) := by decide +kernel
theorem dX13_meet_46 : decode cX13_meet 46 = .ok (.if_icmp .ge 43, 3) := by decide +kernel
theorem dX13_meet_49 : decode cX13_meet 49 = .ok (.iload_n 3, 1) := by decide +kernel
theorem dX13_meet_50 : decode cX13_meet 50 = .ok (.aload_n 0, 1) := by decide +kernel
theorem dX13_meet_51 : decode cX13_meet 51 = .ok (.getfield 70, 3) := by decide +kernel
theorem dX13_meet_54 : decode cX13_meet 54 = .ok (.iload_n 1, 1) := by decide +kernel
theorem dX13_meet_55 : decode cX13_meet 55 = .ok (.iload 4, 2) := by decide +kernel
theorem dX13_meet_57 : decode cX13_meet 57 = .ok (.invokestatic 287, 3) := by decide +kernel
theorem dX13_meet_60 : decode cX13_meet 60 = .ok (.ifCond .eq 20, 3) := by decide +kernel
theorem dX13_meet_63 : decode cX13_meet 63 = .ok (.aload_n 0, 1) := by decide +kernel
theorem dX13_meet_64 : decode cX13_meet 64 = .ok (.getfield 70, 3) := by decide +kernel
theorem dX13_meet_67 : decode cX13_meet 67 = .ok (.iload_n 2, 1) := by decide +kernel
theorem dX13_meet_68 : decode cX13_meet 68 = .ok (.iload 4, 2) := by decide +kernel
theorem dX13_meet_70 : decode cX13_meet 70 = .ok (.invokestatic 287, 3) := by decide +kernel
theorem dX13_meet_73 : decode cX13_meet 73 = .ok (.ifCond .eq 7, 3) := by decide +kernel
theorem dX13_meet_76 : decode cX13_meet 76 = .ok (.iconst 1, 1) := by decide +kernel
theorem dX13_meet_77 : decode cX13_meet 77 = .ok (.goto 4, 3) := by decide +kernel
theorem dX13_meet_80 : decode cX13_meet 80 = .ok (.iconst 0, 1) := by decide +kernel
theorem dX13_meet_81 : decode cX13_meet 81 = .ok (.iadd, 1) := by decide +kernel
theorem dX13_meet_82 : decode cX13_meet 82 = .ok (.istore_n 3, 1) := by decide +kernel
theorem dX13_meet_83 : decode cX13_meet 83 = .ok (.iinc 4 1, 3) := by decide +kernel
theorem dX13_meet_86 : decode cX13_meet 86 = .ok (.goto (-44), 3) := by decide +kernel
theorem dX13_meet_89 : decode cX13_meet 89 = .ok (.iload_n 3, 1) := by decide +kernel
theorem dX13_meet_90 : decode cX13_meet 90 = .ok (.ireturn, 1) := by decide +kernel
theorem dX13_meets_0 : decode cX13_meets 0 = .ok (.iconst 0, 1) := by decide +kernel
theorem dX13_meets_1 : decode cX13_meets 1 = .ok (.istore_n 3, 1) := by decide +kernel
theorem dX13_meets_2 : decode cX13_meets 2 = .ok (.iload_n 3, 1) := by decide +kernel
theorem dX13_meets_3 : decode cX13_meets 3 = .ok (.bipush 64, 2) := by decide +kernel
theorem dX13_meets_5 : decode cX13_meets 5 = .ok (.if_icmp .ge 51, 3) := by decide +kernel
theorem dX13_meets_8 : decode cX13_meets 8 = .ok (.aload_n 0, 1) := by decide +kernel
theorem dX13_meets_9 : decode cX13_meets 9 = .ok (.getfield 95, 3) := by decide +kernel
theorem dX13_meets_12 : decode cX13_meets 12 = .ok (.iload_n 1, 1) := by decide +kernel
theorem dX13_meets_13 : decode cX13_meets 13 = .ok (.aaload, 1) := by decide +kernel
theorem dX13_meets_14 : decode cX13_meets 14 = .ok (.iload_n 3, 1) := by decide +kernel
theorem dX13_meets_15 : decode cX13_meets 15 = .ok (.aload_n 0, 1) := by decide +kernel
theorem dX13_meets_16 : decode cX13_meets 16 = .ok (.getfield 95, 3) := by decide +kernel
theorem dX13_meets_19 : decode cX13_meets 19 = .ok (.iload_n 1, 1) := by decide +kernel
theorem dX13_meets_20 : decode cX13_meets 20 = .ok (.aaload, 1) := by decide +kernel
theorem dX13_meets_21 : decode cX13_meets 21 = .ok (.iload_n 3, 1) := by decide +kernel
theorem dX13_meets_22 : decode cX13_meets 22 = .ok (.iaload, 1) := by decide +kernel
theorem dX13_meets_23 : decode cX13_meets 23 = .ok (.aload_n 0, 1) := by decide +kernel
theorem dX13_meets_24 : decode cX13_meets 24 = .ok (.getfield 95, 3) := by decide +kernel
theorem dX13_meets_27 : decode cX13_meets 27 = .ok (.iload_n 2, 1) := by decide +kernel
theorem dX13_meets_28 : decode cX13_meets 28 = .ok (.aaload, 1) := by decide +kernel
theorem dX13_meets_29 : decode cX13_meets 29 = .ok (.iload_n 3, 1) := by decide +kernel
theorem dX13_meets_30 : decode cX13_meets 30 = .ok (.iaload, 1) := by decide +kernel
theorem dX13_meets_31 : decode cX13_meets 31 = .ok (.aload_n 0, 1) := by decide +kernel
theorem dX13_meets_32 : decode cX13_meets 32 = .ok (.getfield 95, 3) := by decide +kernel
theorem dX13_meets_35 : decode cX13_meets 35 = .ok (.iload_n 1, 1) := by decide +kernel
theorem dX13_meets_36 : decode cX13_meets 36 = .ok (.iload_n 2, 1) := by decide +kernel
theorem dX13_meets_37 : decode cX13_meets 37 = .ok (.iconst (-1), 1) := by decide +kernel
theorem dX13_meets_38 : decode cX13_meets 38 = .ok (.ixor, 1) := by decide +kernel
theorem dX13_meets_39 : decode cX13_meets 39 = .ok (.iand, 1) := by decide +kernel
theorem dX13_meets_40 : decode cX13_meets 40 = .ok (.aaload, 1) := by decide +kernel
theorem dX13_meets_41 : decode cX13_meets 41 = .ok (.iload_n 3, 1) := by decide +kernel
theorem dX13_meets_42 : decode cX13_meets 42 = .ok (.iaload, 1) := by decide +kernel
theorem dX13_meets_43 : decode cX13_meets 43 = .ok (.iadd, 1) := by decide +kernel
theorem dX13_meets_44 : decode cX13_meets 44 = .ok (.iconst 1, 1) := by decide +kernel
theorem dX13_meets_45 : decode cX13_meets 45 = .ok (.isub, 1) := by decide +kernel
theorem dX13_meets_46 : decode cX13_meets 46 = .ok (.invokestatic 259, 3) := by decide +kernel
theorem dX13_meets_49 : decode cX13_meets 49 = .ok (.iastore, 1) := by decide +kernel
theorem dX13_meets_50 : decode cX13_meets 50 = .ok (.iinc 3 1, 3) := by decide +kernel
theorem dX13_meets_53 : decode cX13_meets 53 = .ok (.goto (-51), 3) := by decide +kernel
theorem dX13_meets_56 : decode cX13_meets 56 = .ok (.return_, 1) := by decide +kernel
theorem dX13_more_0 : decode cX13_more 0 = .ok (.iload_n 0, 1) := by decide +kernel
theorem dX13_more_1 : decode cX13_more 1 = .ok (.iload_n 1, 1) := by decide +kernel
theorem dX13_more_2 : decode cX13_more 2 = .ok (.if_icmp .le 7, 3) := by decide +kernel
theorem dX13_more_5 : decode cX13_more 5 = .ok (.iload_n 0, 1) := by decide +kernel
theorem dX13_more_6 : decode cX13_more 6 = .ok (.goto 4, 3) := by decide +kernel
theorem dX13_more_9 : decode cX13_more 9 = .ok (.iload_n 1, 1) := by decide +kernel
theorem dX13_more_10 : decode cX13_more 10 = .ok (.ireturn, 1) := by decide +kernel
theorem dX13_neighbour_0 : decode cX13_neighbour 0 = .ok (.iload_n 1, 1) := by decide +kernel
theorem dX13_neighbour_1 : decode cX13_neighbour 1 = .ok (.bipush 8, 2) := by decide +kernel
theorem dX13_neighbour_3 : decode cX13_neighbour 3 = .ok (.irem, 1) := by decide +kernel
theorem dX13_neighbour_4 : decode cX13_neighbour 4 = .ok (.iload_n 2, 1) := by decide +kernel
theorem dX13_neighbour_5 : decode cX13_neighbour 5 = .ok (.iconst 1, 1) := by decide +kernel
theorem dX13_neighbour_6 : decode cX13_neighbour 6 = .ok (.if_icmp .ne 7, 3) := by decide +kernel
theorem dX13_neighbour_9 : decode cX13_neighbour 9 = .ok (.iconst 1, 1) := by decide +kernel
theorem dX13_neighbour_10 : decode cX13_neighbour 10 = .ok (.goto 13, 3) := by decide +kernel
theorem dX13_neighbour_13 : decode cX13_neighbour 13 = .ok (.iload_n 2, 1) := by decide +kernel
theorem dX13_neighbour_14 : decode cX13_neighbour 14 = .ok (.iconst 3, 1) := by decide +kernel
theorem dX13_neighbour_15 : decode cX13_neighbour 15 = .ok (.if_icmp .ne 7, 3) := by decide +kernel
theorem dX13_neighbour_18 : decode cX13_neighbour 18 = .ok (.iconst (-1), 1) := by decide +kernel
theorem dX13_neighbour_19 : decode cX13_neighbour 19 = .ok (.goto 4, 3) := by decide +kernel
theorem dX13_neighbour_22 : decode cX13_neighbour 22 = .ok (.iconst 0, 1) := by decide +kernel
theorem dX13_neighbour_23 : decode cX13_neighbour 23 = .ok (.iadd, 1) := by decide +kernel
theorem dX13_neighbour_24 : decode cX13_neighbour 24 = .ok (.istore_n 3, 1) := by decide +kernel
theorem dX13_neighbour_25 : decode cX13_neighbour 25 = .ok (.iload_n 1, 1) := by decide +kernel
theorem dX13_neighbour_26 : decode cX13_neighbour 26 = .ok (.bipush 8, 2) := by decide +kernel
theorem dX13_neighbour_28 : decode cX13_neighbour 28 = .ok (.idiv, 1) := by decide +kernel
theorem dX13_neighbour_29 : decode cX13_neighbour 29 = .ok (.iload_n 2, 1) := by decide +kernel
theorem dX13_neighbour_30 : decode cX13_neighbour 30 = .ok (.iconst 2, 1) := by decide +kernel
theorem dX13_neighbour_31 : decode cX13_neighbour 31 = .ok (.if_icmp .ne 7, 3) := by decide +kernel
theorem dX13_neighbour_34 : decode cX13_neighbour 34 = .ok (.iconst 1, 1) := by decide +kernel
theorem dX13_neighbour_35 : decode cX13_neighbour 35 = .ok (.goto 12, 3) := by decide +kernel
theorem dX13_neighbour_38 : decode cX13_neighbour 38 = .ok (.iload_n 2, 1) := by decide +kernel
theorem dX13_neighbour_39 : decode cX13_neighbour 39 = .ok (.ifCond .ne 7, 3) := by decide +kernel
theorem dX13_neighbour_42 : decode cX13_neighbour 42 = .ok (.iconst (-1), 1) := by decide +kernel
theorem dX13_neighbour_43 : decode cX13_neighbour 43 = .ok (.goto 4, 3) := by decide +kernel
theorem dX13_neighbour_46 : decode cX13_neighbour 46 = .ok (.iconst 0, 1) := by decide +kernel
theorem dX13_neighbour_47 : decode cX13_neighbour 47 = .ok (.iadd, 1) := by decide +kernel
theorem dX13_neighbour_48 : decode cX13_neighbour 48 = .ok (.istore 4, 2) := by decide +kernel
theorem dX13_neighbour_50 : decode cX13_neighbour 50 = .ok (.aload_n 0, 1) := by decide +kernel
theorem dX13_neighbour_51 : decode cX13_neighbour 51 = .ok (.iload_n 3, 1) := by decide +kernel
theorem dX13_neighbour_52 : decode cX13_neighbour 52 = .ok (.iload 4, 2) := by decide +kernel
theorem dX13_neighbour_54 : decode cX13_neighbour 54 = .ok (.invokevirtual 281, 3) := by decide +kernel
theorem dX13_neighbour_57 : decode cX13_neighbour 57 = .ok (.ifCond .eq 13, 3) := by decide +kernel
theorem dX13_neighbour_60 : decode cX13_neighbour 60 = .ok (.bipush 8, 2) := by decide +kernel
theorem dX13_neighbour_62 : decode cX13_neighbour 62 = .ok (.iload 4, 2) := by decide +kernel
theorem dX13_neighbour_64 : decode cX13_neighbour 64 = .ok (.imul, 1) := by decide +kernel
theorem dX13_neighbour_65 : decode cX13_neighbour 65 = .ok (.iload_n 3, 1) := by decide +kernel
theorem dX13_neighbour_66 : decode cX13_neighbour 66 = .ok (.iadd, 1) := by decide +kernel
theorem dX13_neighbour_67 : decode cX13_neighbour 67 = .ok (.goto 4, 3) := by decide +kernel
theorem dX13_neighbour_70 : decode cX13_neighbour 70 = .ok (.iconst (-1), 1) := by decide +kernel
theorem dX13_neighbour_71 : decode cX13_neighbour 71 = .ok (.ireturn, 1) := by decide +kernel
theorem dX13_net_0 : decode cX13_net 0 = .ok (.aload_n 0, 1) := by decide +kernel
theorem dX13_net_1 : decode cX13_net 1 = .ok (.iconst 0, 1) := by decide +kernel
theorem dX13_net_2 : decode cX13_net 2 = .ok (.putfield 107, 3) := by decide +kernel
theorem dX13_net_5 : decode cX13_net 5 = .ok (.aload_n 0, 1) := by decide +kernel
theorem dX13_net_6 : decode cX13_net 6 = .ok (.aload_n 0, 1) := by decide +kernel
theorem dX13_net_7 : decode cX13_net 7 = .ok (.iload_n 1, 1) := by decide +kernel
theorem dX13_net_8 : decode cX13_net 8 = .ok (.invokevirtual 412, 3) := by decide +kernel
theorem dX13_net_11 : decode cX13_net 11 = .ok (.ifCond .ne 7, 3) := by decide +kernel
theorem dX13_net_14 : decode cX13_net 14 = .ok (.iconst 1, 1) := by decide +kernel
theorem dX13_net_15 : decode cX13_net 15 = .ok (.goto 4, 3) := by decide +kernel
theorem dX13_net_18 : decode cX13_net 18 = .ok (.iconst 0, 1) := by decide +kernel
theorem dX13_net_19 : decode cX13_net 19 = .ok (.iconst 1, 1) := by decide +kernel
theorem dX13_net_20 : decode cX13_net 20 = .ok (.iconst 0, 1) := by decide +kernel
theorem dX13_net_21 : decode cX13_net 21 = .ok (.invokevirtual 186, 3) := by decide +kernel
theorem dX13_net_24 : decode cX13_net 24 = .ok (.ifCond .ne 27, 3) := by decide +kernel
theorem dX13_net_27 : decode cX13_net 27 = .ok (.aload_n 0, 1) := by decide +kernel
theorem dX13_net_28 : decode cX13_net 28 = .ok (.iload_n 2, 1) := by decide +kernel
theorem dX13_net_29 : decode cX13_net 29 = .ok (.iconst 0, 1) := by decide +kernel
theorem dX13_net_30 : decode cX13_net 30 = .ok (.bipush 10, 2) := by decide +kernel
theorem dX13_net_32 : decode cX13_net 32 = .ok (.invokestatic 141, 3) := by decide +kernel
theorem dX13_net_35 : decode cX13_net 35 = .ok (.ifCond .ne 7, 3) := by decide +kernel
theorem dX13_net_38 : decode cX13_net 38 = .ok (.iconst 1, 1) := by decide +kernel
theorem dX13_net_39 : decode cX13_net 39 = .ok (.goto 4, 3) := by decide +kernel
theorem dX13_net_42 : decode cX13_net 42 = .ok (.iconst 0, 1) := by decide +kernel
theorem dX13_net_43 : decode cX13_net 43 = .ok (.iconst 2, 1) := by decide +kernel
theorem dX13_net_44 : decode cX13_net 44 = .ok (.iconst 1, 1) := by decide +kernel
theorem dX13_net_45 : decode cX13_net 45 = .ok (.invokevirtual 186, 3) := by decide +kernel
theorem dX13_net_48 : decode cX13_net 48 = .ok (.ifCond .eq 5, 3) := by decide +kernel
theorem dX13_net_51 : decode cX13_net 51 = .ok (.iconst 0, 1) := by decide +kernel
theorem dX13_net_52 : decode cX13_net 52 = .ok (.ireturn, 1) := by decide +kernel
theorem dX13_net_53 : decode cX13_net 53 = .ok (.iload_n 2, 1) := by decide +kernel
theorem dX13_net_54 : decode cX13_net 54 = .ok (.tableswitch 144 0 10 #[58, 69, 69, 78, 87, 97, 107, 144, 144, 144, 126], 58) := by decide +kernel
theorem dX13_net_112 : decode cX13_net 112 = .ok (.aload_n 0, 1) := by decide +kernel
theorem dX13_net_113 : decode cX13_net 113 = .ok (.getfield 70, 3) := by decide +kernel
theorem dX13_net_116 : decode cX13_net 116 = .ok (.sipush 512, 3) := by decide +kernel
theorem dX13_net_119 : decode cX13_net 119 = .ok (.iload_n 1, 1) := by decide +kernel
theorem dX13_net_120 : decode cX13_net 120 = .ok (.iadd, 1) := by decide +kernel
theorem dX13_net_121 : decode cX13_net 121 = .ok (.iaload, 1) := by decide +kernel
theorem dX13_net_122 : decode cX13_net 122 = .ok (.ireturn, 1) := by decide +kernel
theorem dX13_net_123 : decode cX13_net 123 = .ok (.aload_n 0, 1) := by decide +kernel
theorem dX13_net_124 : decode cX13_net 124 = .ok (.getfield 40, 3) := by decide +kernel
theorem dX13_net_127 : decode cX13_net 127 = .ok (.iload_n 1, 1) := by decide +kernel
theorem dX13_net_128 : decode cX13_net 128 = .ok (.aaload, 1) := by decide +kernel
theorem dX13_net_129 : decode cX13_net 129 = .ok (.iload_n 2, 1) := by decide +kernel
theorem dX13_net_130 : decode cX13_net 130 = .ok (.iaload, 1) := by decide +kernel
theorem dX13_net_131 : decode cX13_net 131 = .ok (.ireturn, 1) := by decide +kernel
theorem dX13_net_132 : decode cX13_net 132 = .ok (.aload_n 0, 1) := by decide +kernel
theorem dX13_net_133 : decode cX13_net 133 = .ok (.getfield 70, 3) := by decide +kernel
theorem dX13_net_136 : decode cX13_net 136 = .ok (.iload_n 1, 1) := by decide +kernel
theorem dX13_net_137 : decode cX13_net 137 = .ok (.invokestatic 332, 3) := by decide +kernel
theorem dX13_net_140 : decode cX13_net 140 = .ok (.ireturn, 1) := by decide +kernel
theorem dX13_net_141 : decode cX13_net 141 = .ok (.aload_n 0, 1) := by decide +kernel
theorem dX13_net_142 : decode cX13_net 142 = .ok (.aload_n 0, 1) := by decide +kernel
theorem dX13_net_143 : decode cX13_net 143 = .ok (.getfield 70, 3) := by decide +kernel
theorem dX13_net_146 : decode cX13_net 146 = .ok (.iload_n 1, 1) := by decide +kernel
theorem dX13_net_147 : decode cX13_net 147 = .ok (.invokevirtual 341, 3) := by decide +kernel
theorem dX13_net_150 : decode cX13_net 150 = .ok (.ireturn, 1) := by decide +kernel
theorem dX13_net_151 : decode cX13_net 151 = .ok (.aload_n 0, 1) := by decide +kernel
theorem dX13_net_152 : decode cX13_net 152 = .ok (.aload_n 0, 1) := by decide +kernel
theorem dX13_net_153 : decode cX13_net 153 = .ok (.getfield 70, 3) := by decide +kernel
theorem dX13_net_156 : decode cX13_net 156 = .ok (.iload_n 1, 1) := by decide +kernel
theorem dX13_net_157 : decode cX13_net 157 = .ok (.invokevirtual 393, 3) := by decide +kernel
theorem dX13_net_160 : decode cX13_net 160 = .ok (.ireturn, 1) := by decide +kernel
theorem dX13_net_161 : decode cX13_net 161 = .ok (.aload_n 0, 1) := by decide +kernel
theorem dX13_net_162 : decode cX13_net 162 = .ok (.getfield 40, 3) := by decide +kernel
theorem dX13_net_165 : decode cX13_net 165 = .ok (.iload_n 1, 1) := by decide +kernel
theorem dX13_net_166 : decode cX13_net 166 = .ok (.aaload, 1) := by decide +kernel
theorem dX13_net_167 : decode cX13_net 167 = .ok (.iconst 1, 1) := by decide +kernel
theorem dX13_net_168 : decode cX13_net 168 = .ok (.iaload, 1) := by decide +kernel
theorem dX13_net_169 : decode cX13_net 169 = .ok (.aload_n 0, 1) := by decide +kernel
theorem dX13_net_170 : decode cX13_net 170 = .ok (.aload_n 0, 1) := by decide +kernel
theorem dX13_net_171 : decode cX13_net 171 = .ok (.getfield 70, 3) := by decide +kernel
theorem dX13_net_174 : decode cX13_net 174 = .ok (.iload_n 1, 1) := by decide +kernel
theorem dX13_net_175 : decode cX13_net 175 = .ok (.invokevirtual 393, 3) := by decide +kernel
theorem dX13_net_178 : decode cX13_net 178 = .ok (.isub, 1) := by decide +kernel
theorem dX13_net_179 : decode cX13_net 179 = .ok (.ireturn, 1) := by decide +kernel
theorem dX13_net_180 : decode cX13_net 180 = .ok (.aload_n 0, 1) := by decide +kernel
theorem dX13_net_181 : decode cX13_net 181 = .ok (.aload_n 0, 1) := by decide +kernel
theorem dX13_net_182 : decode cX13_net 182 = .ok (.getfield 70, 3) := by decide +kernel
theorem dX13_net_185 : decode cX13_net 185 = .ok (.iload_n 1, 1) := by decide +kernel
theorem dX13_net_186 : decode cX13_net 186 = .ok (.invokevirtual 312, 3) := by decide +kernel
theorem dX13_net_189 : decode cX13_net 189 = .ok (.ifCond .eq 7, 3) := by decide +kernel
theorem dX13_net_192 : decode cX13_net 192 = .ok (.iconst 1, 1) := by decide +kernel
theorem dX13_net_193 : decode cX13_net 193 = .ok (.goto 4, 3) := by decide +kernel
theorem dX13_net_196 : decode cX13_net 196 = .ok (.iconst 0, 1) := by decide +kernel
theorem dX13_net_197 : decode cX13_net 197 = .ok (.ireturn, 1) := by decide +kernel
theorem dX13_net_198 : decode cX13_net 198 = .ok (.aload_n 0, 1) := by decide +kernel
theorem dX13_net_199 : decode cX13_net 199 = .ok (.iload_n 1, 1) := by decide +kernel
theorem dX13_net_200 : decode cX13_net 200 = .ok (.iload_n 2, 1) := by decide +kernel
theorem dX13_net_201 : decode cX13_net 201 = .ok (.invokevirtual 415, 3) := by decide +kernel
theorem dX13_net_204 : decode cX13_net 204 = .ok (.ireturn, 1) := by decide +kernel
theorem dX13_nextPin_0 : decode cX13_nextPin 0 = .ok (.iconst (-1), 1) := by decide +kernel
theorem dX13_nextPin_1 : decode cX13_nextPin 1 = .ok (.istore_n 3, 1) := by decide +kernel
theorem dX13_nextPin_2 : decode cX13_nextPin 2 = .ok (.iconst 0, 1) := by decide +kernel
theorem dX13_nextPin_3 : decode cX13_nextPin 3 = .ok (.istore 4, 2) := by decide +kernel
theorem dX13_nextPin_5 : decode cX13_nextPin 5 = .ok (.iload 4, 2) := by decide +kernel
theorem dX13_nextPin_7 : decode cX13_nextPin 7 = .ok (.aload_n 0, 1) := by decide +kernel
theorem dX13_nextPin_8 : decode cX13_nextPin 8 = .ok (.getfield 40, 3) := by decide +kernel
theorem dX13_nextPin_11 : decode cX13_nextPin 11 = .ok (.iload_n 2, 1) := by decide +kernel
theorem dX13_nextPin_12 : decode cX13_nextPin 12 = .ok (.aaload, 1) := by decide +kernel
theorem dX13_nextPin_13 : decode cX13_nextPin 13 = .ok (.iconst 2, 1) := by decide +kernel
theorem dX13_nextPin_14 : decode cX13_nextPin 14 = .ok (.iaload, 1) := by decide +kernel
theorem dX13_nextPin_15 : decode cX13_nextPin 15 = .ok (.if_icmp .ge 72, 3) := by decide +kernel
theorem dX13_nextPin_18 : decode cX13_nextPin 18 = .ok (.aload_n 0, 1) := by decide +kernel
theorem dX13_nextPin_19 : decode cX13_nextPin 19 = .ok (.getfield 46, 3) := by decide +kernel
theorem dX13_nextPin_22 : decode cX13_nextPin 22 = .ok (.iload_n 2, 1) := by decide +kernel
theorem dX13_nextPin_23 : decode cX13_nextPin 23 = .ok (.aaload, 1) := by decide +kernel
theorem dX13_nextPin_24 : decode cX13_nextPin 24 = .ok (.iload 4, 2) := by decide +kernel
theorem dX13_nextPin_26 : decode cX13_nextPin 26 = .ok (.iaload, 1) := by decide +kernel
theorem dX13_nextPin_27 : decode cX13_nextPin 27 = .ok (.istore 5, 2) := by decide +kernel
theorem dX13_nextPin_29 : decode cX13_nextPin 29 = .ok (.aload_n 1, 1) := by decide +kernel
theorem dX13_nextPin_30 : decode cX13_nextPin 30 = .ok (.iload_n 2, 1) := by decide +kernel
theorem dX13_nextPin_31 : decode cX13_nextPin 31 = .ok (.iload 5, 2) := by decide +kernel
theorem dX13_nextPin_33 : decode cX13_nextPin 33 = .ok (.invokestatic 287, 3) := by decide +kernel
theorem dX13_nextPin_36 : decode cX13_nextPin 36 = .ok (.ifCond .ne 45, 3) := by decide +kernel
theorem dX13_nextPin_39 : decode cX13_nextPin 39 = .ok (.aload_n 0, 1) := by decide +kernel
theorem dX13_nextPin_40 : decode cX13_nextPin 40 = .ok (.getfield 85, 3) := by decide +kernel
theorem dX13_nextPin_43 : decode cX13_nextPin 43 = .ok (.iload 5, 2) := by decide +kernel
theorem dX13_nextPin_45 : decode cX13_nextPin 45 = .ok (.iaload, 1) := by decide +kernel
theorem dX13_nextPin_46 : decode cX13_nextPin 46 = .ok (.iconst (-1), 1) := by decide +kernel
theorem dX13_nextPin_47 : decode cX13_nextPin 47 = .ok (.if_icmp .ne 6, 3) := by decide +kernel
theorem dX13_nextPin_50 : decode cX13_nextPin 50 = .ok (.goto 31, 3) := by decide +kernel
theorem dX13_nextPin_53 : decode cX13_nextPin 53 = .ok (.iload_n 3, 1) := by decide +kernel
theorem dX13_nextPin_54 : decode cX13_nextPin 54 = .ok (.iconst (-1), 1) := by decide +kernel
theorem dX13_nextPin_55 : decode cX13_nextPin 55 = .ok (.if_icmp .eq 19, 3) := by decide +kernel
theorem dX13_nextPin_58 : decode cX13_nextPin 58 = .ok (.aload_n 0, 1) := by decide +kernel
theorem dX13_nextPin_59 : decode cX13_nextPin 59 = .ok (.getfield 85, 3) := by decide +kernel
theorem dX13_nextPin_62 : decode cX13_nextPin 62 = .ok (.iload 5, 2) := by decide +kernel
theorem dX13_nextPin_64 : decode cX13_nextPin 64 = .ok (.iaload, 1) := by decide +kernel
theorem dX13_nextPin_65 : decode cX13_nextPin 65 = .ok (.aload_n 0, 1) := by decide +kernel
theorem dX13_nextPin_66 : decode cX13_nextPin 66 = .ok (.getfield 85, 3) := by decide +kernel
theorem dX13_nextPin_69 : decode cX13_nextPin 69 = .ok (.iload_n 3, 1) := by decide +kernel
theorem dX13_nextPin_70 : decode cX13_nextPin 70 = .ok (.iaload, 1) := by decide +kernel
theorem dX13_nextPin_71 : decode cX13_nextPin 71 = .ok (.if_icmp .ge 8, 3) := by decide +kernel
theorem dX13_nextPin_74 : decode cX13_nextPin 74 = .ok (.iload 5, 2) := by decide +kernel
theorem dX13_nextPin_76 : decode cX13_nextPin 76 = .ok (.goto 4, 3) := by decide +kernel
theorem dX13_nextPin_79 : decode cX13_nextPin 79 = .ok (.iload_n 3, 1) := by decide +kernel
theorem dX13_nextPin_80 : decode cX13_nextPin 80 = .ok (.istore_n 3, 1) := by decide +kernel
theorem dX13_nextPin_81 : decode cX13_nextPin 81 = .ok (.iinc 4 1, 3) := by decide +kernel
theorem dX13_nextPin_84 : decode cX13_nextPin 84 = .ok (.goto (-79), 3) := by decide +kernel
theorem dX13_nextPin_87 : decode cX13_nextPin 87 = .ok (.iload_n 3, 1) := by decide +kernel
theorem dX13_nextPin_88 : decode cX13_nextPin 88 = .ok (.ireturn, 1) := by decide +kernel
theorem dX13_notes_0 : decode cX13_notes 0 = .ok (.aload_n 0, 1) := by decide +kernel
theorem dX13_notes_1 : decode cX13_notes 1 = .ok (.getfield 123, 3) := by decide +kernel
theorem dX13_notes_4 : decode cX13_notes 4 = .ok (.ifCond .eq 4, 3) := by decide +kernel
theorem dX13_notes_7 : decode cX13_notes 7 = .ok (.return_, 1) := by decide +kernel
theorem dX13_notes_8 : decode cX13_notes 8 = .ok (.aload_n 0, 1) := by decide +kernel
theorem dX13_notes_9 : decode cX13_notes 9 = .ok (.getfield 52, 3) := by decide +kernel
theorem dX13_notes_12 : decode cX13_notes 12 = .ok (.aload_n 0, 1) := by decide +kernel
theorem dX13_notes_13 : decode cX13_notes 13 = .ok (.getfield 227, 3) := by decide +kernel
theorem dX13_notes_16 : decode cX13_notes 16 = .ok (.aaload, 1) := by decide +kernel
theorem dX13_notes_17 : decode cX13_notes 17 = .ok (.iconst 0, 1) := by decide +kernel
theorem dX13_notes_18 : decode cX13_notes 18 = .ok (.iload_n 1, 1) := by decide +kernel
theorem dX13_notes_19 : decode cX13_notes 19 = .ok (.iastore, 1) := by decide +kernel
theorem dX13_notes_20 : decode cX13_notes 20 = .ok (.aload_n 0, 1) := by decide +kernel
theorem dX13_notes_21 : decode cX13_notes 21 = .ok (.getfield 52, 3) := by decide +kernel
theorem dX13_notes_24 : decode cX13_notes 24 = .ok (.aload_n 0, 1) := by decide +kernel
theorem dX13_notes_25 : decode cX13_notes 25 = .ok (.getfield 227, 3) := by decide +kernel
theorem dX13_notes_28 : decode cX13_notes 28 = .ok (.aaload, 1) := by decide +kernel
theorem dX13_notes_29 : decode cX13_notes 29 = .ok (.iconst 1, 1) := by decide +kernel
theorem dX13_notes_30 : decode cX13_notes 30 = .ok (.iload_n 2, 1) := by decide +kernel
theorem dX13_notes_31 : decode cX13_notes 31 = .ok (.iastore, 1) := by decide +kernel
theorem dX13_notes_32 : decode cX13_notes 32 = .ok (.aload_n 0, 1) := by decide +kernel
theorem dX13_notes_33 : decode cX13_notes 33 = .ok (.dup, 1) := by decide +kernel
theorem dX13_notes_34 : decode cX13_notes 34 = .ok (.getfield 227, 3) := by decide +kernel
theorem dX13_notes_37 : decode cX13_notes 37 = .ok (.iconst 1, 1) := by decide +kernel
theorem dX13_notes_38 : decode cX13_notes 38 = .ok (.iadd, 1) := by decide +kernel
theorem dX13_notes_39 : decode cX13_notes 39 = .ok (.putfield 227, 3) := by decide +kernel
theorem dX13_notes_42 : decode cX13_notes 42 = .ok (.return_, 1) := by decide +kernel
theorem dX13_number_0 : decode cX13_number 0 = .ok (.aload_n 0, 1) := by decide +kernel
theorem dX13_number_1 : decode cX13_number 1 = .ok (.getfield 123, 3) := by decide +kernel
theorem dX13_number_4 : decode cX13_number 4 = .ok (.ifCond .eq 5, 3) := by decide +kernel
theorem dX13_number_7 : decode cX13_number 7 = .ok (.iconst 0, 1) := by decide +kernel
theorem dX13_number_8 : decode cX13_number 8 = .ok (.ireturn, 1) := by decide +kernel
theorem dX13_number_9 : decode cX13_number 9 = .ok (.aload_n 0, 1) := by decide +kernel
theorem dX13_number_10 : decode cX13_number 10 = .ok (.invokevirtual 129, 3) := by decide +kernel
theorem dX13_number_13 : decode cX13_number 13 = .ok (.aload_n 0, 1) := by decide +kernel
theorem dX13_number_14 : decode cX13_number 14 = .ok (.getfield 116, 3) := by decide +kernel
theorem dX13_number_17 : decode cX13_number 17 = .ok (.istore_n 3, 1) := by decide +kernel
theorem dX13_number_18 : decode cX13_number 18 = .ok (.iconst 0, 1) := by decide +kernel
theorem dX13_number_19 : decode cX13_number 19 = .ok (.istore 4, 2) := by decide +kernel
theorem dX13_number_21 : decode cX13_number 21 = .ok (.aload_n 0, 1) := by decide +kernel
theorem dX13_number_22 : decode cX13_number 22 = .ok (.aload_n 0, 1) := by decide +kernel
theorem dX13_number_23 : decode cX13_number 23 = .ok (.getfield 116, 3) := by decide +kernel
theorem dX13_number_26 : decode cX13_number 26 = .ok (.invokevirtual 119, 3) := by decide +kernel
theorem dX13_number_29 : decode cX13_number 29 = .ok (.invokestatic 132, 3) := by decide +kernel
theorem dX13_number_32 : decode cX13_number 32 = .ok (.ifCond .ne 12, 3) := by decide +kernel
theorem dX13_number_35 : decode cX13_number 35 = .ok (.aload_n 0, 1) := by decide +kernel
theorem dX13_number_36 : decode cX13_number 36 = .ok (.iconst 1, 1) := by decide +kernel
theorem dX13_number_37 : decode cX13_number 37 = .ok (.aload_n 0, 1) := by decide +kernel
theorem dX13_number_38 : decode cX13_number 38 = .ok (.getfield 116, 3) := by decide +kernel
theorem dX13_number_41 : decode cX13_number 41 = .ok (.invokevirtual 136, 3) := by decide +kernel
theorem dX13_number_44 : decode cX13_number 44 = .ok (.aload_n 0, 1) := by decide +kernel
theorem dX13_number_45 : decode cX13_number 45 = .ok (.aload_n 0, 1) := by decide +kernel
theorem dX13_number_46 : decode cX13_number 46 = .ok (.getfield 116, 3) := by decide +kernel
theorem dX13_number_49 : decode cX13_number 49 = .ok (.invokevirtual 119, 3) := by decide +kernel
theorem dX13_number_52 : decode cX13_number 52 = .ok (.invokestatic 132, 3) := by decide +kernel
theorem dX13_number_55 : decode cX13_number 55 = .ok (.ifCond .eq 51, 3) := by decide +kernel
theorem dX13_number_58 : decode cX13_number 58 = .ok (.bipush 10, 2) := by decide +kernel
theorem dX13_number_60 : decode cX13_number 60 = .ok (.iload 4, 2) := by decide +kernel
theorem dX13_number_62 : decode cX13_number 62 = .ok (.imul, 1) := by decide +kernel
theorem dX13_number_63 : decode cX13_number 63 = .ok (.aload_n 0, 1) := by decide +kernel
theorem dX13_number_64 : decode cX13_number 64 = .ok (.aload_n 0, 1) := by decide +kernel
theorem dX13_number_65 : decode cX13_number 65 = .ok (.getfield 116, 3) := by decide +kernel
theorem dX13_number_68 : decode cX13_number 68 = .ok (.invokevirtual 119, 3) := by decide +kernel
theorem dX13_number_71 : decode cX13_number 71 = .ok (.iadd, 1) := by decide +kernel
theorem dX13_number_72 : decode cX13_number 72 = .ok (.bipush 48, 2) := by decide +kernel
theorem dX13_number_74 : decode cX13_number 74 = .ok (.isub, 1) := by decide +kernel
theorem dX13_number_75 : decode cX13_number 75 = .ok (.istore 4, 2) := by decide +kernel
theorem dX13_number_77 : decode cX13_number 77 = .ok (.iload 4, 2) := by decide +kernel
theorem dX13_number_79 : decode cX13_number 79 = .ok (.ldc 140, 2) := by decide +kernel
theorem dX13_number_81 : decode cX13_number 81 = .ok (.if_icmp .le 8, 3) := by decide +kernel
theorem dX13_number_84 : decode cX13_number 84 = .ok (.ldc 140, 2) := by decide +kernel
theorem dX13_number_86 : decode cX13_number 86 = .ok (.goto 5, 3) := by decide +kernel
theorem dX13_number_89 : decode cX13_number 89 = .ok (.iload 4, 2) := by decide +kernel
theorem dX13_number_91 : decode cX13_number 91 = .ok (.istore 4, 2) := by decide +kernel
theorem dX13_number_93 : decode cX13_number 93 = .ok (.aload_n 0, 1) := by decide +kernel
theorem dX13_number_94 : decode cX13_number 94 = .ok (.dup, 1) := by decide +kernel
theorem dX13_number_95 : decode cX13_number 95 = .ok (.getfield 116, 3) := by decide +kernel
theorem dX13_number_98 : decode cX13_number 98 = .ok (.iconst 1, 1) := by decide +kernel
theorem dX13_number_99 : decode cX13_number 99 = .ok (.iadd, 1) := by decide +kernel
theorem dX13_number_100 : decode cX13_number 100 = .ok (.putfield 116, 3) := by decide +kernel
theorem dX13_number_103 : decode cX13_number 103 = .ok (.goto (-59), 3) := by decide +kernel
theorem dX13_number_106 : decode cX13_number 106 = .ok (.iload 4, 2) := by decide +kernel
theorem dX13_number_108 : decode cX13_number 108 = .ok (.iload_n 1, 1) := by decide +kernel
theorem dX13_number_109 : decode cX13_number 109 = .ok (.iload_n 2, 1) := by decide +kernel
theorem dX13_number_110 : decode cX13_number 110 = .ok (.invokestatic 141, 3) := by decide +kernel
theorem dX13_number_113 : decode cX13_number 113 = .ok (.ifCond .ne 9, 3) := by decide +kernel
theorem dX13_number_116 : decode cX13_number 116 = .ok (.aload_n 0, 1) := by decide +kernel
theorem dX13_number_117 : decode cX13_number 117 = .ok (.iconst 2, 1) := by decide +kernel
theorem dX13_number_118 : decode cX13_number 118 = .ok (.iload_n 3, 1) := by decide +kernel
theorem dX13_number_119 : decode cX13_number 119 = .ok (.invokevirtual 136, 3) := by decide +kernel
theorem dX13_number_122 : decode cX13_number 122 = .ok (.aload_n 0, 1) := by decide +kernel
theorem dX13_number_123 : decode cX13_number 123 = .ok (.getfield 123, 3) := by decide +kernel
theorem dX13_number_126 : decode cX13_number 126 = .ok (.ifCond .ne 8, 3) := by decide +kernel
theorem dX13_number_129 : decode cX13_number 129 = .ok (.iload 4, 2) := by decide +kernel
theorem dX13_number_131 : decode cX13_number 131 = .ok (.goto 4, 3) := by decide +kernel
theorem dX13_number_134 : decode cX13_number 134 = .ok (.iconst 0, 1) := by decide +kernel
theorem dX13_number_135 : decode cX13_number 135 = .ok (.ireturn, 1) := by decide +kernel
theorem dX13_ofTree_0 : decode cX13_ofTree 0 = .ok (.iconst 0, 1) := by decide +kernel
theorem dX13_ofTree_1 : decode cX13_ofTree 1 = .ok (.istore_n 3, 1) := by decide +kernel
theorem dX13_ofTree_2 : decode cX13_ofTree 2 = .ok (.iconst 0, 1) := by decide +kernel
theorem dX13_ofTree_3 : decode cX13_ofTree 3 = .ok (.istore 4, 2) := by decide +kernel
theorem dX13_ofTree_5 : decode cX13_ofTree 5 = .ok (.iconst 0, 1) := by decide +kernel
theorem dX13_ofTree_6 : decode cX13_ofTree 6 = .ok (.istore 5, 2) := by decide +kernel
theorem dX13_ofTree_8 : decode cX13_ofTree 8 = .ok (.iconst 0, 1) := by decide +kernel
theorem dX13_ofTree_9 : decode cX13_ofTree 9 = .ok (.istore 6, 2) := by decide +kernel
theorem dX13_ofTree_11 : decode cX13_ofTree 11 = .ok (.iload 6, 2) := by decide +kernel
theorem dX13_ofTree_13 : decode cX13_ofTree 13 = .ok (.bipush 64, 2) := by decide +kernel
theorem dX13_ofTree_15 : decode cX13_ofTree 15 = .ok (.if_icmp .ge 82, 3) := by decide +kernel
theorem dX13_ofTree_18 : decode cX13_ofTree 18 = .ok (.aload_n 0, 1) := by decide +kernel
theorem dX13_ofTree_19 : decode cX13_ofTree 19 = .ok (.getfield 70, 3) := by decide +kernel
theorem dX13_ofTree_22 : decode cX13_ofTree 22 = .ok (.iload_n 1, 1) := by decide +kernel
theorem dX13_ofTree_23 : decode cX13_ofTree 23 = .ok (.iload 6, 2) := by decide +kernel
theorem dX13_ofTree_25 : decode cX13_ofTree 25 = .ok (.invokestatic 287, 3) := by decide +kernel
theorem dX13_ofTree_28 : decode cX13_ofTree 28 = .ok (.ifCond .ne 6, 3) := by decide +kernel
theorem dX13_ofTree_31 : decode cX13_ofTree 31 = .ok (.goto 60, 3) := by decide +kernel
theorem dX13_ofTree_34 : decode cX13_ofTree 34 = .ok (.iload_n 3, 1) := by decide +kernel
theorem dX13_ofTree_35 : decode cX13_ofTree 35 = .ok (.aload_n 0, 1) := by decide +kernel
theorem dX13_ofTree_36 : decode cX13_ofTree 36 = .ok (.iload_n 1, 1) := by decide +kernel
theorem dX13_ofTree_37 : decode cX13_ofTree 37 = .ok (.iload 6, 2) := by decide +kernel
theorem dX13_ofTree_39 : decode cX13_ofTree 39 = .ok (.invokevirtual 409, 3) := by decide +kernel
theorem dX13_ofTree_42 : decode cX13_ofTree 42 = .ok (.ifCond .ne 7, 3) := by decide +kernel
theorem dX13_ofTree_45 : decode cX13_ofTree 45 = .ok (.iconst 1, 1) := by decide +kernel
theorem dX13_ofTree_46 : decode cX13_ofTree 46 = .ok (.goto 4, 3) := by decide +kernel
theorem dX13_ofTree_49 : decode cX13_ofTree 49 = .ok (.iconst 0, 1) := by decide +kernel
theorem dX13_ofTree_50 : decode cX13_ofTree 50 = .ok (.iadd, 1) := by decide +kernel
theorem dX13_ofTree_51 : decode cX13_ofTree 51 = .ok (.istore_n 3, 1) := by decide +kernel
theorem dX13_ofTree_52 : decode cX13_ofTree 52 = .ok (.iload 4, 2) := by decide +kernel
theorem dX13_ofTree_54 : decode cX13_ofTree 54 = .ok (.aload_n 0, 1) := by decide +kernel
theorem dX13_ofTree_55 : decode cX13_ofTree 55 = .ok (.iload_n 1, 1) := by decide +kernel
theorem dX13_ofTree_56 : decode cX13_ofTree 56 = .ok (.iload 6, 2) := by decide +kernel
theorem dX13_ofTree_58 : decode cX13_ofTree 58 = .ok (.invokevirtual 409, 3) := by decide +kernel
theorem dX13_ofTree_61 : decode cX13_ofTree 61 = .ok (.iconst 1, 1) := by decide +kernel
theorem dX13_ofTree_62 : decode cX13_ofTree 62 = .ok (.if_icmp .le 7, 3) := by decide +kernel
theorem dX13_ofTree_65 : decode cX13_ofTree 65 = .ok (.iconst 1, 1) := by decide +kernel
theorem dX13_ofTree_66 : decode cX13_ofTree 66 = .ok (.goto 4, 3) := by decide +kernel
theorem dX13_ofTree_69 : decode cX13_ofTree 69 = .ok (.iconst 0, 1) := by decide +kernel
theorem dX13_ofTree_70 : decode cX13_ofTree 70 = .ok (.iadd, 1) := by decide +kernel
theorem dX13_ofTree_71 : decode cX13_ofTree 71 = .ok (.istore 4, 2) := by decide +kernel
theorem dX13_ofTree_73 : decode cX13_ofTree 73 = .ok (.iload 5, 2) := by decide +kernel
theorem dX13_ofTree_75 : decode cX13_ofTree 75 = .ok (.aload_n 0, 1) := by decide +kernel
theorem dX13_ofTree_76 : decode cX13_ofTree 76 = .ok (.aload_n 0, 1) := by decide +kernel
theorem dX13_ofTree_77 : decode cX13_ofTree 77 = .ok (.getfield 70, 3) := by decide +kernel
theorem dX13_ofTree_80 : decode cX13_ofTree 80 = .ok (.iload_n 1, 1) := by decide +kernel
theorem dX13_ofTree_81 : decode cX13_ofTree 81 = .ok (.iload 6, 2) := by decide +kernel
theorem dX13_ofTree_83 : decode cX13_ofTree 83 = .ok (.invokevirtual 390, 3) := by decide +kernel
theorem dX13_ofTree_86 : decode cX13_ofTree 86 = .ok (.invokestatic 262, 3) := by decide +kernel
theorem dX13_ofTree_89 : decode cX13_ofTree 89 = .ok (.istore 5, 2) := by decide +kernel
theorem dX13_ofTree_91 : decode cX13_ofTree 91 = .ok (.iinc 6 1, 3) := by decide +kernel
theorem dX13_ofTree_94 : decode cX13_ofTree 94 = .ok (.goto (-83), 3) := by decide +kernel
theorem dX13_ofTree_97 : decode cX13_ofTree 97 = .ok (.iload_n 2, 1) := by decide +kernel
theorem dX13_ofTree_98 : decode cX13_ofTree 98 = .ok (.bipush 7, 2) := by decide +kernel
theorem dX13_ofTree_100 : decode cX13_ofTree 100 = .ok (.if_icmp .ne 7, 3) := by decide +kernel
theorem dX13_ofTree_103 : decode cX13_ofTree 103 = .ok (.iload_n 3, 1) := by decide +kernel
theorem dX13_ofTree_104 : decode cX13_ofTree 104 = .ok (.goto 16, 3) := by decide +kernel
theorem dX13_ofTree_107 : decode cX13_ofTree 107 = .ok (.iload_n 2, 1) := by decide +kernel
theorem dX13_ofTree_108 : decode cX13_ofTree 108 = .ok (.bipush 8, 2) := by decide +kernel
theorem dX13_ofTree_110 : decode cX13_ofTree 110 = .ok (.if_icmp .ne 8, 3) := by decide +kernel
theorem dX13_ofTree_113 : decode cX13_ofTree 113 = .ok (.iload 4, 2) := by decide +kernel
theorem dX13_ofTree_115 : decode cX13_ofTree 115 = .ok (.goto 5, 3) := by decide +kernel
theorem dX13_ofTree_118 : decode cX13_ofTree 118 = .ok (.iload 5, 2) := by decide +kernel
theorem dX13_ofTree_120 : decode cX13_ofTree 120 = .ok (.ireturn, 1) := by decide +kernel
theorem dX13_onceBy_0 : decode cX13_onceBy 0 = .ok (.aload_n 0, 1) := by decide +kernel
theorem dX13_onceBy_1 : decode cX13_onceBy 1 = .ok (.aload_n 0, 1) := by decide +kernel
theorem dX13_onceBy_2 : decode cX13_onceBy 2 = .ok (.getfield 23, 3) := by decide +kernel
theorem dX13_onceBy_5 : decode cX13_onceBy 5 = .ok (.iconst 2, 1) := by decide +kernel
theorem dX13_onceBy_6 : decode cX13_onceBy 6 = .ok (.iaload, 1) := by decide +kernel
theorem dX13_onceBy_7 : decode cX13_onceBy 7 = .ok (.invokevirtual 450, 3) := by decide +kernel
theorem dX13_onceBy_10 : decode cX13_onceBy 10 = .ok (.istore_n 3, 1) := by decide +kernel
theorem dX13_onceBy_11 : decode cX13_onceBy 11 = .ok (.aload_n 0, 1) := by decide +kernel
theorem dX13_onceBy_12 : decode cX13_onceBy 12 = .ok (.bipush 8, 2) := by decide +kernel
theorem dX13_onceBy_14 : decode cX13_onceBy 14 = .ok (.invokevirtual 450, 3) := by decide +kernel
theorem dX13_onceBy_17 : decode cX13_onceBy 17 = .ok (.istore 4, 2) := by decide +kernel
theorem dX13_onceBy_19 : decode cX13_onceBy 19 = .ok (.iload 4, 2) := by decide +kernel
theorem dX13_onceBy_21 : decode cX13_onceBy 21 = .ok (.ifCond .ne 13, 3) := by decide +kernel
theorem dX13_onceBy_24 : decode cX13_onceBy 24 = .ok (.aload_n 0, 1) := by decide +kernel
theorem dX13_onceBy_25 : decode cX13_onceBy 25 = .ok (.aload_n 1, 1) := by decide +kernel
theorem dX13_onceBy_26 : decode cX13_onceBy 26 = .ok (.iload_n 3, 1) := by decide +kernel
theorem dX13_onceBy_27 : decode cX13_onceBy 27 = .ok (.invokevirtual 354, 3) := by decide +kernel
theorem dX13_onceBy_30 : decode cX13_onceBy 30 = .ok (.pop, 1) := by decide +kernel
theorem dX13_onceBy_31 : decode cX13_onceBy 31 = .ok (.goto 45, 3) := by decide +kernel
theorem dX13_onceBy_34 : decode cX13_onceBy 34 = .ok (.iload 4, 2) := by decide +kernel
theorem dX13_onceBy_36 : decode cX13_onceBy 36 = .ok (.iconst 3, 1) := by decide +kernel
theorem dX13_onceBy_37 : decode cX13_onceBy 37 = .ok (.if_icmp .ge 13, 3) := by decide +kernel
theorem dX13_onceBy_40 : decode cX13_onceBy 40 = .ok (.aload_n 0, 1) := by decide +kernel
theorem dX13_onceBy_41 : decode cX13_onceBy 41 = .ok (.aload_n 1, 1) := by decide +kernel
theorem dX13_onceBy_42 : decode cX13_onceBy 42 = .ok (.iload_n 3, 1) := by decide +kernel
theorem dX13_onceBy_43 : decode cX13_onceBy 43 = .ok (.invokevirtual 351, 3) := by decide +kernel
theorem dX13_onceBy_46 : decode cX13_onceBy 46 = .ok (.pop, 1) := by decide +kernel
theorem dX13_onceBy_47 : decode cX13_onceBy 47 = .ok (.goto 29, 3) := by decide +kernel
theorem dX13_onceBy_50 : decode cX13_onceBy 50 = .ok (.iload 4, 2) := by decide +kernel
theorem dX13_onceBy_52 : decode cX13_onceBy 52 = .ok (.iconst 3, 1) := by decide +kernel
theorem dX13_onceBy_53 : decode cX13_onceBy 53 = .ok (.if_icmp .ne 18, 3) := by decide +kernel
theorem dX13_onceBy_56 : decode cX13_onceBy 56 = .ok (.aload_n 1, 1) := by decide +kernel
theorem dX13_onceBy_57 : decode cX13_onceBy 57 = .ok (.iload_n 3, 1) := by decide +kernel
theorem dX13_onceBy_58 : decode cX13_onceBy 58 = .ok (.aload_n 0, 1) := by decide +kernel
theorem dX13_onceBy_59 : decode cX13_onceBy 59 = .ok (.bipush 10, 2) := by decide +kernel
theorem dX13_onceBy_61 : decode cX13_onceBy 61 = .ok (.invokevirtual 450, 3) := by decide +kernel
theorem dX13_onceBy_64 : decode cX13_onceBy 64 = .ok (.invokestatic 357, 3) := by decide +kernel
theorem dX13_onceBy_67 : decode cX13_onceBy 67 = .ok (.pop, 1) := by decide +kernel
theorem dX13_onceBy_68 : decode cX13_onceBy 68 = .ok (.goto 8, 3) := by decide +kernel
theorem dX13_onceBy_71 : decode cX13_onceBy 71 = .ok (.aload_n 0, 1) := by decide +kernel
theorem dX13_onceBy_72 : decode cX13_onceBy 72 = .ok (.aload_n 1, 1) := by decide +kernel
theorem dX13_onceBy_73 : decode cX13_onceBy 73 = .ok (.invokevirtual 347, 3) := by decide +kernel
theorem dX13_onceBy_76 : decode cX13_onceBy 76 = .ok (.aload_n 0, 1) := by decide +kernel
theorem dX13_onceBy_77 : decode cX13_onceBy 77 = .ok (.bipush 16, 2) := by decide +kernel
theorem dX13_onceBy_79 : decode cX13_onceBy 79 = .ok (.invokevirtual 450, 3) := by decide +kernel
theorem dX13_onceBy_82 : decode cX13_onceBy 82 = .ok (.iload_n 2, 1) := by decide +kernel
theorem dX13_onceBy_83 : decode cX13_onceBy 83 = .ok (.if_icmp .ge 8, 3) := by decide +kernel
theorem dX13_onceBy_86 : decode cX13_onceBy 86 = .ok (.aload_n 1, 1) := by decide +kernel
theorem dX13_onceBy_87 : decode cX13_onceBy 87 = .ok (.iconst 1, 1) := by decide +kernel
theorem dX13_onceBy_88 : decode cX13_onceBy 88 = .ok (.invokestatic 363, 3) := by decide +kernel
theorem dX13_onceBy_91 : decode cX13_onceBy 91 = .ok (.return_, 1) := by decide +kernel
theorem dX13_one_0 : decode cX13_one 0 = .ok (.aload_n 0, 1) := by decide +kernel
theorem dX13_one_1 : decode cX13_one 1 = .ok (.getfield 123, 3) := by decide +kernel
theorem dX13_one_4 : decode cX13_one 4 = .ok (.ifCond .eq 4, 3) := by decide +kernel
theorem dX13_one_7 : decode cX13_one 7 = .ok (.return_, 1) := by decide +kernel
theorem dX13_one_8 : decode cX13_one 8 = .ok (.aload_n 0, 1) := by decide +kernel
theorem dX13_one_9 : decode cX13_one 9 = .ok (.invokevirtual 129, 3) := by decide +kernel
theorem dX13_one_12 : decode cX13_one 12 = .ok (.aload_n 0, 1) := by decide +kernel
theorem dX13_one_13 : decode cX13_one 13 = .ok (.bipush 12, 2) := by decide +kernel
theorem dX13_one_15 : decode cX13_one 15 = .ok (.iconst 5, 1) := by decide +kernel
theorem dX13_one_16 : decode cX13_one 16 = .ok (.iconst 1, 1) := by decide +kernel
theorem dX13_one_17 : decode cX13_one 17 = .ok (.bipush 19, 2) := by decide +kernel
theorem dX13_one_19 : decode cX13_one 19 = .ok (.bipush 20, 2) := by decide +kernel
theorem dX13_one_21 : decode cX13_one 21 = .ok (.iconst 0, 1) := by decide +kernel
theorem dX13_one_22 : decode cX13_one 22 = .ok (.invokevirtual 156, 3) := by decide +kernel
theorem dX13_one_25 : decode cX13_one 25 = .ok (.ifCond .eq 8, 3) := by decide +kernel
theorem dX13_one_28 : decode cX13_one 28 = .ok (.bipush 7, 2) := by decide +kernel
theorem dX13_one_30 : decode cX13_one 30 = .ok (.goto 26, 3) := by decide +kernel
theorem dX13_one_33 : decode cX13_one 33 = .ok (.aload_n 0, 1) := by decide +kernel
theorem dX13_one_34 : decode cX13_one 34 = .ok (.bipush 13, 2) := by decide +kernel
theorem dX13_one_36 : decode cX13_one 36 = .ok (.bipush 15, 2) := by decide +kernel
theorem dX13_one_38 : decode cX13_one 38 = .ok (.bipush 19, 2) := by decide +kernel
theorem dX13_one_40 : decode cX13_one 40 = .ok (.bipush 20, 2) := by decide +kernel
theorem dX13_one_42 : decode cX13_one 42 = .ok (.iconst 0, 1) := by decide +kernel
theorem dX13_one_43 : decode cX13_one 43 = .ok (.iconst 0, 1) := by decide +kernel
theorem dX13_one_44 : decode cX13_one 44 = .ok (.invokevirtual 156, 3) := by decide +kernel
theorem dX13_one_47 : decode cX13_one 47 = .ok (.ifCond .eq 8, 3) := by decide +kernel
theorem dX13_one_50 : decode cX13_one 50 = .ok (.bipush 8, 2) := by decide +kernel
theorem dX13_one_52 : decode cX13_one 52 = .ok (.goto 4, 3) := by decide +kernel
theorem dX13_one_55 : decode cX13_one 55 = .ok (.iconst (-1), 1) := by decide +kernel
theorem dX13_one_56 : decode cX13_one 56 = .ok (.istore_n 1, 1) := by decide +kernel
theorem dX13_one_57 : decode cX13_one 57 = .ok (.iload_n 1, 1) := by decide +kernel
theorem dX13_one_58 : decode cX13_one 58 = .ok (.iconst (-1), 1) := by decide +kernel
theorem dX13_one_59 : decode cX13_one 59 = .ok (.if_icmp .eq 58, 3) := by decide +kernel
theorem dX13_one_62 : decode cX13_one 62 = .ok (.aload_n 0, 1) := by decide +kernel
theorem dX13_one_63 : decode cX13_one 63 = .ok (.invokevirtual 245, 3) := by decide +kernel
theorem dX13_one_66 : decode cX13_one 66 = .ok (.ifCond .ne 4, 3) := by decide +kernel
theorem dX13_one_69 : decode cX13_one 69 = .ok (.return_, 1) := by decide +kernel
theorem dX13_one_70 : decode cX13_one 70 = .ok (.aload_n 0, 1) := by decide +kernel
theorem dX13_one_71 : decode cX13_one 71 = .ok (.invokevirtual 160, 3) := by decide +kernel
theorem dX13_one_74 : decode cX13_one 74 = .ok (.aload_n 0, 1) := by decide +kernel
theorem dX13_one_75 : decode cX13_one 75 = .ok (.bipush 91, 2) := by decide +kernel
theorem dX13_one_77 : decode cX13_one 77 = .ok (.invokevirtual 176, 3) := by decide +kernel
theorem dX13_one_80 : decode cX13_one 80 = .ok (.aload_n 0, 1) := by decide +kernel
theorem dX13_one_81 : decode cX13_one 81 = .ok (.invokevirtual 249, 3) := by decide +kernel
theorem dX13_one_84 : decode cX13_one 84 = .ok (.aload_n 0, 1) := by decide +kernel
theorem dX13_one_85 : decode cX13_one 85 = .ok (.bipush 44, 2) := by decide +kernel
theorem dX13_one_87 : decode cX13_one 87 = .ok (.invokevirtual 176, 3) := by decide +kernel
theorem dX13_one_90 : decode cX13_one 90 = .ok (.aload_n 0, 1) := by decide +kernel
theorem dX13_one_91 : decode cX13_one 91 = .ok (.invokevirtual 249, 3) := by decide +kernel
theorem dX13_one_94 : decode cX13_one 94 = .ok (.aload_n 0, 1) := by decide +kernel
theorem dX13_one_95 : decode cX13_one 95 = .ok (.bipush 93, 2) := by decide +kernel
theorem dX13_one_97 : decode cX13_one 97 = .ok (.invokevirtual 176, 3) := by decide +kernel
theorem dX13_one_100 : decode cX13_one 100 = .ok (.aload_n 0, 1) := by decide +kernel
theorem dX13_one_101 : decode cX13_one 101 = .ok (.iload_n 1, 1) := by decide +kernel
theorem dX13_one_102 : decode cX13_one 102 = .ok (.iconst 0, 1) := by decide +kernel
theorem dX13_one_103 : decode cX13_one 103 = .ok (.invokevirtual 236, 3) := by decide +kernel
theorem dX13_one_106 : decode cX13_one 106 = .ok (.aload_n 0, 1) := by decide +kernel
theorem dX13_one_107 : decode cX13_one 107 = .ok (.dup, 1) := by decide +kernel
theorem dX13_one_108 : decode cX13_one 108 = .ok (.getfield 166, 3) := by decide +kernel
theorem dX13_one_111 : decode cX13_one 111 = .ok (.iconst 1, 1) := by decide +kernel
theorem dX13_one_112 : decode cX13_one 112 = .ok (.isub, 1) := by decide +kernel
theorem dX13_one_113 : decode cX13_one 113 = .ok (.putfield 166, 3) := by decide +kernel
theorem dX13_one_116 : decode cX13_one 116 = .ok (.return_, 1) := by decide +kernel
theorem dX13_one_117 : decode cX13_one 117 = .ok (.aload_n 0, 1) := by decide +kernel
theorem dX13_one_118 : decode cX13_one 118 = .ok (.aload_n 0, 1) := by decide +kernel
theorem dX13_one_119 : decode cX13_one 119 = .ok (.getfield 116, 3) := by decide +kernel
theorem dX13_one_122 : decode cX13_one 122 = .ok (.invokevirtual 119, 3) := by decide +kernel
theorem dX13_one_125 : decode cX13_one 125 = .ok (.bipush 40, 2) := by decide +kernel
theorem dX13_one_127 : decode cX13_one 127 = .ok (.if_icmp .ne 42, 3) := by decide +kernel
theorem dX13_one_130 : decode cX13_one 130 = .ok (.aload_n 0, 1) := by decide +kernel
theorem dX13_one_131 : decode cX13_one 131 = .ok (.invokevirtual 245, 3) := by decide +kernel
theorem dX13_one_134 : decode cX13_one 134 = .ok (.ifCond .ne 4, 3) := by decide +kernel
theorem dX13_one_137 : decode cX13_one 137 = .ok (.return_, 1) := by decide +kernel
theorem dX13_one_138 : decode cX13_one 138 = .ok (.aload_n 0, 1) := by decide +kernel
theorem dX13_one_139 : decode cX13_one 139 = .ok (.dup, 1) := by decide +kernel
theorem dX13_one_140 : decode cX13_one 140 = .ok (.getfield 116, 3) := by decide +kernel
theorem dX13_one_143 : decode cX13_one 143 = .ok (.iconst 1, 1) := by decide +kernel
theorem dX13_one_144 : decode cX13_one 144 = .ok (.iadd, 1) := by decide +kernel
theorem dX13_one_145 : decode cX13_one 145 = .ok (.putfield 116, 3) := by decide +kernel
theorem dX13_one_148 : decode cX13_one 148 = .ok (.aload_n 0, 1) := by decide +kernel
theorem dX13_one_149 : decode cX13_one 149 = .ok (.invokevirtual 249, 3) := by decide +kernel
theorem dX13_one_152 : decode cX13_one 152 = .ok (.aload_n 0, 1) := by decide +kernel
theorem dX13_one_153 : decode cX13_one 153 = .ok (.bipush 41, 2) := by decide +kernel
theorem dX13_one_155 : decode cX13_one 155 = .ok (.invokevirtual 176, 3) := by decide +kernel
theorem dX13_one_158 : decode cX13_one 158 = .ok (.aload_n 0, 1) := by decide +kernel
theorem dX13_one_159 : decode cX13_one 159 = .ok (.dup, 1) := by decide +kernel
theorem dX13_one_160 : decode cX13_one 160 = .ok (.getfield 166, 3) := by decide +kernel
theorem dX13_one_163 : decode cX13_one 163 = .ok (.iconst 1, 1) := by decide +kernel
theorem dX13_one_164 : decode cX13_one 164 = .ok (.isub, 1) := by decide +kernel
theorem dX13_one_165 : decode cX13_one 165 = .ok (.putfield 166, 3) := by decide +kernel
theorem dX13_one_168 : decode cX13_one 168 = .ok (.return_, 1) := by decide +kernel
theorem dX13_one_169 : decode cX13_one 169 = .ok (.aload_n 0, 1) := by decide +kernel
theorem dX13_one_170 : decode cX13_one 170 = .ok (.invokevirtual 252, 3) := by decide +kernel
theorem dX13_one_173 : decode cX13_one 173 = .ok (.istore_n 2, 1) := by decide +kernel
theorem dX13_one_174 : decode cX13_one 174 = .ok (.iload_n 2, 1) := by decide +kernel
theorem dX13_one_175 : decode cX13_one 175 = .ok (.iconst (-1), 1) := by decide +kernel
theorem dX13_one_176 : decode cX13_one 176 = .ok (.if_icmp .eq 12, 3) := by decide +kernel
theorem dX13_one_179 : decode cX13_one 179 = .ok (.aload_n 0, 1) := by decide +kernel
theorem dX13_one_180 : decode cX13_one 180 = .ok (.iconst 1, 1) := by decide +kernel
theorem dX13_one_181 : decode cX13_one 181 = .ok (.iload_n 2, 1) := by decide +kernel
theorem dX13_one_182 : decode cX13_one 182 = .ok (.invokevirtual 236, 3) := by decide +kernel
theorem dX13_one_185 : decode cX13_one 185 = .ok (.goto 16, 3) := by decide +kernel
theorem dX13_one_188 : decode cX13_one 188 = .ok (.aload_n 0, 1) := by decide +kernel
theorem dX13_one_189 : decode cX13_one 189 = .ok (.iconst 0, 1) := by decide +kernel
theorem dX13_one_190 : decode cX13_one 190 = .ok (.aload_n 0, 1) := by decide +kernel
theorem dX13_one_191 : decode cX13_one 191 = .ok (.iconst 0, 1) := by decide +kernel
theorem dX13_one_192 : decode cX13_one 192 = .ok (.sipush 999, 3) := by decide +kernel
theorem dX13_one_195 : decode cX13_one 195 = .ok (.invokevirtual 169, 3) := by decide +kernel
theorem dX13_one_198 : decode cX13_one 198 = .ok (.invokevirtual 236, 3) := by decide +kernel
theorem dX13_one_201 : decode cX13_one 201 = .ok (.return_, 1) := by decide +kernel
theorem dX13_ones_0 : decode cX13_ones 0 = .ok (.iconst 0, 1) := by decide +kernel
theorem dX13_ones_1 : decode cX13_ones 1 = .ok (.istore_n 1, 1) := by decide +kernel
theorem dX13_ones_2 : decode cX13_ones 2 = .ok (.iconst 0, 1) := by decide +kernel
theorem dX13_ones_3 : decode cX13_ones 3 = .ok (.istore_n 2, 1) := by decide +kernel
theorem dX13_ones_4 : decode cX13_ones 4 = .ok (.iload_n 2, 1) := by decide +kernel
theorem dX13_ones_5 : decode cX13_ones 5 = .ok (.bipush 8, 2) := by decide +kernel
theorem dX13_ones_7 : decode cX13_ones 7 = .ok (.if_icmp .ge 17, 3) := by decide +kernel
theorem dX13_ones_10 : decode cX13_ones 10 = .ok (.iload_n 1, 1) := by decide +kernel
theorem dX13_ones_11 : decode cX13_ones 11 = .ok (.iload_n 0, 1) := by decide +kernel
theorem dX13_ones_12 : decode cX13_ones 12 = .ok (.iload_n 2, 1) := by decide +kernel
theorem dX13_ones_13 : decode cX13_ones 13 = .ok (.ishr, 1) := by decide +kernel
theorem dX13_ones_14 : decode cX13_ones 14 = .ok (.iconst 1, 1) := by decide +kernel
theorem dX13_ones_15 : decode cX13_ones 15 = .ok (.iand, 1) := by decide +kernel
theorem dX13_ones_16 : decode cX13_ones 16 = .ok (.iadd, 1) := by decide +kernel
theorem dX13_ones_17 : decode cX13_ones 17 = .ok (.istore_n 1, 1) := by decide +kernel
theorem dX13_ones_18 : decode cX13_ones 18 = .ok (.iinc 2 1, 3) := by decide +kernel
theorem dX13_ones_21 : decode cX13_ones 21 = .ok (.goto (-17), 3) := by decide +kernel
theorem dX13_ones_24 : decode cX13_ones 24 = .ok (.iload_n 1, 1) := by decide +kernel
theorem dX13_ones_25 : decode cX13_ones 25 = .ok (.ireturn, 1) := by decide +kernel
theorem dX13_opensOne_0 : decode cX13_opensOne 0 = .ok (.aload_n 0, 1) := by decide +kernel
theorem dX13_opensOne_1 : decode cX13_opensOne 1 = .ok (.getfield 123, 3) := by decide +kernel
theorem dX13_opensOne_4 : decode cX13_opensOne 4 = .ok (.ifCond .ne 24, 3) := by decide +kernel
theorem dX13_opensOne_7 : decode cX13_opensOne 7 = .ok (.aload_n 0, 1) := by decide +kernel
theorem dX13_opensOne_8 : decode cX13_opensOne 8 = .ok (.getfield 166, 3) := by decide +kernel
theorem dX13_opensOne_11 : decode cX13_opensOne 11 = .ok (.bipush 6, 2) := by decide +kernel
theorem dX13_opensOne_13 : decode cX13_opensOne 13 = .ok (.if_icmp .ne 15, 3) := by decide +kernel
theorem dX13_opensOne_16 : decode cX13_opensOne 16 = .ok (.aload_n 0, 1) := by decide +kernel
theorem dX13_opensOne_17 : decode cX13_opensOne 17 = .ok (.iconst 3, 1) := by decide +kernel
theorem dX13_opensOne_18 : decode cX13_opensOne 18 = .ok (.aload_n 0, 1) := by decide +kernel
theorem dX13_opensOne_19 : decode cX13_opensOne 19 = .ok (.getfield 116, 3) := by decide +kernel
theorem dX13_opensOne_22 : decode cX13_opensOne 22 = .ok (.invokevirtual 136, 3) := by decide +kernel
theorem dX13_opensOne_25 : decode cX13_opensOne 25 = .ok (.goto 20, 3) := by decide +kernel
theorem dX13_opensOne_28 : decode cX13_opensOne 28 = .ok (.aload_n 0, 1) := by decide +kernel
theorem dX13_opensOne_29 : decode cX13_opensOne 29 = .ok (.getfield 123, 3) := by decide +kernel
theorem dX13_opensOne_32 : decode cX13_opensOne 32 = .ok (.ifCond .ne 13, 3) := by decide +kernel
theorem dX13_opensOne_35 : decode cX13_opensOne 35 = .ok (.aload_n 0, 1) := by decide +kernel
theorem dX13_opensOne_36 : decode cX13_opensOne 36 = .ok (.dup, 1) := by decide +kernel
theorem dX13_opensOne_37 : decode cX13_opensOne 37 = .ok (.getfield 166, 3) := by decide +kernel
theorem dX13_opensOne_40 : decode cX13_opensOne 40 = .ok (.iconst 1, 1) := by decide +kernel
theorem dX13_opensOne_41 : decode cX13_opensOne 41 = .ok (.iadd, 1) := by decide +kernel
theorem dX13_opensOne_42 : decode cX13_opensOne 42 = .ok (.putfield 166, 3) := by decide +kernel
theorem dX13_opensOne_45 : decode cX13_opensOne 45 = .ok (.aload_n 0, 1) := by decide +kernel
theorem dX13_opensOne_46 : decode cX13_opensOne 46 = .ok (.getfield 123, 3) := by decide +kernel
theorem dX13_opensOne_49 : decode cX13_opensOne 49 = .ok (.ifCond .ne 7, 3) := by decide +kernel
theorem dX13_opensOne_52 : decode cX13_opensOne 52 = .ok (.iconst 1, 1) := by decide +kernel
theorem dX13_opensOne_53 : decode cX13_opensOne 53 = .ok (.goto 4, 3) := by decide +kernel
theorem dX13_opensOne_56 : decode cX13_opensOne 56 = .ok (.iconst 0, 1) := by decide +kernel
theorem dX13_opensOne_57 : decode cX13_opensOne 57 = .ok (.ireturn, 1) := by decide +kernel
theorem dX13_over_0 : decode cX13_over 0 = .ok (.aload_n 0, 1) := by decide +kernel
theorem dX13_over_1 : decode cX13_over 1 = .ok (.iload_n 2, 1) := by decide +kernel
theorem dX13_over_2 : decode cX13_over 2 = .ok (.invokevirtual 199, 3) := by decide +kernel
theorem dX13_over_5 : decode cX13_over 5 = .ok (.ifCond .eq 26, 3) := by decide +kernel
theorem dX13_over_8 : decode cX13_over 8 = .ok (.iconst 0, 1) := by decide +kernel
theorem dX13_over_9 : decode cX13_over 9 = .ok (.aload_n 0, 1) := by decide +kernel
theorem dX13_over_10 : decode cX13_over 10 = .ok (.aload_n 1, 1) := by decide +kernel
theorem dX13_over_11 : decode cX13_over 11 = .ok (.iload_n 2, 1) := by decide +kernel
theorem dX13_over_12 : decode cX13_over 12 = .ok (.invokevirtual 291, 3) := by decide +kernel
theorem dX13_over_15 : decode cX13_over 15 = .ok (.invokestatic 295, 3) := by decide +kernel
theorem dX13_over_18 : decode cX13_over 18 = .ok (.aload_n 0, 1) := by decide +kernel
theorem dX13_over_19 : decode cX13_over 19 = .ok (.getfield 32, 3) := by decide +kernel
theorem dX13_over_22 : decode cX13_over 22 = .ok (.iload_n 2, 1) := by decide +kernel
theorem dX13_over_23 : decode cX13_over 23 = .ok (.iaload, 1) := by decide +kernel
theorem dX13_over_24 : decode cX13_over 24 = .ok (.isub, 1) := by decide +kernel
theorem dX13_over_25 : decode cX13_over 25 = .ok (.invokestatic 262, 3) := by decide +kernel
theorem dX13_over_28 : decode cX13_over 28 = .ok (.goto 4, 3) := by decide +kernel
theorem dX13_over_31 : decode cX13_over 31 = .ok (.iconst 0, 1) := by decide +kernel
theorem dX13_over_32 : decode cX13_over 32 = .ok (.ireturn, 1) := by decide +kernel
theorem dX13_overOf_0 : decode cX13_overOf 0 = .ok (.iconst 0, 1) := by decide +kernel
theorem dX13_overOf_1 : decode cX13_overOf 1 = .ok (.istore_n 3, 1) := by decide +kernel
theorem dX13_overOf_2 : decode cX13_overOf 2 = .ok (.iconst 0, 1) := by decide +kernel
theorem dX13_overOf_3 : decode cX13_overOf 3 = .ok (.istore 4, 2) := by decide +kernel
theorem dX13_overOf_5 : decode cX13_overOf 5 = .ok (.iload 4, 2) := by decide +kernel
theorem dX13_overOf_7 : decode cX13_overOf 7 = .ok (.bipush 64, 2) := by decide +kernel
theorem dX13_overOf_9 : decode cX13_overOf 9 = .ok (.if_icmp .ge 37, 3) := by decide +kernel
theorem dX13_overOf_12 : decode cX13_overOf 12 = .ok (.iload_n 3, 1) := by decide +kernel
theorem dX13_overOf_13 : decode cX13_overOf 13 = .ok (.aload_n 1, 1) := by decide +kernel
theorem dX13_overOf_14 : decode cX13_overOf 14 = .ok (.iload_n 2, 1) := by decide +kernel
theorem dX13_overOf_15 : decode cX13_overOf 15 = .ok (.iload 4, 2) := by decide +kernel
theorem dX13_overOf_17 : decode cX13_overOf 17 = .ok (.invokestatic 287, 3) := by decide +kernel
theorem dX13_overOf_20 : decode cX13_overOf 20 = .ok (.ifCond .eq 17, 3) := by decide +kernel
theorem dX13_overOf_23 : decode cX13_overOf 23 = .ok (.aload_n 0, 1) := by decide +kernel
theorem dX13_overOf_24 : decode cX13_overOf 24 = .ok (.aload_n 1, 1) := by decide +kernel
theorem dX13_overOf_25 : decode cX13_overOf 25 = .ok (.iload 4, 2) := by decide +kernel
theorem dX13_overOf_27 : decode cX13_overOf 27 = .ok (.invokevirtual 335, 3) := by decide +kernel
theorem dX13_overOf_30 : decode cX13_overOf 30 = .ok (.ifCond .le 7, 3) := by decide +kernel
theorem dX13_overOf_33 : decode cX13_overOf 33 = .ok (.iconst 1, 1) := by decide +kernel
theorem dX13_overOf_34 : decode cX13_overOf 34 = .ok (.goto 4, 3) := by decide +kernel
theorem dX13_overOf_37 : decode cX13_overOf 37 = .ok (.iconst 0, 1) := by decide +kernel
theorem dX13_overOf_38 : decode cX13_overOf 38 = .ok (.iadd, 1) := by decide +kernel
theorem dX13_overOf_39 : decode cX13_overOf 39 = .ok (.istore_n 3, 1) := by decide +kernel
theorem dX13_overOf_40 : decode cX13_overOf 40 = .ok (.iinc 4 1, 3) := by decide +kernel
theorem dX13_overOf_43 : decode cX13_overOf 43 = .ok (.goto (-38), 3) := by decide +kernel
theorem dX13_overOf_46 : decode cX13_overOf 46 = .ok (.iload_n 3, 1) := by decide +kernel
theorem dX13_overOf_47 : decode cX13_overOf 47 = .ok (.ireturn, 1) := by decide +kernel
theorem dX13_overs_0 : decode cX13_overs 0 = .ok (.iconst 0, 1) := by decide +kernel
theorem dX13_overs_1 : decode cX13_overs 1 = .ok (.istore_n 2, 1) := by decide +kernel
theorem dX13_overs_2 : decode cX13_overs 2 = .ok (.iconst 0, 1) := by decide +kernel
theorem dX13_overs_3 : decode cX13_overs 3 = .ok (.istore_n 3, 1) := by decide +kernel
theorem dX13_overs_4 : decode cX13_overs 4 = .ok (.iload_n 3, 1) := by decide +kernel
theorem dX13_overs_5 : decode cX13_overs 5 = .ok (.bipush 64, 2) := by decide +kernel
theorem dX13_overs_7 : decode cX13_overs 7 = .ok (.if_icmp .ge 26, 3) := by decide +kernel
theorem dX13_overs_10 : decode cX13_overs 10 = .ok (.iload_n 2, 1) := by decide +kernel
theorem dX13_overs_11 : decode cX13_overs 11 = .ok (.aload_n 0, 1) := by decide +kernel
theorem dX13_overs_12 : decode cX13_overs 12 = .ok (.aload_n 1, 1) := by decide +kernel
theorem dX13_overs_13 : decode cX13_overs 13 = .ok (.iload_n 3, 1) := by decide +kernel
theorem dX13_overs_14 : decode cX13_overs 14 = .ok (.invokevirtual 335, 3) := by decide +kernel
theorem dX13_overs_17 : decode cX13_overs 17 = .ok (.ifCond .le 7, 3) := by decide +kernel
theorem dX13_overs_20 : decode cX13_overs 20 = .ok (.iconst 1, 1) := by decide +kernel
theorem dX13_overs_21 : decode cX13_overs 21 = .ok (.goto 4, 3) := by decide +kernel
theorem dX13_overs_24 : decode cX13_overs 24 = .ok (.iconst 0, 1) := by decide +kernel
theorem dX13_overs_25 : decode cX13_overs 25 = .ok (.iadd, 1) := by decide +kernel
theorem dX13_overs_26 : decode cX13_overs 26 = .ok (.istore_n 2, 1) := by decide +kernel
theorem dX13_overs_27 : decode cX13_overs 27 = .ok (.iinc 3 1, 3) := by decide +kernel
theorem dX13_overs_30 : decode cX13_overs 30 = .ok (.goto (-26), 3) := by decide +kernel
theorem dX13_overs_33 : decode cX13_overs 33 = .ok (.iload_n 2, 1) := by decide +kernel
theorem dX13_overs_34 : decode cX13_overs 34 = .ok (.ireturn, 1) := by decide +kernel
theorem dX13_parent_0 : decode cX13_parent 0 = .ok (.aload_n 0, 1) := by decide +kernel
theorem dX13_parent_1 : decode cX13_parent 1 = .ok (.iconst 0, 1) := by decide +kernel
theorem dX13_parent_2 : decode cX13_parent 2 = .ok (.putfield 107, 3) := by decide +kernel
theorem dX13_parent_5 : decode cX13_parent 5 = .ok (.aload_n 0, 1) := by decide +kernel
theorem dX13_parent_6 : decode cX13_parent 6 = .ok (.aload_n 0, 1) := by decide +kernel
theorem dX13_parent_7 : decode cX13_parent 7 = .ok (.iload_n 1, 1) := by decide +kernel
theorem dX13_parent_8 : decode cX13_parent 8 = .ok (.invokevirtual 412, 3) := by decide +kernel
theorem dX13_parent_11 : decode cX13_parent 11 = .ok (.ifCond .eq 12, 3) := by decide +kernel
theorem dX13_parent_14 : decode cX13_parent 14 = .ok (.aload_n 0, 1) := by decide +kernel
theorem dX13_parent_15 : decode cX13_parent 15 = .ok (.iload_n 2, 1) := by decide +kernel
theorem dX13_parent_16 : decode cX13_parent 16 = .ok (.iload_n 3, 1) := by decide +kernel
theorem dX13_parent_17 : decode cX13_parent 17 = .ok (.invokevirtual 281, 3) := by decide +kernel
theorem dX13_parent_20 : decode cX13_parent 20 = .ok (.ifCond .ne 7, 3) := by decide +kernel
theorem dX13_parent_23 : decode cX13_parent 23 = .ok (.iconst 1, 1) := by decide +kernel
theorem dX13_parent_24 : decode cX13_parent 24 = .ok (.goto 4, 3) := by decide +kernel
theorem dX13_parent_27 : decode cX13_parent 27 = .ok (.iconst 0, 1) := by decide +kernel
theorem dX13_parent_28 : decode cX13_parent 28 = .ok (.iconst 1, 1) := by decide +kernel
theorem dX13_parent_29 : decode cX13_parent 29 = .ok (.iconst 0, 1) := by decide +kernel
theorem dX13_parent_30 : decode cX13_parent 30 = .ok (.invokevirtual 186, 3) := by decide +kernel
theorem dX13_parent_33 : decode cX13_parent 33 = .ok (.ifCond .eq 5, 3) := by decide +kernel
theorem dX13_parent_36 : decode cX13_parent 36 = .ok (.iconst 0, 1) := by decide +kernel
theorem dX13_parent_37 : decode cX13_parent 37 = .ok (.ireturn, 1) := by decide +kernel
theorem dX13_parent_38 : decode cX13_parent 38 = .ok (.aload_n 0, 1) := by decide +kernel
theorem dX13_parent_39 : decode cX13_parent 39 = .ok (.getfield 70, 3) := by decide +kernel
theorem dX13_parent_42 : decode cX13_parent 42 = .ok (.iload_n 1, 1) := by decide +kernel
theorem dX13_parent_43 : decode cX13_parent 43 = .ok (.bipush 8, 2) := by decide +kernel
theorem dX13_parent_45 : decode cX13_parent 45 = .ok (.iload_n 3, 1) := by decide +kernel
theorem dX13_parent_46 : decode cX13_parent 46 = .ok (.imul, 1) := by decide +kernel
theorem dX13_parent_47 : decode cX13_parent 47 = .ok (.iload_n 2, 1) := by decide +kernel
theorem dX13_parent_48 : decode cX13_parent 48 = .ok (.iadd, 1) := by decide +kernel
theorem dX13_parent_49 : decode cX13_parent 49 = .ok (.invokestatic 284, 3) := by decide +kernel
theorem dX13_parent_52 : decode cX13_parent 52 = .ok (.iaload, 1) := by decide +kernel
theorem dX13_parent_53 : decode cX13_parent 53 = .ok (.ireturn, 1) := by decide +kernel
theorem dX13_parentBy_0 : decode cX13_parentBy 0 = .ok (.iconst 0, 1) := by decide +kernel
theorem dX13_parentBy_1 : decode cX13_parentBy 1 = .ok (.istore_n 2, 1) := by decide +kernel
theorem dX13_parentBy_2 : decode cX13_parentBy 2 = .ok (.iload_n 2, 1) := by decide +kernel
theorem dX13_parentBy_3 : decode cX13_parentBy 3 = .ok (.iconst 4, 1) := by decide +kernel
theorem dX13_parentBy_4 : decode cX13_parentBy 4 = .ok (.if_icmp .ge 55, 3) := by decide +kernel
theorem dX13_parentBy_7 : decode cX13_parentBy 7 = .ok (.aload_n 0, 1) := by decide +kernel
theorem dX13_parentBy_8 : decode cX13_parentBy 8 = .ok (.iload_n 1, 1) := by decide +kernel
theorem dX13_parentBy_9 : decode cX13_parentBy 9 = .ok (.iload_n 2, 1) := by decide +kernel
theorem dX13_parentBy_10 : decode cX13_parentBy 10 = .ok (.invokevirtual 309, 3) := by decide +kernel
theorem dX13_parentBy_13 : decode cX13_parentBy 13 = .ok (.istore_n 3, 1) := by decide +kernel
theorem dX13_parentBy_14 : decode cX13_parentBy 14 = .ok (.iload_n 3, 1) := by decide +kernel
theorem dX13_parentBy_15 : decode cX13_parentBy 15 = .ok (.iconst (-1), 1) := by decide +kernel
theorem dX13_parentBy_16 : decode cX13_parentBy 16 = .ok (.if_icmp .eq 37, 3) := by decide +kernel
theorem dX13_parentBy_19 : decode cX13_parentBy 19 = .ok (.aload_n 0, 1) := by decide +kernel
theorem dX13_parentBy_20 : decode cX13_parentBy 20 = .ok (.getfield 85, 3) := by decide +kernel
theorem dX13_parentBy_23 : decode cX13_parentBy 23 = .ok (.iload_n 3, 1) := by decide +kernel
theorem dX13_parentBy_24 : decode cX13_parentBy 24 = .ok (.iaload, 1) := by decide +kernel
theorem dX13_parentBy_25 : decode cX13_parentBy 25 = .ok (.iconst (-1), 1) := by decide +kernel
theorem dX13_parentBy_26 : decode cX13_parentBy 26 = .ok (.if_icmp .eq 27, 3) := by decide +kernel
theorem dX13_parentBy_29 : decode cX13_parentBy 29 = .ok (.aload_n 0, 1) := by decide +kernel
theorem dX13_parentBy_30 : decode cX13_parentBy 30 = .ok (.getfield 85, 3) := by decide +kernel
theorem dX13_parentBy_33 : decode cX13_parentBy 33 = .ok (.iload_n 3, 1) := by decide +kernel
theorem dX13_parentBy_34 : decode cX13_parentBy 34 = .ok (.iaload, 1) := by decide +kernel
theorem dX13_parentBy_35 : decode cX13_parentBy 35 = .ok (.aload_n 0, 1) := by decide +kernel
theorem dX13_parentBy_36 : decode cX13_parentBy 36 = .ok (.getfield 85, 3) := by decide +kernel
theorem dX13_parentBy_39 : decode cX13_parentBy 39 = .ok (.iload_n 1, 1) := by decide +kernel
theorem dX13_parentBy_40 : decode cX13_parentBy 40 = .ok (.iaload, 1) := by decide +kernel
theorem dX13_parentBy_41 : decode cX13_parentBy 41 = .ok (.aload_n 0, 1) := by decide +kernel
theorem dX13_parentBy_42 : decode cX13_parentBy 42 = .ok (.getfield 88, 3) := by decide +kernel
theorem dX13_parentBy_45 : decode cX13_parentBy 45 = .ok (.iload_n 1, 1) := by decide +kernel
theorem dX13_parentBy_46 : decode cX13_parentBy 46 = .ok (.iaload, 1) := by decide +kernel
theorem dX13_parentBy_47 : decode cX13_parentBy 47 = .ok (.isub, 1) := by decide +kernel
theorem dX13_parentBy_48 : decode cX13_parentBy 48 = .ok (.if_icmp .ne 5, 3) := by decide +kernel
theorem dX13_parentBy_51 : decode cX13_parentBy 51 = .ok (.iload_n 2, 1) := by decide +kernel
theorem dX13_parentBy_52 : decode cX13_parentBy 52 = .ok (.ireturn, 1) := by decide +kernel
theorem dX13_parentBy_53 : decode cX13_parentBy 53 = .ok (.iinc 2 1, 3) := by decide +kernel
theorem dX13_parentBy_56 : decode cX13_parentBy 56 = .ok (.goto (-54), 3) := by decide +kernel
theorem dX13_parentBy_59 : decode cX13_parentBy 59 = .ok (.iconst (-1), 1) := by decide +kernel
theorem dX13_parentBy_60 : decode cX13_parentBy 60 = .ok (.ireturn, 1) := by decide +kernel
theorem dX13_pinClause_0 : decode cX13_pinClause 0 = .ok (.aload_n 0, 1) := by decide +kernel
theorem dX13_pinClause_1 : decode cX13_pinClause 1 = .ok (.invokevirtual 129, 3) := by decide +kernel
theorem dX13_pinClause_4 : decode cX13_pinClause 4 = .ok (.aload_n 0, 1) := by decide +kernel
theorem dX13_pinClause_5 : decode cX13_pinClause 5 = .ok (.getfield 116, 3) := by decide +kernel
theorem dX13_pinClause_8 : decode cX13_pinClause 8 = .ok (.istore_n 1, 1) := by decide +kernel
theorem dX13_pinClause_9 : decode cX13_pinClause 9 = .ok (.aload_n 0, 1) := by decide +kernel
theorem dX13_pinClause_10 : decode cX13_pinClause 10 = .ok (.iconst 0, 1) := by decide +kernel
theorem dX13_pinClause_11 : decode cX13_pinClause 11 = .ok (.aload_n 0, 1) := by decide +kernel
theorem dX13_pinClause_12 : decode cX13_pinClause 12 = .ok (.getfield 20, 3) := by decide +kernel
theorem dX13_pinClause_15 : decode cX13_pinClause 15 = .ok (.iconst 2, 1) := by decide +kernel
theorem dX13_pinClause_16 : decode cX13_pinClause 16 = .ok (.iaload, 1) := by decide +kernel
theorem dX13_pinClause_17 : decode cX13_pinClause 17 = .ok (.iconst 1, 1) := by decide +kernel
theorem dX13_pinClause_18 : decode cX13_pinClause 18 = .ok (.isub, 1) := by decide +kernel
theorem dX13_pinClause_19 : decode cX13_pinClause 19 = .ok (.invokevirtual 169, 3) := by decide +kernel
theorem dX13_pinClause_22 : decode cX13_pinClause 22 = .ok (.istore_n 2, 1) := by decide +kernel
theorem dX13_pinClause_23 : decode cX13_pinClause 23 = .ok (.aload_n 0, 1) := by decide +kernel
theorem dX13_pinClause_24 : decode cX13_pinClause 24 = .ok (.getfield 123, 3) := by decide +kernel
theorem dX13_pinClause_27 : decode cX13_pinClause 27 = .ok (.ifCond .ne 21, 3) := by decide +kernel
theorem dX13_pinClause_30 : decode cX13_pinClause 30 = .ok (.aload_n 0, 1) := by decide +kernel
theorem dX13_pinClause_31 : decode cX13_pinClause 31 = .ok (.getfield 37, 3) := by decide +kernel
theorem dX13_pinClause_34 : decode cX13_pinClause 34 = .ok (.iload_n 2, 1) := by decide +kernel
theorem dX13_pinClause_35 : decode cX13_pinClause 35 = .ok (.aaload, 1) := by decide +kernel
theorem dX13_pinClause_36 : decode cX13_pinClause 36 = .ok (.iconst 2, 1) := by decide +kernel
theorem dX13_pinClause_37 : decode cX13_pinClause 37 = .ok (.iaload, 1) := by decide +kernel
theorem dX13_pinClause_38 : decode cX13_pinClause 38 = .ok (.iconst 4, 1) := by decide +kernel
theorem dX13_pinClause_39 : decode cX13_pinClause 39 = .ok (.if_icmp .ne 9, 3) := by decide +kernel
theorem dX13_pinClause_42 : decode cX13_pinClause 42 = .ok (.aload_n 0, 1) := by decide +kernel
theorem dX13_pinClause_43 : decode cX13_pinClause 43 = .ok (.iconst 3, 1) := by decide +kernel
theorem dX13_pinClause_44 : decode cX13_pinClause 44 = .ok (.iload_n 1, 1) := by decide +kernel
theorem dX13_pinClause_45 : decode cX13_pinClause 45 = .ok (.invokevirtual 136, 3) := by decide +kernel
theorem dX13_pinClause_48 : decode cX13_pinClause 48 = .ok (.aload_n 0, 1) := by decide +kernel
theorem dX13_pinClause_49 : decode cX13_pinClause 49 = .ok (.invokevirtual 173, 3) := by decide +kernel
theorem dX13_pinClause_52 : decode cX13_pinClause 52 = .ok (.istore_n 3, 1) := by decide +kernel
theorem dX13_pinClause_53 : decode cX13_pinClause 53 = .ok (.aload_n 0, 1) := by decide +kernel
theorem dX13_pinClause_54 : decode cX13_pinClause 54 = .ok (.bipush 59, 2) := by decide +kernel
theorem dX13_pinClause_56 : decode cX13_pinClause 56 = .ok (.invokevirtual 176, 3) := by decide +kernel
theorem dX13_pinClause_59 : decode cX13_pinClause 59 = .ok (.aload_n 0, 1) := by decide +kernel
theorem dX13_pinClause_60 : decode cX13_pinClause 60 = .ok (.getfield 123, 3) := by decide +kernel
theorem dX13_pinClause_63 : decode cX13_pinClause 63 = .ok (.ifCond .eq 4, 3) := by decide +kernel
theorem dX13_pinClause_66 : decode cX13_pinClause 66 = .ok (.return_, 1) := by decide +kernel
theorem dX13_pinClause_67 : decode cX13_pinClause 67 = .ok (.aload_n 0, 1) := by decide +kernel
theorem dX13_pinClause_68 : decode cX13_pinClause 68 = .ok (.getfield 43, 3) := by decide +kernel
theorem dX13_pinClause_71 : decode cX13_pinClause 71 = .ok (.iload_n 2, 1) := by decide +kernel
theorem dX13_pinClause_72 : decode cX13_pinClause 72 = .ok (.aaload, 1) := by decide +kernel
theorem dX13_pinClause_73 : decode cX13_pinClause 73 = .ok (.aload_n 0, 1) := by decide +kernel
theorem dX13_pinClause_74 : decode cX13_pinClause 74 = .ok (.getfield 37, 3) := by decide +kernel
theorem dX13_pinClause_77 : decode cX13_pinClause 77 = .ok (.iload_n 2, 1) := by decide +kernel
theorem dX13_pinClause_78 : decode cX13_pinClause 78 = .ok (.aaload, 1) := by decide +kernel
theorem dX13_pinClause_79 : decode cX13_pinClause 79 = .ok (.iconst 2, 1) := by decide +kernel
theorem dX13_pinClause_80 : decode cX13_pinClause 80 = .ok (.iaload, 1) := by decide +kernel
theorem dX13_pinClause_81 : decode cX13_pinClause 81 = .ok (.iload_n 3, 1) := by decide +kernel
theorem dX13_pinClause_82 : decode cX13_pinClause 82 = .ok (.iastore, 1) := by decide +kernel
theorem dX13_pinClause_83 : decode cX13_pinClause 83 = .ok (.aload_n 0, 1) := by decide +kernel
theorem dX13_pinClause_84 : decode cX13_pinClause 84 = .ok (.getfield 37, 3) := by decide +kernel
theorem dX13_pinClause_87 : decode cX13_pinClause 87 = .ok (.iload_n 2, 1) := by decide +kernel
theorem dX13_pinClause_88 : decode cX13_pinClause 88 = .ok (.aaload, 1) := by decide +kernel
theorem dX13_pinClause_89 : decode cX13_pinClause 89 = .ok (.iconst 2, 1) := by decide +kernel
theorem dX13_pinClause_90 : decode cX13_pinClause 90 = .ok (.dup2, 1) := by decide +kernel
theorem dX13_pinClause_91 : decode cX13_pinClause 91 = .ok (.iaload, 1) := by decide +kernel
theorem dX13_pinClause_92 : decode cX13_pinClause 92 = .ok (.iconst 1, 1) := by decide +kernel
theorem dX13_pinClause_93 : decode cX13_pinClause 93 = .ok (.iadd, 1) := by decide +kernel
theorem dX13_pinClause_94 : decode cX13_pinClause 94 = .ok (.iastore, 1) := by decide +kernel
theorem dX13_pinClause_95 : decode cX13_pinClause 95 = .ok (.return_, 1) := by decide +kernel
theorem dX13_pinned_0 : decode cX13_pinned 0 = .ok (.iconst 0, 1) := by decide +kernel
theorem dX13_pinned_1 : decode cX13_pinned 1 = .ok (.istore_n 2, 1) := by decide +kernel
theorem dX13_pinned_2 : decode cX13_pinned 2 = .ok (.iconst 0, 1) := by decide +kernel
theorem dX13_pinned_3 : decode cX13_pinned 3 = .ok (.istore_n 3, 1) := by decide +kernel
theorem dX13_pinned_4 : decode cX13_pinned 4 = .ok (.iload_n 3, 1) := by decide +kernel
theorem dX13_pinned_5 : decode cX13_pinned 5 = .ok (.aload_n 0, 1) := by decide +kernel
theorem dX13_pinned_6 : decode cX13_pinned 6 = .ok (.getfield 23, 3) := by decide +kernel
theorem dX13_pinned_9 : decode cX13_pinned 9 = .ok (.iconst 2, 1) := by decide +kernel
theorem dX13_pinned_10 : decode cX13_pinned 10 = .ok (.iaload, 1) := by decide +kernel
theorem dX13_pinned_11 : decode cX13_pinned 11 = .ok (.if_icmp .ge 28, 3) := by decide +kernel
theorem dX13_pinned_14 : decode cX13_pinned 14 = .ok (.iload_n 2, 1) := by decide +kernel
theorem dX13_pinned_15 : decode cX13_pinned 15 = .ok (.aload_n 0, 1) := by decide +kernel
theorem dX13_pinned_16 : decode cX13_pinned 16 = .ok (.iload_n 3, 1) := by decide +kernel
theorem dX13_pinned_17 : decode cX13_pinned 17 = .ok (.iload_n 1, 1) := by decide +kernel
theorem dX13_pinned_18 : decode cX13_pinned 18 = .ok (.invokevirtual 202, 3) := by decide +kernel
theorem dX13_pinned_21 : decode cX13_pinned 21 = .ok (.ifCond .eq 9, 3) := by decide +kernel
theorem dX13_pinned_24 : decode cX13_pinned 24 = .ok (.iconst 1, 1) := by decide +kernel
theorem dX13_pinned_25 : decode cX13_pinned 25 = .ok (.iload_n 3, 1) := by decide +kernel
theorem dX13_pinned_26 : decode cX13_pinned 26 = .ok (.ishl, 1) := by decide +kernel
theorem dX13_pinned_27 : decode cX13_pinned 27 = .ok (.goto 4, 3) := by decide +kernel
theorem dX13_pinned_30 : decode cX13_pinned 30 = .ok (.iconst 0, 1) := by decide +kernel
theorem dX13_pinned_31 : decode cX13_pinned 31 = .ok (.ior, 1) := by decide +kernel
theorem dX13_pinned_32 : decode cX13_pinned 32 = .ok (.istore_n 2, 1) := by decide +kernel
theorem dX13_pinned_33 : decode cX13_pinned 33 = .ok (.iinc 3 1, 3) := by decide +kernel
theorem dX13_pinned_36 : decode cX13_pinned 36 = .ok (.goto (-32), 3) := by decide +kernel
theorem dX13_pinned_39 : decode cX13_pinned 39 = .ok (.iload_n 2, 1) := by decide +kernel
theorem dX13_pinned_40 : decode cX13_pinned 40 = .ok (.ireturn, 1) := by decide +kernel
theorem dX13_place_0 : decode cX13_place 0 = .ok (.aload_n 0, 1) := by decide +kernel
theorem dX13_place_1 : decode cX13_place 1 = .ok (.iconst 0, 1) := by decide +kernel
theorem dX13_place_2 : decode cX13_place 2 = .ok (.putfield 107, 3) := by decide +kernel
theorem dX13_place_5 : decode cX13_place 5 = .ok (.aload_n 0, 1) := by decide +kernel
theorem dX13_place_6 : decode cX13_place 6 = .ok (.aload_n 0, 1) := by decide +kernel
theorem dX13_place_7 : decode cX13_place 7 = .ok (.iload_n 1, 1) := by decide +kernel
theorem dX13_place_8 : decode cX13_place 8 = .ok (.iload_n 2, 1) := by decide +kernel
theorem dX13_place_9 : decode cX13_place 9 = .ok (.invokevirtual 281, 3) := by decide +kernel
theorem dX13_place_12 : decode cX13_place 12 = .ok (.ifCond .ne 7, 3) := by decide +kernel
theorem dX13_place_15 : decode cX13_place 15 = .ok (.iconst 1, 1) := by decide +kernel
theorem dX13_place_16 : decode cX13_place 16 = .ok (.goto 4, 3) := by decide +kernel
theorem dX13_place_19 : decode cX13_place 19 = .ok (.iconst 0, 1) := by decide +kernel
theorem dX13_place_20 : decode cX13_place 20 = .ok (.iconst 1, 1) := by decide +kernel
theorem dX13_place_21 : decode cX13_place 21 = .ok (.iconst 0, 1) := by decide +kernel
theorem dX13_place_22 : decode cX13_place 22 = .ok (.invokevirtual 186, 3) := by decide +kernel
theorem dX13_place_25 : decode cX13_place 25 = .ok (.ifCond .ne 27, 3) := by decide +kernel
theorem dX13_place_28 : decode cX13_place 28 = .ok (.aload_n 0, 1) := by decide +kernel
theorem dX13_place_29 : decode cX13_place 29 = .ok (.iload_n 3, 1) := by decide +kernel
theorem dX13_place_30 : decode cX13_place 30 = .ok (.iconst 0, 1) := by decide +kernel
theorem dX13_place_31 : decode cX13_place 31 = .ok (.bipush 6, 2) := by decide +kernel
theorem dX13_place_33 : decode cX13_place 33 = .ok (.invokestatic 141, 3) := by decide +kernel
theorem dX13_place_36 : decode cX13_place 36 = .ok (.ifCond .ne 7, 3) := by decide +kernel
theorem dX13_place_39 : decode cX13_place 39 = .ok (.iconst 1, 1) := by decide +kernel
theorem dX13_place_40 : decode cX13_place 40 = .ok (.goto 4, 3) := by decide +kernel
theorem dX13_place_43 : decode cX13_place 43 = .ok (.iconst 0, 1) := by decide +kernel
theorem dX13_place_44 : decode cX13_place 44 = .ok (.iconst 2, 1) := by decide +kernel
theorem dX13_place_45 : decode cX13_place 45 = .ok (.iconst 1, 1) := by decide +kernel
theorem dX13_place_46 : decode cX13_place 46 = .ok (.invokevirtual 186, 3) := by decide +kernel
theorem dX13_place_49 : decode cX13_place 49 = .ok (.ifCond .eq 5, 3) := by decide +kernel
theorem dX13_place_52 : decode cX13_place 52 = .ok (.iconst 0, 1) := by decide +kernel
theorem dX13_place_53 : decode cX13_place 53 = .ok (.ireturn, 1) := by decide +kernel
theorem dX13_place_54 : decode cX13_place 54 = .ok (.bipush 8, 2) := by decide +kernel
theorem dX13_place_56 : decode cX13_place 56 = .ok (.iload_n 2, 1) := by decide +kernel
theorem dX13_place_57 : decode cX13_place 57 = .ok (.imul, 1) := by decide +kernel
theorem dX13_place_58 : decode cX13_place 58 = .ok (.iload_n 1, 1) := by decide +kernel
theorem dX13_place_59 : decode cX13_place 59 = .ok (.iadd, 1) := by decide +kernel
theorem dX13_place_60 : decode cX13_place 60 = .ok (.istore 4, 2) := by decide +kernel
theorem dX13_place_62 : decode cX13_place 62 = .ok (.iload_n 3, 1) := by decide +kernel
theorem dX13_place_63 : decode cX13_place 63 = .ok (.tableswitch 101 0 5 #[37, 45, 59, 71, 83, 94], 37) := by decide +kernel
theorem dX13_place_100 : decode cX13_place 100 = .ok (.aload_n 0, 1) := by decide +kernel
theorem dX13_place_101 : decode cX13_place 101 = .ok (.getfield 32, 3) := by decide +kernel
theorem dX13_place_104 : decode cX13_place 104 = .ok (.iload 4, 2) := by decide +kernel
theorem dX13_place_106 : decode cX13_place 106 = .ok (.iaload, 1) := by decide +kernel
theorem dX13_place_107 : decode cX13_place 107 = .ok (.ireturn, 1) := by decide +kernel
theorem dX13_place_108 : decode cX13_place 108 = .ok (.aload_n 0, 1) := by decide +kernel
theorem dX13_place_109 : decode cX13_place 109 = .ok (.aload_n 0, 1) := by decide +kernel
theorem dX13_place_110 : decode cX13_place 110 = .ok (.getfield 70, 3) := by decide +kernel
theorem dX13_place_113 : decode cX13_place 113 = .ok (.iload 4, 2) := by decide +kernel
theorem dX13_place_115 : decode cX13_place 115 = .ok (.invokevirtual 291, 3) := by decide +kernel
theorem dX13_place_118 : decode cX13_place 118 = .ok (.invokestatic 295, 3) := by decide +kernel
theorem dX13_place_121 : decode cX13_place 121 = .ok (.ireturn, 1) := by decide +kernel
theorem dX13_place_122 : decode cX13_place 122 = .ok (.aload_n 0, 1) := by decide +kernel
theorem dX13_place_123 : decode cX13_place 123 = .ok (.getfield 70, 3) := by decide +kernel
theorem dX13_place_126 : decode cX13_place 126 = .ok (.sipush 384, 3) := by decide +kernel
theorem dX13_place_129 : decode cX13_place 129 = .ok (.iload 4, 2) := by decide +kernel
theorem dX13_place_131 : decode cX13_place 131 = .ok (.iadd, 1) := by decide +kernel
theorem dX13_place_132 : decode cX13_place 132 = .ok (.iaload, 1) := by decide +kernel
theorem dX13_place_133 : decode cX13_place 133 = .ok (.ireturn, 1) := by decide +kernel
theorem dX13_place_134 : decode cX13_place 134 = .ok (.aload_n 0, 1) := by decide +kernel
theorem dX13_place_135 : decode cX13_place 135 = .ok (.getfield 70, 3) := by decide +kernel
theorem dX13_place_138 : decode cX13_place 138 = .ok (.sipush 448, 3) := by decide +kernel
theorem dX13_place_141 : decode cX13_place 141 = .ok (.iload 4, 2) := by decide +kernel
theorem dX13_place_143 : decode cX13_place 143 = .ok (.iadd, 1) := by decide +kernel
theorem dX13_place_144 : decode cX13_place 144 = .ok (.iaload, 1) := by decide +kernel
theorem dX13_place_145 : decode cX13_place 145 = .ok (.ireturn, 1) := by decide +kernel
theorem dX13_place_146 : decode cX13_place 146 = .ok (.aload_n 0, 1) := by decide +kernel
theorem dX13_place_147 : decode cX13_place 147 = .ok (.aload_n 0, 1) := by decide +kernel
theorem dX13_place_148 : decode cX13_place 148 = .ok (.getfield 70, 3) := by decide +kernel
theorem dX13_place_151 : decode cX13_place 151 = .ok (.iload 4, 2) := by decide +kernel
theorem dX13_place_153 : decode cX13_place 153 = .ok (.invokevirtual 291, 3) := by decide +kernel
theorem dX13_place_156 : decode cX13_place 156 = .ok (.ireturn, 1) := by decide +kernel
theorem dX13_place_157 : decode cX13_place 157 = .ok (.aload_n 0, 1) := by decide +kernel
theorem dX13_place_158 : decode cX13_place 158 = .ok (.iload 4, 2) := by decide +kernel
theorem dX13_place_160 : decode cX13_place 160 = .ok (.invokevirtual 209, 3) := by decide +kernel
theorem dX13_place_163 : decode cX13_place 163 = .ok (.ireturn, 1) := by decide +kernel
theorem dX13_place_164 : decode cX13_place 164 = .ok (.aload_n 0, 1) := by decide +kernel
theorem dX13_place_165 : decode cX13_place 165 = .ok (.aload_n 0, 1) := by decide +kernel
theorem dX13_place_166 : decode cX13_place 166 = .ok (.getfield 70, 3) := by decide +kernel
theorem dX13_place_169 : decode cX13_place 169 = .ok (.iload 4, 2) := by decide +kernel
theorem dX13_place_171 : decode cX13_place 171 = .ok (.invokevirtual 335, 3) := by decide +kernel
theorem dX13_place_174 : decode cX13_place 174 = .ok (.ireturn, 1) := by decide +kernel
theorem dX13_placeHere_0 : decode cX13_placeHere 0 = .ok (.aload_n 0, 1) := by decide +kernel
theorem dX13_placeHere_1 : decode cX13_placeHere 1 = .ok (.iconst 0, 1) := by decide +kernel
theorem dX13_placeHere_2 : decode cX13_placeHere 2 = .ok (.aload_n 0, 1) := by decide +kernel
theorem dX13_placeHere_3 : decode cX13_placeHere 3 = .ok (.getfield 23, 3) := by decide +kernel
theorem dX13_placeHere_6 : decode cX13_placeHere 6 = .ok (.iconst 0, 1) := by decide +kernel
theorem dX13_placeHere_7 : decode cX13_placeHere 7 = .ok (.iaload, 1) := by decide +kernel
theorem dX13_placeHere_8 : decode cX13_placeHere 8 = .ok (.iconst 1, 1) := by decide +kernel
theorem dX13_placeHere_9 : decode cX13_placeHere 9 = .ok (.isub, 1) := by decide +kernel
theorem dX13_placeHere_10 : decode cX13_placeHere 10 = .ok (.invokevirtual 169, 3) := by decide +kernel
theorem dX13_placeHere_13 : decode cX13_placeHere 13 = .ok (.istore_n 1, 1) := by decide +kernel
theorem dX13_placeHere_14 : decode cX13_placeHere 14 = .ok (.aload_n 0, 1) := by decide +kernel
theorem dX13_placeHere_15 : decode cX13_placeHere 15 = .ok (.iconst 0, 1) := by decide +kernel
theorem dX13_placeHere_16 : decode cX13_placeHere 16 = .ok (.aload_n 0, 1) := by decide +kernel
theorem dX13_placeHere_17 : decode cX13_placeHere 17 = .ok (.getfield 23, 3) := by decide +kernel
theorem dX13_placeHere_20 : decode cX13_placeHere 20 = .ok (.iconst 1, 1) := by decide +kernel
theorem dX13_placeHere_21 : decode cX13_placeHere 21 = .ok (.iaload, 1) := by decide +kernel
theorem dX13_placeHere_22 : decode cX13_placeHere 22 = .ok (.iconst 1, 1) := by decide +kernel
theorem dX13_placeHere_23 : decode cX13_placeHere 23 = .ok (.isub, 1) := by decide +kernel
theorem dX13_placeHere_24 : decode cX13_placeHere 24 = .ok (.invokevirtual 169, 3) := by decide +kernel
theorem dX13_placeHere_27 : decode cX13_placeHere 27 = .ok (.istore_n 2, 1) := by decide +kernel
theorem dX13_placeHere_28 : decode cX13_placeHere 28 = .ok (.bipush 8, 2) := by decide +kernel
theorem dX13_placeHere_30 : decode cX13_placeHere 30 = .ok (.iload_n 2, 1) := by decide +kernel
theorem dX13_placeHere_31 : decode cX13_placeHere 31 = .ok (.imul, 1) := by decide +kernel
theorem dX13_placeHere_32 : decode cX13_placeHere 32 = .ok (.iload_n 1, 1) := by decide +kernel
theorem dX13_placeHere_33 : decode cX13_placeHere 33 = .ok (.iadd, 1) := by decide +kernel
theorem dX13_placeHere_34 : decode cX13_placeHere 34 = .ok (.ireturn, 1) := by decide +kernel
theorem dX13_placeTold_0 : decode cX13_placeTold 0 = .ok (.aload_n 0, 1) := by decide +kernel
theorem dX13_placeTold_1 : decode cX13_placeTold 1 = .ok (.iconst 0, 1) := by decide +kernel
theorem dX13_placeTold_2 : decode cX13_placeTold 2 = .ok (.bipush 7, 2) := by decide +kernel
theorem dX13_placeTold_4 : decode cX13_placeTold 4 = .ok (.invokevirtual 169, 3) := by decide +kernel
theorem dX13_placeTold_7 : decode cX13_placeTold 7 = .ok (.istore_n 1, 1) := by decide +kernel
theorem dX13_placeTold_8 : decode cX13_placeTold 8 = .ok (.aload_n 0, 1) := by decide +kernel
theorem dX13_placeTold_9 : decode cX13_placeTold 9 = .ok (.iconst 0, 1) := by decide +kernel
theorem dX13_placeTold_10 : decode cX13_placeTold 10 = .ok (.bipush 7, 2) := by decide +kernel
theorem dX13_placeTold_12 : decode cX13_placeTold 12 = .ok (.invokevirtual 169, 3) := by decide +kernel
theorem dX13_placeTold_15 : decode cX13_placeTold 15 = .ok (.istore_n 2, 1) := by decide +kernel
theorem dX13_placeTold_16 : decode cX13_placeTold 16 = .ok (.bipush 8, 2) := by decide +kernel
theorem dX13_placeTold_18 : decode cX13_placeTold 18 = .ok (.iload_n 2, 1) := by decide +kernel
theorem dX13_placeTold_19 : decode cX13_placeTold 19 = .ok (.imul, 1) := by decide +kernel
theorem dX13_placeTold_20 : decode cX13_placeTold 20 = .ok (.iload_n 1, 1) := by decide +kernel
theorem dX13_placeTold_21 : decode cX13_placeTold 21 = .ok (.iadd, 1) := by decide +kernel
theorem dX13_placeTold_22 : decode cX13_placeTold 22 = .ok (.ireturn, 1) := by decide +kernel
theorem dX13_placesOf_0 : decode cX13_placesOf 0 = .ok (.iconst 0, 1) := by decide +kernel
theorem dX13_placesOf_1 : decode cX13_placesOf 1 = .ok (.istore_n 2, 1) := by decide +kernel
theorem dX13_placesOf_2 : decode cX13_placesOf 2 = .ok (.iconst 0, 1) := by decide +kernel
theorem dX13_placesOf_3 : decode cX13_placesOf 3 = .ok (.istore_n 3, 1) := by decide +kernel
theorem dX13_placesOf_4 : decode cX13_placesOf 4 = .ok (.iload_n 3, 1) := by decide +kernel
theorem dX13_placesOf_5 : decode cX13_placesOf 5 = .ok (.bipush 64, 2) := by decide +kernel
theorem dX13_placesOf_7 : decode cX13_placesOf 7 = .ok (.if_icmp .ge 26, 3) := by decide +kernel
theorem dX13_placesOf_10 : decode cX13_placesOf 10 = .ok (.iload_n 2, 1) := by decide +kernel
theorem dX13_placesOf_11 : decode cX13_placesOf 11 = .ok (.aload_n 0, 1) := by decide +kernel
theorem dX13_placesOf_12 : decode cX13_placesOf 12 = .ok (.iload_n 1, 1) := by decide +kernel
theorem dX13_placesOf_13 : decode cX13_placesOf 13 = .ok (.iload_n 3, 1) := by decide +kernel
theorem dX13_placesOf_14 : decode cX13_placesOf 14 = .ok (.invokestatic 287, 3) := by decide +kernel
theorem dX13_placesOf_17 : decode cX13_placesOf 17 = .ok (.ifCond .eq 7, 3) := by decide +kernel
theorem dX13_placesOf_20 : decode cX13_placesOf 20 = .ok (.iconst 1, 1) := by decide +kernel
theorem dX13_placesOf_21 : decode cX13_placesOf 21 = .ok (.goto 4, 3) := by decide +kernel
theorem dX13_placesOf_24 : decode cX13_placesOf 24 = .ok (.iconst 0, 1) := by decide +kernel
theorem dX13_placesOf_25 : decode cX13_placesOf 25 = .ok (.iadd, 1) := by decide +kernel
theorem dX13_placesOf_26 : decode cX13_placesOf 26 = .ok (.istore_n 2, 1) := by decide +kernel
theorem dX13_placesOf_27 : decode cX13_placesOf 27 = .ok (.iinc 3 1, 3) := by decide +kernel
theorem dX13_placesOf_30 : decode cX13_placesOf 30 = .ok (.goto (-26), 3) := by decide +kernel
theorem dX13_placesOf_33 : decode cX13_placesOf 33 = .ok (.iload_n 2, 1) := by decide +kernel
theorem dX13_placesOf_34 : decode cX13_placesOf 34 = .ok (.ireturn, 1) := by decide +kernel
theorem dX13_placesOfAll_0 : decode cX13_placesOfAll 0 = .ok (.iconst 0, 1) := by decide +kernel
theorem dX13_placesOfAll_1 : decode cX13_placesOfAll 1 = .ok (.istore_n 2, 1) := by decide +kernel
theorem dX13_placesOfAll_2 : decode cX13_placesOfAll 2 = .ok (.iconst 0, 1) := by decide +kernel
theorem dX13_placesOfAll_3 : decode cX13_placesOfAll 3 = .ok (.istore_n 3, 1) := by decide +kernel
theorem dX13_placesOfAll_4 : decode cX13_placesOfAll 4 = .ok (.iload_n 3, 1) := by decide +kernel
theorem dX13_placesOfAll_5 : decode cX13_placesOfAll 5 = .ok (.aload_n 0, 1) := by decide +kernel
theorem dX13_placesOfAll_6 : decode cX13_placesOfAll 6 = .ok (.getfield 23, 3) := by decide +kernel
theorem dX13_placesOfAll_9 : decode cX13_placesOfAll 9 = .ok (.iconst 2, 1) := by decide +kernel
theorem dX13_placesOfAll_10 : decode cX13_placesOfAll 10 = .ok (.iaload, 1) := by decide +kernel
theorem dX13_placesOfAll_11 : decode cX13_placesOfAll 11 = .ok (.if_icmp .ge 17, 3) := by decide +kernel
theorem dX13_placesOfAll_14 : decode cX13_placesOfAll 14 = .ok (.iload_n 2, 1) := by decide +kernel
theorem dX13_placesOfAll_15 : decode cX13_placesOfAll 15 = .ok (.aload_n 1, 1) := by decide +kernel
theorem dX13_placesOfAll_16 : decode cX13_placesOfAll 16 = .ok (.iload_n 3, 1) := by decide +kernel
theorem dX13_placesOfAll_17 : decode cX13_placesOfAll 17 = .ok (.invokestatic 332, 3) := by decide +kernel
theorem dX13_placesOfAll_20 : decode cX13_placesOfAll 20 = .ok (.iadd, 1) := by decide +kernel
theorem dX13_placesOfAll_21 : decode cX13_placesOfAll 21 = .ok (.istore_n 2, 1) := by decide +kernel
theorem dX13_placesOfAll_22 : decode cX13_placesOfAll 22 = .ok (.iinc 3 1, 3) := by decide +kernel
theorem dX13_placesOfAll_25 : decode cX13_placesOfAll 25 = .ok (.goto (-21), 3) := by decide +kernel
theorem dX13_placesOfAll_28 : decode cX13_placesOfAll 28 = .ok (.iload_n 2, 1) := by decide +kernel
theorem dX13_placesOfAll_29 : decode cX13_placesOfAll 29 = .ok (.ireturn, 1) := by decide +kernel
theorem dX13_product_0 : decode cX13_product 0 = .ok (.aload_n 0, 1) := by decide +kernel
theorem dX13_product_1 : decode cX13_product 1 = .ok (.invokevirtual 239, 3) := by decide +kernel
theorem dX13_product_4 : decode cX13_product 4 = .ok (.aload_n 0, 1) := by decide +kernel
theorem dX13_product_5 : decode cX13_product 5 = .ok (.getfield 123, 3) := by decide +kernel
theorem dX13_product_8 : decode cX13_product 8 = .ok (.ifCond .ne 64, 3) := by decide +kernel
theorem dX13_product_11 : decode cX13_product 11 = .ok (.aload_n 0, 1) := by decide +kernel
theorem dX13_product_12 : decode cX13_product 12 = .ok (.bipush 42, 2) := by decide +kernel
theorem dX13_product_14 : decode cX13_product 14 = .ok (.invokevirtual 233, 3) := by decide +kernel
theorem dX13_product_17 : decode cX13_product 17 = .ok (.ifCond .eq 7, 3) := by decide +kernel
theorem dX13_product_20 : decode cX13_product 20 = .ok (.iconst 4, 1) := by decide +kernel
theorem dX13_product_21 : decode cX13_product 21 = .ok (.goto 31, 3) := by decide +kernel
theorem dX13_product_24 : decode cX13_product 24 = .ok (.aload_n 0, 1) := by decide +kernel
theorem dX13_product_25 : decode cX13_product 25 = .ok (.bipush 47, 2) := by decide +kernel
theorem dX13_product_27 : decode cX13_product 27 = .ok (.invokevirtual 233, 3) := by decide +kernel
theorem dX13_product_30 : decode cX13_product 30 = .ok (.ifCond .eq 7, 3) := by decide +kernel
theorem dX13_product_33 : decode cX13_product 33 = .ok (.iconst 5, 1) := by decide +kernel
theorem dX13_product_34 : decode cX13_product 34 = .ok (.goto 18, 3) := by decide +kernel
theorem dX13_product_37 : decode cX13_product 37 = .ok (.aload_n 0, 1) := by decide +kernel
theorem dX13_product_38 : decode cX13_product 38 = .ok (.bipush 37, 2) := by decide +kernel
theorem dX13_product_40 : decode cX13_product 40 = .ok (.invokevirtual 233, 3) := by decide +kernel
theorem dX13_product_43 : decode cX13_product 43 = .ok (.ifCond .eq 8, 3) := by decide +kernel
theorem dX13_product_46 : decode cX13_product 46 = .ok (.bipush 6, 2) := by decide +kernel
theorem dX13_product_48 : decode cX13_product 48 = .ok (.goto 4, 3) := by decide +kernel
theorem dX13_product_51 : decode cX13_product 51 = .ok (.iconst (-1), 1) := by decide +kernel
theorem dX13_product_52 : decode cX13_product 52 = .ok (.istore_n 1, 1) := by decide +kernel
theorem dX13_product_53 : decode cX13_product 53 = .ok (.iload_n 1, 1) := by decide +kernel
theorem dX13_product_54 : decode cX13_product 54 = .ok (.iconst (-1), 1) := by decide +kernel
theorem dX13_product_55 : decode cX13_product 55 = .ok (.if_icmp .ne 4, 3) := by decide +kernel
theorem dX13_product_58 : decode cX13_product 58 = .ok (.return_, 1) := by decide +kernel
theorem dX13_product_59 : decode cX13_product 59 = .ok (.aload_n 0, 1) := by decide +kernel
theorem dX13_product_60 : decode cX13_product 60 = .ok (.invokevirtual 239, 3) := by decide +kernel
theorem dX13_product_63 : decode cX13_product 63 = .ok (.aload_n 0, 1) := by decide +kernel
theorem dX13_product_64 : decode cX13_product 64 = .ok (.iload_n 1, 1) := by decide +kernel
theorem dX13_product_65 : decode cX13_product 65 = .ok (.iconst 0, 1) := by decide +kernel
theorem dX13_product_66 : decode cX13_product 66 = .ok (.invokevirtual 236, 3) := by decide +kernel
theorem dX13_product_69 : decode cX13_product 69 = .ok (.goto (-65), 3) := by decide +kernel
theorem dX13_product_72 : decode cX13_product 72 = .ok (.return_, 1) := by decide +kernel
theorem dX13_puts_0 : decode cX13_puts 0 = .ok (.iload_n 3, 1) := by decide +kernel
theorem dX13_puts_1 : decode cX13_puts 1 = .ok (.ifCond .ne 10, 3) := by decide +kernel
theorem dX13_puts_4 : decode cX13_puts 4 = .ok (.aload_n 1, 1) := by decide +kernel
theorem dX13_puts_5 : decode cX13_puts 5 = .ok (.aload_n 0, 1) := by decide +kernel
theorem dX13_puts_6 : decode cX13_puts 6 = .ok (.getfield 463, 3) := by decide +kernel
theorem dX13_puts_9 : decode cX13_puts 9 = .ok (.iload_n 2, 1) := by decide +kernel
theorem dX13_puts_10 : decode cX13_puts 10 = .ok (.iastore, 1) := by decide +kernel
theorem dX13_puts_11 : decode cX13_puts 11 = .ok (.aload_n 0, 1) := by decide +kernel
theorem dX13_puts_12 : decode cX13_puts 12 = .ok (.dup, 1) := by decide +kernel
theorem dX13_puts_13 : decode cX13_puts 13 = .ok (.getfield 463, 3) := by decide +kernel
theorem dX13_puts_16 : decode cX13_puts 16 = .ok (.iconst 1, 1) := by decide +kernel
theorem dX13_puts_17 : decode cX13_puts 17 = .ok (.iadd, 1) := by decide +kernel
theorem dX13_puts_18 : decode cX13_puts 18 = .ok (.putfield 463, 3) := by decide +kernel
theorem dX13_puts_21 : decode cX13_puts 21 = .ok (.aload_n 1, 1) := by decide +kernel
theorem dX13_puts_22 : decode cX13_puts 22 = .ok (.aload_n 0, 1) := by decide +kernel
theorem dX13_puts_23 : decode cX13_puts 23 = .ok (.getfield 463, 3) := by decide +kernel
theorem dX13_puts_26 : decode cX13_puts 26 = .ok (.iconst 1, 1) := by decide +kernel
theorem dX13_puts_27 : decode cX13_puts 27 = .ok (.isub, 1) := by decide +kernel
theorem dX13_puts_28 : decode cX13_puts 28 = .ok (.iaload, 1) := by decide +kernel
theorem dX13_puts_29 : decode cX13_puts 29 = .ok (.ireturn, 1) := by decide +kernel
theorem dX13_putsAll_0 : decode cX13_putsAll 0 = .ok (.aload_n 0, 1) := by decide +kernel
theorem dX13_putsAll_1 : decode cX13_putsAll 1 = .ok (.iconst 0, 1) := by decide +kernel
theorem dX13_putsAll_2 : decode cX13_putsAll 2 = .ok (.putfield 463, 3) := by decide +kernel
theorem dX13_putsAll_5 : decode cX13_putsAll 5 = .ok (.aload_n 0, 1) := by decide +kernel
theorem dX13_putsAll_6 : decode cX13_putsAll 6 = .ok (.aload_n 0, 1) := by decide +kernel
theorem dX13_putsAll_7 : decode cX13_putsAll 7 = .ok (.aload_n 1, 1) := by decide +kernel
theorem dX13_putsAll_8 : decode cX13_putsAll 8 = .ok (.aload_n 0, 1) := by decide +kernel
theorem dX13_putsAll_9 : decode cX13_putsAll 9 = .ok (.getfield 218, 3) := by decide +kernel
theorem dX13_putsAll_12 : decode cX13_putsAll 12 = .ok (.iload_n 2, 1) := by decide +kernel
theorem dX13_putsAll_13 : decode cX13_putsAll 13 = .ok (.invokevirtual 466, 3) := by decide +kernel
theorem dX13_putsAll_16 : decode cX13_putsAll 16 = .ok (.putfield 218, 3) := by decide +kernel
theorem dX13_putsAll_19 : decode cX13_putsAll 19 = .ok (.iconst 0, 1) := by decide +kernel
theorem dX13_putsAll_20 : decode cX13_putsAll 20 = .ok (.istore_n 3, 1) := by decide +kernel
theorem dX13_putsAll_21 : decode cX13_putsAll 21 = .ok (.iload_n 3, 1) := by decide +kernel
theorem dX13_putsAll_22 : decode cX13_putsAll 22 = .ok (.sipush 519, 3) := by decide +kernel
theorem dX13_putsAll_25 : decode cX13_putsAll 25 = .ok (.if_icmp .ge 27, 3) := by decide +kernel
theorem dX13_putsAll_28 : decode cX13_putsAll 28 = .ok (.aload_n 0, 1) := by decide +kernel
theorem dX13_putsAll_29 : decode cX13_putsAll 29 = .ok (.getfield 70, 3) := by decide +kernel
theorem dX13_putsAll_32 : decode cX13_putsAll 32 = .ok (.iload_n 3, 1) := by decide +kernel
theorem dX13_putsAll_33 : decode cX13_putsAll 33 = .ok (.aload_n 0, 1) := by decide +kernel
theorem dX13_putsAll_34 : decode cX13_putsAll 34 = .ok (.aload_n 1, 1) := by decide +kernel
theorem dX13_putsAll_35 : decode cX13_putsAll 35 = .ok (.aload_n 0, 1) := by decide +kernel
theorem dX13_putsAll_36 : decode cX13_putsAll 36 = .ok (.getfield 70, 3) := by decide +kernel
theorem dX13_putsAll_39 : decode cX13_putsAll 39 = .ok (.iload_n 3, 1) := by decide +kernel
theorem dX13_putsAll_40 : decode cX13_putsAll 40 = .ok (.iaload, 1) := by decide +kernel
theorem dX13_putsAll_41 : decode cX13_putsAll 41 = .ok (.iload_n 2, 1) := by decide +kernel
theorem dX13_putsAll_42 : decode cX13_putsAll 42 = .ok (.invokevirtual 466, 3) := by decide +kernel
theorem dX13_putsAll_45 : decode cX13_putsAll 45 = .ok (.iastore, 1) := by decide +kernel
theorem dX13_putsAll_46 : decode cX13_putsAll 46 = .ok (.iinc 3 1, 3) := by decide +kernel
theorem dX13_putsAll_49 : decode cX13_putsAll 49 = .ok (.goto (-28), 3) := by decide +kernel
theorem dX13_putsAll_52 : decode cX13_putsAll 52 = .ok (.iconst 0, 1) := by decide +kernel
theorem dX13_putsAll_53 : decode cX13_putsAll 53 = .ok (.istore_n 3, 1) := by decide +kernel
theorem dX13_putsAll_54 : decode cX13_putsAll 54 = .ok (.iload_n 3, 1) := by decide +kernel
theorem dX13_putsAll_55 : decode cX13_putsAll 55 = .ok (.bipush 16, 2) := by decide +kernel
theorem dX13_putsAll_57 : decode cX13_putsAll 57 = .ok (.if_icmp .ge 50, 3) := by decide +kernel
theorem dX13_putsAll_60 : decode cX13_putsAll 60 = .ok (.iconst 0, 1) := by decide +kernel
theorem dX13_putsAll_61 : decode cX13_putsAll 61 = .ok (.istore 4, 2) := by decide +kernel
theorem dX13_putsAll_63 : decode cX13_putsAll 63 = .ok (.iload 4, 2) := by decide +kernel
theorem dX13_putsAll_65 : decode cX13_putsAll 65 = .ok (.sipush 519, 3) := by decide +kernel
theorem dX13_putsAll_68 : decode cX13_putsAll 68 = .ok (.if_icmp .ge 33, 3) := by decide +kernel
theorem dX13_putsAll_71 : decode cX13_putsAll 71 = .ok (.aload_n 0, 1) := by decide +kernel
theorem dX13_putsAll_72 : decode cX13_putsAll 72 = .ok (.getfield 79, 3) := by decide +kernel
theorem dX13_putsAll_75 : decode cX13_putsAll 75 = .ok (.iload_n 3, 1) := by decide +kernel
theorem dX13_putsAll_76 : decode cX13_putsAll 76 = .ok (.aaload, 1) := by decide +kernel
theorem dX13_putsAll_77 : decode cX13_putsAll 77 = .ok (.iload 4, 2) := by decide +kernel
theorem dX13_putsAll_79 : decode cX13_putsAll 79 = .ok (.aload_n 0, 1) := by decide +kernel
theorem dX13_putsAll_80 : decode cX13_putsAll 80 = .ok (.aload_n 1, 1) := by decide +kernel
theorem dX13_putsAll_81 : decode cX13_putsAll 81 = .ok (.aload_n 0, 1) := by decide +kernel
theorem dX13_putsAll_82 : decode cX13_putsAll 82 = .ok (.getfield 79, 3) := by decide +kernel
theorem dX13_putsAll_85 : decode cX13_putsAll 85 = .ok (.iload_n 3, 1) := by decide +kernel
theorem dX13_putsAll_86 : decode cX13_putsAll 86 = .ok (.aaload, 1) := by decide +kernel
theorem dX13_putsAll_87 : decode cX13_putsAll 87 = .ok (.iload 4, 2) := by decide +kernel
theorem dX13_putsAll_89 : decode cX13_putsAll 89 = .ok (.iaload, 1) := by decide +kernel
theorem dX13_putsAll_90 : decode cX13_putsAll 90 = .ok (.iload_n 2, 1) := by decide +kernel
theorem dX13_putsAll_91 : decode cX13_putsAll 91 = .ok (.invokevirtual 466, 3) := by decide +kernel
theorem dX13_putsAll_94 : decode cX13_putsAll 94 = .ok (.iastore, 1) := by decide +kernel
theorem dX13_putsAll_95 : decode cX13_putsAll 95 = .ok (.iinc 4 1, 3) := by decide +kernel
theorem dX13_putsAll_98 : decode cX13_putsAll 98 = .ok (.goto (-35), 3) := by decide +kernel
theorem dX13_putsAll_101 : decode cX13_putsAll 101 = .ok (.iinc 3 1, 3) := by decide +kernel
theorem dX13_putsAll_104 : decode cX13_putsAll 104 = .ok (.goto (-50), 3) := by decide +kernel
theorem dX13_putsAll_107 : decode cX13_putsAll 107 = .ok (.return_, 1) := by decide +kernel
theorem dX13_readsStep_0 : decode cX13_readsStep 0 = .ok (.aload_n 0, 1) := by decide +kernel
theorem dX13_readsStep_1 : decode cX13_readsStep 1 = .ok (.invokevirtual 269, 3) := by decide +kernel
theorem dX13_readsStep_4 : decode cX13_readsStep 4 = .ok (.istore_n 1, 1) := by decide +kernel
theorem dX13_readsStep_5 : decode cX13_readsStep 5 = .ok (.iload_n 1, 1) := by decide +kernel
theorem dX13_readsStep_6 : decode cX13_readsStep 6 = .ok (.iconst (-1), 1) := by decide +kernel
theorem dX13_readsStep_7 : decode cX13_readsStep 7 = .ok (.if_icmp .ne 12, 3) := by decide +kernel
theorem dX13_readsStep_10 : decode cX13_readsStep 10 = .ok (.aload_n 0, 1) := by decide +kernel
theorem dX13_readsStep_11 : decode cX13_readsStep 11 = .ok (.iconst 1, 1) := by decide +kernel
theorem dX13_readsStep_12 : decode cX13_readsStep 12 = .ok (.aload_n 0, 1) := by decide +kernel
theorem dX13_readsStep_13 : decode cX13_readsStep 13 = .ok (.getfield 116, 3) := by decide +kernel
theorem dX13_readsStep_16 : decode cX13_readsStep 16 = .ok (.invokevirtual 136, 3) := by decide +kernel
theorem dX13_readsStep_19 : decode cX13_readsStep 19 = .ok (.iload_n 1, 1) := by decide +kernel
theorem dX13_readsStep_20 : decode cX13_readsStep 20 = .ok (.bipush 6, 2) := by decide +kernel
theorem dX13_readsStep_22 : decode cX13_readsStep 22 = .ok (.if_icmp .ne 11, 3) := by decide +kernel
theorem dX13_readsStep_25 : decode cX13_readsStep 25 = .ok (.aload_n 0, 1) := by decide +kernel
theorem dX13_readsStep_26 : decode cX13_readsStep 26 = .ok (.invokevirtual 245, 3) := by decide +kernel
theorem dX13_readsStep_29 : decode cX13_readsStep 29 = .ok (.ifCond .ne 4, 3) := by decide +kernel
theorem dX13_readsStep_32 : decode cX13_readsStep 32 = .ok (.return_, 1) := by decide +kernel
theorem dX13_readsStep_33 : decode cX13_readsStep 33 = .ok (.aload_n 0, 1) := by decide +kernel
theorem dX13_readsStep_34 : decode cX13_readsStep 34 = .ok (.getfield 123, 3) := by decide +kernel
theorem dX13_readsStep_37 : decode cX13_readsStep 37 = .ok (.ifCond .eq 4, 3) := by decide +kernel
theorem dX13_readsStep_40 : decode cX13_readsStep 40 = .ok (.return_, 1) := by decide +kernel
theorem dX13_readsStep_41 : decode cX13_readsStep 41 = .ok (.aload_n 0, 1) := by decide +kernel
theorem dX13_readsStep_42 : decode cX13_readsStep 42 = .ok (.invokevirtual 160, 3) := by decide +kernel
theorem dX13_readsStep_45 : decode cX13_readsStep 45 = .ok (.aload_n 0, 1) := by decide +kernel
theorem dX13_readsStep_46 : decode cX13_readsStep 46 = .ok (.getfield 67, 3) := by decide +kernel
theorem dX13_readsStep_49 : decode cX13_readsStep 49 = .ok (.aload_n 0, 1) := by decide +kernel
theorem dX13_readsStep_50 : decode cX13_readsStep 50 = .ok (.getfield 272, 3) := by decide +kernel
theorem dX13_readsStep_53 : decode cX13_readsStep 53 = .ok (.aaload, 1) := by decide +kernel
theorem dX13_readsStep_54 : decode cX13_readsStep 54 = .ok (.astore_n 2, 1) := by decide +kernel
theorem dX13_readsStep_55 : decode cX13_readsStep 55 = .ok (.aload_n 0, 1) := by decide +kernel
theorem dX13_readsStep_56 : decode cX13_readsStep 56 = .ok (.dup, 1) := by decide +kernel
theorem dX13_readsStep_57 : decode cX13_readsStep 57 = .ok (.getfield 272, 3) := by decide +kernel
theorem dX13_readsStep_60 : decode cX13_readsStep 60 = .ok (.iconst 1, 1) := by decide +kernel
theorem dX13_readsStep_61 : decode cX13_readsStep 61 = .ok (.iadd, 1) := by decide +kernel
theorem dX13_readsStep_62 : decode cX13_readsStep 62 = .ok (.putfield 272, 3) := by decide +kernel
theorem dX13_readsStep_65 : decode cX13_readsStep 65 = .ok (.aload_n 2, 1) := by decide +kernel
theorem dX13_readsStep_66 : decode cX13_readsStep 66 = .ok (.iconst 0, 1) := by decide +kernel
theorem dX13_readsStep_67 : decode cX13_readsStep 67 = .ok (.iload_n 1, 1) := by decide +kernel
theorem dX13_readsStep_68 : decode cX13_readsStep 68 = .ok (.iastore, 1) := by decide +kernel
theorem dX13_readsStep_69 : decode cX13_readsStep 69 = .ok (.iload_n 1, 1) := by decide +kernel
theorem dX13_readsStep_70 : decode cX13_readsStep 70 = .ok (.ifCond .le 24, 3) := by decide +kernel
theorem dX13_readsStep_73 : decode cX13_readsStep 73 = .ok (.iload_n 1, 1) := by decide +kernel
theorem dX13_readsStep_74 : decode cX13_readsStep 74 = .ok (.iconst 4, 1) := by decide +kernel
theorem dX13_readsStep_75 : decode cX13_readsStep 75 = .ok (.if_icmp .ge 19, 3) := by decide +kernel
theorem dX13_readsStep_78 : decode cX13_readsStep 78 = .ok (.aload_n 2, 1) := by decide +kernel
theorem dX13_readsStep_79 : decode cX13_readsStep 79 = .ok (.iconst 1, 1) := by decide +kernel
theorem dX13_readsStep_80 : decode cX13_readsStep 80 = .ok (.aload_n 0, 1) := by decide +kernel
theorem dX13_readsStep_81 : decode cX13_readsStep 81 = .ok (.iconst 0, 1) := by decide +kernel
theorem dX13_readsStep_82 : decode cX13_readsStep 82 = .ok (.aload_n 0, 1) := by decide +kernel
theorem dX13_readsStep_83 : decode cX13_readsStep 83 = .ok (.getfield 23, 3) := by decide +kernel
theorem dX13_readsStep_86 : decode cX13_readsStep 86 = .ok (.iconst 2, 1) := by decide +kernel
theorem dX13_readsStep_87 : decode cX13_readsStep 87 = .ok (.iaload, 1) := by decide +kernel
theorem dX13_readsStep_88 : decode cX13_readsStep 88 = .ok (.iconst 1, 1) := by decide +kernel
theorem dX13_readsStep_89 : decode cX13_readsStep 89 = .ok (.isub, 1) := by decide +kernel
theorem dX13_readsStep_90 : decode cX13_readsStep 90 = .ok (.invokevirtual 169, 3) := by decide +kernel
theorem dX13_readsStep_93 : decode cX13_readsStep 93 = .ok (.iastore, 1) := by decide +kernel
theorem dX13_readsStep_94 : decode cX13_readsStep 94 = .ok (.iload_n 1, 1) := by decide +kernel
theorem dX13_readsStep_95 : decode cX13_readsStep 95 = .ok (.iconst 3, 1) := by decide +kernel
theorem dX13_readsStep_96 : decode cX13_readsStep 96 = .ok (.if_icmp .ne 13, 3) := by decide +kernel
theorem dX13_readsStep_99 : decode cX13_readsStep 99 = .ok (.aload_n 2, 1) := by decide +kernel
theorem dX13_readsStep_100 : decode cX13_readsStep 100 = .ok (.iconst 2, 1) := by decide +kernel
theorem dX13_readsStep_101 : decode cX13_readsStep 101 = .ok (.aload_n 0, 1) := by decide +kernel
theorem dX13_readsStep_102 : decode cX13_readsStep 102 = .ok (.iconst 0, 1) := by decide +kernel
theorem dX13_readsStep_103 : decode cX13_readsStep 103 = .ok (.bipush 9, 2) := by decide +kernel
theorem dX13_readsStep_105 : decode cX13_readsStep 105 = .ok (.invokevirtual 169, 3) := by decide +kernel
theorem dX13_readsStep_108 : decode cX13_readsStep 108 = .ok (.iastore, 1) := by decide +kernel
theorem dX13_readsStep_109 : decode cX13_readsStep 109 = .ok (.iload_n 1, 1) := by decide +kernel
theorem dX13_readsStep_110 : decode cX13_readsStep 110 = .ok (.iconst 4, 1) := by decide +kernel
theorem dX13_readsStep_111 : decode cX13_readsStep 111 = .ok (.if_icmp .ne 10, 3) := by decide +kernel
theorem dX13_readsStep_114 : decode cX13_readsStep 114 = .ok (.aload_n 2, 1) := by decide +kernel
theorem dX13_readsStep_115 : decode cX13_readsStep 115 = .ok (.iconst 1, 1) := by decide +kernel
theorem dX13_readsStep_116 : decode cX13_readsStep 116 = .ok (.aload_n 0, 1) := by decide +kernel
theorem dX13_readsStep_117 : decode cX13_readsStep 117 = .ok (.invokevirtual 275, 3) := by decide +kernel
theorem dX13_readsStep_120 : decode cX13_readsStep 120 = .ok (.iastore, 1) := by decide +kernel
theorem dX13_readsStep_121 : decode cX13_readsStep 121 = .ok (.iload_n 1, 1) := by decide +kernel
theorem dX13_readsStep_122 : decode cX13_readsStep 122 = .ok (.iconst 5, 1) := by decide +kernel
theorem dX13_readsStep_123 : decode cX13_readsStep 123 = .ok (.if_icmp .ne 13, 3) := by decide +kernel
theorem dX13_readsStep_126 : decode cX13_readsStep 126 = .ok (.aload_n 2, 1) := by decide +kernel
theorem dX13_readsStep_127 : decode cX13_readsStep 127 = .ok (.iconst 1, 1) := by decide +kernel
theorem dX13_readsStep_128 : decode cX13_readsStep 128 = .ok (.aload_n 0, 1) := by decide +kernel
theorem dX13_readsStep_129 : decode cX13_readsStep 129 = .ok (.iconst 1, 1) := by decide +kernel
theorem dX13_readsStep_130 : decode cX13_readsStep 130 = .ok (.bipush 99, 2) := by decide +kernel
theorem dX13_readsStep_132 : decode cX13_readsStep 132 = .ok (.invokevirtual 169, 3) := by decide +kernel
theorem dX13_readsStep_135 : decode cX13_readsStep 135 = .ok (.iastore, 1) := by decide +kernel
theorem dX13_readsStep_136 : decode cX13_readsStep 136 = .ok (.iload_n 1, 1) := by decide +kernel
theorem dX13_readsStep_137 : decode cX13_readsStep 137 = .ok (.bipush 6, 2) := by decide +kernel
theorem dX13_readsStep_139 : decode cX13_readsStep 139 = .ok (.if_icmp .ne 70, 3) := by decide +kernel
theorem dX13_readsStep_142 : decode cX13_readsStep 142 = .ok (.aload_n 2, 1) := by decide +kernel
theorem dX13_readsStep_143 : decode cX13_readsStep 143 = .ok (.iconst 1, 1) := by decide +kernel
theorem dX13_readsStep_144 : decode cX13_readsStep 144 = .ok (.aload_n 0, 1) := by decide +kernel
theorem dX13_readsStep_145 : decode cX13_readsStep 145 = .ok (.iconst 0, 1) := by decide +kernel
theorem dX13_readsStep_146 : decode cX13_readsStep 146 = .ok (.bipush 40, 2) := by decide +kernel
theorem dX13_readsStep_148 : decode cX13_readsStep 148 = .ok (.invokevirtual 169, 3) := by decide +kernel
theorem dX13_readsStep_151 : decode cX13_readsStep 151 = .ok (.iastore, 1) := by decide +kernel
theorem dX13_readsStep_152 : decode cX13_readsStep 152 = .ok (.aload_n 0, 1) := by decide +kernel
theorem dX13_readsStep_153 : decode cX13_readsStep 153 = .ok (.bipush 91, 2) := by decide +kernel
theorem dX13_readsStep_155 : decode cX13_readsStep 155 = .ok (.invokevirtual 176, 3) := by decide +kernel
theorem dX13_readsStep_158 : decode cX13_readsStep 158 = .ok (.aload_n 0, 1) := by decide +kernel
theorem dX13_readsStep_159 : decode cX13_readsStep 159 = .ok (.invokevirtual 129, 3) := by decide +kernel
theorem dX13_readsStep_162 : decode cX13_readsStep 162 = .ok (.aload_n 0, 1) := by decide +kernel
theorem dX13_readsStep_163 : decode cX13_readsStep 163 = .ok (.getfield 123, 3) := by decide +kernel
theorem dX13_readsStep_166 : decode cX13_readsStep 166 = .ok (.ifCond .ne 27, 3) := by decide +kernel
theorem dX13_readsStep_169 : decode cX13_readsStep 169 = .ok (.aload_n 0, 1) := by decide +kernel
theorem dX13_readsStep_170 : decode cX13_readsStep 170 = .ok (.aload_n 0, 1) := by decide +kernel
theorem dX13_readsStep_171 : decode cX13_readsStep 171 = .ok (.getfield 116, 3) := by decide +kernel
theorem dX13_readsStep_174 : decode cX13_readsStep 174 = .ok (.invokevirtual 119, 3) := by decide +kernel
theorem dX13_readsStep_177 : decode cX13_readsStep 177 = .ok (.bipush 93, 2) := by decide +kernel
theorem dX13_readsStep_179 : decode cX13_readsStep 179 = .ok (.if_icmp .eq 14, 3) := by decide +kernel
theorem dX13_readsStep_182 : decode cX13_readsStep 182 = .ok (.aload_n 0, 1) := by decide +kernel
theorem dX13_readsStep_183 : decode cX13_readsStep 183 = .ok (.invokevirtual 278, 3) := by decide +kernel
theorem dX13_readsStep_186 : decode cX13_readsStep 186 = .ok (.aload_n 0, 1) := by decide +kernel
theorem dX13_readsStep_187 : decode cX13_readsStep 187 = .ok (.invokevirtual 129, 3) := by decide +kernel
theorem dX13_readsStep_190 : decode cX13_readsStep 190 = .ok (.goto (-28), 3) := by decide +kernel
theorem dX13_readsStep_193 : decode cX13_readsStep 193 = .ok (.aload_n 0, 1) := by decide +kernel
theorem dX13_readsStep_194 : decode cX13_readsStep 194 = .ok (.bipush 93, 2) := by decide +kernel
theorem dX13_readsStep_196 : decode cX13_readsStep 196 = .ok (.invokevirtual 176, 3) := by decide +kernel
theorem dX13_readsStep_199 : decode cX13_readsStep 199 = .ok (.aload_n 0, 1) := by decide +kernel
theorem dX13_readsStep_200 : decode cX13_readsStep 200 = .ok (.dup, 1) := by decide +kernel
theorem dX13_readsStep_201 : decode cX13_readsStep 201 = .ok (.getfield 166, 3) := by decide +kernel
theorem dX13_readsStep_204 : decode cX13_readsStep 204 = .ok (.iconst 1, 1) := by decide +kernel
theorem dX13_readsStep_205 : decode cX13_readsStep 205 = .ok (.isub, 1) := by decide +kernel
theorem dX13_readsStep_206 : decode cX13_readsStep 206 = .ok (.putfield 166, 3) := by decide +kernel
theorem dX13_readsStep_209 : decode cX13_readsStep 209 = .ok (.aload_n 2, 1) := by decide +kernel
theorem dX13_readsStep_210 : decode cX13_readsStep 210 = .ok (.iconst 3, 1) := by decide +kernel
theorem dX13_readsStep_211 : decode cX13_readsStep 211 = .ok (.aload_n 0, 1) := by decide +kernel
theorem dX13_readsStep_212 : decode cX13_readsStep 212 = .ok (.getfield 272, 3) := by decide +kernel
theorem dX13_readsStep_215 : decode cX13_readsStep 215 = .ok (.iastore, 1) := by decide +kernel
theorem dX13_readsStep_216 : decode cX13_readsStep 216 = .ok (.aload_n 0, 1) := by decide +kernel
theorem dX13_readsStep_217 : decode cX13_readsStep 217 = .ok (.bipush 59, 2) := by decide +kernel
theorem dX13_readsStep_219 : decode cX13_readsStep 219 = .ok (.invokevirtual 176, 3) := by decide +kernel
theorem dX13_readsStep_222 : decode cX13_readsStep 222 = .ok (.return_, 1) := by decide +kernel
theorem dX13_restore_0 : decode cX13_restore 0 = .ok (.aload_n 0, 1) := by decide +kernel
theorem dX13_restore_1 : decode cX13_restore 1 = .ok (.iconst 0, 1) := by decide +kernel
theorem dX13_restore_2 : decode cX13_restore 2 = .ok (.putfield 107, 3) := by decide +kernel
theorem dX13_restore_5 : decode cX13_restore 5 = .ok (.aload_n 0, 1) := by decide +kernel
theorem dX13_restore_6 : decode cX13_restore 6 = .ok (.getfield 224, 3) := by decide +kernel
theorem dX13_restore_9 : decode cX13_restore 9 = .ok (.ifCond .ne 5, 3) := by decide +kernel
theorem dX13_restore_12 : decode cX13_restore 12 = .ok (.iconst (-1), 1) := by decide +kernel
theorem dX13_restore_13 : decode cX13_restore 13 = .ok (.ireturn, 1) := by decide +kernel
theorem dX13_restore_14 : decode cX13_restore 14 = .ok (.aload_n 0, 1) := by decide +kernel
theorem dX13_restore_15 : decode cX13_restore 15 = .ok (.dup, 1) := by decide +kernel
theorem dX13_restore_16 : decode cX13_restore 16 = .ok (.getfield 224, 3) := by decide +kernel
theorem dX13_restore_19 : decode cX13_restore 19 = .ok (.iconst 1, 1) := by decide +kernel
theorem dX13_restore_20 : decode cX13_restore 20 = .ok (.isub, 1) := by decide +kernel
theorem dX13_restore_21 : decode cX13_restore 21 = .ok (.putfield 224, 3) := by decide +kernel
theorem dX13_restore_24 : decode cX13_restore 24 = .ok (.aload_n 0, 1) := by decide +kernel
theorem dX13_restore_25 : decode cX13_restore 25 = .ok (.aload_n 0, 1) := by decide +kernel
theorem dX13_restore_26 : decode cX13_restore 26 = .ok (.getfield 82, 3) := by decide +kernel
theorem dX13_restore_29 : decode cX13_restore 29 = .ok (.aload_n 0, 1) := by decide +kernel
theorem dX13_restore_30 : decode cX13_restore 30 = .ok (.getfield 224, 3) := by decide +kernel
theorem dX13_restore_33 : decode cX13_restore 33 = .ok (.aaload, 1) := by decide +kernel
theorem dX13_restore_34 : decode cX13_restore 34 = .ok (.iconst 1, 1) := by decide +kernel
theorem dX13_restore_35 : decode cX13_restore 35 = .ok (.invokevirtual 470, 3) := by decide +kernel
theorem dX13_restore_38 : decode cX13_restore 38 = .ok (.aload_n 0, 1) := by decide +kernel
theorem dX13_restore_39 : decode cX13_restore 39 = .ok (.iconst 0, 1) := by decide +kernel
theorem dX13_restore_40 : decode cX13_restore 40 = .ok (.putfield 221, 3) := by decide +kernel
theorem dX13_restore_43 : decode cX13_restore 43 = .ok (.aload_n 0, 1) := by decide +kernel
theorem dX13_restore_44 : decode cX13_restore 44 = .ok (.getfield 224, 3) := by decide +kernel
theorem dX13_restore_47 : decode cX13_restore 47 = .ok (.ireturn, 1) := by decide +kernel
theorem dX13_rips_0 : decode cX13_rips 0 = .ok (.aload_n 1, 1) := by decide +kernel
theorem dX13_rips_1 : decode cX13_rips 1 = .ok (.iload_n 2, 1) := by decide +kernel
theorem dX13_rips_2 : decode cX13_rips 2 = .ok (.invokestatic 332, 3) := by decide +kernel
theorem dX13_rips_5 : decode cX13_rips 5 = .ok (.ifCond .ne 5, 3) := by decide +kernel
theorem dX13_rips_8 : decode cX13_rips 8 = .ok (.iconst 0, 1) := by decide +kernel
theorem dX13_rips_9 : decode cX13_rips 9 = .ok (.ireturn, 1) := by decide +kernel
theorem dX13_rips_10 : decode cX13_rips 10 = .ok (.aload_n 1, 1) := by decide +kernel
theorem dX13_rips_11 : decode cX13_rips 11 = .ok (.iload_n 2, 1) := by decide +kernel
theorem dX13_rips_12 : decode cX13_rips 12 = .ok (.invokestatic 326, 3) := by decide +kernel
theorem dX13_rips_15 : decode cX13_rips 15 = .ok (.iconst 1, 1) := by decide +kernel
theorem dX13_rips_16 : decode cX13_rips 16 = .ok (.ireturn, 1) := by decide +kernel
theorem dX13_ripsAll_0 : decode cX13_ripsAll 0 = .ok (.iconst 0, 1) := by decide +kernel
theorem dX13_ripsAll_1 : decode cX13_ripsAll 1 = .ok (.istore_n 2, 1) := by decide +kernel
theorem dX13_ripsAll_2 : decode cX13_ripsAll 2 = .ok (.iload_n 2, 1) := by decide +kernel
theorem dX13_ripsAll_3 : decode cX13_ripsAll 3 = .ok (.bipush 64, 2) := by decide +kernel
theorem dX13_ripsAll_5 : decode cX13_ripsAll 5 = .ok (.if_icmp .ge 17, 3) := by decide +kernel
theorem dX13_ripsAll_8 : decode cX13_ripsAll 8 = .ok (.aload_n 0, 1) := by decide +kernel
theorem dX13_ripsAll_9 : decode cX13_ripsAll 9 = .ok (.iload_n 1, 1) := by decide +kernel
theorem dX13_ripsAll_10 : decode cX13_ripsAll 10 = .ok (.iload_n 2, 1) := by decide +kernel
theorem dX13_ripsAll_11 : decode cX13_ripsAll 11 = .ok (.invokestatic 284, 3) := by decide +kernel
theorem dX13_ripsAll_14 : decode cX13_ripsAll 14 = .ok (.iconst (-1), 1) := by decide +kernel
theorem dX13_ripsAll_15 : decode cX13_ripsAll 15 = .ok (.iastore, 1) := by decide +kernel
theorem dX13_ripsAll_16 : decode cX13_ripsAll 16 = .ok (.iinc 2 1, 3) := by decide +kernel
theorem dX13_ripsAll_19 : decode cX13_ripsAll 19 = .ok (.goto (-17), 3) := by decide +kernel
theorem dX13_ripsAll_22 : decode cX13_ripsAll 22 = .ok (.return_, 1) := by decide +kernel
theorem dX13_roundEnds_0 : decode cX13_roundEnds 0 = .ok (.iconst 0, 1) := by decide +kernel
theorem dX13_roundEnds_1 : decode cX13_roundEnds 1 = .ok (.istore_n 2, 1) := by decide +kernel
theorem dX13_roundEnds_2 : decode cX13_roundEnds 2 = .ok (.iload_n 2, 1) := by decide +kernel
theorem dX13_roundEnds_3 : decode cX13_roundEnds 3 = .ok (.aload_n 0, 1) := by decide +kernel
theorem dX13_roundEnds_4 : decode cX13_roundEnds 4 = .ok (.getfield 23, 3) := by decide +kernel
theorem dX13_roundEnds_7 : decode cX13_roundEnds 7 = .ok (.iconst 2, 1) := by decide +kernel
theorem dX13_roundEnds_8 : decode cX13_roundEnds 8 = .ok (.iaload, 1) := by decide +kernel
theorem dX13_roundEnds_9 : decode cX13_roundEnds 9 = .ok (.if_icmp .ge 54, 3) := by decide +kernel
theorem dX13_roundEnds_12 : decode cX13_roundEnds 12 = .ok (.aload_n 0, 1) := by decide +kernel
theorem dX13_roundEnds_13 : decode cX13_roundEnds 13 = .ok (.getfield 40, 3) := by decide +kernel
theorem dX13_roundEnds_16 : decode cX13_roundEnds 16 = .ok (.iload_n 2, 1) := by decide +kernel
theorem dX13_roundEnds_17 : decode cX13_roundEnds 17 = .ok (.aaload, 1) := by decide +kernel
theorem dX13_roundEnds_18 : decode cX13_roundEnds 18 = .ok (.iconst 2, 1) := by decide +kernel
theorem dX13_roundEnds_19 : decode cX13_roundEnds 19 = .ok (.iaload, 1) := by decide +kernel
theorem dX13_roundEnds_20 : decode cX13_roundEnds 20 = .ok (.ifCond .eq 37, 3) := by decide +kernel
theorem dX13_roundEnds_23 : decode cX13_roundEnds 23 = .ok (.aload_n 0, 1) := by decide +kernel
theorem dX13_roundEnds_24 : decode cX13_roundEnds 24 = .ok (.aload_n 1, 1) := by decide +kernel
theorem dX13_roundEnds_25 : decode cX13_roundEnds 25 = .ok (.iload_n 2, 1) := by decide +kernel
theorem dX13_roundEnds_26 : decode cX13_roundEnds 26 = .ok (.invokevirtual 312, 3) := by decide +kernel
theorem dX13_roundEnds_29 : decode cX13_roundEnds 29 = .ok (.ifCond .eq 15, 3) := by decide +kernel
theorem dX13_roundEnds_32 : decode cX13_roundEnds 32 = .ok (.aload_n 0, 1) := by decide +kernel
theorem dX13_roundEnds_33 : decode cX13_roundEnds 33 = .ok (.aload_n 1, 1) := by decide +kernel
theorem dX13_roundEnds_34 : decode cX13_roundEnds 34 = .ok (.iload_n 2, 1) := by decide +kernel
theorem dX13_roundEnds_35 : decode cX13_roundEnds 35 = .ok (.invokevirtual 341, 3) := by decide +kernel
theorem dX13_roundEnds_38 : decode cX13_roundEnds 38 = .ok (.ifCond .ne 6, 3) := by decide +kernel
theorem dX13_roundEnds_41 : decode cX13_roundEnds 41 = .ok (.goto 16, 3) := by decide +kernel
theorem dX13_roundEnds_44 : decode cX13_roundEnds 44 = .ok (.aload_n 0, 1) := by decide +kernel
theorem dX13_roundEnds_45 : decode cX13_roundEnds 45 = .ok (.aload_n 1, 1) := by decide +kernel
theorem dX13_roundEnds_46 : decode cX13_roundEnds 46 = .ok (.iload_n 2, 1) := by decide +kernel
theorem dX13_roundEnds_47 : decode cX13_roundEnds 47 = .ok (.invokevirtual 344, 3) := by decide +kernel
theorem dX13_roundEnds_50 : decode cX13_roundEnds 50 = .ok (.pop, 1) := by decide +kernel
theorem dX13_roundEnds_51 : decode cX13_roundEnds 51 = .ok (.aload_n 0, 1) := by decide +kernel
theorem dX13_roundEnds_52 : decode cX13_roundEnds 52 = .ok (.aload_n 1, 1) := by decide +kernel
theorem dX13_roundEnds_53 : decode cX13_roundEnds 53 = .ok (.iload_n 2, 1) := by decide +kernel
theorem dX13_roundEnds_54 : decode cX13_roundEnds 54 = .ok (.invokevirtual 329, 3) := by decide +kernel
theorem dX13_roundEnds_57 : decode cX13_roundEnds 57 = .ok (.iinc 2 1, 3) := by decide +kernel
theorem dX13_roundEnds_60 : decode cX13_roundEnds 60 = .ok (.goto (-58), 3) := by decide +kernel
theorem dX13_roundEnds_63 : decode cX13_roundEnds 63 = .ok (.iconst 0, 1) := by decide +kernel
theorem dX13_roundEnds_64 : decode cX13_roundEnds 64 = .ok (.istore_n 2, 1) := by decide +kernel
theorem dX13_roundEnds_65 : decode cX13_roundEnds 65 = .ok (.iload_n 2, 1) := by decide +kernel
theorem dX13_roundEnds_66 : decode cX13_roundEnds 66 = .ok (.bipush 64, 2) := by decide +kernel
theorem dX13_roundEnds_68 : decode cX13_roundEnds 68 = .ok (.if_icmp .ge 43, 3) := by decide +kernel
theorem dX13_roundEnds_71 : decode cX13_roundEnds 71 = .ok (.aload_n 1, 1) := by decide +kernel
theorem dX13_roundEnds_72 : decode cX13_roundEnds 72 = .ok (.sipush 384, 3) := by decide +kernel
theorem dX13_roundEnds_75 : decode cX13_roundEnds 75 = .ok (.iload_n 2, 1) := by decide +kernel
theorem dX13_roundEnds_76 : decode cX13_roundEnds 76 = .ok (.iadd, 1) := by decide +kernel
theorem dX13_roundEnds_77 : decode cX13_roundEnds 77 = .ok (.sipush 9999, 3) := by decide +kernel
theorem dX13_roundEnds_80 : decode cX13_roundEnds 80 = .ok (.aload_n 1, 1) := by decide +kernel
theorem dX13_roundEnds_81 : decode cX13_roundEnds 81 = .ok (.sipush 384, 3) := by decide +kernel
theorem dX13_roundEnds_84 : decode cX13_roundEnds 84 = .ok (.iload_n 2, 1) := by decide +kernel
theorem dX13_roundEnds_85 : decode cX13_roundEnds 85 = .ok (.iadd, 1) := by decide +kernel
theorem dX13_roundEnds_86 : decode cX13_roundEnds 86 = .ok (.iaload, 1) := by decide +kernel
theorem dX13_roundEnds_87 : decode cX13_roundEnds 87 = .ok (.aload_n 0, 1) := by decide +kernel
theorem dX13_roundEnds_88 : decode cX13_roundEnds 88 = .ok (.aload_n 1, 1) := by decide +kernel
theorem dX13_roundEnds_89 : decode cX13_roundEnds 89 = .ok (.iload_n 2, 1) := by decide +kernel
theorem dX13_roundEnds_90 : decode cX13_roundEnds 90 = .ok (.invokevirtual 335, 3) := by decide +kernel
theorem dX13_roundEnds_93 : decode cX13_roundEnds 93 = .ok (.aload_n 0, 1) := by decide +kernel
theorem dX13_roundEnds_94 : decode cX13_roundEnds 94 = .ok (.getfield 23, 3) := by decide +kernel
theorem dX13_roundEnds_97 : decode cX13_roundEnds 97 = .ok (.iconst 3, 1) := by decide +kernel
theorem dX13_roundEnds_98 : decode cX13_roundEnds 98 = .ok (.iaload, 1) := by decide +kernel
theorem dX13_roundEnds_99 : decode cX13_roundEnds 99 = .ok (.imul, 1) := by decide +kernel
theorem dX13_roundEnds_100 : decode cX13_roundEnds 100 = .ok (.iadd, 1) := by decide +kernel
theorem dX13_roundEnds_101 : decode cX13_roundEnds 101 = .ok (.invokestatic 259, 3) := by decide +kernel
theorem dX13_roundEnds_104 : decode cX13_roundEnds 104 = .ok (.iastore, 1) := by decide +kernel
theorem dX13_roundEnds_105 : decode cX13_roundEnds 105 = .ok (.iinc 2 1, 3) := by decide +kernel
theorem dX13_roundEnds_108 : decode cX13_roundEnds 108 = .ok (.goto (-43), 3) := by decide +kernel
theorem dX13_roundEnds_111 : decode cX13_roundEnds 111 = .ok (.aload_n 1, 1) := by decide +kernel
theorem dX13_roundEnds_112 : decode cX13_roundEnds 112 = .ok (.sipush 518, 3) := by decide +kernel
theorem dX13_roundEnds_115 : decode cX13_roundEnds 115 = .ok (.dup2, 1) := by decide +kernel
theorem dX13_roundEnds_116 : decode cX13_roundEnds 116 = .ok (.iaload, 1) := by decide +kernel
theorem dX13_roundEnds_117 : decode cX13_roundEnds 117 = .ok (.iconst 1, 1) := by decide +kernel
theorem dX13_roundEnds_118 : decode cX13_roundEnds 118 = .ok (.iadd, 1) := by decide +kernel
theorem dX13_roundEnds_119 : decode cX13_roundEnds 119 = .ok (.iastore, 1) := by decide +kernel
theorem dX13_roundEnds_120 : decode cX13_roundEnds 120 = .ok (.return_, 1) := by decide +kernel
theorem dX13_season_0 : decode cX13_season 0 = .ok (.aload_n 0, 1) := by decide +kernel
theorem dX13_season_1 : decode cX13_season 1 = .ok (.iconst 0, 1) := by decide +kernel
theorem dX13_season_2 : decode cX13_season 2 = .ok (.putfield 107, 3) := by decide +kernel
theorem dX13_season_5 : decode cX13_season 5 = .ok (.aload_n 0, 1) := by decide +kernel
theorem dX13_season_6 : decode cX13_season 6 = .ok (.iload_n 2, 1) := by decide +kernel
theorem dX13_season_7 : decode cX13_season 7 = .ok (.iload_n 3, 1) := by decide +kernel
theorem dX13_season_8 : decode cX13_season 8 = .ok (.invokestatic 456, 3) := by decide +kernel
theorem dX13_season_11 : decode cX13_season 11 = .ok (.ifCond .eq 13, 3) := by decide +kernel
theorem dX13_season_14 : decode cX13_season 14 = .ok (.iload 4, 2) := by decide +kernel
theorem dX13_season_16 : decode cX13_season 16 = .ok (.iconst 0, 1) := by decide +kernel
theorem dX13_season_17 : decode cX13_season 17 = .ok (.iconst 3, 1) := by decide +kernel
theorem dX13_season_18 : decode cX13_season 18 = .ok (.invokestatic 141, 3) := by decide +kernel
theorem dX13_season_21 : decode cX13_season 21 = .ok (.ifCond .ne 7, 3) := by decide +kernel
theorem dX13_season_24 : decode cX13_season 24 = .ok (.iconst 1, 1) := by decide +kernel
theorem dX13_season_25 : decode cX13_season 25 = .ok (.goto 4, 3) := by decide +kernel
theorem dX13_season_28 : decode cX13_season 28 = .ok (.iconst 0, 1) := by decide +kernel
theorem dX13_season_29 : decode cX13_season 29 = .ok (.iconst 1, 1) := by decide +kernel
theorem dX13_season_30 : decode cX13_season 30 = .ok (.iconst 1, 1) := by decide +kernel
theorem dX13_season_31 : decode cX13_season 31 = .ok (.invokevirtual 186, 3) := by decide +kernel
theorem dX13_season_34 : decode cX13_season 34 = .ok (.ifCond .eq 5, 3) := by decide +kernel
theorem dX13_season_37 : decode cX13_season 37 = .ok (.iconst 0, 1) := by decide +kernel
theorem dX13_season_38 : decode cX13_season 38 = .ok (.ireturn, 1) := by decide +kernel
theorem dX13_season_39 : decode cX13_season 39 = .ok (.aload_n 0, 1) := by decide +kernel
theorem dX13_season_40 : decode cX13_season 40 = .ok (.iload_n 1, 1) := by decide +kernel
theorem dX13_season_41 : decode cX13_season 41 = .ok (.iload_n 2, 1) := by decide +kernel
theorem dX13_season_42 : decode cX13_season 42 = .ok (.iload_n 3, 1) := by decide +kernel
theorem dX13_season_43 : decode cX13_season 43 = .ok (.invokevirtual 459, 3) := by decide +kernel
theorem dX13_season_46 : decode cX13_season 46 = .ok (.iload 4, 2) := by decide +kernel
theorem dX13_season_48 : decode cX13_season 48 = .ok (.ifCond .ne 14, 3) := by decide +kernel
theorem dX13_season_51 : decode cX13_season 51 = .ok (.aload_n 0, 1) := by decide +kernel
theorem dX13_season_52 : decode cX13_season 52 = .ok (.aload_n 0, 1) := by decide +kernel
theorem dX13_season_53 : decode cX13_season 53 = .ok (.getfield 73, 3) := by decide +kernel
theorem dX13_season_56 : decode cX13_season 56 = .ok (.invokevirtual 387, 3) := by decide +kernel
theorem dX13_season_59 : decode cX13_season 59 = .ok (.goto 45, 3) := by decide +kernel
theorem dX13_season_62 : decode cX13_season 62 = .ok (.iload 4, 2) := by decide +kernel
theorem dX13_season_64 : decode cX13_season 64 = .ok (.iconst 1, 1) := by decide +kernel
theorem dX13_season_65 : decode cX13_season 65 = .ok (.if_icmp .ne 14, 3) := by decide +kernel
theorem dX13_season_68 : decode cX13_season 68 = .ok (.aload_n 0, 1) := by decide +kernel
theorem dX13_season_69 : decode cX13_season 69 = .ok (.aload_n 0, 1) := by decide +kernel
theorem dX13_season_70 : decode cX13_season 70 = .ok (.getfield 73, 3) := by decide +kernel
theorem dX13_season_73 : decode cX13_season 73 = .ok (.invokevirtual 383, 3) := by decide +kernel
theorem dX13_season_76 : decode cX13_season 76 = .ok (.goto 28, 3) := by decide +kernel
theorem dX13_season_79 : decode cX13_season 79 = .ok (.iload 4, 2) := by decide +kernel
theorem dX13_season_81 : decode cX13_season 81 = .ok (.iconst 2, 1) := by decide +kernel
theorem dX13_season_82 : decode cX13_season 82 = .ok (.if_icmp .ne 14, 3) := by decide +kernel
theorem dX13_season_85 : decode cX13_season 85 = .ok (.aload_n 0, 1) := by decide +kernel
theorem dX13_season_86 : decode cX13_season 86 = .ok (.getfield 73, 3) := by decide +kernel
theorem dX13_season_89 : decode cX13_season 89 = .ok (.sipush 518, 3) := by decide +kernel
theorem dX13_season_92 : decode cX13_season 92 = .ok (.iaload, 1) := by decide +kernel
theorem dX13_season_93 : decode cX13_season 93 = .ok (.goto 11, 3) := by decide +kernel
theorem dX13_season_96 : decode cX13_season 96 = .ok (.aload_n 0, 1) := by decide +kernel
theorem dX13_season_97 : decode cX13_season 97 = .ok (.aload_n 0, 1) := by decide +kernel
theorem dX13_season_98 : decode cX13_season 98 = .ok (.getfield 73, 3) := by decide +kernel
theorem dX13_season_101 : decode cX13_season 101 = .ok (.invokevirtual 403, 3) := by decide +kernel
theorem dX13_season_104 : decode cX13_season 104 = .ok (.ireturn, 1) := by decide +kernel
theorem dX13_seasonBy_0 : decode cX13_seasonBy 0 = .ok (.aload_n 0, 1) := by decide +kernel
theorem dX13_seasonBy_1 : decode cX13_seasonBy 1 = .ok (.getfield 70, 3) := by decide +kernel
theorem dX13_seasonBy_4 : decode cX13_seasonBy 4 = .ok (.aload_n 0, 1) := by decide +kernel
theorem dX13_seasonBy_5 : decode cX13_seasonBy 5 = .ok (.getfield 73, 3) := by decide +kernel
theorem dX13_seasonBy_8 : decode cX13_seasonBy 8 = .ok (.invokestatic 379, 3) := by decide +kernel
theorem dX13_seasonBy_11 : decode cX13_seasonBy 11 = .ok (.aload_n 0, 1) := by decide +kernel
theorem dX13_seasonBy_12 : decode cX13_seasonBy 12 = .ok (.iload_n 1, 1) := by decide +kernel
theorem dX13_seasonBy_13 : decode cX13_seasonBy 13 = .ok (.putfield 446, 3) := by decide +kernel
theorem dX13_seasonBy_16 : decode cX13_seasonBy 16 = .ok (.iconst 0, 1) := by decide +kernel
theorem dX13_seasonBy_17 : decode cX13_seasonBy 17 = .ok (.istore 4, 2) := by decide +kernel
theorem dX13_seasonBy_19 : decode cX13_seasonBy 19 = .ok (.iload 4, 2) := by decide +kernel
theorem dX13_seasonBy_21 : decode cX13_seasonBy 21 = .ok (.iload_n 2, 1) := by decide +kernel
theorem dX13_seasonBy_22 : decode cX13_seasonBy 22 = .ok (.if_icmp .ge 27, 3) := by decide +kernel
theorem dX13_seasonBy_25 : decode cX13_seasonBy 25 = .ok (.aload_n 0, 1) := by decide +kernel
theorem dX13_seasonBy_26 : decode cX13_seasonBy 26 = .ok (.getfield 23, 3) := by decide +kernel
theorem dX13_seasonBy_29 : decode cX13_seasonBy 29 = .ok (.iconst 2, 1) := by decide +kernel
theorem dX13_seasonBy_30 : decode cX13_seasonBy 30 = .ok (.iaload, 1) := by decide +kernel
theorem dX13_seasonBy_31 : decode cX13_seasonBy 31 = .ok (.ifCond .le 18, 3) := by decide +kernel
theorem dX13_seasonBy_34 : decode cX13_seasonBy 34 = .ok (.aload_n 0, 1) := by decide +kernel
theorem dX13_seasonBy_35 : decode cX13_seasonBy 35 = .ok (.aload_n 0, 1) := by decide +kernel
theorem dX13_seasonBy_36 : decode cX13_seasonBy 36 = .ok (.getfield 73, 3) := by decide +kernel
theorem dX13_seasonBy_39 : decode cX13_seasonBy 39 = .ok (.iload_n 3, 1) := by decide +kernel
theorem dX13_seasonBy_40 : decode cX13_seasonBy 40 = .ok (.invokevirtual 453, 3) := by decide +kernel
theorem dX13_seasonBy_43 : decode cX13_seasonBy 43 = .ok (.iinc 4 1, 3) := by decide +kernel
theorem dX13_seasonBy_46 : decode cX13_seasonBy 46 = .ok (.goto (-27), 3) := by decide +kernel
theorem dX13_seasonBy_49 : decode cX13_seasonBy 49 = .ok (.return_, 1) := by decide +kernel
theorem dX13_settled_0 : decode cX13_settled 0 = .ok (.aload_n 0, 1) := by decide +kernel
theorem dX13_settled_1 : decode cX13_settled 1 = .ok (.iconst 0, 1) := by decide +kernel
theorem dX13_settled_2 : decode cX13_settled 2 = .ok (.putfield 107, 3) := by decide +kernel
theorem dX13_settled_5 : decode cX13_settled 5 = .ok (.aload_n 0, 1) := by decide +kernel
theorem dX13_settled_6 : decode cX13_settled 6 = .ok (.getfield 70, 3) := by decide +kernel
theorem dX13_settled_9 : decode cX13_settled 9 = .ok (.aload_n 0, 1) := by decide +kernel
theorem dX13_settled_10 : decode cX13_settled 10 = .ok (.getfield 73, 3) := by decide +kernel
theorem dX13_settled_13 : decode cX13_settled 13 = .ok (.invokestatic 379, 3) := by decide +kernel
theorem dX13_settled_16 : decode cX13_settled 16 = .ok (.iconst 0, 1) := by decide +kernel
theorem dX13_settled_17 : decode cX13_settled 17 = .ok (.istore_n 1, 1) := by decide +kernel
theorem dX13_settled_18 : decode cX13_settled 18 = .ok (.iload_n 1, 1) := by decide +kernel
theorem dX13_settled_19 : decode cX13_settled 19 = .ok (.bipush 40, 2) := by decide +kernel
theorem dX13_settled_21 : decode cX13_settled 21 = .ok (.if_icmp .gt 30, 3) := by decide +kernel
theorem dX13_settled_24 : decode cX13_settled 24 = .ok (.aload_n 0, 1) := by decide +kernel
theorem dX13_settled_25 : decode cX13_settled 25 = .ok (.aload_n 0, 1) := by decide +kernel
theorem dX13_settled_26 : decode cX13_settled 26 = .ok (.getfield 73, 3) := by decide +kernel
theorem dX13_settled_29 : decode cX13_settled 29 = .ok (.invokevirtual 396, 3) := by decide +kernel
theorem dX13_settled_32 : decode cX13_settled 32 = .ok (.ifCond .eq 5, 3) := by decide +kernel
theorem dX13_settled_35 : decode cX13_settled 35 = .ok (.iload_n 1, 1) := by decide +kernel
theorem dX13_settled_36 : decode cX13_settled 36 = .ok (.ireturn, 1) := by decide +kernel
theorem dX13_settled_37 : decode cX13_settled 37 = .ok (.aload_n 0, 1) := by decide +kernel
theorem dX13_settled_38 : decode cX13_settled 38 = .ok (.aload_n 0, 1) := by decide +kernel
theorem dX13_settled_39 : decode cX13_settled 39 = .ok (.getfield 73, 3) := by decide +kernel
theorem dX13_settled_42 : decode cX13_settled 42 = .ok (.invokevirtual 347, 3) := by decide +kernel
theorem dX13_settled_45 : decode cX13_settled 45 = .ok (.iinc 1 1, 3) := by decide +kernel
theorem dX13_settled_48 : decode cX13_settled 48 = .ok (.goto (-30), 3) := by decide +kernel
theorem dX13_settled_51 : decode cX13_settled 51 = .ok (.iconst (-1), 1) := by decide +kernel
theorem dX13_settled_52 : decode cX13_settled 52 = .ok (.ireturn, 1) := by decide +kernel
theorem dX13_shed_0 : decode cX13_shed 0 = .ok (.aload_n 0, 1) := by decide +kernel
theorem dX13_shed_1 : decode cX13_shed 1 = .ok (.iconst 0, 1) := by decide +kernel
theorem dX13_shed_2 : decode cX13_shed 2 = .ok (.putfield 107, 3) := by decide +kernel
theorem dX13_shed_5 : decode cX13_shed 5 = .ok (.aload_n 0, 1) := by decide +kernel
theorem dX13_shed_6 : decode cX13_shed 6 = .ok (.aload_n 0, 1) := by decide +kernel
theorem dX13_shed_7 : decode cX13_shed 7 = .ok (.iload_n 1, 1) := by decide +kernel
theorem dX13_shed_8 : decode cX13_shed 8 = .ok (.invokevirtual 412, 3) := by decide +kernel
theorem dX13_shed_11 : decode cX13_shed 11 = .ok (.ifCond .ne 7, 3) := by decide +kernel
theorem dX13_shed_14 : decode cX13_shed 14 = .ok (.iconst 1, 1) := by decide +kernel
theorem dX13_shed_15 : decode cX13_shed 15 = .ok (.goto 4, 3) := by decide +kernel
theorem dX13_shed_18 : decode cX13_shed 18 = .ok (.iconst 0, 1) := by decide +kernel
theorem dX13_shed_19 : decode cX13_shed 19 = .ok (.iconst 1, 1) := by decide +kernel
theorem dX13_shed_20 : decode cX13_shed 20 = .ok (.iconst 0, 1) := by decide +kernel
theorem dX13_shed_21 : decode cX13_shed 21 = .ok (.invokevirtual 186, 3) := by decide +kernel
theorem dX13_shed_24 : decode cX13_shed 24 = .ok (.ifCond .eq 5, 3) := by decide +kernel
theorem dX13_shed_27 : decode cX13_shed 27 = .ok (.iconst 0, 1) := by decide +kernel
theorem dX13_shed_28 : decode cX13_shed 28 = .ok (.ireturn, 1) := by decide +kernel
theorem dX13_shed_29 : decode cX13_shed 29 = .ok (.aload_n 0, 1) := by decide +kernel
theorem dX13_shed_30 : decode cX13_shed 30 = .ok (.getfield 70, 3) := by decide +kernel
theorem dX13_shed_33 : decode cX13_shed 33 = .ok (.aload_n 0, 1) := by decide +kernel
theorem dX13_shed_34 : decode cX13_shed 34 = .ok (.getfield 73, 3) := by decide +kernel
theorem dX13_shed_37 : decode cX13_shed 37 = .ok (.invokestatic 379, 3) := by decide +kernel
theorem dX13_shed_40 : decode cX13_shed 40 = .ok (.aload_n 0, 1) := by decide +kernel
theorem dX13_shed_41 : decode cX13_shed 41 = .ok (.getfield 40, 3) := by decide +kernel
theorem dX13_shed_44 : decode cX13_shed 44 = .ok (.iload_n 1, 1) := by decide +kernel
theorem dX13_shed_45 : decode cX13_shed 45 = .ok (.aaload, 1) := by decide +kernel
theorem dX13_shed_46 : decode cX13_shed 46 = .ok (.iconst 2, 1) := by decide +kernel
theorem dX13_shed_47 : decode cX13_shed 47 = .ok (.iaload, 1) := by decide +kernel
theorem dX13_shed_48 : decode cX13_shed 48 = .ok (.ifCond .ne 7, 3) := by decide +kernel
theorem dX13_shed_51 : decode cX13_shed 51 = .ok (.iconst 0, 1) := by decide +kernel
theorem dX13_shed_52 : decode cX13_shed 52 = .ok (.goto 12, 3) := by decide +kernel
theorem dX13_shed_55 : decode cX13_shed 55 = .ok (.aload_n 0, 1) := by decide +kernel
theorem dX13_shed_56 : decode cX13_shed 56 = .ok (.aload_n 0, 1) := by decide +kernel
theorem dX13_shed_57 : decode cX13_shed 57 = .ok (.getfield 73, 3) := by decide +kernel
theorem dX13_shed_60 : decode cX13_shed 60 = .ok (.iload_n 1, 1) := by decide +kernel
theorem dX13_shed_61 : decode cX13_shed 61 = .ok (.invokevirtual 344, 3) := by decide +kernel
theorem dX13_shed_64 : decode cX13_shed 64 = .ok (.ireturn, 1) := by decide +kernel
theorem dX13_sheds_0 : decode cX13_sheds 0 = .ok (.iconst 0, 1) := by decide +kernel
theorem dX13_sheds_1 : decode cX13_sheds 1 = .ok (.istore_n 3, 1) := by decide +kernel
theorem dX13_sheds_2 : decode cX13_sheds 2 = .ok (.iconst 0, 1) := by decide +kernel
theorem dX13_sheds_3 : decode cX13_sheds 3 = .ok (.istore 4, 2) := by decide +kernel
theorem dX13_sheds_5 : decode cX13_sheds 5 = .ok (.iload 4, 2) := by decide +kernel
theorem dX13_sheds_7 : decode cX13_sheds 7 = .ok (.bipush 64, 2) := by decide +kernel
theorem dX13_sheds_9 : decode cX13_sheds 9 = .ok (.if_icmp .ge 42, 3) := by decide +kernel
theorem dX13_sheds_12 : decode cX13_sheds 12 = .ok (.aload_n 0, 1) := by decide +kernel
theorem dX13_sheds_13 : decode cX13_sheds 13 = .ok (.getfield 91, 3) := by decide +kernel
theorem dX13_sheds_16 : decode cX13_sheds 16 = .ok (.iload 4, 2) := by decide +kernel
theorem dX13_sheds_18 : decode cX13_sheds 18 = .ok (.aload_n 1, 1) := by decide +kernel
theorem dX13_sheds_19 : decode cX13_sheds 19 = .ok (.iload_n 2, 1) := by decide +kernel
theorem dX13_sheds_20 : decode cX13_sheds 20 = .ok (.iload 4, 2) := by decide +kernel
theorem dX13_sheds_22 : decode cX13_sheds 22 = .ok (.invokestatic 287, 3) := by decide +kernel
theorem dX13_sheds_25 : decode cX13_sheds 25 = .ok (.ifCond .eq 18, 3) := by decide +kernel
theorem dX13_sheds_28 : decode cX13_sheds 28 = .ok (.aload_n 0, 1) := by decide +kernel
theorem dX13_sheds_29 : decode cX13_sheds 29 = .ok (.aload_n 1, 1) := by decide +kernel
theorem dX13_sheds_30 : decode cX13_sheds 30 = .ok (.iload_n 2, 1) := by decide +kernel
theorem dX13_sheds_31 : decode cX13_sheds 31 = .ok (.iload 4, 2) := by decide +kernel
theorem dX13_sheds_33 : decode cX13_sheds 33 = .ok (.invokevirtual 338, 3) := by decide +kernel
theorem dX13_sheds_36 : decode cX13_sheds 36 = .ok (.ifCond .eq 7, 3) := by decide +kernel
theorem dX13_sheds_39 : decode cX13_sheds 39 = .ok (.iconst 1, 1) := by decide +kernel
theorem dX13_sheds_40 : decode cX13_sheds 40 = .ok (.goto 4, 3) := by decide +kernel
theorem dX13_sheds_43 : decode cX13_sheds 43 = .ok (.iconst 0, 1) := by decide +kernel
theorem dX13_sheds_44 : decode cX13_sheds 44 = .ok (.bastore, 1) := by decide +kernel
theorem dX13_sheds_45 : decode cX13_sheds 45 = .ok (.iinc 4 1, 3) := by decide +kernel
theorem dX13_sheds_48 : decode cX13_sheds 48 = .ok (.goto (-43), 3) := by decide +kernel
theorem dX13_sheds_51 : decode cX13_sheds 51 = .ok (.iconst 0, 1) := by decide +kernel
theorem dX13_sheds_52 : decode cX13_sheds 52 = .ok (.istore 4, 2) := by decide +kernel
theorem dX13_sheds_54 : decode cX13_sheds 54 = .ok (.iload 4, 2) := by decide +kernel
theorem dX13_sheds_56 : decode cX13_sheds 56 = .ok (.bipush 64, 2) := by decide +kernel
theorem dX13_sheds_58 : decode cX13_sheds 58 = .ok (.if_icmp .ge 28, 3) := by decide +kernel
theorem dX13_sheds_61 : decode cX13_sheds 61 = .ok (.aload_n 0, 1) := by decide +kernel
theorem dX13_sheds_62 : decode cX13_sheds 62 = .ok (.getfield 91, 3) := by decide +kernel
theorem dX13_sheds_65 : decode cX13_sheds 65 = .ok (.iload 4, 2) := by decide +kernel
theorem dX13_sheds_67 : decode cX13_sheds 67 = .ok (.baload, 1) := by decide +kernel
theorem dX13_sheds_68 : decode cX13_sheds 68 = .ok (.ifCond .ne 12, 3) := by decide +kernel
theorem dX13_sheds_71 : decode cX13_sheds 71 = .ok (.aload_n 1, 1) := by decide +kernel
theorem dX13_sheds_72 : decode cX13_sheds 72 = .ok (.iload_n 2, 1) := by decide +kernel
theorem dX13_sheds_73 : decode cX13_sheds 73 = .ok (.iload 4, 2) := by decide +kernel
theorem dX13_sheds_75 : decode cX13_sheds 75 = .ok (.invokestatic 284, 3) := by decide +kernel
theorem dX13_sheds_78 : decode cX13_sheds 78 = .ok (.iconst (-1), 1) := by decide +kernel
theorem dX13_sheds_79 : decode cX13_sheds 79 = .ok (.iastore, 1) := by decide +kernel
theorem dX13_sheds_80 : decode cX13_sheds 80 = .ok (.iinc 4 1, 3) := by decide +kernel
theorem dX13_sheds_83 : decode cX13_sheds 83 = .ok (.goto (-29), 3) := by decide +kernel
theorem dX13_sheds_86 : decode cX13_sheds 86 = .ok (.aload_n 1, 1) := by decide +kernel
theorem dX13_sheds_87 : decode cX13_sheds 87 = .ok (.iload_n 2, 1) := by decide +kernel
theorem dX13_sheds_88 : decode cX13_sheds 88 = .ok (.aload_n 0, 1) := by decide +kernel
theorem dX13_sheds_89 : decode cX13_sheds 89 = .ok (.getfield 46, 3) := by decide +kernel
theorem dX13_sheds_92 : decode cX13_sheds 92 = .ok (.iload_n 2, 1) := by decide +kernel
theorem dX13_sheds_93 : decode cX13_sheds 93 = .ok (.aaload, 1) := by decide +kernel
theorem dX13_sheds_94 : decode cX13_sheds 94 = .ok (.iconst 0, 1) := by decide +kernel
theorem dX13_sheds_95 : decode cX13_sheds 95 = .ok (.iaload, 1) := by decide +kernel
theorem dX13_sheds_96 : decode cX13_sheds 96 = .ok (.invokestatic 284, 3) := by decide +kernel
theorem dX13_sheds_99 : decode cX13_sheds 99 = .ok (.iconst 4, 1) := by decide +kernel
theorem dX13_sheds_100 : decode cX13_sheds 100 = .ok (.iastore, 1) := by decide +kernel
theorem dX13_sheds_101 : decode cX13_sheds 101 = .ok (.iconst 0, 1) := by decide +kernel
theorem dX13_sheds_102 : decode cX13_sheds 102 = .ok (.istore 4, 2) := by decide +kernel
theorem dX13_sheds_104 : decode cX13_sheds 104 = .ok (.iload 4, 2) := by decide +kernel
theorem dX13_sheds_106 : decode cX13_sheds 106 = .ok (.bipush 64, 2) := by decide +kernel
theorem dX13_sheds_108 : decode cX13_sheds 108 = .ok (.if_icmp .ge 27, 3) := by decide +kernel
theorem dX13_sheds_111 : decode cX13_sheds 111 = .ok (.iload_n 3, 1) := by decide +kernel
theorem dX13_sheds_112 : decode cX13_sheds 112 = .ok (.aload_n 1, 1) := by decide +kernel
theorem dX13_sheds_113 : decode cX13_sheds 113 = .ok (.iload_n 2, 1) := by decide +kernel
theorem dX13_sheds_114 : decode cX13_sheds 114 = .ok (.iload 4, 2) := by decide +kernel
theorem dX13_sheds_116 : decode cX13_sheds 116 = .ok (.invokestatic 287, 3) := by decide +kernel
theorem dX13_sheds_119 : decode cX13_sheds 119 = .ok (.ifCond .eq 7, 3) := by decide +kernel
theorem dX13_sheds_122 : decode cX13_sheds 122 = .ok (.iconst 1, 1) := by decide +kernel
theorem dX13_sheds_123 : decode cX13_sheds 123 = .ok (.goto 4, 3) := by decide +kernel
theorem dX13_sheds_126 : decode cX13_sheds 126 = .ok (.iconst 0, 1) := by decide +kernel
theorem dX13_sheds_127 : decode cX13_sheds 127 = .ok (.iadd, 1) := by decide +kernel
theorem dX13_sheds_128 : decode cX13_sheds 128 = .ok (.istore_n 3, 1) := by decide +kernel
theorem dX13_sheds_129 : decode cX13_sheds 129 = .ok (.iinc 4 1, 3) := by decide +kernel
theorem dX13_sheds_132 : decode cX13_sheds 132 = .ok (.goto (-28), 3) := by decide +kernel
theorem dX13_sheds_135 : decode cX13_sheds 135 = .ok (.iload_n 3, 1) := by decide +kernel
theorem dX13_sheds_136 : decode cX13_sheds 136 = .ok (.ireturn, 1) := by decide +kernel
theorem dX13_sign_0 : decode cX13_sign 0 = .ok (.aload_n 0, 1) := by decide +kernel
theorem dX13_sign_1 : decode cX13_sign 1 = .ok (.getfield 123, 3) := by decide +kernel
theorem dX13_sign_4 : decode cX13_sign 4 = .ok (.ifCond .eq 4, 3) := by decide +kernel
theorem dX13_sign_7 : decode cX13_sign 7 = .ok (.return_, 1) := by decide +kernel
theorem dX13_sign_8 : decode cX13_sign 8 = .ok (.aload_n 0, 1) := by decide +kernel
theorem dX13_sign_9 : decode cX13_sign 9 = .ok (.invokevirtual 129, 3) := by decide +kernel
theorem dX13_sign_12 : decode cX13_sign 12 = .ok (.aload_n 0, 1) := by decide +kernel
theorem dX13_sign_13 : decode cX13_sign 13 = .ok (.aload_n 0, 1) := by decide +kernel
theorem dX13_sign_14 : decode cX13_sign 14 = .ok (.getfield 116, 3) := by decide +kernel
theorem dX13_sign_17 : decode cX13_sign 17 = .ok (.invokevirtual 119, 3) := by decide +kernel
theorem dX13_sign_20 : decode cX13_sign 20 = .ok (.iload_n 1, 1) := by decide +kernel
theorem dX13_sign_21 : decode cX13_sign 21 = .ok (.if_icmp .ne 16, 3) := by decide +kernel
theorem dX13_sign_24 : decode cX13_sign 24 = .ok (.aload_n 0, 1) := by decide +kernel
theorem dX13_sign_25 : decode cX13_sign 25 = .ok (.dup, 1) := by decide +kernel
theorem dX13_sign_26 : decode cX13_sign 26 = .ok (.getfield 116, 3) := by decide +kernel
theorem dX13_sign_29 : decode cX13_sign 29 = .ok (.iconst 1, 1) := by decide +kernel
theorem dX13_sign_30 : decode cX13_sign 30 = .ok (.iadd, 1) := by decide +kernel
theorem dX13_sign_31 : decode cX13_sign 31 = .ok (.putfield 116, 3) := by decide +kernel
theorem dX13_sign_34 : decode cX13_sign 34 = .ok (.goto 12, 3) := by decide +kernel
theorem dX13_sign_37 : decode cX13_sign 37 = .ok (.aload_n 0, 1) := by decide +kernel
theorem dX13_sign_38 : decode cX13_sign 38 = .ok (.iconst 1, 1) := by decide +kernel
theorem dX13_sign_39 : decode cX13_sign 39 = .ok (.aload_n 0, 1) := by decide +kernel
theorem dX13_sign_40 : decode cX13_sign 40 = .ok (.getfield 116, 3) := by decide +kernel
theorem dX13_sign_43 : decode cX13_sign 43 = .ok (.invokevirtual 136, 3) := by decide +kernel
theorem dX13_sign_46 : decode cX13_sign 46 = .ok (.return_, 1) := by decide +kernel
theorem dX13_six_0 : decode cX13_six 0 = .ok (.bipush 27, 2) := by decide +kernel
theorem dX13_six_2 : decode cX13_six 2 = .ok (.bipush 27, 2) := by decide +kernel
theorem dX13_six_4 : decode cX13_six 4 = .ok (.iload_n 0, 1) := by decide +kernel
theorem dX13_six_5 : decode cX13_six 5 = .ok (.imul, 1) := by decide +kernel
theorem dX13_six_6 : decode cX13_six 6 = .ok (.iload_n 1, 1) := by decide +kernel
theorem dX13_six_7 : decode cX13_six 7 = .ok (.iadd, 1) := by decide +kernel
theorem dX13_six_8 : decode cX13_six 8 = .ok (.imul, 1) := by decide +kernel
theorem dX13_six_9 : decode cX13_six 9 = .ok (.iload_n 2, 1) := by decide +kernel
theorem dX13_six_10 : decode cX13_six 10 = .ok (.iadd, 1) := by decide +kernel
theorem dX13_six_11 : decode cX13_six 11 = .ok (.istore 6, 2) := by decide +kernel
theorem dX13_six_13 : decode cX13_six 13 = .ok (.iload_n 3, 1) := by decide +kernel
theorem dX13_six_14 : decode cX13_six 14 = .ok (.ifCond .ne 8, 3) := by decide +kernel
theorem dX13_six_17 : decode cX13_six 17 = .ok (.iload 6, 2) := by decide +kernel
theorem dX13_six_19 : decode cX13_six 19 = .ok (.goto 10, 3) := by decide +kernel
theorem dX13_six_22 : decode cX13_six 22 = .ok (.bipush 27, 2) := by decide +kernel
theorem dX13_six_24 : decode cX13_six 24 = .ok (.iload 6, 2) := by decide +kernel
theorem dX13_six_26 : decode cX13_six 26 = .ok (.imul, 1) := by decide +kernel
theorem dX13_six_27 : decode cX13_six 27 = .ok (.iload_n 3, 1) := by decide +kernel
theorem dX13_six_28 : decode cX13_six 28 = .ok (.iadd, 1) := by decide +kernel
theorem dX13_six_29 : decode cX13_six 29 = .ok (.istore 6, 2) := by decide +kernel
theorem dX13_six_31 : decode cX13_six 31 = .ok (.iload 4, 2) := by decide +kernel
theorem dX13_six_33 : decode cX13_six 33 = .ok (.ifCond .ne 8, 3) := by decide +kernel
theorem dX13_six_36 : decode cX13_six 36 = .ok (.iload 6, 2) := by decide +kernel
theorem dX13_six_38 : decode cX13_six 38 = .ok (.goto 11, 3) := by decide +kernel
theorem dX13_six_41 : decode cX13_six 41 = .ok (.bipush 27, 2) := by decide +kernel
theorem dX13_six_43 : decode cX13_six 43 = .ok (.iload 6, 2) := by decide +kernel
theorem dX13_six_45 : decode cX13_six 45 = .ok (.imul, 1) := by decide +kernel
theorem dX13_six_46 : decode cX13_six 46 = .ok (.iload 4, 2) := by decide +kernel
theorem dX13_six_48 : decode cX13_six 48 = .ok (.iadd, 1) := by decide +kernel
theorem dX13_six_49 : decode cX13_six 49 = .ok (.istore 6, 2) := by decide +kernel
theorem dX13_six_51 : decode cX13_six 51 = .ok (.iload 5, 2) := by decide +kernel
theorem dX13_six_53 : decode cX13_six 53 = .ok (.ifCond .ne 8, 3) := by decide +kernel
theorem dX13_six_56 : decode cX13_six 56 = .ok (.iload 6, 2) := by decide +kernel
theorem dX13_six_58 : decode cX13_six 58 = .ok (.goto 11, 3) := by decide +kernel
theorem dX13_six_61 : decode cX13_six 61 = .ok (.bipush 27, 2) := by decide +kernel
theorem dX13_six_63 : decode cX13_six 63 = .ok (.iload 6, 2) := by decide +kernel
theorem dX13_six_65 : decode cX13_six 65 = .ok (.imul, 1) := by decide +kernel
theorem dX13_six_66 : decode cX13_six 66 = .ok (.iload 5, 2) := by decide +kernel
theorem dX13_six_68 : decode cX13_six 68 = .ok (.iadd, 1) := by decide +kernel
theorem dX13_six_69 : decode cX13_six 69 = .ok (.ireturn, 1) := by decide +kernel
theorem dX13_skipWord_0 : decode cX13_skipWord 0 = .ok (.aload_n 0, 1) := by decide +kernel
theorem dX13_skipWord_1 : decode cX13_skipWord 1 = .ok (.aload_n 0, 1) := by decide +kernel
theorem dX13_skipWord_2 : decode cX13_skipWord 2 = .ok (.getfield 116, 3) := by decide +kernel
theorem dX13_skipWord_5 : decode cX13_skipWord 5 = .ok (.invokevirtual 119, 3) := by decide +kernel
theorem dX13_skipWord_8 : decode cX13_skipWord 8 = .ok (.invokestatic 145, 3) := by decide +kernel
theorem dX13_skipWord_11 : decode cX13_skipWord 11 = .ok (.ifCond .eq 16, 3) := by decide +kernel
theorem dX13_skipWord_14 : decode cX13_skipWord 14 = .ok (.aload_n 0, 1) := by decide +kernel
theorem dX13_skipWord_15 : decode cX13_skipWord 15 = .ok (.dup, 1) := by decide +kernel
theorem dX13_skipWord_16 : decode cX13_skipWord 16 = .ok (.getfield 116, 3) := by decide +kernel
theorem dX13_skipWord_19 : decode cX13_skipWord 19 = .ok (.iconst 1, 1) := by decide +kernel
theorem dX13_skipWord_20 : decode cX13_skipWord 20 = .ok (.iadd, 1) := by decide +kernel
theorem dX13_skipWord_21 : decode cX13_skipWord 21 = .ok (.putfield 116, 3) := by decide +kernel
theorem dX13_skipWord_24 : decode cX13_skipWord 24 = .ok (.goto (-24), 3) := by decide +kernel
theorem dX13_skipWord_27 : decode cX13_skipWord 27 = .ok (.return_, 1) := by decide +kernel
theorem dX13_span_0 : decode cX13_span 0 = .ok (.aload_n 0, 1) := by decide +kernel
theorem dX13_span_1 : decode cX13_span 1 = .ok (.iconst 0, 1) := by decide +kernel
theorem dX13_span_2 : decode cX13_span 2 = .ok (.putfield 107, 3) := by decide +kernel
theorem dX13_span_5 : decode cX13_span 5 = .ok (.aload_n 0, 1) := by decide +kernel
theorem dX13_span_6 : decode cX13_span 6 = .ok (.aload_n 0, 1) := by decide +kernel
theorem dX13_span_7 : decode cX13_span 7 = .ok (.iload 6, 2) := by decide +kernel
theorem dX13_span_9 : decode cX13_span 9 = .ok (.invokevirtual 412, 3) := by decide +kernel
theorem dX13_span_12 : decode cX13_span 12 = .ok (.ifCond .ne 7, 3) := by decide +kernel
theorem dX13_span_15 : decode cX13_span 15 = .ok (.iconst 1, 1) := by decide +kernel
theorem dX13_span_16 : decode cX13_span 16 = .ok (.goto 4, 3) := by decide +kernel
theorem dX13_span_19 : decode cX13_span 19 = .ok (.iconst 0, 1) := by decide +kernel
theorem dX13_span_20 : decode cX13_span 20 = .ok (.iconst 1, 1) := by decide +kernel
theorem dX13_span_21 : decode cX13_span 21 = .ok (.iconst 0, 1) := by decide +kernel
theorem dX13_span_22 : decode cX13_span 22 = .ok (.invokevirtual 186, 3) := by decide +kernel
theorem dX13_span_25 : decode cX13_span 25 = .ok (.ifCond .ne 45, 3) := by decide +kernel
theorem dX13_span_28 : decode cX13_span 28 = .ok (.aload_n 0, 1) := by decide +kernel
theorem dX13_span_29 : decode cX13_span 29 = .ok (.iload_n 2, 1) := by decide +kernel
theorem dX13_span_30 : decode cX13_span 30 = .ok (.iconst 1, 1) := by decide +kernel
theorem dX13_span_31 : decode cX13_span 31 = .ok (.iconst 5, 1) := by decide +kernel
theorem dX13_span_32 : decode cX13_span 32 = .ok (.invokestatic 141, 3) := by decide +kernel
theorem dX13_span_35 : decode cX13_span 35 = .ok (.ifCond .eq 22, 3) := by decide +kernel
theorem dX13_span_38 : decode cX13_span 38 = .ok (.iload_n 3, 1) := by decide +kernel
theorem dX13_span_39 : decode cX13_span 39 = .ok (.iload 4, 2) := by decide +kernel
theorem dX13_span_41 : decode cX13_span 41 = .ok (.invokestatic 456, 3) := by decide +kernel
theorem dX13_span_44 : decode cX13_span 44 = .ok (.ifCond .eq 13, 3) := by decide +kernel
theorem dX13_span_47 : decode cX13_span 47 = .ok (.iload 5, 2) := by decide +kernel
theorem dX13_span_49 : decode cX13_span 49 = .ok (.iconst 0, 1) := by decide +kernel
theorem dX13_span_50 : decode cX13_span 50 = .ok (.iconst 2, 1) := by decide +kernel
theorem dX13_span_51 : decode cX13_span 51 = .ok (.invokestatic 141, 3) := by decide +kernel
theorem dX13_span_54 : decode cX13_span 54 = .ok (.ifCond .ne 7, 3) := by decide +kernel
theorem dX13_span_57 : decode cX13_span 57 = .ok (.iconst 1, 1) := by decide +kernel
theorem dX13_span_58 : decode cX13_span 58 = .ok (.goto 4, 3) := by decide +kernel
theorem dX13_span_61 : decode cX13_span 61 = .ok (.iconst 0, 1) := by decide +kernel
theorem dX13_span_62 : decode cX13_span 62 = .ok (.iconst 2, 1) := by decide +kernel
theorem dX13_span_63 : decode cX13_span 63 = .ok (.iconst 1, 1) := by decide +kernel
theorem dX13_span_64 : decode cX13_span 64 = .ok (.invokevirtual 186, 3) := by decide +kernel
theorem dX13_span_67 : decode cX13_span 67 = .ok (.ifCond .eq 5, 3) := by decide +kernel
theorem dX13_span_70 : decode cX13_span 70 = .ok (.iconst 0, 1) := by decide +kernel
theorem dX13_span_71 : decode cX13_span 71 = .ok (.ireturn, 1) := by decide +kernel
theorem dX13_span_72 : decode cX13_span 72 = .ok (.iconst (-1), 1) := by decide +kernel
theorem dX13_span_73 : decode cX13_span 73 = .ok (.istore 7, 2) := by decide +kernel
theorem dX13_span_75 : decode cX13_span 75 = .ok (.iconst 0, 1) := by decide +kernel
theorem dX13_span_76 : decode cX13_span 76 = .ok (.istore 8, 2) := by decide +kernel
theorem dX13_span_78 : decode cX13_span 78 = .ok (.iconst 0, 1) := by decide +kernel
theorem dX13_span_79 : decode cX13_span 79 = .ok (.istore 9, 2) := by decide +kernel
theorem dX13_span_81 : decode cX13_span 81 = .ok (.iconst 0, 1) := by decide +kernel
theorem dX13_span_82 : decode cX13_span 82 = .ok (.istore 10, 2) := by decide +kernel
theorem dX13_span_84 : decode cX13_span 84 = .ok (.iload 10, 2) := by decide +kernel
theorem dX13_span_86 : decode cX13_span 86 = .ok (.iload_n 2, 1) := by decide +kernel
theorem dX13_span_87 : decode cX13_span 87 = .ok (.if_icmp .ge 82, 3) := by decide +kernel
theorem dX13_span_90 : decode cX13_span 90 = .ok (.aload_n 0, 1) := by decide +kernel
theorem dX13_span_91 : decode cX13_span 91 = .ok (.iload_n 1, 1) := by decide +kernel
theorem dX13_span_92 : decode cX13_span 92 = .ok (.iload 10, 2) := by decide +kernel
theorem dX13_span_94 : decode cX13_span 94 = .ok (.iadd, 1) := by decide +kernel
theorem dX13_span_95 : decode cX13_span 95 = .ok (.iload_n 3, 1) := by decide +kernel
theorem dX13_span_96 : decode cX13_span 96 = .ok (.iload 4, 2) := by decide +kernel
theorem dX13_span_98 : decode cX13_span 98 = .ok (.invokevirtual 459, 3) := by decide +kernel
theorem dX13_span_101 : decode cX13_span 101 = .ok (.aload_n 0, 1) := by decide +kernel
theorem dX13_span_102 : decode cX13_span 102 = .ok (.aload_n 0, 1) := by decide +kernel
theorem dX13_span_103 : decode cX13_span 103 = .ok (.getfield 73, 3) := by decide +kernel
theorem dX13_span_106 : decode cX13_span 106 = .ok (.invokevirtual 387, 3) := by decide +kernel
theorem dX13_span_109 : decode cX13_span 109 = .ok (.istore 11, 2) := by decide +kernel
theorem dX13_span_111 : decode cX13_span 111 = .ok (.iload 7, 2) := by decide +kernel
theorem dX13_span_113 : decode cX13_span 113 = .ok (.iconst (-1), 1) := by decide +kernel
theorem dX13_span_114 : decode cX13_span 114 = .ok (.if_icmp .ne 8, 3) := by decide +kernel
theorem dX13_span_117 : decode cX13_span 117 = .ok (.iload 11, 2) := by decide +kernel
theorem dX13_span_119 : decode cX13_span 119 = .ok (.goto 10, 3) := by decide +kernel
theorem dX13_span_122 : decode cX13_span 122 = .ok (.iload 7, 2) := by decide +kernel
theorem dX13_span_124 : decode cX13_span 124 = .ok (.iload 11, 2) := by decide +kernel
theorem dX13_span_126 : decode cX13_span 126 = .ok (.invokestatic 259, 3) := by decide +kernel
theorem dX13_span_129 : decode cX13_span 129 = .ok (.istore 7, 2) := by decide +kernel
theorem dX13_span_131 : decode cX13_span 131 = .ok (.iload 8, 2) := by decide +kernel
theorem dX13_span_133 : decode cX13_span 133 = .ok (.iload 11, 2) := by decide +kernel
theorem dX13_span_135 : decode cX13_span 135 = .ok (.invokestatic 262, 3) := by decide +kernel
theorem dX13_span_138 : decode cX13_span 138 = .ok (.istore 8, 2) := by decide +kernel
theorem dX13_span_140 : decode cX13_span 140 = .ok (.iload 9, 2) := by decide +kernel
theorem dX13_span_142 : decode cX13_span 142 = .ok (.aload_n 0, 1) := by decide +kernel
theorem dX13_span_143 : decode cX13_span 143 = .ok (.aload_n 0, 1) := by decide +kernel
theorem dX13_span_144 : decode cX13_span 144 = .ok (.getfield 73, 3) := by decide +kernel
theorem dX13_span_147 : decode cX13_span 147 = .ok (.iload 6, 2) := by decide +kernel
theorem dX13_span_149 : decode cX13_span 149 = .ok (.invokevirtual 312, 3) := by decide +kernel
theorem dX13_span_152 : decode cX13_span 152 = .ok (.ifCond .eq 7, 3) := by decide +kernel
theorem dX13_span_155 : decode cX13_span 155 = .ok (.iconst 1, 1) := by decide +kernel
theorem dX13_span_156 : decode cX13_span 156 = .ok (.goto 4, 3) := by decide +kernel
theorem dX13_span_159 : decode cX13_span 159 = .ok (.iconst 0, 1) := by decide +kernel
theorem dX13_span_160 : decode cX13_span 160 = .ok (.iadd, 1) := by decide +kernel
theorem dX13_span_161 : decode cX13_span 161 = .ok (.istore 9, 2) := by decide +kernel
theorem dX13_span_163 : decode cX13_span 163 = .ok (.iinc 10 1, 3) := by decide +kernel
theorem dX13_span_166 : decode cX13_span 166 = .ok (.goto (-82), 3) := by decide +kernel
theorem dX13_span_169 : decode cX13_span 169 = .ok (.iload 5, 2) := by decide +kernel
theorem dX13_span_171 : decode cX13_span 171 = .ok (.ifCond .ne 8, 3) := by decide +kernel
theorem dX13_span_174 : decode cX13_span 174 = .ok (.iload 7, 2) := by decide +kernel
theorem dX13_span_176 : decode cX13_span 176 = .ok (.goto 16, 3) := by decide +kernel
theorem dX13_span_179 : decode cX13_span 179 = .ok (.iload 5, 2) := by decide +kernel
theorem dX13_span_181 : decode cX13_span 181 = .ok (.iconst 1, 1) := by decide +kernel
theorem dX13_span_182 : decode cX13_span 182 = .ok (.if_icmp .ne 8, 3) := by decide +kernel
theorem dX13_span_185 : decode cX13_span 185 = .ok (.iload 8, 2) := by decide +kernel
theorem dX13_span_187 : decode cX13_span 187 = .ok (.goto 5, 3) := by decide +kernel
theorem dX13_span_190 : decode cX13_span 190 = .ok (.iload 9, 2) := by decide +kernel
theorem dX13_span_192 : decode cX13_span 192 = .ok (.ireturn, 1) := by decide +kernel
theorem dX13_spared_0 : decode cX13_spared 0 = .ok (.aload_n 0, 1) := by decide +kernel
theorem dX13_spared_1 : decode cX13_spared 1 = .ok (.iconst 0, 1) := by decide +kernel
theorem dX13_spared_2 : decode cX13_spared 2 = .ok (.putfield 107, 3) := by decide +kernel
theorem dX13_spared_5 : decode cX13_spared 5 = .ok (.aload_n 0, 1) := by decide +kernel
theorem dX13_spared_6 : decode cX13_spared 6 = .ok (.aload_n 0, 1) := by decide +kernel
theorem dX13_spared_7 : decode cX13_spared 7 = .ok (.iload_n 1, 1) := by decide +kernel
theorem dX13_spared_8 : decode cX13_spared 8 = .ok (.invokevirtual 412, 3) := by decide +kernel
theorem dX13_spared_11 : decode cX13_spared 11 = .ok (.ifCond .eq 12, 3) := by decide +kernel
theorem dX13_spared_14 : decode cX13_spared 14 = .ok (.aload_n 0, 1) := by decide +kernel
theorem dX13_spared_15 : decode cX13_spared 15 = .ok (.iload_n 2, 1) := by decide +kernel
theorem dX13_spared_16 : decode cX13_spared 16 = .ok (.iload_n 3, 1) := by decide +kernel
theorem dX13_spared_17 : decode cX13_spared 17 = .ok (.invokevirtual 281, 3) := by decide +kernel
theorem dX13_spared_20 : decode cX13_spared 20 = .ok (.ifCond .ne 7, 3) := by decide +kernel
theorem dX13_spared_23 : decode cX13_spared 23 = .ok (.iconst 1, 1) := by decide +kernel
theorem dX13_spared_24 : decode cX13_spared 24 = .ok (.goto 4, 3) := by decide +kernel
theorem dX13_spared_27 : decode cX13_spared 27 = .ok (.iconst 0, 1) := by decide +kernel
theorem dX13_spared_28 : decode cX13_spared 28 = .ok (.iconst 1, 1) := by decide +kernel
theorem dX13_spared_29 : decode cX13_spared 29 = .ok (.iconst 0, 1) := by decide +kernel
theorem dX13_spared_30 : decode cX13_spared 30 = .ok (.invokevirtual 186, 3) := by decide +kernel
theorem dX13_spared_33 : decode cX13_spared 33 = .ok (.ifCond .eq 5, 3) := by decide +kernel
theorem dX13_spared_36 : decode cX13_spared 36 = .ok (.iconst 0, 1) := by decide +kernel
theorem dX13_spared_37 : decode cX13_spared 37 = .ok (.ireturn, 1) := by decide +kernel
theorem dX13_spared_38 : decode cX13_spared 38 = .ok (.aload_n 0, 1) := by decide +kernel
theorem dX13_spared_39 : decode cX13_spared 39 = .ok (.aload_n 0, 1) := by decide +kernel
theorem dX13_spared_40 : decode cX13_spared 40 = .ok (.getfield 70, 3) := by decide +kernel
theorem dX13_spared_43 : decode cX13_spared 43 = .ok (.iload_n 1, 1) := by decide +kernel
theorem dX13_spared_44 : decode cX13_spared 44 = .ok (.invokevirtual 316, 3) := by decide +kernel
theorem dX13_spared_47 : decode cX13_spared 47 = .ok (.bipush 8, 2) := by decide +kernel
theorem dX13_spared_49 : decode cX13_spared 49 = .ok (.iload_n 3, 1) := by decide +kernel
theorem dX13_spared_50 : decode cX13_spared 50 = .ok (.imul, 1) := by decide +kernel
theorem dX13_spared_51 : decode cX13_spared 51 = .ok (.iload_n 2, 1) := by decide +kernel
theorem dX13_spared_52 : decode cX13_spared 52 = .ok (.iadd, 1) := by decide +kernel
theorem dX13_spared_53 : decode cX13_spared 53 = .ok (.istore 4, 2) := by decide +kernel
theorem dX13_spared_55 : decode cX13_spared 55 = .ok (.iconst 0, 1) := by decide +kernel
theorem dX13_spared_56 : decode cX13_spared 56 = .ok (.istore 5, 2) := by decide +kernel
theorem dX13_spared_58 : decode cX13_spared 58 = .ok (.aload_n 0, 1) := by decide +kernel
theorem dX13_spared_59 : decode cX13_spared 59 = .ok (.getfield 85, 3) := by decide +kernel
theorem dX13_spared_62 : decode cX13_spared 62 = .ok (.iload 4, 2) := by decide +kernel
theorem dX13_spared_64 : decode cX13_spared 64 = .ok (.iaload, 1) := by decide +kernel
theorem dX13_spared_65 : decode cX13_spared 65 = .ok (.iconst (-1), 1) := by decide +kernel
theorem dX13_spared_66 : decode cX13_spared 66 = .ok (.if_icmp .ne 5, 3) := by decide +kernel
theorem dX13_spared_69 : decode cX13_spared 69 = .ok (.iconst (-1), 1) := by decide +kernel
theorem dX13_spared_70 : decode cX13_spared 70 = .ok (.ireturn, 1) := by decide +kernel
theorem dX13_spared_71 : decode cX13_spared 71 = .ok (.iconst 0, 1) := by decide +kernel
theorem dX13_spared_72 : decode cX13_spared 72 = .ok (.istore 6, 2) := by decide +kernel
theorem dX13_spared_74 : decode cX13_spared 74 = .ok (.iload 6, 2) := by decide +kernel
theorem dX13_spared_76 : decode cX13_spared 76 = .ok (.bipush 64, 2) := by decide +kernel
theorem dX13_spared_78 : decode cX13_spared 78 = .ok (.if_icmp .ge 72, 3) := by decide +kernel
theorem dX13_spared_81 : decode cX13_spared 81 = .ok (.iload 5, 2) := by decide +kernel
theorem dX13_spared_83 : decode cX13_spared 83 = .ok (.aload_n 0, 1) := by decide +kernel
theorem dX13_spared_84 : decode cX13_spared 84 = .ok (.getfield 85, 3) := by decide +kernel
theorem dX13_spared_87 : decode cX13_spared 87 = .ok (.iload 6, 2) := by decide +kernel
theorem dX13_spared_89 : decode cX13_spared 89 = .ok (.iaload, 1) := by decide +kernel
theorem dX13_spared_90 : decode cX13_spared 90 = .ok (.iconst (-1), 1) := by decide +kernel
theorem dX13_spared_91 : decode cX13_spared 91 = .ok (.if_icmp .eq 49, 3) := by decide +kernel
theorem dX13_spared_94 : decode cX13_spared 94 = .ok (.aload_n 0, 1) := by decide +kernel
theorem dX13_spared_95 : decode cX13_spared 95 = .ok (.getfield 85, 3) := by decide +kernel
theorem dX13_spared_98 : decode cX13_spared 98 = .ok (.iload 6, 2) := by decide +kernel
theorem dX13_spared_100 : decode cX13_spared 100 = .ok (.iaload, 1) := by decide +kernel
theorem dX13_spared_101 : decode cX13_spared 101 = .ok (.aload_n 0, 1) := by decide +kernel
theorem dX13_spared_102 : decode cX13_spared 102 = .ok (.getfield 85, 3) := by decide +kernel
theorem dX13_spared_105 : decode cX13_spared 105 = .ok (.iload 4, 2) := by decide +kernel
theorem dX13_spared_107 : decode cX13_spared 107 = .ok (.iaload, 1) := by decide +kernel
theorem dX13_spared_108 : decode cX13_spared 108 = .ok (.if_icmp .ge 32, 3) := by decide +kernel
theorem dX13_spared_111 : decode cX13_spared 111 = .ok (.aload_n 0, 1) := by decide +kernel
theorem dX13_spared_112 : decode cX13_spared 112 = .ok (.getfield 85, 3) := by decide +kernel
theorem dX13_spared_115 : decode cX13_spared 115 = .ok (.iload 6, 2) := by decide +kernel
theorem dX13_spared_117 : decode cX13_spared 117 = .ok (.iaload, 1) := by decide +kernel
theorem dX13_spared_118 : decode cX13_spared 118 = .ok (.iload 6, 2) := by decide +kernel
theorem dX13_spared_120 : decode cX13_spared 120 = .ok (.iload 4, 2) := by decide +kernel
theorem dX13_spared_122 : decode cX13_spared 122 = .ok (.invokestatic 418, 3) := by decide +kernel
theorem dX13_spared_125 : decode cX13_spared 125 = .ok (.iadd, 1) := by decide +kernel
theorem dX13_spared_126 : decode cX13_spared 126 = .ok (.aload_n 0, 1) := by decide +kernel
theorem dX13_spared_127 : decode cX13_spared 127 = .ok (.getfield 85, 3) := by decide +kernel
theorem dX13_spared_130 : decode cX13_spared 130 = .ok (.iload 4, 2) := by decide +kernel
theorem dX13_spared_132 : decode cX13_spared 132 = .ok (.iaload, 1) := by decide +kernel
theorem dX13_spared_133 : decode cX13_spared 133 = .ok (.if_icmp .lt 7, 3) := by decide +kernel
theorem dX13_spared_136 : decode cX13_spared 136 = .ok (.iconst 1, 1) := by decide +kernel
theorem dX13_spared_137 : decode cX13_spared 137 = .ok (.goto 4, 3) := by decide +kernel
theorem dX13_spared_140 : decode cX13_spared 140 = .ok (.iconst 0, 1) := by decide +kernel
theorem dX13_spared_141 : decode cX13_spared 141 = .ok (.iadd, 1) := by decide +kernel
theorem dX13_spared_142 : decode cX13_spared 142 = .ok (.istore 5, 2) := by decide +kernel
theorem dX13_spared_144 : decode cX13_spared 144 = .ok (.iinc 6 1, 3) := by decide +kernel
theorem dX13_spared_147 : decode cX13_spared 147 = .ok (.goto (-73), 3) := by decide +kernel
theorem dX13_spared_150 : decode cX13_spared 150 = .ok (.iload 5, 2) := by decide +kernel
theorem dX13_spared_152 : decode cX13_spared 152 = .ok (.ireturn, 1) := by decide +kernel
theorem dX13_spreads_0 : decode cX13_spreads 0 = .ok (.iconst 0, 1) := by decide +kernel
theorem dX13_spreads_1 : decode cX13_spreads 1 = .ok (.istore_n 3, 1) := by decide +kernel
theorem dX13_spreads_2 : decode cX13_spreads 2 = .ok (.iload_n 3, 1) := by decide +kernel
theorem dX13_spreads_3 : decode cX13_spreads 3 = .ok (.bipush 64, 2) := by decide +kernel
theorem dX13_spreads_5 : decode cX13_spreads 5 = .ok (.if_icmp .ge 54, 3) := by decide +kernel
theorem dX13_spreads_8 : decode cX13_spreads 8 = .ok (.aload_n 0, 1) := by decide +kernel
theorem dX13_spreads_9 : decode cX13_spreads 9 = .ok (.getfield 85, 3) := by decide +kernel
theorem dX13_spreads_12 : decode cX13_spreads 12 = .ok (.iload_n 3, 1) := by decide +kernel
theorem dX13_spreads_13 : decode cX13_spreads 13 = .ok (.aload_n 1, 1) := by decide +kernel
theorem dX13_spreads_14 : decode cX13_spreads 14 = .ok (.iload_n 2, 1) := by decide +kernel
theorem dX13_spreads_15 : decode cX13_spreads 15 = .ok (.iload_n 3, 1) := by decide +kernel
theorem dX13_spreads_16 : decode cX13_spreads 16 = .ok (.invokestatic 287, 3) := by decide +kernel
theorem dX13_spreads_19 : decode cX13_spreads 19 = .ok (.ifCond .eq 7, 3) := by decide +kernel
theorem dX13_spreads_22 : decode cX13_spreads 22 = .ok (.iconst 0, 1) := by decide +kernel
theorem dX13_spreads_23 : decode cX13_spreads 23 = .ok (.goto 4, 3) := by decide +kernel
theorem dX13_spreads_26 : decode cX13_spreads 26 = .ok (.iconst (-1), 1) := by decide +kernel
theorem dX13_spreads_27 : decode cX13_spreads 27 = .ok (.iastore, 1) := by decide +kernel
theorem dX13_spreads_28 : decode cX13_spreads 28 = .ok (.aload_n 0, 1) := by decide +kernel
theorem dX13_spreads_29 : decode cX13_spreads 29 = .ok (.getfield 88, 3) := by decide +kernel
theorem dX13_spreads_32 : decode cX13_spreads 32 = .ok (.iload_n 3, 1) := by decide +kernel
theorem dX13_spreads_33 : decode cX13_spreads 33 = .ok (.aload_n 0, 1) := by decide +kernel
theorem dX13_spreads_34 : decode cX13_spreads 34 = .ok (.iload_n 3, 1) := by decide +kernel
theorem dX13_spreads_35 : decode cX13_spreads 35 = .ok (.invokevirtual 199, 3) := by decide +kernel
theorem dX13_spreads_38 : decode cX13_spreads 38 = .ok (.ifCond .eq 13, 3) := by decide +kernel
theorem dX13_spreads_41 : decode cX13_spreads 41 = .ok (.aload_n 0, 1) := by decide +kernel
theorem dX13_spreads_42 : decode cX13_spreads 42 = .ok (.aload_n 1, 1) := by decide +kernel
theorem dX13_spreads_43 : decode cX13_spreads 43 = .ok (.iload_n 2, 1) := by decide +kernel
theorem dX13_spreads_44 : decode cX13_spreads 44 = .ok (.iload_n 3, 1) := by decide +kernel
theorem dX13_spreads_45 : decode cX13_spreads 45 = .ok (.invokevirtual 305, 3) := by decide +kernel
theorem dX13_spreads_48 : decode cX13_spreads 48 = .ok (.goto 4, 3) := by decide +kernel
theorem dX13_spreads_51 : decode cX13_spreads 51 = .ok (.iconst 0, 1) := by decide +kernel
theorem dX13_spreads_52 : decode cX13_spreads 52 = .ok (.iastore, 1) := by decide +kernel
theorem dX13_spreads_53 : decode cX13_spreads 53 = .ok (.iinc 3 1, 3) := by decide +kernel
theorem dX13_spreads_56 : decode cX13_spreads 56 = .ok (.goto (-54), 3) := by decide +kernel
theorem dX13_spreads_59 : decode cX13_spreads 59 = .ok (.iconst 1, 1) := by decide +kernel
theorem dX13_spreads_60 : decode cX13_spreads 60 = .ok (.istore_n 3, 1) := by decide +kernel
theorem dX13_spreads_61 : decode cX13_spreads 61 = .ok (.iload_n 3, 1) := by decide +kernel
theorem dX13_spreads_62 : decode cX13_spreads 62 = .ok (.ifCond .eq 163, 3) := by decide +kernel
theorem dX13_spreads_65 : decode cX13_spreads 65 = .ok (.iconst 0, 1) := by decide +kernel
theorem dX13_spreads_66 : decode cX13_spreads 66 = .ok (.istore_n 3, 1) := by decide +kernel
theorem dX13_spreads_67 : decode cX13_spreads 67 = .ok (.iconst 0, 1) := by decide +kernel
theorem dX13_spreads_68 : decode cX13_spreads 68 = .ok (.istore 4, 2) := by decide +kernel
theorem dX13_spreads_70 : decode cX13_spreads 70 = .ok (.iload 4, 2) := by decide +kernel
theorem dX13_spreads_72 : decode cX13_spreads 72 = .ok (.bipush 64, 2) := by decide +kernel
theorem dX13_spreads_74 : decode cX13_spreads 74 = .ok (.if_icmp .ge 148, 3) := by decide +kernel
theorem dX13_spreads_77 : decode cX13_spreads 77 = .ok (.aload_n 0, 1) := by decide +kernel
theorem dX13_spreads_78 : decode cX13_spreads 78 = .ok (.iload 4, 2) := by decide +kernel
theorem dX13_spreads_80 : decode cX13_spreads 80 = .ok (.invokevirtual 199, 3) := by decide +kernel
theorem dX13_spreads_83 : decode cX13_spreads 83 = .ok (.ifCond .eq 133, 3) := by decide +kernel
theorem dX13_spreads_86 : decode cX13_spreads 86 = .ok (.aload_n 1, 1) := by decide +kernel
theorem dX13_spreads_87 : decode cX13_spreads 87 = .ok (.sipush 448, 3) := by decide +kernel
theorem dX13_spreads_90 : decode cX13_spreads 90 = .ok (.iload 4, 2) := by decide +kernel
theorem dX13_spreads_92 : decode cX13_spreads 92 = .ok (.iadd, 1) := by decide +kernel
theorem dX13_spreads_93 : decode cX13_spreads 93 = .ok (.iaload, 1) := by decide +kernel
theorem dX13_spreads_94 : decode cX13_spreads 94 = .ok (.iconst 1, 1) := by decide +kernel
theorem dX13_spreads_95 : decode cX13_spreads 95 = .ok (.if_icmp .eq 121, 3) := by decide +kernel
theorem dX13_spreads_98 : decode cX13_spreads 98 = .ok (.aload_n 1, 1) := by decide +kernel
theorem dX13_spreads_99 : decode cX13_spreads 99 = .ok (.iload_n 2, 1) := by decide +kernel
theorem dX13_spreads_100 : decode cX13_spreads 100 = .ok (.iload 4, 2) := by decide +kernel
theorem dX13_spreads_102 : decode cX13_spreads 102 = .ok (.invokestatic 287, 3) := by decide +kernel
theorem dX13_spreads_105 : decode cX13_spreads 105 = .ok (.ifCond .eq 6, 3) := by decide +kernel
theorem dX13_spreads_108 : decode cX13_spreads 108 = .ok (.goto 108, 3) := by decide +kernel
theorem dX13_spreads_111 : decode cX13_spreads 111 = .ok (.iconst 0, 1) := by decide +kernel
theorem dX13_spreads_112 : decode cX13_spreads 112 = .ok (.istore 5, 2) := by decide +kernel
theorem dX13_spreads_114 : decode cX13_spreads 114 = .ok (.iload 5, 2) := by decide +kernel
theorem dX13_spreads_116 : decode cX13_spreads 116 = .ok (.iconst 4, 1) := by decide +kernel
theorem dX13_spreads_117 : decode cX13_spreads 117 = .ok (.if_icmp .ge 99, 3) := by decide +kernel
theorem dX13_spreads_120 : decode cX13_spreads 120 = .ok (.aload_n 0, 1) := by decide +kernel
theorem dX13_spreads_121 : decode cX13_spreads 121 = .ok (.iload 4, 2) := by decide +kernel
theorem dX13_spreads_123 : decode cX13_spreads 123 = .ok (.iload 5, 2) := by decide +kernel
theorem dX13_spreads_125 : decode cX13_spreads 125 = .ok (.invokevirtual 309, 3) := by decide +kernel
theorem dX13_spreads_128 : decode cX13_spreads 128 = .ok (.istore 6, 2) := by decide +kernel
theorem dX13_spreads_130 : decode cX13_spreads 130 = .ok (.iload 6, 2) := by decide +kernel
theorem dX13_spreads_132 : decode cX13_spreads 132 = .ok (.iconst (-1), 1) := by decide +kernel
theorem dX13_spreads_133 : decode cX13_spreads 133 = .ok (.if_icmp .eq 77, 3) := by decide +kernel
theorem dX13_spreads_136 : decode cX13_spreads 136 = .ok (.aload_n 0, 1) := by decide +kernel
theorem dX13_spreads_137 : decode cX13_spreads 137 = .ok (.getfield 85, 3) := by decide +kernel
theorem dX13_spreads_140 : decode cX13_spreads 140 = .ok (.iload 6, 2) := by decide +kernel
theorem dX13_spreads_142 : decode cX13_spreads 142 = .ok (.iaload, 1) := by decide +kernel
theorem dX13_spreads_143 : decode cX13_spreads 143 = .ok (.iconst (-1), 1) := by decide +kernel
theorem dX13_spreads_144 : decode cX13_spreads 144 = .ok (.if_icmp .eq 66, 3) := by decide +kernel
theorem dX13_spreads_147 : decode cX13_spreads 147 = .ok (.aload_n 0, 1) := by decide +kernel
theorem dX13_spreads_148 : decode cX13_spreads 148 = .ok (.getfield 85, 3) := by decide +kernel
theorem dX13_spreads_151 : decode cX13_spreads 151 = .ok (.iload 4, 2) := by decide +kernel
theorem dX13_spreads_153 : decode cX13_spreads 153 = .ok (.iaload, 1) := by decide +kernel
theorem dX13_spreads_154 : decode cX13_spreads 154 = .ok (.iconst (-1), 1) := by decide +kernel
theorem dX13_spreads_155 : decode cX13_spreads 155 = .ok (.if_icmp .eq 31, 3) := by decide +kernel
theorem dX13_spreads_158 : decode cX13_spreads 158 = .ok (.aload_n 0, 1) := by decide +kernel
theorem dX13_spreads_159 : decode cX13_spreads 159 = .ok (.getfield 85, 3) := by decide +kernel
theorem dX13_spreads_162 : decode cX13_spreads 162 = .ok (.iload 4, 2) := by decide +kernel
theorem dX13_spreads_164 : decode cX13_spreads 164 = .ok (.iaload, 1) := by decide +kernel
theorem dX13_spreads_165 : decode cX13_spreads 165 = .ok (.aload_n 0, 1) := by decide +kernel
theorem dX13_spreads_166 : decode cX13_spreads 166 = .ok (.getfield 85, 3) := by decide +kernel
theorem dX13_spreads_169 : decode cX13_spreads 169 = .ok (.iload 6, 2) := by decide +kernel
theorem dX13_spreads_171 : decode cX13_spreads 171 = .ok (.iaload, 1) := by decide +kernel
theorem dX13_spreads_172 : decode cX13_spreads 172 = .ok (.aload_n 0, 1) := by decide +kernel
theorem dX13_spreads_173 : decode cX13_spreads 173 = .ok (.getfield 88, 3) := by decide +kernel
theorem dX13_spreads_176 : decode cX13_spreads 176 = .ok (.iload 4, 2) := by decide +kernel
theorem dX13_spreads_178 : decode cX13_spreads 178 = .ok (.iaload, 1) := by decide +kernel
theorem dX13_spreads_179 : decode cX13_spreads 179 = .ok (.iadd, 1) := by decide +kernel
theorem dX13_spreads_180 : decode cX13_spreads 180 = .ok (.if_icmp .gt 6, 3) := by decide +kernel
theorem dX13_spreads_183 : decode cX13_spreads 183 = .ok (.goto 27, 3) := by decide +kernel
theorem dX13_spreads_186 : decode cX13_spreads 186 = .ok (.aload_n 0, 1) := by decide +kernel
theorem dX13_spreads_187 : decode cX13_spreads 187 = .ok (.getfield 85, 3) := by decide +kernel
theorem dX13_spreads_190 : decode cX13_spreads 190 = .ok (.iload 4, 2) := by decide +kernel
theorem dX13_spreads_192 : decode cX13_spreads 192 = .ok (.aload_n 0, 1) := by decide +kernel
theorem dX13_spreads_193 : decode cX13_spreads 193 = .ok (.getfield 85, 3) := by decide +kernel
theorem dX13_spreads_196 : decode cX13_spreads 196 = .ok (.iload 6, 2) := by decide +kernel
theorem dX13_spreads_198 : decode cX13_spreads 198 = .ok (.iaload, 1) := by decide +kernel
theorem dX13_spreads_199 : decode cX13_spreads 199 = .ok (.aload_n 0, 1) := by decide +kernel
theorem dX13_spreads_200 : decode cX13_spreads 200 = .ok (.getfield 88, 3) := by decide +kernel
theorem dX13_spreads_203 : decode cX13_spreads 203 = .ok (.iload 4, 2) := by decide +kernel
theorem dX13_spreads_205 : decode cX13_spreads 205 = .ok (.iaload, 1) := by decide +kernel
theorem dX13_spreads_206 : decode cX13_spreads 206 = .ok (.iadd, 1) := by decide +kernel
theorem dX13_spreads_207 : decode cX13_spreads 207 = .ok (.iastore, 1) := by decide +kernel
theorem dX13_spreads_208 : decode cX13_spreads 208 = .ok (.iconst 1, 1) := by decide +kernel
theorem dX13_spreads_209 : decode cX13_spreads 209 = .ok (.istore_n 3, 1) := by decide +kernel
theorem dX13_spreads_210 : decode cX13_spreads 210 = .ok (.iinc 5 1, 3) := by decide +kernel
theorem dX13_spreads_213 : decode cX13_spreads 213 = .ok (.goto (-99), 3) := by decide +kernel
theorem dX13_spreads_216 : decode cX13_spreads 216 = .ok (.iinc 4 1, 3) := by decide +kernel
theorem dX13_spreads_219 : decode cX13_spreads 219 = .ok (.goto (-149), 3) := by decide +kernel
theorem dX13_spreads_222 : decode cX13_spreads 222 = .ok (.goto (-161), 3) := by decide +kernel
theorem dX13_spreads_225 : decode cX13_spreads 225 = .ok (.return_, 1) := by decide +kernel
theorem dX13_starts_0 : decode cX13_starts 0 = .ok (.aload_n 0, 1) := by decide +kernel
theorem dX13_starts_1 : decode cX13_starts 1 = .ok (.iconst 0, 1) := by decide +kernel
theorem dX13_starts_2 : decode cX13_starts 2 = .ok (.putfield 110, 3) := by decide +kernel
theorem dX13_starts_5 : decode cX13_starts 5 = .ok (.aload_n 0, 1) := by decide +kernel
theorem dX13_starts_6 : decode cX13_starts 6 = .ok (.iload_n 1, 1) := by decide +kernel
theorem dX13_starts_7 : decode cX13_starts 7 = .ok (.putfield 113, 3) := by decide +kernel
theorem dX13_starts_10 : decode cX13_starts 10 = .ok (.aload_n 0, 1) := by decide +kernel
theorem dX13_starts_11 : decode cX13_starts 11 = .ok (.iconst 0, 1) := by decide +kernel
theorem dX13_starts_12 : decode cX13_starts 12 = .ok (.putfield 116, 3) := by decide +kernel
theorem dX13_starts_15 : decode cX13_starts 15 = .ok (.aload_n 0, 1) := by decide +kernel
theorem dX13_starts_16 : decode cX13_starts 16 = .ok (.iconst 0, 1) := by decide +kernel
theorem dX13_starts_17 : decode cX13_starts 17 = .ok (.putfield 123, 3) := by decide +kernel
theorem dX13_starts_20 : decode cX13_starts 20 = .ok (.aload_n 0, 1) := by decide +kernel
theorem dX13_starts_21 : decode cX13_starts 21 = .ok (.iconst (-1), 1) := by decide +kernel
theorem dX13_starts_22 : decode cX13_starts 22 = .ok (.putfield 126, 3) := by decide +kernel
theorem dX13_starts_25 : decode cX13_starts 25 = .ok (.aload_n 0, 1) := by decide +kernel
theorem dX13_starts_26 : decode cX13_starts 26 = .ok (.iconst 0, 1) := by decide +kernel
theorem dX13_starts_27 : decode cX13_starts 27 = .ok (.putfield 163, 3) := by decide +kernel
theorem dX13_starts_30 : decode cX13_starts 30 = .ok (.aload_n 0, 1) := by decide +kernel
theorem dX13_starts_31 : decode cX13_starts 31 = .ok (.iconst 0, 1) := by decide +kernel
theorem dX13_starts_32 : decode cX13_starts 32 = .ok (.putfield 166, 3) := by decide +kernel
theorem dX13_starts_35 : decode cX13_starts 35 = .ok (.aload_n 0, 1) := by decide +kernel
theorem dX13_starts_36 : decode cX13_starts 36 = .ok (.invokevirtual 129, 3) := by decide +kernel
theorem dX13_starts_39 : decode cX13_starts 39 = .ok (.return_, 1) := by decide +kernel
theorem dX13_status_0 : decode cX13_status 0 = .ok (.aload_n 0, 1) := by decide +kernel
theorem dX13_status_1 : decode cX13_status 1 = .ok (.iconst 0, 1) := by decide +kernel
theorem dX13_status_2 : decode cX13_status 2 = .ok (.putfield 107, 3) := by decide +kernel
theorem dX13_status_5 : decode cX13_status 5 = .ok (.iload_n 1, 1) := by decide +kernel
theorem dX13_status_6 : decode cX13_status 6 = .ok (.iconst 0, 1) := by decide +kernel
theorem dX13_status_7 : decode cX13_status 7 = .ok (.iconst 1, 1) := by decide +kernel
theorem dX13_status_8 : decode cX13_status 8 = .ok (.invokestatic 141, 3) := by decide +kernel
theorem dX13_status_11 : decode cX13_status 11 = .ok (.ifCond .eq 12, 3) := by decide +kernel
theorem dX13_status_14 : decode cX13_status 14 = .ok (.aload_n 0, 1) := by decide +kernel
theorem dX13_status_15 : decode cX13_status 15 = .ok (.getfield 17, 3) := by decide +kernel
theorem dX13_status_18 : decode cX13_status 18 = .ok (.iload_n 1, 1) := by decide +kernel
theorem dX13_status_19 : decode cX13_status 19 = .ok (.iaload, 1) := by decide +kernel
theorem dX13_status_20 : decode cX13_status 20 = .ok (.goto 4, 3) := by decide +kernel
theorem dX13_status_23 : decode cX13_status 23 = .ok (.iconst (-1), 1) := by decide +kernel
theorem dX13_status_24 : decode cX13_status 24 = .ok (.ireturn, 1) := by decide +kernel
theorem dX13_stepHere_0 : decode cX13_stepHere 0 = .ok (.aload_n 0, 1) := by decide +kernel
theorem dX13_stepHere_1 : decode cX13_stepHere 1 = .ok (.bipush 18, 2) := by decide +kernel
theorem dX13_stepHere_3 : decode cX13_stepHere 3 = .ok (.bipush 15, 2) := by decide +kernel
theorem dX13_stepHere_5 : decode cX13_stepHere 5 = .ok (.bipush 21, 2) := by decide +kernel
theorem dX13_stepHere_7 : decode cX13_stepHere 7 = .ok (.bipush 14, 2) := by decide +kernel
theorem dX13_stepHere_9 : decode cX13_stepHere 9 = .ok (.iconst 4, 1) := by decide +kernel
theorem dX13_stepHere_10 : decode cX13_stepHere 10 = .ok (.iconst 0, 1) := by decide +kernel
theorem dX13_stepHere_11 : decode cX13_stepHere 11 = .ok (.invokevirtual 156, 3) := by decide +kernel
theorem dX13_stepHere_14 : decode cX13_stepHere 14 = .ok (.ifCond .eq 5, 3) := by decide +kernel
theorem dX13_stepHere_17 : decode cX13_stepHere 17 = .ok (.iconst 0, 1) := by decide +kernel
theorem dX13_stepHere_18 : decode cX13_stepHere 18 = .ok (.ireturn, 1) := by decide +kernel
theorem dX13_stepHere_19 : decode cX13_stepHere 19 = .ok (.aload_n 0, 1) := by decide +kernel
theorem dX13_stepHere_20 : decode cX13_stepHere 20 = .ok (.bipush 12, 2) := by decide +kernel
theorem dX13_stepHere_22 : decode cX13_stepHere 22 = .ok (.iconst 1, 1) := by decide +kernel
theorem dX13_stepHere_23 : decode cX13_stepHere 23 = .ok (.bipush 25, 2) := by decide +kernel
theorem dX13_stepHere_25 : decode cX13_stepHere 25 = .ok (.iconst 0, 1) := by decide +kernel
theorem dX13_stepHere_26 : decode cX13_stepHere 26 = .ok (.iconst 0, 1) := by decide +kernel
theorem dX13_stepHere_27 : decode cX13_stepHere 27 = .ok (.iconst 0, 1) := by decide +kernel
theorem dX13_stepHere_28 : decode cX13_stepHere 28 = .ok (.invokevirtual 156, 3) := by decide +kernel
theorem dX13_stepHere_31 : decode cX13_stepHere 31 = .ok (.ifCond .eq 5, 3) := by decide +kernel
theorem dX13_stepHere_34 : decode cX13_stepHere 34 = .ok (.iconst 1, 1) := by decide +kernel
theorem dX13_stepHere_35 : decode cX13_stepHere 35 = .ok (.ireturn, 1) := by decide +kernel
theorem dX13_stepHere_36 : decode cX13_stepHere 36 = .ok (.aload_n 0, 1) := by decide +kernel
theorem dX13_stepHere_37 : decode cX13_stepHere 37 = .ok (.bipush 18, 2) := by decide +kernel
theorem dX13_stepHere_39 : decode cX13_stepHere 39 = .ok (.bipush 9, 2) := by decide +kernel
theorem dX13_stepHere_41 : decode cX13_stepHere 41 = .ok (.bipush 16, 2) := by decide +kernel
theorem dX13_stepHere_43 : decode cX13_stepHere 43 = .ok (.iconst 0, 1) := by decide +kernel
theorem dX13_stepHere_44 : decode cX13_stepHere 44 = .ok (.iconst 0, 1) := by decide +kernel
theorem dX13_stepHere_45 : decode cX13_stepHere 45 = .ok (.iconst 0, 1) := by decide +kernel
theorem dX13_stepHere_46 : decode cX13_stepHere 46 = .ok (.invokevirtual 156, 3) := by decide +kernel
theorem dX13_stepHere_49 : decode cX13_stepHere 49 = .ok (.ifCond .eq 5, 3) := by decide +kernel
theorem dX13_stepHere_52 : decode cX13_stepHere 52 = .ok (.iconst 2, 1) := by decide +kernel
theorem dX13_stepHere_53 : decode cX13_stepHere 53 = .ok (.ireturn, 1) := by decide +kernel
theorem dX13_stepHere_54 : decode cX13_stepHere 54 = .ok (.aload_n 0, 1) := by decide +kernel
theorem dX13_stepHere_55 : decode cX13_stepHere 55 = .ok (.iconst 3, 1) := by decide +kernel
theorem dX13_stepHere_56 : decode cX13_stepHere 56 = .ok (.bipush 18, 2) := by decide +kernel
theorem dX13_stepHere_58 : decode cX13_stepHere 58 = .ok (.bipush 9, 2) := by decide +kernel
theorem dX13_stepHere_60 : decode cX13_stepHere 60 = .ok (.bipush 20, 2) := by decide +kernel
theorem dX13_stepHere_62 : decode cX13_stepHere 62 = .ok (.iconst 0, 1) := by decide +kernel
theorem dX13_stepHere_63 : decode cX13_stepHere 63 = .ok (.iconst 0, 1) := by decide +kernel
theorem dX13_stepHere_64 : decode cX13_stepHere 64 = .ok (.invokevirtual 156, 3) := by decide +kernel
theorem dX13_stepHere_67 : decode cX13_stepHere 67 = .ok (.ifCond .eq 5, 3) := by decide +kernel
theorem dX13_stepHere_70 : decode cX13_stepHere 70 = .ok (.iconst 3, 1) := by decide +kernel
theorem dX13_stepHere_71 : decode cX13_stepHere 71 = .ok (.ireturn, 1) := by decide +kernel
theorem dX13_stepHere_72 : decode cX13_stepHere 72 = .ok (.aload_n 0, 1) := by decide +kernel
theorem dX13_stepHere_73 : decode cX13_stepHere 73 = .ok (.iconst 2, 1) := by decide +kernel
theorem dX13_stepHere_74 : decode cX13_stepHere 74 = .ok (.bipush 12, 2) := by decide +kernel
theorem dX13_stepHere_76 : decode cX13_stepHere 76 = .ok (.bipush 15, 2) := by decide +kernel
theorem dX13_stepHere_78 : decode cX13_stepHere 78 = .ok (.iconst 3, 1) := by decide +kernel
theorem dX13_stepHere_79 : decode cX13_stepHere 79 = .ok (.bipush 11, 2) := by decide +kernel
theorem dX13_stepHere_81 : decode cX13_stepHere 81 = .ok (.iconst 0, 1) := by decide +kernel
theorem dX13_stepHere_82 : decode cX13_stepHere 82 = .ok (.invokevirtual 156, 3) := by decide +kernel
theorem dX13_stepHere_85 : decode cX13_stepHere 85 = .ok (.ifCond .eq 5, 3) := by decide +kernel
theorem dX13_stepHere_88 : decode cX13_stepHere 88 = .ok (.iconst 4, 1) := by decide +kernel
theorem dX13_stepHere_89 : decode cX13_stepHere 89 = .ok (.ireturn, 1) := by decide +kernel
theorem dX13_stepHere_90 : decode cX13_stepHere 90 = .ok (.aload_n 0, 1) := by decide +kernel
theorem dX13_stepHere_91 : decode cX13_stepHere 91 = .ok (.iconst 5, 1) := by decide +kernel
theorem dX13_stepHere_92 : decode cX13_stepHere 92 = .ok (.iconst 1, 1) := by decide +kernel
theorem dX13_stepHere_93 : decode cX13_stepHere 93 = .ok (.bipush 19, 2) := by decide +kernel
theorem dX13_stepHere_95 : decode cX13_stepHere 95 = .ok (.iconst 5, 1) := by decide +kernel
theorem dX13_stepHere_96 : decode cX13_stepHere 96 = .ok (.iconst 0, 1) := by decide +kernel
theorem dX13_stepHere_97 : decode cX13_stepHere 97 = .ok (.iconst 0, 1) := by decide +kernel
theorem dX13_stepHere_98 : decode cX13_stepHere 98 = .ok (.invokevirtual 156, 3) := by decide +kernel
theorem dX13_stepHere_101 : decode cX13_stepHere 101 = .ok (.ifCond .eq 5, 3) := by decide +kernel
theorem dX13_stepHere_104 : decode cX13_stepHere 104 = .ok (.iconst 5, 1) := by decide +kernel
theorem dX13_stepHere_105 : decode cX13_stepHere 105 = .ok (.ireturn, 1) := by decide +kernel
theorem dX13_stepHere_106 : decode cX13_stepHere 106 = .ok (.aload_n 0, 1) := by decide +kernel
theorem dX13_stepHere_107 : decode cX13_stepHere 107 = .ok (.iconst 1, 1) := by decide +kernel
theorem dX13_stepHere_108 : decode cX13_stepHere 108 = .ok (.bipush 7, 2) := by decide +kernel
theorem dX13_stepHere_110 : decode cX13_stepHere 110 = .ok (.iconst 1, 1) := by decide +kernel
theorem dX13_stepHere_111 : decode cX13_stepHere 111 = .ok (.bipush 9, 2) := by decide +kernel
theorem dX13_stepHere_113 : decode cX13_stepHere 113 = .ok (.bipush 14, 2) := by decide +kernel
theorem dX13_stepHere_115 : decode cX13_stepHere 115 = .ok (.iconst 0, 1) := by decide +kernel
theorem dX13_stepHere_116 : decode cX13_stepHere 116 = .ok (.invokevirtual 156, 3) := by decide +kernel
theorem dX13_stepHere_119 : decode cX13_stepHere 119 = .ok (.ifCond .eq 8, 3) := by decide +kernel
theorem dX13_stepHere_122 : decode cX13_stepHere 122 = .ok (.bipush 6, 2) := by decide +kernel
theorem dX13_stepHere_124 : decode cX13_stepHere 124 = .ok (.goto 4, 3) := by decide +kernel
theorem dX13_stepHere_127 : decode cX13_stepHere 127 = .ok (.iconst (-1), 1) := by decide +kernel
theorem dX13_stepHere_128 : decode cX13_stepHere 128 = .ok (.ireturn, 1) := by decide +kernel
theorem dX13_stepsOf_0 : decode cX13_stepsOf 0 = .ok (.iconst 0, 1) := by decide +kernel
theorem dX13_stepsOf_1 : decode cX13_stepsOf 1 = .ok (.istore 4, 2) := by decide +kernel
theorem dX13_stepsOf_3 : decode cX13_stepsOf 3 = .ok (.iload_n 3, 1) := by decide +kernel
theorem dX13_stepsOf_4 : decode cX13_stepsOf 4 = .ok (.istore 5, 2) := by decide +kernel
theorem dX13_stepsOf_6 : decode cX13_stepsOf 6 = .ok (.aload_n 1, 1) := by decide +kernel
theorem dX13_stepsOf_7 : decode cX13_stepsOf 7 = .ok (.iload_n 2, 1) := by decide +kernel
theorem dX13_stepsOf_8 : decode cX13_stepsOf 8 = .ok (.iload 5, 2) := by decide +kernel
theorem dX13_stepsOf_10 : decode cX13_stepsOf 10 = .ok (.invokestatic 284, 3) := by decide +kernel
theorem dX13_stepsOf_13 : decode cX13_stepsOf 13 = .ok (.iaload, 1) := by decide +kernel
theorem dX13_stepsOf_14 : decode cX13_stepsOf 14 = .ok (.iconst 4, 1) := by decide +kernel
theorem dX13_stepsOf_15 : decode cX13_stepsOf 15 = .ok (.if_icmp .eq 25, 3) := by decide +kernel
theorem dX13_stepsOf_18 : decode cX13_stepsOf 18 = .ok (.aload_n 0, 1) := by decide +kernel
theorem dX13_stepsOf_19 : decode cX13_stepsOf 19 = .ok (.iload 5, 2) := by decide +kernel
theorem dX13_stepsOf_21 : decode cX13_stepsOf 21 = .ok (.aload_n 1, 1) := by decide +kernel
theorem dX13_stepsOf_22 : decode cX13_stepsOf 22 = .ok (.iload_n 2, 1) := by decide +kernel
theorem dX13_stepsOf_23 : decode cX13_stepsOf 23 = .ok (.iload 5, 2) := by decide +kernel
theorem dX13_stepsOf_25 : decode cX13_stepsOf 25 = .ok (.invokestatic 284, 3) := by decide +kernel
theorem dX13_stepsOf_28 : decode cX13_stepsOf 28 = .ok (.iaload, 1) := by decide +kernel
theorem dX13_stepsOf_29 : decode cX13_stepsOf 29 = .ok (.invokevirtual 309, 3) := by decide +kernel
theorem dX13_stepsOf_32 : decode cX13_stepsOf 32 = .ok (.istore 5, 2) := by decide +kernel
theorem dX13_stepsOf_34 : decode cX13_stepsOf 34 = .ok (.iinc 4 1, 3) := by decide +kernel
theorem dX13_stepsOf_37 : decode cX13_stepsOf 37 = .ok (.goto (-31), 3) := by decide +kernel
theorem dX13_stepsOf_40 : decode cX13_stepsOf 40 = .ok (.iload 4, 2) := by decide +kernel
theorem dX13_stepsOf_42 : decode cX13_stepsOf 42 = .ok (.ireturn, 1) := by decide +kernel
theorem dX13_sum_0 : decode cX13_sum 0 = .ok (.aload_n 0, 1) := by decide +kernel
theorem dX13_sum_1 : decode cX13_sum 1 = .ok (.invokevirtual 230, 3) := by decide +kernel
theorem dX13_sum_4 : decode cX13_sum 4 = .ok (.aload_n 0, 1) := by decide +kernel
theorem dX13_sum_5 : decode cX13_sum 5 = .ok (.getfield 123, 3) := by decide +kernel
theorem dX13_sum_8 : decode cX13_sum 8 = .ok (.ifCond .ne 50, 3) := by decide +kernel
theorem dX13_sum_11 : decode cX13_sum 11 = .ok (.aload_n 0, 1) := by decide +kernel
theorem dX13_sum_12 : decode cX13_sum 12 = .ok (.bipush 43, 2) := by decide +kernel
theorem dX13_sum_14 : decode cX13_sum 14 = .ok (.invokevirtual 233, 3) := by decide +kernel
theorem dX13_sum_17 : decode cX13_sum 17 = .ok (.ifCond .eq 7, 3) := by decide +kernel
theorem dX13_sum_20 : decode cX13_sum 20 = .ok (.iconst 2, 1) := by decide +kernel
theorem dX13_sum_21 : decode cX13_sum 21 = .ok (.goto 17, 3) := by decide +kernel
theorem dX13_sum_24 : decode cX13_sum 24 = .ok (.aload_n 0, 1) := by decide +kernel
theorem dX13_sum_25 : decode cX13_sum 25 = .ok (.bipush 45, 2) := by decide +kernel
theorem dX13_sum_27 : decode cX13_sum 27 = .ok (.invokevirtual 233, 3) := by decide +kernel
theorem dX13_sum_30 : decode cX13_sum 30 = .ok (.ifCond .eq 7, 3) := by decide +kernel
theorem dX13_sum_33 : decode cX13_sum 33 = .ok (.iconst 3, 1) := by decide +kernel
theorem dX13_sum_34 : decode cX13_sum 34 = .ok (.goto 4, 3) := by decide +kernel
theorem dX13_sum_37 : decode cX13_sum 37 = .ok (.iconst (-1), 1) := by decide +kernel
theorem dX13_sum_38 : decode cX13_sum 38 = .ok (.istore_n 1, 1) := by decide +kernel
theorem dX13_sum_39 : decode cX13_sum 39 = .ok (.iload_n 1, 1) := by decide +kernel
theorem dX13_sum_40 : decode cX13_sum 40 = .ok (.iconst (-1), 1) := by decide +kernel
theorem dX13_sum_41 : decode cX13_sum 41 = .ok (.if_icmp .ne 4, 3) := by decide +kernel
theorem dX13_sum_44 : decode cX13_sum 44 = .ok (.return_, 1) := by decide +kernel
theorem dX13_sum_45 : decode cX13_sum 45 = .ok (.aload_n 0, 1) := by decide +kernel
theorem dX13_sum_46 : decode cX13_sum 46 = .ok (.invokevirtual 230, 3) := by decide +kernel
theorem dX13_sum_49 : decode cX13_sum 49 = .ok (.aload_n 0, 1) := by decide +kernel
theorem dX13_sum_50 : decode cX13_sum 50 = .ok (.iload_n 1, 1) := by decide +kernel
theorem dX13_sum_51 : decode cX13_sum 51 = .ok (.iconst 0, 1) := by decide +kernel
theorem dX13_sum_52 : decode cX13_sum 52 = .ok (.invokevirtual 236, 3) := by decide +kernel
theorem dX13_sum_55 : decode cX13_sum 55 = .ok (.goto (-51), 3) := by decide +kernel
theorem dX13_sum_58 : decode cX13_sum 58 = .ok (.return_, 1) := by decide +kernel
theorem dX13_sumOf_0 : decode cX13_sumOf 0 = .ok (.iconst 0, 1) := by decide +kernel
theorem dX13_sumOf_1 : decode cX13_sumOf 1 = .ok (.istore_n 2, 1) := by decide +kernel
theorem dX13_sumOf_2 : decode cX13_sumOf 2 = .ok (.iconst 0, 1) := by decide +kernel
theorem dX13_sumOf_3 : decode cX13_sumOf 3 = .ok (.istore_n 3, 1) := by decide +kernel
theorem dX13_sumOf_4 : decode cX13_sumOf 4 = .ok (.iload_n 3, 1) := by decide +kernel
theorem dX13_sumOf_5 : decode cX13_sumOf 5 = .ok (.bipush 64, 2) := by decide +kernel
theorem dX13_sumOf_7 : decode cX13_sumOf 7 = .ok (.if_icmp .ge 17, 3) := by decide +kernel
theorem dX13_sumOf_10 : decode cX13_sumOf 10 = .ok (.iload_n 2, 1) := by decide +kernel
theorem dX13_sumOf_11 : decode cX13_sumOf 11 = .ok (.aload_n 0, 1) := by decide +kernel
theorem dX13_sumOf_12 : decode cX13_sumOf 12 = .ok (.iload_n 1, 1) := by decide +kernel
theorem dX13_sumOf_13 : decode cX13_sumOf 13 = .ok (.iload_n 3, 1) := by decide +kernel
theorem dX13_sumOf_14 : decode cX13_sumOf 14 = .ok (.iadd, 1) := by decide +kernel
theorem dX13_sumOf_15 : decode cX13_sumOf 15 = .ok (.iaload, 1) := by decide +kernel
theorem dX13_sumOf_16 : decode cX13_sumOf 16 = .ok (.iadd, 1) := by decide +kernel
theorem dX13_sumOf_17 : decode cX13_sumOf 17 = .ok (.istore_n 2, 1) := by decide +kernel
theorem dX13_sumOf_18 : decode cX13_sumOf 18 = .ok (.iinc 3 1, 3) := by decide +kernel
theorem dX13_sumOf_21 : decode cX13_sumOf 21 = .ok (.goto (-17), 3) := by decide +kernel
theorem dX13_sumOf_24 : decode cX13_sumOf 24 = .ok (.iload_n 2, 1) := by decide +kernel
theorem dX13_sumOf_25 : decode cX13_sumOf 25 = .ok (.ireturn, 1) := by decide +kernel
theorem dX13_takes_0 : decode cX13_takes 0 = .ok (.aload_n 0, 1) := by decide +kernel
theorem dX13_takes_1 : decode cX13_takes 1 = .ok (.iload_n 1, 1) := by decide +kernel
theorem dX13_takes_2 : decode cX13_takes 2 = .ok (.iload_n 2, 1) := by decide +kernel
theorem dX13_takes_3 : decode cX13_takes 3 = .ok (.iload_n 3, 1) := by decide +kernel
theorem dX13_takes_4 : decode cX13_takes 4 = .ok (.iload 4, 2) := by decide +kernel
theorem dX13_takes_6 : decode cX13_takes 6 = .ok (.iload 5, 2) := by decide +kernel
theorem dX13_takes_8 : decode cX13_takes 8 = .ok (.iload 6, 2) := by decide +kernel
theorem dX13_takes_10 : decode cX13_takes 10 = .ok (.invokevirtual 156, 3) := by decide +kernel
theorem dX13_takes_13 : decode cX13_takes 13 = .ok (.istore 7, 2) := by decide +kernel
theorem dX13_takes_15 : decode cX13_takes 15 = .ok (.iload 7, 2) := by decide +kernel
theorem dX13_takes_17 : decode cX13_takes 17 = .ok (.ifCond .eq 7, 3) := by decide +kernel
theorem dX13_takes_20 : decode cX13_takes 20 = .ok (.aload_n 0, 1) := by decide +kernel
theorem dX13_takes_21 : decode cX13_takes 21 = .ok (.invokevirtual 160, 3) := by decide +kernel
theorem dX13_takes_24 : decode cX13_takes 24 = .ok (.iload 7, 2) := by decide +kernel
theorem dX13_takes_26 : decode cX13_takes 26 = .ok (.ireturn, 1) := by decide +kernel
theorem dX13_takesSign_0 : decode cX13_takesSign 0 = .ok (.aload_n 0, 1) := by decide +kernel
theorem dX13_takesSign_1 : decode cX13_takesSign 1 = .ok (.getfield 123, 3) := by decide +kernel
theorem dX13_takesSign_4 : decode cX13_takesSign 4 = .ok (.ifCond .eq 5, 3) := by decide +kernel
theorem dX13_takesSign_7 : decode cX13_takesSign 7 = .ok (.iconst 0, 1) := by decide +kernel
theorem dX13_takesSign_8 : decode cX13_takesSign 8 = .ok (.ireturn, 1) := by decide +kernel
theorem dX13_takesSign_9 : decode cX13_takesSign 9 = .ok (.aload_n 0, 1) := by decide +kernel
theorem dX13_takesSign_10 : decode cX13_takesSign 10 = .ok (.invokevirtual 129, 3) := by decide +kernel
theorem dX13_takesSign_13 : decode cX13_takesSign 13 = .ok (.aload_n 0, 1) := by decide +kernel
theorem dX13_takesSign_14 : decode cX13_takesSign 14 = .ok (.aload_n 0, 1) := by decide +kernel
theorem dX13_takesSign_15 : decode cX13_takesSign 15 = .ok (.getfield 116, 3) := by decide +kernel
theorem dX13_takesSign_18 : decode cX13_takesSign 18 = .ok (.invokevirtual 119, 3) := by decide +kernel
theorem dX13_takesSign_21 : decode cX13_takesSign 21 = .ok (.iload_n 1, 1) := by decide +kernel
theorem dX13_takesSign_22 : decode cX13_takesSign 22 = .ok (.if_icmp .ne 7, 3) := by decide +kernel
theorem dX13_takesSign_25 : decode cX13_takesSign 25 = .ok (.iconst 1, 1) := by decide +kernel
theorem dX13_takesSign_26 : decode cX13_takesSign 26 = .ok (.goto 4, 3) := by decide +kernel
theorem dX13_takesSign_29 : decode cX13_takesSign 29 = .ok (.iconst 0, 1) := by decide +kernel
theorem dX13_takesSign_30 : decode cX13_takesSign 30 = .ok (.istore_n 2, 1) := by decide +kernel
theorem dX13_takesSign_31 : decode cX13_takesSign 31 = .ok (.iload_n 2, 1) := by decide +kernel
theorem dX13_takesSign_32 : decode cX13_takesSign 32 = .ok (.ifCond .eq 13, 3) := by decide +kernel
theorem dX13_takesSign_35 : decode cX13_takesSign 35 = .ok (.aload_n 0, 1) := by decide +kernel
theorem dX13_takesSign_36 : decode cX13_takesSign 36 = .ok (.dup, 1) := by decide +kernel
theorem dX13_takesSign_37 : decode cX13_takesSign 37 = .ok (.getfield 116, 3) := by decide +kernel
theorem dX13_takesSign_40 : decode cX13_takesSign 40 = .ok (.iconst 1, 1) := by decide +kernel
theorem dX13_takesSign_41 : decode cX13_takesSign 41 = .ok (.iadd, 1) := by decide +kernel
theorem dX13_takesSign_42 : decode cX13_takesSign 42 = .ok (.putfield 116, 3) := by decide +kernel
theorem dX13_takesSign_45 : decode cX13_takesSign 45 = .ok (.iload_n 2, 1) := by decide +kernel
theorem dX13_takesSign_46 : decode cX13_takesSign 46 = .ok (.ireturn, 1) := by decide +kernel
theorem dX13_tellsNothing_0 : decode cX13_tellsNothing 0 = .ok (.aload_n 0, 1) := by decide +kernel
theorem dX13_tellsNothing_1 : decode cX13_tellsNothing 1 = .ok (.getfield 20, 3) := by decide +kernel
theorem dX13_tellsNothing_4 : decode cX13_tellsNothing 4 = .ok (.iconst 0, 1) := by decide +kernel
theorem dX13_tellsNothing_5 : decode cX13_tellsNothing 5 = .ok (.iconst 4, 1) := by decide +kernel
theorem dX13_tellsNothing_6 : decode cX13_tellsNothing 6 = .ok (.iastore, 1) := by decide +kernel
theorem dX13_tellsNothing_7 : decode cX13_tellsNothing 7 = .ok (.aload_n 0, 1) := by decide +kernel
theorem dX13_tellsNothing_8 : decode cX13_tellsNothing 8 = .ok (.getfield 20, 3) := by decide +kernel
theorem dX13_tellsNothing_11 : decode cX13_tellsNothing 11 = .ok (.iconst 1, 1) := by decide +kernel
theorem dX13_tellsNothing_12 : decode cX13_tellsNothing 12 = .ok (.iconst 4, 1) := by decide +kernel
theorem dX13_tellsNothing_13 : decode cX13_tellsNothing 13 = .ok (.iastore, 1) := by decide +kernel
theorem dX13_tellsNothing_14 : decode cX13_tellsNothing 14 = .ok (.aload_n 0, 1) := by decide +kernel
theorem dX13_tellsNothing_15 : decode cX13_tellsNothing 15 = .ok (.getfield 20, 3) := by decide +kernel
theorem dX13_tellsNothing_18 : decode cX13_tellsNothing 18 = .ok (.iconst 2, 1) := by decide +kernel
theorem dX13_tellsNothing_19 : decode cX13_tellsNothing 19 = .ok (.iconst 0, 1) := by decide +kernel
theorem dX13_tellsNothing_20 : decode cX13_tellsNothing 20 = .ok (.iastore, 1) := by decide +kernel
theorem dX13_tellsNothing_21 : decode cX13_tellsNothing 21 = .ok (.aload_n 0, 1) := by decide +kernel
theorem dX13_tellsNothing_22 : decode cX13_tellsNothing 22 = .ok (.getfield 20, 3) := by decide +kernel
theorem dX13_tellsNothing_25 : decode cX13_tellsNothing 25 = .ok (.iconst 3, 1) := by decide +kernel
theorem dX13_tellsNothing_26 : decode cX13_tellsNothing 26 = .ok (.iconst 1, 1) := by decide +kernel
theorem dX13_tellsNothing_27 : decode cX13_tellsNothing 27 = .ok (.iastore, 1) := by decide +kernel
theorem dX13_tellsNothing_28 : decode cX13_tellsNothing 28 = .ok (.iconst 0, 1) := by decide +kernel
theorem dX13_tellsNothing_29 : decode cX13_tellsNothing 29 = .ok (.istore_n 1, 1) := by decide +kernel
theorem dX13_tellsNothing_30 : decode cX13_tellsNothing 30 = .ok (.iload_n 1, 1) := by decide +kernel
theorem dX13_tellsNothing_31 : decode cX13_tellsNothing 31 = .ok (.bipush 64, 2) := by decide +kernel
theorem dX13_tellsNothing_33 : decode cX13_tellsNothing 33 = .ok (.if_icmp .ge 23, 3) := by decide +kernel
theorem dX13_tellsNothing_36 : decode cX13_tellsNothing 36 = .ok (.aload_n 0, 1) := by decide +kernel
theorem dX13_tellsNothing_37 : decode cX13_tellsNothing 37 = .ok (.getfield 26, 3) := by decide +kernel
theorem dX13_tellsNothing_40 : decode cX13_tellsNothing 40 = .ok (.iload_n 1, 1) := by decide +kernel
theorem dX13_tellsNothing_41 : decode cX13_tellsNothing 41 = .ok (.iconst 0, 1) := by decide +kernel
theorem dX13_tellsNothing_42 : decode cX13_tellsNothing 42 = .ok (.iastore, 1) := by decide +kernel
theorem dX13_tellsNothing_43 : decode cX13_tellsNothing 43 = .ok (.aload_n 0, 1) := by decide +kernel
theorem dX13_tellsNothing_44 : decode cX13_tellsNothing 44 = .ok (.getfield 29, 3) := by decide +kernel
theorem dX13_tellsNothing_47 : decode cX13_tellsNothing 47 = .ok (.iload_n 1, 1) := by decide +kernel
theorem dX13_tellsNothing_48 : decode cX13_tellsNothing 48 = .ok (.iconst 1, 1) := by decide +kernel
theorem dX13_tellsNothing_49 : decode cX13_tellsNothing 49 = .ok (.iastore, 1) := by decide +kernel
theorem dX13_tellsNothing_50 : decode cX13_tellsNothing 50 = .ok (.iinc 1 1, 3) := by decide +kernel
theorem dX13_tellsNothing_53 : decode cX13_tellsNothing 53 = .ok (.goto (-23), 3) := by decide +kernel
theorem dX13_tellsNothing_56 : decode cX13_tellsNothing 56 = .ok (.return_, 1) := by decide +kernel
theorem dX13_thrown_0 : decode cX13_thrown 0 = .ok (.aload_n 0, 1) := by decide +kernel
theorem dX13_thrown_1 : decode cX13_thrown 1 = .ok (.getfield 107, 3) := by decide +kernel
theorem dX13_thrown_4 : decode cX13_thrown 4 = .ok (.ireturn, 1) := by decide +kernel
theorem dX13_tight_0 : decode cX13_tight 0 = .ok (.aload_n 0, 1) := by decide +kernel
theorem dX13_tight_1 : decode cX13_tight 1 = .ok (.iconst 0, 1) := by decide +kernel
theorem dX13_tight_2 : decode cX13_tight 2 = .ok (.putfield 107, 3) := by decide +kernel
theorem dX13_tight_5 : decode cX13_tight 5 = .ok (.aload_n 0, 1) := by decide +kernel
theorem dX13_tight_6 : decode cX13_tight 6 = .ok (.iload_n 1, 1) := by decide +kernel
theorem dX13_tight_7 : decode cX13_tight 7 = .ok (.iconst 0, 1) := by decide +kernel
theorem dX13_tight_8 : decode cX13_tight 8 = .ok (.iconst 1, 1) := by decide +kernel
theorem dX13_tight_9 : decode cX13_tight 9 = .ok (.invokestatic 141, 3) := by decide +kernel
theorem dX13_tight_12 : decode cX13_tight 12 = .ok (.ifCond .ne 7, 3) := by decide +kernel
theorem dX13_tight_15 : decode cX13_tight 15 = .ok (.iconst 1, 1) := by decide +kernel
theorem dX13_tight_16 : decode cX13_tight 16 = .ok (.goto 4, 3) := by decide +kernel
theorem dX13_tight_19 : decode cX13_tight 19 = .ok (.iconst 0, 1) := by decide +kernel
theorem dX13_tight_20 : decode cX13_tight 20 = .ok (.iconst 1, 1) := by decide +kernel
theorem dX13_tight_21 : decode cX13_tight 21 = .ok (.iconst 1, 1) := by decide +kernel
theorem dX13_tight_22 : decode cX13_tight 22 = .ok (.invokevirtual 186, 3) := by decide +kernel
theorem dX13_tight_25 : decode cX13_tight 25 = .ok (.ifCond .eq 5, 3) := by decide +kernel
theorem dX13_tight_28 : decode cX13_tight 28 = .ok (.iconst 0, 1) := by decide +kernel
theorem dX13_tight_29 : decode cX13_tight 29 = .ok (.ireturn, 1) := by decide +kernel
theorem dX13_tight_30 : decode cX13_tight 30 = .ok (.iconst (-1), 1) := by decide +kernel
theorem dX13_tight_31 : decode cX13_tight 31 = .ok (.istore_n 2, 1) := by decide +kernel
theorem dX13_tight_32 : decode cX13_tight 32 = .ok (.iconst 0, 1) := by decide +kernel
theorem dX13_tight_33 : decode cX13_tight 33 = .ok (.istore_n 3, 1) := by decide +kernel
theorem dX13_tight_34 : decode cX13_tight 34 = .ok (.iload_n 3, 1) := by decide +kernel
theorem dX13_tight_35 : decode cX13_tight 35 = .ok (.aload_n 0, 1) := by decide +kernel
theorem dX13_tight_36 : decode cX13_tight 36 = .ok (.getfield 23, 3) := by decide +kernel
theorem dX13_tight_39 : decode cX13_tight 39 = .ok (.iconst 2, 1) := by decide +kernel
theorem dX13_tight_40 : decode cX13_tight 40 = .ok (.iaload, 1) := by decide +kernel
theorem dX13_tight_41 : decode cX13_tight 41 = .ok (.if_icmp .ge 85, 3) := by decide +kernel
theorem dX13_tight_44 : decode cX13_tight 44 = .ok (.aload_n 0, 1) := by decide +kernel
theorem dX13_tight_45 : decode cX13_tight 45 = .ok (.getfield 40, 3) := by decide +kernel
theorem dX13_tight_48 : decode cX13_tight 48 = .ok (.iload_n 3, 1) := by decide +kernel
theorem dX13_tight_49 : decode cX13_tight 49 = .ok (.aaload, 1) := by decide +kernel
theorem dX13_tight_50 : decode cX13_tight 50 = .ok (.iconst 2, 1) := by decide +kernel
theorem dX13_tight_51 : decode cX13_tight 51 = .ok (.iaload, 1) := by decide +kernel
theorem dX13_tight_52 : decode cX13_tight 52 = .ok (.ifCond .eq 68, 3) := by decide +kernel
theorem dX13_tight_55 : decode cX13_tight 55 = .ok (.aload_n 0, 1) := by decide +kernel
theorem dX13_tight_56 : decode cX13_tight 56 = .ok (.aload_n 0, 1) := by decide +kernel
theorem dX13_tight_57 : decode cX13_tight 57 = .ok (.getfield 70, 3) := by decide +kernel
theorem dX13_tight_60 : decode cX13_tight 60 = .ok (.iload_n 3, 1) := by decide +kernel
theorem dX13_tight_61 : decode cX13_tight 61 = .ok (.invokevirtual 312, 3) := by decide +kernel
theorem dX13_tight_64 : decode cX13_tight 64 = .ok (.ifCond .ne 6, 3) := by decide +kernel
theorem dX13_tight_67 : decode cX13_tight 67 = .ok (.goto 53, 3) := by decide +kernel
theorem dX13_tight_70 : decode cX13_tight 70 = .ok (.iload_n 2, 1) := by decide +kernel
theorem dX13_tight_71 : decode cX13_tight 71 = .ok (.iconst (-1), 1) := by decide +kernel
theorem dX13_tight_72 : decode cX13_tight 72 = .ok (.if_icmp .eq 42, 3) := by decide +kernel
theorem dX13_tight_75 : decode cX13_tight 75 = .ok (.aload_n 0, 1) := by decide +kernel
theorem dX13_tight_76 : decode cX13_tight 76 = .ok (.getfield 40, 3) := by decide +kernel
theorem dX13_tight_79 : decode cX13_tight 79 = .ok (.iload_n 3, 1) := by decide +kernel
theorem dX13_tight_80 : decode cX13_tight 80 = .ok (.aaload, 1) := by decide +kernel
theorem dX13_tight_81 : decode cX13_tight 81 = .ok (.iconst 1, 1) := by decide +kernel
theorem dX13_tight_82 : decode cX13_tight 82 = .ok (.iaload, 1) := by decide +kernel
theorem dX13_tight_83 : decode cX13_tight 83 = .ok (.aload_n 0, 1) := by decide +kernel
theorem dX13_tight_84 : decode cX13_tight 84 = .ok (.aload_n 0, 1) := by decide +kernel
theorem dX13_tight_85 : decode cX13_tight 85 = .ok (.getfield 70, 3) := by decide +kernel
theorem dX13_tight_88 : decode cX13_tight 88 = .ok (.iload_n 3, 1) := by decide +kernel
theorem dX13_tight_89 : decode cX13_tight 89 = .ok (.invokevirtual 393, 3) := by decide +kernel
theorem dX13_tight_92 : decode cX13_tight 92 = .ok (.isub, 1) := by decide +kernel
theorem dX13_tight_93 : decode cX13_tight 93 = .ok (.aload_n 0, 1) := by decide +kernel
theorem dX13_tight_94 : decode cX13_tight 94 = .ok (.getfield 40, 3) := by decide +kernel
theorem dX13_tight_97 : decode cX13_tight 97 = .ok (.iload_n 2, 1) := by decide +kernel
theorem dX13_tight_98 : decode cX13_tight 98 = .ok (.aaload, 1) := by decide +kernel
theorem dX13_tight_99 : decode cX13_tight 99 = .ok (.iconst 1, 1) := by decide +kernel
theorem dX13_tight_100 : decode cX13_tight 100 = .ok (.iaload, 1) := by decide +kernel
theorem dX13_tight_101 : decode cX13_tight 101 = .ok (.aload_n 0, 1) := by decide +kernel
theorem dX13_tight_102 : decode cX13_tight 102 = .ok (.aload_n 0, 1) := by decide +kernel
theorem dX13_tight_103 : decode cX13_tight 103 = .ok (.getfield 70, 3) := by decide +kernel
theorem dX13_tight_106 : decode cX13_tight 106 = .ok (.iload_n 2, 1) := by decide +kernel
theorem dX13_tight_107 : decode cX13_tight 107 = .ok (.invokevirtual 393, 3) := by decide +kernel
theorem dX13_tight_110 : decode cX13_tight 110 = .ok (.isub, 1) := by decide +kernel
theorem dX13_tight_111 : decode cX13_tight 111 = .ok (.if_icmp .ge 7, 3) := by decide +kernel
theorem dX13_tight_114 : decode cX13_tight 114 = .ok (.iload_n 3, 1) := by decide +kernel
theorem dX13_tight_115 : decode cX13_tight 115 = .ok (.goto 4, 3) := by decide +kernel
theorem dX13_tight_118 : decode cX13_tight 118 = .ok (.iload_n 2, 1) := by decide +kernel
theorem dX13_tight_119 : decode cX13_tight 119 = .ok (.istore_n 2, 1) := by decide +kernel
theorem dX13_tight_120 : decode cX13_tight 120 = .ok (.iinc 3 1, 3) := by decide +kernel
theorem dX13_tight_123 : decode cX13_tight 123 = .ok (.goto (-89), 3) := by decide +kernel
theorem dX13_tight_126 : decode cX13_tight 126 = .ok (.iload_n 2, 1) := by decide +kernel
theorem dX13_tight_127 : decode cX13_tight 127 = .ok (.iconst (-1), 1) := by decide +kernel
theorem dX13_tight_128 : decode cX13_tight 128 = .ok (.if_icmp .ne 7, 3) := by decide +kernel
theorem dX13_tight_131 : decode cX13_tight 131 = .ok (.sipush (-1000), 3) := by decide +kernel
theorem dX13_tight_134 : decode cX13_tight 134 = .ok (.ireturn, 1) := by decide +kernel
theorem dX13_tight_135 : decode cX13_tight 135 = .ok (.iload_n 1, 1) := by decide +kernel
theorem dX13_tight_136 : decode cX13_tight 136 = .ok (.ifCond .ne 7, 3) := by decide +kernel
theorem dX13_tight_139 : decode cX13_tight 139 = .ok (.iload_n 2, 1) := by decide +kernel
theorem dX13_tight_140 : decode cX13_tight 140 = .ok (.goto 21, 3) := by decide +kernel
theorem dX13_tight_143 : decode cX13_tight 143 = .ok (.aload_n 0, 1) := by decide +kernel
theorem dX13_tight_144 : decode cX13_tight 144 = .ok (.getfield 40, 3) := by decide +kernel
theorem dX13_tight_147 : decode cX13_tight 147 = .ok (.iload_n 2, 1) := by decide +kernel
theorem dX13_tight_148 : decode cX13_tight 148 = .ok (.aaload, 1) := by decide +kernel
theorem dX13_tight_149 : decode cX13_tight 149 = .ok (.iconst 1, 1) := by decide +kernel
theorem dX13_tight_150 : decode cX13_tight 150 = .ok (.iaload, 1) := by decide +kernel
theorem dX13_tight_151 : decode cX13_tight 151 = .ok (.aload_n 0, 1) := by decide +kernel
theorem dX13_tight_152 : decode cX13_tight 152 = .ok (.aload_n 0, 1) := by decide +kernel
theorem dX13_tight_153 : decode cX13_tight 153 = .ok (.getfield 70, 3) := by decide +kernel
theorem dX13_tight_156 : decode cX13_tight 156 = .ok (.iload_n 2, 1) := by decide +kernel
theorem dX13_tight_157 : decode cX13_tight 157 = .ok (.invokevirtual 393, 3) := by decide +kernel
theorem dX13_tight_160 : decode cX13_tight 160 = .ok (.isub, 1) := by decide +kernel
theorem dX13_tight_161 : decode cX13_tight 161 = .ok (.ireturn, 1) := by decide +kernel
theorem dX13_told_0 : decode cX13_told 0 = .ok (.aload_n 0, 1) := by decide +kernel
theorem dX13_told_1 : decode cX13_told 1 = .ok (.iconst 0, 1) := by decide +kernel
theorem dX13_told_2 : decode cX13_told 2 = .ok (.putfield 107, 3) := by decide +kernel
theorem dX13_told_5 : decode cX13_told 5 = .ok (.aload_n 0, 1) := by decide +kernel
theorem dX13_told_6 : decode cX13_told 6 = .ok (.iload_n 1, 1) := by decide +kernel
theorem dX13_told_7 : decode cX13_told 7 = .ok (.iconst 0, 1) := by decide +kernel
theorem dX13_told_8 : decode cX13_told 8 = .ok (.bipush 12, 2) := by decide +kernel
theorem dX13_told_10 : decode cX13_told 10 = .ok (.invokestatic 141, 3) := by decide +kernel
theorem dX13_told_13 : decode cX13_told 13 = .ok (.ifCond .ne 7, 3) := by decide +kernel
theorem dX13_told_16 : decode cX13_told 16 = .ok (.iconst 1, 1) := by decide +kernel
theorem dX13_told_17 : decode cX13_told 17 = .ok (.goto 4, 3) := by decide +kernel
theorem dX13_told_20 : decode cX13_told 20 = .ok (.iconst 0, 1) := by decide +kernel
theorem dX13_told_21 : decode cX13_told 21 = .ok (.iconst 1, 1) := by decide +kernel
theorem dX13_told_22 : decode cX13_told 22 = .ok (.iconst 1, 1) := by decide +kernel
theorem dX13_told_23 : decode cX13_told 23 = .ok (.invokevirtual 186, 3) := by decide +kernel
theorem dX13_told_26 : decode cX13_told 26 = .ok (.ifCond .eq 5, 3) := by decide +kernel
theorem dX13_told_29 : decode cX13_told 29 = .ok (.iconst 0, 1) := by decide +kernel
theorem dX13_told_30 : decode cX13_told 30 = .ok (.ireturn, 1) := by decide +kernel
theorem dX13_told_31 : decode cX13_told 31 = .ok (.iload_n 1, 1) := by decide +kernel
theorem dX13_told_32 : decode cX13_told 32 = .ok (.tableswitch 146 0 11 #[64, 64, 64, 71, 80, 89, 98, 115, 120, 129, 136, 141], 64) := by decide +kernel
theorem dX13_told_96 : decode cX13_told 96 = .ok (.aload_n 0, 1) := by decide +kernel
theorem dX13_told_97 : decode cX13_told 97 = .ok (.getfield 23, 3) := by decide +kernel
theorem dX13_told_100 : decode cX13_told 100 = .ok (.iload_n 1, 1) := by decide +kernel
theorem dX13_told_101 : decode cX13_told 101 = .ok (.iaload, 1) := by decide +kernel
theorem dX13_told_102 : decode cX13_told 102 = .ok (.ireturn, 1) := by decide +kernel
theorem dX13_told_103 : decode cX13_told 103 = .ok (.aload_n 0, 1) := by decide +kernel
theorem dX13_told_104 : decode cX13_told 104 = .ok (.getfield 70, 3) := by decide +kernel
theorem dX13_told_107 : decode cX13_told 107 = .ok (.sipush 518, 3) := by decide +kernel
theorem dX13_told_110 : decode cX13_told 110 = .ok (.iaload, 1) := by decide +kernel
theorem dX13_told_111 : decode cX13_told 111 = .ok (.ireturn, 1) := by decide +kernel
theorem dX13_told_112 : decode cX13_told 112 = .ok (.aload_n 0, 1) := by decide +kernel
theorem dX13_told_113 : decode cX13_told 113 = .ok (.aload_n 0, 1) := by decide +kernel
theorem dX13_told_114 : decode cX13_told 114 = .ok (.getfield 70, 3) := by decide +kernel
theorem dX13_told_117 : decode cX13_told 117 = .ok (.invokevirtual 383, 3) := by decide +kernel
theorem dX13_told_120 : decode cX13_told 120 = .ok (.ireturn, 1) := by decide +kernel
theorem dX13_told_121 : decode cX13_told 121 = .ok (.aload_n 0, 1) := by decide +kernel
theorem dX13_told_122 : decode cX13_told 122 = .ok (.aload_n 0, 1) := by decide +kernel
theorem dX13_told_123 : decode cX13_told 123 = .ok (.getfield 70, 3) := by decide +kernel
theorem dX13_told_126 : decode cX13_told 126 = .ok (.invokevirtual 387, 3) := by decide +kernel
theorem dX13_told_129 : decode cX13_told 129 = .ok (.ireturn, 1) := by decide +kernel
theorem dX13_told_130 : decode cX13_told 130 = .ok (.aload_n 0, 1) := by decide +kernel
theorem dX13_told_131 : decode cX13_told 131 = .ok (.aload_n 0, 1) := by decide +kernel
theorem dX13_told_132 : decode cX13_told 132 = .ok (.getfield 70, 3) := by decide +kernel
theorem dX13_told_135 : decode cX13_told 135 = .ok (.invokevirtual 396, 3) := by decide +kernel
theorem dX13_told_138 : decode cX13_told 138 = .ok (.ifCond .eq 7, 3) := by decide +kernel
theorem dX13_told_141 : decode cX13_told 141 = .ok (.iconst 1, 1) := by decide +kernel
theorem dX13_told_142 : decode cX13_told 142 = .ok (.goto 4, 3) := by decide +kernel
theorem dX13_told_145 : decode cX13_told 145 = .ok (.iconst 0, 1) := by decide +kernel
theorem dX13_told_146 : decode cX13_told 146 = .ok (.ireturn, 1) := by decide +kernel
theorem dX13_told_147 : decode cX13_told 147 = .ok (.aload_n 0, 1) := by decide +kernel
theorem dX13_told_148 : decode cX13_told 148 = .ok (.invokevirtual 400, 3) := by decide +kernel
theorem dX13_told_151 : decode cX13_told 151 = .ok (.ireturn, 1) := by decide +kernel
theorem dX13_told_152 : decode cX13_told 152 = .ok (.aload_n 0, 1) := by decide +kernel
theorem dX13_told_153 : decode cX13_told 153 = .ok (.aload_n 0, 1) := by decide +kernel
theorem dX13_told_154 : decode cX13_told 154 = .ok (.getfield 70, 3) := by decide +kernel
theorem dX13_told_157 : decode cX13_told 157 = .ok (.invokevirtual 403, 3) := by decide +kernel
theorem dX13_told_160 : decode cX13_told 160 = .ok (.ireturn, 1) := by decide +kernel
theorem dX13_told_161 : decode cX13_told 161 = .ok (.aload_n 0, 1) := by decide +kernel
theorem dX13_told_162 : decode cX13_told 162 = .ok (.getfield 23, 3) := by decide +kernel
theorem dX13_told_165 : decode cX13_told 165 = .ok (.iconst 3, 1) := by decide +kernel
theorem dX13_told_166 : decode cX13_told 166 = .ok (.iaload, 1) := by decide +kernel
theorem dX13_told_167 : decode cX13_told 167 = .ok (.ireturn, 1) := by decide +kernel
theorem dX13_told_168 : decode cX13_told 168 = .ok (.aload_n 0, 1) := by decide +kernel
theorem dX13_told_169 : decode cX13_told 169 = .ok (.getfield 215, 3) := by decide +kernel
theorem dX13_told_172 : decode cX13_told 172 = .ok (.ireturn, 1) := by decide +kernel
theorem dX13_told_173 : decode cX13_told 173 = .ok (.aload_n 0, 1) := by decide +kernel
theorem dX13_told_174 : decode cX13_told 174 = .ok (.getfield 221, 3) := by decide +kernel
theorem dX13_told_177 : decode cX13_told 177 = .ok (.ireturn, 1) := by decide +kernel
theorem dX13_told_178 : decode cX13_told 178 = .ok (.aload_n 0, 1) := by decide +kernel
theorem dX13_told_179 : decode cX13_told 179 = .ok (.getfield 70, 3) := by decide +kernel
theorem dX13_told_182 : decode cX13_told 182 = .ok (.sipush 448, 3) := by decide +kernel
theorem dX13_told_185 : decode cX13_told 185 = .ok (.invokestatic 406, 3) := by decide +kernel
theorem dX13_told_188 : decode cX13_told 188 = .ok (.ireturn, 1) := by decide +kernel
theorem dX13_tree_0 : decode cX13_tree 0 = .ok (.aload_n 0, 1) := by decide +kernel
theorem dX13_tree_1 : decode cX13_tree 1 = .ok (.iconst 0, 1) := by decide +kernel
theorem dX13_tree_2 : decode cX13_tree 2 = .ok (.putfield 107, 3) := by decide +kernel
theorem dX13_tree_5 : decode cX13_tree 5 = .ok (.aload_n 0, 1) := by decide +kernel
theorem dX13_tree_6 : decode cX13_tree 6 = .ok (.aload_n 0, 1) := by decide +kernel
theorem dX13_tree_7 : decode cX13_tree 7 = .ok (.iload_n 1, 1) := by decide +kernel
theorem dX13_tree_8 : decode cX13_tree 8 = .ok (.invokevirtual 412, 3) := by decide +kernel
theorem dX13_tree_11 : decode cX13_tree 11 = .ok (.ifCond .eq 19, 3) := by decide +kernel
theorem dX13_tree_14 : decode cX13_tree 14 = .ok (.iload_n 2, 1) := by decide +kernel
theorem dX13_tree_15 : decode cX13_tree 15 = .ok (.iconst 0, 1) := by decide +kernel
theorem dX13_tree_16 : decode cX13_tree 16 = .ok (.aload_n 0, 1) := by decide +kernel
theorem dX13_tree_17 : decode cX13_tree 17 = .ok (.getfield 23, 3) := by decide +kernel
theorem dX13_tree_20 : decode cX13_tree 20 = .ok (.iconst 1, 1) := by decide +kernel
theorem dX13_tree_21 : decode cX13_tree 21 = .ok (.iaload, 1) := by decide +kernel
theorem dX13_tree_22 : decode cX13_tree 22 = .ok (.iconst 1, 1) := by decide +kernel
theorem dX13_tree_23 : decode cX13_tree 23 = .ok (.isub, 1) := by decide +kernel
theorem dX13_tree_24 : decode cX13_tree 24 = .ok (.invokestatic 141, 3) := by decide +kernel
theorem dX13_tree_27 : decode cX13_tree 27 = .ok (.ifCond .ne 7, 3) := by decide +kernel
theorem dX13_tree_30 : decode cX13_tree 30 = .ok (.iconst 1, 1) := by decide +kernel
theorem dX13_tree_31 : decode cX13_tree 31 = .ok (.goto 4, 3) := by decide +kernel
theorem dX13_tree_34 : decode cX13_tree 34 = .ok (.iconst 0, 1) := by decide +kernel
theorem dX13_tree_35 : decode cX13_tree 35 = .ok (.iconst 1, 1) := by decide +kernel
theorem dX13_tree_36 : decode cX13_tree 36 = .ok (.iconst 0, 1) := by decide +kernel
theorem dX13_tree_37 : decode cX13_tree 37 = .ok (.invokevirtual 186, 3) := by decide +kernel
theorem dX13_tree_40 : decode cX13_tree 40 = .ok (.ifCond .eq 5, 3) := by decide +kernel
theorem dX13_tree_43 : decode cX13_tree 43 = .ok (.iconst 0, 1) := by decide +kernel
theorem dX13_tree_44 : decode cX13_tree 44 = .ok (.ireturn, 1) := by decide +kernel
theorem dX13_tree_45 : decode cX13_tree 45 = .ok (.iconst 0, 1) := by decide +kernel
theorem dX13_tree_46 : decode cX13_tree 46 = .ok (.istore_n 3, 1) := by decide +kernel
theorem dX13_tree_47 : decode cX13_tree 47 = .ok (.iconst 0, 1) := by decide +kernel
theorem dX13_tree_48 : decode cX13_tree 48 = .ok (.istore 4, 2) := by decide +kernel
theorem dX13_tree_50 : decode cX13_tree 50 = .ok (.iload 4, 2) := by decide +kernel
theorem dX13_tree_52 : decode cX13_tree 52 = .ok (.aload_n 0, 1) := by decide +kernel
theorem dX13_tree_53 : decode cX13_tree 53 = .ok (.getfield 23, 3) := by decide +kernel
theorem dX13_tree_56 : decode cX13_tree 56 = .ok (.iconst 0, 1) := by decide +kernel
theorem dX13_tree_57 : decode cX13_tree 57 = .ok (.iaload, 1) := by decide +kernel
theorem dX13_tree_58 : decode cX13_tree 58 = .ok (.if_icmp .ge 38, 3) := by decide +kernel
theorem dX13_tree_61 : decode cX13_tree 61 = .ok (.iload_n 3, 1) := by decide +kernel
theorem dX13_tree_62 : decode cX13_tree 62 = .ok (.aload_n 0, 1) := by decide +kernel
theorem dX13_tree_63 : decode cX13_tree 63 = .ok (.getfield 70, 3) := by decide +kernel
theorem dX13_tree_66 : decode cX13_tree 66 = .ok (.iload_n 1, 1) := by decide +kernel
theorem dX13_tree_67 : decode cX13_tree 67 = .ok (.bipush 8, 2) := by decide +kernel
theorem dX13_tree_69 : decode cX13_tree 69 = .ok (.iload_n 2, 1) := by decide +kernel
theorem dX13_tree_70 : decode cX13_tree 70 = .ok (.imul, 1) := by decide +kernel
theorem dX13_tree_71 : decode cX13_tree 71 = .ok (.iload 4, 2) := by decide +kernel
theorem dX13_tree_73 : decode cX13_tree 73 = .ok (.iadd, 1) := by decide +kernel
theorem dX13_tree_74 : decode cX13_tree 74 = .ok (.invokestatic 287, 3) := by decide +kernel
theorem dX13_tree_77 : decode cX13_tree 77 = .ok (.ifCond .eq 10, 3) := by decide +kernel
theorem dX13_tree_80 : decode cX13_tree 80 = .ok (.iconst 1, 1) := by decide +kernel
theorem dX13_tree_81 : decode cX13_tree 81 = .ok (.iload 4, 2) := by decide +kernel
theorem dX13_tree_83 : decode cX13_tree 83 = .ok (.ishl, 1) := by decide +kernel
theorem dX13_tree_84 : decode cX13_tree 84 = .ok (.goto 4, 3) := by decide +kernel
theorem dX13_tree_87 : decode cX13_tree 87 = .ok (.iconst 0, 1) := by decide +kernel
theorem dX13_tree_88 : decode cX13_tree 88 = .ok (.ior, 1) := by decide +kernel
theorem dX13_tree_89 : decode cX13_tree 89 = .ok (.istore_n 3, 1) := by decide +kernel
theorem dX13_tree_90 : decode cX13_tree 90 = .ok (.iinc 4 1, 3) := by decide +kernel
theorem dX13_tree_93 : decode cX13_tree 93 = .ok (.goto (-43), 3) := by decide +kernel
theorem dX13_tree_96 : decode cX13_tree 96 = .ok (.iload_n 3, 1) := by decide +kernel
theorem dX13_tree_97 : decode cX13_tree 97 = .ok (.ireturn, 1) := by decide +kernel
theorem dX13_treeOf_0 : decode cX13_treeOf 0 = .ok (.iconst 0, 1) := by decide +kernel
theorem dX13_treeOf_1 : decode cX13_treeOf 1 = .ok (.bipush 64, 2) := by decide +kernel
theorem dX13_treeOf_3 : decode cX13_treeOf 3 = .ok (.iload_n 0, 1) := by decide +kernel
theorem dX13_treeOf_4 : decode cX13_treeOf 4 = .ok (.imul, 1) := by decide +kernel
theorem dX13_treeOf_5 : decode cX13_treeOf 5 = .ok (.iadd, 1) := by decide +kernel
theorem dX13_treeOf_6 : decode cX13_treeOf 6 = .ok (.iload_n 1, 1) := by decide +kernel
theorem dX13_treeOf_7 : decode cX13_treeOf 7 = .ok (.iadd, 1) := by decide +kernel
theorem dX13_treeOf_8 : decode cX13_treeOf 8 = .ok (.ireturn, 1) := by decide +kernel
theorem dX13_tries_0 : decode cX13_tries 0 = .ok (.aload_n 0, 1) := by decide +kernel
theorem dX13_tries_1 : decode cX13_tries 1 = .ok (.getfield 70, 3) := by decide +kernel
theorem dX13_tries_4 : decode cX13_tries 4 = .ok (.aload_n 0, 1) := by decide +kernel
theorem dX13_tries_5 : decode cX13_tries 5 = .ok (.getfield 76, 3) := by decide +kernel
theorem dX13_tries_8 : decode cX13_tries 8 = .ok (.invokestatic 379, 3) := by decide +kernel
theorem dX13_tries_11 : decode cX13_tries 11 = .ok (.iload_n 2, 1) := by decide +kernel
theorem dX13_tries_12 : decode cX13_tries 12 = .ok (.ifCond .ne 15, 3) := by decide +kernel
theorem dX13_tries_15 : decode cX13_tries 15 = .ok (.aload_n 0, 1) := by decide +kernel
theorem dX13_tries_16 : decode cX13_tries 16 = .ok (.aload_n 0, 1) := by decide +kernel
theorem dX13_tries_17 : decode cX13_tries 17 = .ok (.getfield 76, 3) := by decide +kernel
theorem dX13_tries_20 : decode cX13_tries 20 = .ok (.iload_n 1, 1) := by decide +kernel
theorem dX13_tries_21 : decode cX13_tries 21 = .ok (.invokevirtual 354, 3) := by decide +kernel
theorem dX13_tries_24 : decode cX13_tries 24 = .ok (.goto 12, 3) := by decide +kernel
theorem dX13_tries_27 : decode cX13_tries 27 = .ok (.aload_n 0, 1) := by decide +kernel
theorem dX13_tries_28 : decode cX13_tries 28 = .ok (.aload_n 0, 1) := by decide +kernel
theorem dX13_tries_29 : decode cX13_tries 29 = .ok (.getfield 76, 3) := by decide +kernel
theorem dX13_tries_32 : decode cX13_tries 32 = .ok (.iload_n 1, 1) := by decide +kernel
theorem dX13_tries_33 : decode cX13_tries 33 = .ok (.invokevirtual 351, 3) := by decide +kernel
theorem dX13_tries_36 : decode cX13_tries 36 = .ok (.ireturn, 1) := by decide +kernel
theorem dX13_undo_0 : decode cX13_undo 0 = .ok (.aload_n 0, 1) := by decide +kernel
theorem dX13_undo_1 : decode cX13_undo 1 = .ok (.iconst 0, 1) := by decide +kernel
theorem dX13_undo_2 : decode cX13_undo 2 = .ok (.putfield 107, 3) := by decide +kernel
theorem dX13_undo_5 : decode cX13_undo 5 = .ok (.aload_n 0, 1) := by decide +kernel
theorem dX13_undo_6 : decode cX13_undo 6 = .ok (.getfield 218, 3) := by decide +kernel
theorem dX13_undo_9 : decode cX13_undo 9 = .ok (.ifCond .ne 5, 3) := by decide +kernel
theorem dX13_undo_12 : decode cX13_undo 12 = .ok (.iconst (-1), 1) := by decide +kernel
theorem dX13_undo_13 : decode cX13_undo 13 = .ok (.ireturn, 1) := by decide +kernel
theorem dX13_undo_14 : decode cX13_undo 14 = .ok (.aload_n 0, 1) := by decide +kernel
theorem dX13_undo_15 : decode cX13_undo 15 = .ok (.dup, 1) := by decide +kernel
theorem dX13_undo_16 : decode cX13_undo 16 = .ok (.getfield 218, 3) := by decide +kernel
theorem dX13_undo_19 : decode cX13_undo 19 = .ok (.iconst 1, 1) := by decide +kernel
theorem dX13_undo_20 : decode cX13_undo 20 = .ok (.isub, 1) := by decide +kernel
theorem dX13_undo_21 : decode cX13_undo 21 = .ok (.putfield 218, 3) := by decide +kernel
theorem dX13_undo_24 : decode cX13_undo 24 = .ok (.aload_n 0, 1) := by decide +kernel
theorem dX13_undo_25 : decode cX13_undo 25 = .ok (.getfield 79, 3) := by decide +kernel
theorem dX13_undo_28 : decode cX13_undo 28 = .ok (.aload_n 0, 1) := by decide +kernel
theorem dX13_undo_29 : decode cX13_undo 29 = .ok (.getfield 218, 3) := by decide +kernel
theorem dX13_undo_32 : decode cX13_undo 32 = .ok (.aaload, 1) := by decide +kernel
theorem dX13_undo_33 : decode cX13_undo 33 = .ok (.aload_n 0, 1) := by decide +kernel
theorem dX13_undo_34 : decode cX13_undo 34 = .ok (.getfield 70, 3) := by decide +kernel
theorem dX13_undo_37 : decode cX13_undo 37 = .ok (.invokestatic 379, 3) := by decide +kernel
theorem dX13_undo_40 : decode cX13_undo 40 = .ok (.aload_n 0, 1) := by decide +kernel
theorem dX13_undo_41 : decode cX13_undo 41 = .ok (.iconst 0, 1) := by decide +kernel
theorem dX13_undo_42 : decode cX13_undo 42 = .ok (.putfield 221, 3) := by decide +kernel
theorem dX13_undo_45 : decode cX13_undo 45 = .ok (.aload_n 0, 1) := by decide +kernel
theorem dX13_undo_46 : decode cX13_undo 46 = .ok (.getfield 218, 3) := by decide +kernel
theorem dX13_undo_49 : decode cX13_undo 49 = .ok (.ireturn, 1) := by decide +kernel
theorem dX13_users_0 : decode cX13_users 0 = .ok (.iconst 0, 1) := by decide +kernel
theorem dX13_users_1 : decode cX13_users 1 = .ok (.istore_n 3, 1) := by decide +kernel
theorem dX13_users_2 : decode cX13_users 2 = .ok (.iconst 0, 1) := by decide +kernel
theorem dX13_users_3 : decode cX13_users 3 = .ok (.istore 4, 2) := by decide +kernel
theorem dX13_users_5 : decode cX13_users 5 = .ok (.iload 4, 2) := by decide +kernel
theorem dX13_users_7 : decode cX13_users 7 = .ok (.aload_n 0, 1) := by decide +kernel
theorem dX13_users_8 : decode cX13_users 8 = .ok (.getfield 23, 3) := by decide +kernel
theorem dX13_users_11 : decode cX13_users 11 = .ok (.iconst 2, 1) := by decide +kernel
theorem dX13_users_12 : decode cX13_users 12 = .ok (.iaload, 1) := by decide +kernel
theorem dX13_users_13 : decode cX13_users 13 = .ok (.if_icmp .ge 30, 3) := by decide +kernel
theorem dX13_users_16 : decode cX13_users 16 = .ok (.iload_n 3, 1) := by decide +kernel
theorem dX13_users_17 : decode cX13_users 17 = .ok (.aload_n 1, 1) := by decide +kernel
theorem dX13_users_18 : decode cX13_users 18 = .ok (.iload 4, 2) := by decide +kernel
theorem dX13_users_20 : decode cX13_users 20 = .ok (.iload_n 2, 1) := by decide +kernel
theorem dX13_users_21 : decode cX13_users 21 = .ok (.invokestatic 287, 3) := by decide +kernel
theorem dX13_users_24 : decode cX13_users 24 = .ok (.ifCond .eq 10, 3) := by decide +kernel
theorem dX13_users_27 : decode cX13_users 27 = .ok (.iconst 1, 1) := by decide +kernel
theorem dX13_users_28 : decode cX13_users 28 = .ok (.iload 4, 2) := by decide +kernel
theorem dX13_users_30 : decode cX13_users 30 = .ok (.ishl, 1) := by decide +kernel
theorem dX13_users_31 : decode cX13_users 31 = .ok (.goto 4, 3) := by decide +kernel
theorem dX13_users_34 : decode cX13_users 34 = .ok (.iconst 0, 1) := by decide +kernel
theorem dX13_users_35 : decode cX13_users 35 = .ok (.ior, 1) := by decide +kernel
theorem dX13_users_36 : decode cX13_users 36 = .ok (.istore_n 3, 1) := by decide +kernel
theorem dX13_users_37 : decode cX13_users 37 = .ok (.iinc 4 1, 3) := by decide +kernel
theorem dX13_users_40 : decode cX13_users 40 = .ok (.goto (-35), 3) := by decide +kernel
theorem dX13_users_43 : decode cX13_users 43 = .ok (.iload_n 3, 1) := by decide +kernel
theorem dX13_users_44 : decode cX13_users 44 = .ok (.ireturn, 1) := by decide +kernel
theorem dX13_widens_0 : decode cX13_widens 0 = .ok (.iconst 1, 1) := by decide +kernel
theorem dX13_widens_1 : decode cX13_widens 1 = .ok (.istore_n 2, 1) := by decide +kernel
theorem dX13_widens_2 : decode cX13_widens 2 = .ok (.iload_n 2, 1) := by decide +kernel
theorem dX13_widens_3 : decode cX13_widens 3 = .ok (.ifCond .eq 123, 3) := by decide +kernel
theorem dX13_widens_6 : decode cX13_widens 6 = .ok (.iconst 0, 1) := by decide +kernel
theorem dX13_widens_7 : decode cX13_widens 7 = .ok (.istore_n 2, 1) := by decide +kernel
theorem dX13_widens_8 : decode cX13_widens 8 = .ok (.iconst 0, 1) := by decide +kernel
theorem dX13_widens_9 : decode cX13_widens 9 = .ok (.istore_n 3, 1) := by decide +kernel
theorem dX13_widens_10 : decode cX13_widens 10 = .ok (.iload_n 3, 1) := by decide +kernel
theorem dX13_widens_11 : decode cX13_widens 11 = .ok (.bipush 64, 2) := by decide +kernel
theorem dX13_widens_13 : decode cX13_widens 13 = .ok (.if_icmp .ge 110, 3) := by decide +kernel
theorem dX13_widens_16 : decode cX13_widens 16 = .ok (.aload_n 0, 1) := by decide +kernel
theorem dX13_widens_17 : decode cX13_widens 17 = .ok (.iload_n 3, 1) := by decide +kernel
theorem dX13_widens_18 : decode cX13_widens 18 = .ok (.invokevirtual 199, 3) := by decide +kernel
theorem dX13_widens_21 : decode cX13_widens 21 = .ok (.ifCond .eq 96, 3) := by decide +kernel
theorem dX13_widens_24 : decode cX13_widens 24 = .ok (.aload_n 0, 1) := by decide +kernel
theorem dX13_widens_25 : decode cX13_widens 25 = .ok (.getfield 70, 3) := by decide +kernel
theorem dX13_widens_28 : decode cX13_widens 28 = .ok (.sipush 448, 3) := by decide +kernel
theorem dX13_widens_31 : decode cX13_widens 31 = .ok (.iload_n 3, 1) := by decide +kernel
theorem dX13_widens_32 : decode cX13_widens 32 = .ok (.iadd, 1) := by decide +kernel
theorem dX13_widens_33 : decode cX13_widens 33 = .ok (.iaload, 1) := by decide +kernel
theorem dX13_widens_34 : decode cX13_widens 34 = .ok (.iconst 1, 1) := by decide +kernel
theorem dX13_widens_35 : decode cX13_widens 35 = .ok (.if_icmp .ne 6, 3) := by decide +kernel
theorem dX13_widens_38 : decode cX13_widens 38 = .ok (.goto 79, 3) := by decide +kernel
theorem dX13_widens_41 : decode cX13_widens 41 = .ok (.iconst 0, 1) := by decide +kernel
theorem dX13_widens_42 : decode cX13_widens 42 = .ok (.istore 4, 2) := by decide +kernel
theorem dX13_widens_44 : decode cX13_widens 44 = .ok (.iload 4, 2) := by decide +kernel
theorem dX13_widens_46 : decode cX13_widens 46 = .ok (.iconst 4, 1) := by decide +kernel
theorem dX13_widens_47 : decode cX13_widens 47 = .ok (.if_icmp .ge 70, 3) := by decide +kernel
theorem dX13_widens_50 : decode cX13_widens 50 = .ok (.aload_n 0, 1) := by decide +kernel
theorem dX13_widens_51 : decode cX13_widens 51 = .ok (.iload_n 3, 1) := by decide +kernel
theorem dX13_widens_52 : decode cX13_widens 52 = .ok (.iload 4, 2) := by decide +kernel
theorem dX13_widens_54 : decode cX13_widens 54 = .ok (.invokevirtual 309, 3) := by decide +kernel
theorem dX13_widens_57 : decode cX13_widens 57 = .ok (.istore 5, 2) := by decide +kernel
theorem dX13_widens_59 : decode cX13_widens 59 = .ok (.iload 5, 2) := by decide +kernel
theorem dX13_widens_61 : decode cX13_widens 61 = .ok (.iconst (-1), 1) := by decide +kernel
theorem dX13_widens_62 : decode cX13_widens 62 = .ok (.if_icmp .eq 49, 3) := by decide +kernel
theorem dX13_widens_65 : decode cX13_widens 65 = .ok (.aload_n 0, 1) := by decide +kernel
theorem dX13_widens_66 : decode cX13_widens 66 = .ok (.getfield 95, 3) := by decide +kernel
theorem dX13_widens_69 : decode cX13_widens 69 = .ok (.iload_n 1, 1) := by decide +kernel
theorem dX13_widens_70 : decode cX13_widens 70 = .ok (.aaload, 1) := by decide +kernel
theorem dX13_widens_71 : decode cX13_widens 71 = .ok (.iload 5, 2) := by decide +kernel
theorem dX13_widens_73 : decode cX13_widens 73 = .ok (.iaload, 1) := by decide +kernel
theorem dX13_widens_74 : decode cX13_widens 74 = .ok (.iconst 1, 1) := by decide +kernel
theorem dX13_widens_75 : decode cX13_widens 75 = .ok (.iadd, 1) := by decide +kernel
theorem dX13_widens_76 : decode cX13_widens 76 = .ok (.aload_n 0, 1) := by decide +kernel
theorem dX13_widens_77 : decode cX13_widens 77 = .ok (.getfield 95, 3) := by decide +kernel
theorem dX13_widens_80 : decode cX13_widens 80 = .ok (.iload_n 1, 1) := by decide +kernel
theorem dX13_widens_81 : decode cX13_widens 81 = .ok (.aaload, 1) := by decide +kernel
theorem dX13_widens_82 : decode cX13_widens 82 = .ok (.iload_n 3, 1) := by decide +kernel
theorem dX13_widens_83 : decode cX13_widens 83 = .ok (.iaload, 1) := by decide +kernel
theorem dX13_widens_84 : decode cX13_widens 84 = .ok (.if_icmp .lt 6, 3) := by decide +kernel
theorem dX13_widens_87 : decode cX13_widens 87 = .ok (.goto 24, 3) := by decide +kernel
theorem dX13_widens_90 : decode cX13_widens 90 = .ok (.aload_n 0, 1) := by decide +kernel
theorem dX13_widens_91 : decode cX13_widens 91 = .ok (.getfield 95, 3) := by decide +kernel
theorem dX13_widens_94 : decode cX13_widens 94 = .ok (.iload_n 1, 1) := by decide +kernel
theorem dX13_widens_95 : decode cX13_widens 95 = .ok (.aaload, 1) := by decide +kernel
theorem dX13_widens_96 : decode cX13_widens 96 = .ok (.iload_n 3, 1) := by decide +kernel
theorem dX13_widens_97 : decode cX13_widens 97 = .ok (.aload_n 0, 1) := by decide +kernel
theorem dX13_widens_98 : decode cX13_widens 98 = .ok (.getfield 95, 3) := by decide +kernel
theorem dX13_widens_101 : decode cX13_widens 101 = .ok (.iload_n 1, 1) := by decide +kernel
theorem dX13_widens_102 : decode cX13_widens 102 = .ok (.aaload, 1) := by decide +kernel
theorem dX13_widens_103 : decode cX13_widens 103 = .ok (.iload 5, 2) := by decide +kernel
theorem dX13_widens_105 : decode cX13_widens 105 = .ok (.iaload, 1) := by decide +kernel
theorem dX13_widens_106 : decode cX13_widens 106 = .ok (.iconst 1, 1) := by decide +kernel
theorem dX13_widens_107 : decode cX13_widens 107 = .ok (.iadd, 1) := by decide +kernel
theorem dX13_widens_108 : decode cX13_widens 108 = .ok (.iastore, 1) := by decide +kernel
theorem dX13_widens_109 : decode cX13_widens 109 = .ok (.iconst 1, 1) := by decide +kernel
theorem dX13_widens_110 : decode cX13_widens 110 = .ok (.istore_n 2, 1) := by decide +kernel
theorem dX13_widens_111 : decode cX13_widens 111 = .ok (.iinc 4 1, 3) := by decide +kernel
theorem dX13_widens_114 : decode cX13_widens 114 = .ok (.goto (-70), 3) := by decide +kernel
theorem dX13_widens_117 : decode cX13_widens 117 = .ok (.iinc 3 1, 3) := by decide +kernel
theorem dX13_widens_120 : decode cX13_widens 120 = .ok (.goto (-110), 3) := by decide +kernel
theorem dX13_widens_123 : decode cX13_widens 123 = .ok (.goto (-121), 3) := by decide +kernel
theorem dX13_widens_126 : decode cX13_widens 126 = .ok (.return_, 1) := by decide +kernel
theorem dX13_wordHere_0 : decode cX13_wordHere 0 = .ok (.aload_n 0, 1) := by decide +kernel
theorem dX13_wordHere_1 : decode cX13_wordHere 1 = .ok (.invokevirtual 129, 3) := by decide +kernel
theorem dX13_wordHere_4 : decode cX13_wordHere 4 = .ok (.iconst 0, 1) := by decide +kernel
theorem dX13_wordHere_5 : decode cX13_wordHere 5 = .ok (.istore_n 1, 1) := by decide +kernel
theorem dX13_wordHere_6 : decode cX13_wordHere 6 = .ok (.iconst 0, 1) := by decide +kernel
theorem dX13_wordHere_7 : decode cX13_wordHere 7 = .ok (.istore_n 2, 1) := by decide +kernel
theorem dX13_wordHere_8 : decode cX13_wordHere 8 = .ok (.aload_n 0, 1) := by decide +kernel
theorem dX13_wordHere_9 : decode cX13_wordHere 9 = .ok (.aload_n 0, 1) := by decide +kernel
theorem dX13_wordHere_10 : decode cX13_wordHere 10 = .ok (.getfield 116, 3) := by decide +kernel
theorem dX13_wordHere_13 : decode cX13_wordHere 13 = .ok (.iload_n 2, 1) := by decide +kernel
theorem dX13_wordHere_14 : decode cX13_wordHere 14 = .ok (.iadd, 1) := by decide +kernel
theorem dX13_wordHere_15 : decode cX13_wordHere 15 = .ok (.invokevirtual 119, 3) := by decide +kernel
theorem dX13_wordHere_18 : decode cX13_wordHere 18 = .ok (.invokestatic 145, 3) := by decide +kernel
theorem dX13_wordHere_21 : decode cX13_wordHere 21 = .ok (.ifCond .eq 40, 3) := by decide +kernel
theorem dX13_wordHere_24 : decode cX13_wordHere 24 = .ok (.iload_n 2, 1) := by decide +kernel
theorem dX13_wordHere_25 : decode cX13_wordHere 25 = .ok (.bipush 6, 2) := by decide +kernel
theorem dX13_wordHere_27 : decode cX13_wordHere 27 = .ok (.if_icmp .ge 26, 3) := by decide +kernel
theorem dX13_wordHere_30 : decode cX13_wordHere 30 = .ok (.bipush 27, 2) := by decide +kernel
theorem dX13_wordHere_32 : decode cX13_wordHere 32 = .ok (.iload_n 1, 1) := by decide +kernel
theorem dX13_wordHere_33 : decode cX13_wordHere 33 = .ok (.imul, 1) := by decide +kernel
theorem dX13_wordHere_34 : decode cX13_wordHere 34 = .ok (.aload_n 0, 1) := by decide +kernel
theorem dX13_wordHere_35 : decode cX13_wordHere 35 = .ok (.aload_n 0, 1) := by decide +kernel
theorem dX13_wordHere_36 : decode cX13_wordHere 36 = .ok (.getfield 116, 3) := by decide +kernel
theorem dX13_wordHere_39 : decode cX13_wordHere 39 = .ok (.iload_n 2, 1) := by decide +kernel
theorem dX13_wordHere_40 : decode cX13_wordHere 40 = .ok (.iadd, 1) := by decide +kernel
theorem dX13_wordHere_41 : decode cX13_wordHere 41 = .ok (.invokevirtual 119, 3) := by decide +kernel
theorem dX13_wordHere_44 : decode cX13_wordHere 44 = .ok (.iadd, 1) := by decide +kernel
theorem dX13_wordHere_45 : decode cX13_wordHere 45 = .ok (.bipush 97, 2) := by decide +kernel
theorem dX13_wordHere_47 : decode cX13_wordHere 47 = .ok (.isub, 1) := by decide +kernel
theorem dX13_wordHere_48 : decode cX13_wordHere 48 = .ok (.iconst 1, 1) := by decide +kernel
theorem dX13_wordHere_49 : decode cX13_wordHere 49 = .ok (.iadd, 1) := by decide +kernel
theorem dX13_wordHere_50 : decode cX13_wordHere 50 = .ok (.goto 4, 3) := by decide +kernel
theorem dX13_wordHere_53 : decode cX13_wordHere 53 = .ok (.iload_n 1, 1) := by decide +kernel
theorem dX13_wordHere_54 : decode cX13_wordHere 54 = .ok (.istore_n 1, 1) := by decide +kernel
theorem dX13_wordHere_55 : decode cX13_wordHere 55 = .ok (.iinc 2 1, 3) := by decide +kernel
theorem dX13_wordHere_58 : decode cX13_wordHere 58 = .ok (.goto (-50), 3) := by decide +kernel
theorem dX13_wordHere_61 : decode cX13_wordHere 61 = .ok (.iload_n 2, 1) := by decide +kernel
theorem dX13_wordHere_62 : decode cX13_wordHere 62 = .ok (.bipush 6, 2) := by decide +kernel
theorem dX13_wordHere_64 : decode cX13_wordHere 64 = .ok (.if_icmp .le 7, 3) := by decide +kernel
theorem dX13_wordHere_67 : decode cX13_wordHere 67 = .ok (.iconst (-1), 1) := by decide +kernel
theorem dX13_wordHere_68 : decode cX13_wordHere 68 = .ok (.goto 4, 3) := by decide +kernel
theorem dX13_wordHere_71 : decode cX13_wordHere 71 = .ok (.iload_n 1, 1) := by decide +kernel
theorem dX13_wordHere_72 : decode cX13_wordHere 72 = .ok (.ireturn, 1) := by decide +kernel
theorem dX13_work_0 : decode cX13_work 0 = .ok (.aload_n 0, 1) := by decide +kernel
theorem dX13_work_1 : decode cX13_work 1 = .ok (.iconst 0, 1) := by decide +kernel
theorem dX13_work_2 : decode cX13_work 2 = .ok (.putfield 107, 3) := by decide +kernel
theorem dX13_work_5 : decode cX13_work 5 = .ok (.aload_n 0, 1) := by decide +kernel
theorem dX13_work_6 : decode cX13_work 6 = .ok (.iload_n 1, 1) := by decide +kernel
theorem dX13_work_7 : decode cX13_work 7 = .ok (.iconst 0, 1) := by decide +kernel
theorem dX13_work_8 : decode cX13_work 8 = .ok (.aload_n 0, 1) := by decide +kernel
theorem dX13_work_9 : decode cX13_work 9 = .ok (.getfield 110, 3) := by decide +kernel
theorem dX13_work_12 : decode cX13_work 12 = .ok (.invokestatic 141, 3) := by decide +kernel
theorem dX13_work_15 : decode cX13_work 15 = .ok (.ifCond .eq 10, 3) := by decide +kernel
theorem dX13_work_18 : decode cX13_work 18 = .ok (.iload_n 1, 1) := by decide +kernel
theorem dX13_work_19 : decode cX13_work 19 = .ok (.sipush 150, 3) := by decide +kernel
theorem dX13_work_22 : decode cX13_work 22 = .ok (.if_icmp .le 7, 3) := by decide +kernel
theorem dX13_work_25 : decode cX13_work 25 = .ok (.iconst 1, 1) := by decide +kernel
theorem dX13_work_26 : decode cX13_work 26 = .ok (.goto 4, 3) := by decide +kernel
theorem dX13_work_29 : decode cX13_work 29 = .ok (.iconst 0, 1) := by decide +kernel
theorem dX13_work_30 : decode cX13_work 30 = .ok (.iconst 1, 1) := by decide +kernel
theorem dX13_work_31 : decode cX13_work 31 = .ok (.iconst 1, 1) := by decide +kernel
theorem dX13_work_32 : decode cX13_work 32 = .ok (.invokevirtual 186, 3) := by decide +kernel
theorem dX13_work_35 : decode cX13_work 35 = .ok (.ifCond .eq 5, 3) := by decide +kernel
theorem dX13_work_38 : decode cX13_work 38 = .ok (.iconst 0, 1) := by decide +kernel
theorem dX13_work_39 : decode cX13_work 39 = .ok (.ireturn, 1) := by decide +kernel
theorem dX13_work_40 : decode cX13_work 40 = .ok (.aload_n 0, 1) := by decide +kernel
theorem dX13_work_41 : decode cX13_work 41 = .ok (.getfield 218, 3) := by decide +kernel
theorem dX13_work_44 : decode cX13_work 44 = .ok (.bipush 16, 2) := by decide +kernel
theorem dX13_work_46 : decode cX13_work 46 = .ok (.if_icmp .ne 16, 3) := by decide +kernel
theorem dX13_work_49 : decode cX13_work 49 = .ok (.aload_n 0, 1) := by decide +kernel
theorem dX13_work_50 : decode cX13_work 50 = .ok (.iconst 0, 1) := by decide +kernel
theorem dX13_work_51 : decode cX13_work 51 = .ok (.putfield 110, 3) := by decide +kernel
theorem dX13_work_54 : decode cX13_work 54 = .ok (.aload_n 0, 1) := by decide +kernel
theorem dX13_work_55 : decode cX13_work 55 = .ok (.iconst (-1), 1) := by decide +kernel
theorem dX13_work_56 : decode cX13_work 56 = .ok (.putfield 9, 3) := by decide +kernel
theorem dX13_work_59 : decode cX13_work 59 = .ok (.bipush (-20), 2) := by decide +kernel
theorem dX13_work_61 : decode cX13_work 61 = .ok (.ireturn, 1) := by decide +kernel
theorem dX13_work_62 : decode cX13_work 62 = .ok (.aload_n 0, 1) := by decide +kernel
theorem dX13_work_63 : decode cX13_work 63 = .ok (.iload_n 1, 1) := by decide +kernel
theorem dX13_work_64 : decode cX13_work 64 = .ok (.invokevirtual 190, 3) := by decide +kernel
theorem dX13_work_67 : decode cX13_work 67 = .ok (.aload_n 0, 1) := by decide +kernel
theorem dX13_work_68 : decode cX13_work 68 = .ok (.iconst 0, 1) := by decide +kernel
theorem dX13_work_69 : decode cX13_work 69 = .ok (.putfield 272, 3) := by decide +kernel
theorem dX13_work_72 : decode cX13_work 72 = .ok (.aload_n 0, 1) := by decide +kernel
theorem dX13_work_73 : decode cX13_work 73 = .ok (.getfield 123, 3) := by decide +kernel
theorem dX13_work_76 : decode cX13_work 76 = .ok (.ifCond .ne 25, 3) := by decide +kernel
theorem dX13_work_79 : decode cX13_work 79 = .ok (.aload_n 0, 1) := by decide +kernel
theorem dX13_work_80 : decode cX13_work 80 = .ok (.getfield 116, 3) := by decide +kernel
theorem dX13_work_83 : decode cX13_work 83 = .ok (.aload_n 0, 1) := by decide +kernel
theorem dX13_work_84 : decode cX13_work 84 = .ok (.getfield 113, 3) := by decide +kernel
theorem dX13_work_87 : decode cX13_work 87 = .ok (.if_icmp .ge 14, 3) := by decide +kernel
theorem dX13_work_90 : decode cX13_work 90 = .ok (.aload_n 0, 1) := by decide +kernel
theorem dX13_work_91 : decode cX13_work 91 = .ok (.invokevirtual 278, 3) := by decide +kernel
theorem dX13_work_94 : decode cX13_work 94 = .ok (.aload_n 0, 1) := by decide +kernel
theorem dX13_work_95 : decode cX13_work 95 = .ok (.invokevirtual 129, 3) := by decide +kernel
theorem dX13_work_98 : decode cX13_work 98 = .ok (.goto (-26), 3) := by decide +kernel
theorem dX13_work_101 : decode cX13_work 101 = .ok (.aload_n 0, 1) := by decide +kernel
theorem dX13_work_102 : decode cX13_work 102 = .ok (.getfield 123, 3) := by decide +kernel
theorem dX13_work_105 : decode cX13_work 105 = .ok (.ifCond .eq 8, 3) := by decide +kernel
theorem dX13_work_108 : decode cX13_work 108 = .ok (.aload_n 0, 1) := by decide +kernel
theorem dX13_work_109 : decode cX13_work 109 = .ok (.invokevirtual 196, 3) := by decide +kernel
theorem dX13_work_112 : decode cX13_work 112 = .ok (.ireturn, 1) := by decide +kernel
theorem dX13_work_113 : decode cX13_work 113 = .ok (.aload_n 0, 1) := by decide +kernel
theorem dX13_work_114 : decode cX13_work 114 = .ok (.iconst (-1), 1) := by decide +kernel
theorem dX13_work_115 : decode cX13_work 115 = .ok (.putfield 9, 3) := by decide +kernel
theorem dX13_work_118 : decode cX13_work 118 = .ok (.aload_n 0, 1) := by decide +kernel
theorem dX13_work_119 : decode cX13_work 119 = .ok (.getfield 70, 3) := by decide +kernel
theorem dX13_work_122 : decode cX13_work 122 = .ok (.aload_n 0, 1) := by decide +kernel
theorem dX13_work_123 : decode cX13_work 123 = .ok (.getfield 79, 3) := by decide +kernel
theorem dX13_work_126 : decode cX13_work 126 = .ok (.aload_n 0, 1) := by decide +kernel
theorem dX13_work_127 : decode cX13_work 127 = .ok (.getfield 218, 3) := by decide +kernel
theorem dX13_work_130 : decode cX13_work 130 = .ok (.aaload, 1) := by decide +kernel
theorem dX13_work_131 : decode cX13_work 131 = .ok (.invokestatic 379, 3) := by decide +kernel
theorem dX13_work_134 : decode cX13_work 134 = .ok (.aload_n 0, 1) := by decide +kernel
theorem dX13_work_135 : decode cX13_work 135 = .ok (.dup, 1) := by decide +kernel
theorem dX13_work_136 : decode cX13_work 136 = .ok (.getfield 218, 3) := by decide +kernel
theorem dX13_work_139 : decode cX13_work 139 = .ok (.iconst 1, 1) := by decide +kernel
theorem dX13_work_140 : decode cX13_work 140 = .ok (.iadd, 1) := by decide +kernel
theorem dX13_work_141 : decode cX13_work 141 = .ok (.putfield 218, 3) := by decide +kernel
theorem dX13_work_144 : decode cX13_work 144 = .ok (.aload_n 0, 1) := by decide +kernel
theorem dX13_work_145 : decode cX13_work 145 = .ok (.iconst 0, 1) := by decide +kernel
theorem dX13_work_146 : decode cX13_work 146 = .ok (.putfield 366, 3) := by decide +kernel
theorem dX13_work_149 : decode cX13_work 149 = .ok (.aload_n 0, 1) := by decide +kernel
theorem dX13_work_150 : decode cX13_work 150 = .ok (.iconst 0, 1) := by decide +kernel
theorem dX13_work_151 : decode cX13_work 151 = .ok (.putfield 376, 3) := by decide +kernel
theorem dX13_work_154 : decode cX13_work 154 = .ok (.aload_n 0, 1) := by decide +kernel
theorem dX13_work_155 : decode cX13_work 155 = .ok (.iconst 0, 1) := by decide +kernel
theorem dX13_work_156 : decode cX13_work 156 = .ok (.putfield 221, 3) := by decide +kernel
theorem dX13_work_159 : decode cX13_work 159 = .ok (.aload_n 0, 1) := by decide +kernel
theorem dX13_work_160 : decode cX13_work 160 = .ok (.iconst 0, 1) := by decide +kernel
theorem dX13_work_161 : decode cX13_work 161 = .ok (.aload_n 0, 1) := by decide +kernel
theorem dX13_work_162 : decode cX13_work 162 = .ok (.getfield 272, 3) := by decide +kernel
theorem dX13_work_165 : decode cX13_work 165 = .ok (.invokevirtual 369, 3) := by decide +kernel
theorem dX13_work_168 : decode cX13_work 168 = .ok (.aload_n 0, 1) := by decide +kernel
theorem dX13_work_169 : decode cX13_work 169 = .ok (.getfield 376, 3) := by decide +kernel
theorem dX13_work_172 : decode cX13_work 172 = .ok (.ireturn, 1) := by decide +kernel
theorem dX13_would_0 : decode cX13_would 0 = .ok (.aload_n 0, 1) := by decide +kernel
theorem dX13_would_1 : decode cX13_would 1 = .ok (.iconst 0, 1) := by decide +kernel
theorem dX13_would_2 : decode cX13_would 2 = .ok (.putfield 107, 3) := by decide +kernel
theorem dX13_would_5 : decode cX13_would 5 = .ok (.aload_n 0, 1) := by decide +kernel
theorem dX13_would_6 : decode cX13_would 6 = .ok (.iload_n 1, 1) := by decide +kernel
theorem dX13_would_7 : decode cX13_would 7 = .ok (.iconst 0, 1) := by decide +kernel
theorem dX13_would_8 : decode cX13_would 8 = .ok (.sipush 9999, 3) := by decide +kernel
theorem dX13_would_11 : decode cX13_would 11 = .ok (.invokestatic 141, 3) := by decide +kernel
theorem dX13_would_14 : decode cX13_would 14 = .ok (.ifCond .eq 78, 3) := by decide +kernel
theorem dX13_would_17 : decode cX13_would 17 = .ok (.iload_n 2, 1) := by decide +kernel
theorem dX13_would_18 : decode cX13_would 18 = .ok (.iconst 0, 1) := by decide +kernel
theorem dX13_would_19 : decode cX13_would 19 = .ok (.bipush 6, 2) := by decide +kernel
theorem dX13_would_21 : decode cX13_would 21 = .ok (.invokestatic 141, 3) := by decide +kernel
theorem dX13_would_24 : decode cX13_would 24 = .ok (.ifCond .eq 68, 3) := by decide +kernel
theorem dX13_would_27 : decode cX13_would 27 = .ok (.iload_n 3, 1) := by decide +kernel
theorem dX13_would_28 : decode cX13_would 28 = .ok (.iconst 0, 1) := by decide +kernel
theorem dX13_would_29 : decode cX13_would 29 = .ok (.bipush 9, 2) := by decide +kernel
theorem dX13_would_31 : decode cX13_would 31 = .ok (.invokestatic 141, 3) := by decide +kernel
theorem dX13_would_34 : decode cX13_would 34 = .ok (.ifCond .eq 58, 3) := by decide +kernel
theorem dX13_would_37 : decode cX13_would 37 = .ok (.iload 4, 2) := by decide +kernel
theorem dX13_would_39 : decode cX13_would 39 = .ok (.iconst 0, 1) := by decide +kernel
theorem dX13_would_40 : decode cX13_would 40 = .ok (.sipush 400, 3) := by decide +kernel
theorem dX13_would_43 : decode cX13_would 43 = .ok (.invokestatic 141, 3) := by decide +kernel
theorem dX13_would_46 : decode cX13_would 46 = .ok (.ifCond .eq 46, 3) := by decide +kernel
theorem dX13_would_49 : decode cX13_would 49 = .ok (.iload 5, 2) := by decide +kernel
theorem dX13_would_51 : decode cX13_would 51 = .ok (.iconst 1, 1) := by decide +kernel
theorem dX13_would_52 : decode cX13_would 52 = .ok (.iconst 3, 1) := by decide +kernel
theorem dX13_would_53 : decode cX13_would 53 = .ok (.invokestatic 141, 3) := by decide +kernel
theorem dX13_would_56 : decode cX13_would 56 = .ok (.ifCond .eq 36, 3) := by decide +kernel
theorem dX13_would_59 : decode cX13_would 59 = .ok (.iload 6, 2) := by decide +kernel
theorem dX13_would_61 : decode cX13_would 61 = .ok (.iconst 0, 1) := by decide +kernel
theorem dX13_would_62 : decode cX13_would 62 = .ok (.bipush 7, 2) := by decide +kernel
theorem dX13_would_64 : decode cX13_would 64 = .ok (.invokestatic 141, 3) := by decide +kernel
theorem dX13_would_67 : decode cX13_would 67 = .ok (.ifCond .eq 25, 3) := by decide +kernel
theorem dX13_would_70 : decode cX13_would 70 = .ok (.iload 7, 2) := by decide +kernel
theorem dX13_would_72 : decode cX13_would 72 = .ok (.iconst 0, 1) := by decide +kernel
theorem dX13_would_73 : decode cX13_would 73 = .ok (.bipush 7, 2) := by decide +kernel
theorem dX13_would_75 : decode cX13_would 75 = .ok (.invokestatic 141, 3) := by decide +kernel
theorem dX13_would_78 : decode cX13_would 78 = .ok (.ifCond .eq 14, 3) := by decide +kernel
theorem dX13_would_81 : decode cX13_would 81 = .ok (.iload 8, 2) := by decide +kernel
theorem dX13_would_83 : decode cX13_would 83 = .ok (.iconst 0, 1) := by decide +kernel
theorem dX13_would_84 : decode cX13_would 84 = .ok (.bipush 6, 2) := by decide +kernel
theorem dX13_would_86 : decode cX13_would 86 = .ok (.invokestatic 141, 3) := by decide +kernel
theorem dX13_would_89 : decode cX13_would 89 = .ok (.ifCond .ne 7, 3) := by decide +kernel
theorem dX13_would_92 : decode cX13_would 92 = .ok (.iconst 1, 1) := by decide +kernel
theorem dX13_would_93 : decode cX13_would 93 = .ok (.goto 4, 3) := by decide +kernel
theorem dX13_would_96 : decode cX13_would 96 = .ok (.iconst 0, 1) := by decide +kernel
theorem dX13_would_97 : decode cX13_would 97 = .ok (.iconst 1, 1) := by decide +kernel
theorem dX13_would_98 : decode cX13_would 98 = .ok (.iconst 1, 1) := by decide +kernel
theorem dX13_would_99 : decode cX13_would 99 = .ok (.invokevirtual 186, 3) := by decide +kernel
theorem dX13_would_102 : decode cX13_would 102 = .ok (.ifCond .eq 5, 3) := by decide +kernel
theorem dX13_would_105 : decode cX13_would 105 = .ok (.iconst 0, 1) := by decide +kernel
theorem dX13_would_106 : decode cX13_would 106 = .ok (.ireturn, 1) := by decide +kernel
theorem dX13_would_107 : decode cX13_would 107 = .ok (.aload_n 0, 1) := by decide +kernel
theorem dX13_would_108 : decode cX13_would 108 = .ok (.iload_n 1, 1) := by decide +kernel
theorem dX13_would_109 : decode cX13_would 109 = .ok (.iload_n 2, 1) := by decide +kernel
theorem dX13_would_110 : decode cX13_would 110 = .ok (.iload_n 3, 1) := by decide +kernel
theorem dX13_would_111 : decode cX13_would 111 = .ok (.iload 4, 2) := by decide +kernel
theorem dX13_would_113 : decode cX13_would 113 = .ok (.iload 5, 2) := by decide +kernel
theorem dX13_would_115 : decode cX13_would 115 = .ok (.iload 6, 2) := by decide +kernel
theorem dX13_would_117 : decode cX13_would 117 = .ok (.iload 7, 2) := by decide +kernel
theorem dX13_would_119 : decode cX13_would 119 = .ok (.iload 8, 2) := by decide +kernel
theorem dX13_would_121 : decode cX13_would 121 = .ok (.invokevirtual 301, 3) := by decide +kernel
theorem dX13_would_124 : decode cX13_would 124 = .ok (.ireturn, 1) := by decide +kernel
theorem dX13_wrong_0 : decode cX13_wrong 0 = .ok (.aload_n 0, 1) := by decide +kernel
theorem dX13_wrong_1 : decode cX13_wrong 1 = .ok (.getfield 123, 3) := by decide +kernel
theorem dX13_wrong_4 : decode cX13_wrong 4 = .ok (.ifCond .ne 13, 3) := by decide +kernel
theorem dX13_wrong_7 : decode cX13_wrong 7 = .ok (.aload_n 0, 1) := by decide +kernel
theorem dX13_wrong_8 : decode cX13_wrong 8 = .ok (.iload_n 1, 1) := by decide +kernel
theorem dX13_wrong_9 : decode cX13_wrong 9 = .ok (.putfield 123, 3) := by decide +kernel
theorem dX13_wrong_12 : decode cX13_wrong 12 = .ok (.aload_n 0, 1) := by decide +kernel
theorem dX13_wrong_13 : decode cX13_wrong 13 = .ok (.iload_n 2, 1) := by decide +kernel
theorem dX13_wrong_14 : decode cX13_wrong 14 = .ok (.putfield 126, 3) := by decide +kernel
theorem dX13_wrong_17 : decode cX13_wrong 17 = .ok (.return_, 1) := by decide +kernel
