theorem dX12_ahead_0 : decode cX12_ahead 0 = .ok (.aload_n 0, 1) := by decide +kernel
theorem dX12_ahead_1 : decode cX12_ahead 1 = .ok (.iload_n 1, 1) := by decide +kernel
theorem dX12_ahead_2 : decode cX12_ahead 2 = .ok (.iconst 0, 1) := by decide +kernel
theorem dX12_ahead_3 : decode cX12_ahead 3 = .ok (.bipush 40, 2) := by decide +kernel
theorem dX12_ahead_5 : decode cX12_ahead 5 = .ok (.invokevirtual 276, 3) := by decide +kernel
theorem dX12_ahead_8 : decode cX12_ahead 8 = .ok (.aload_n 0, 1) := by decide +kernel
theorem dX12_ahead_9 : decode cX12_ahead 9 = .ok (.iload_n 2, 1) := by decide +kernel
theorem dX12_ahead_10 : decode cX12_ahead 10 = .ok (.iconst 3, 1) := by decide +kernel
theorem dX12_ahead_11 : decode cX12_ahead 11 = .ok (.invokevirtual 176, 3) := by decide +kernel
theorem dX12_ahead_14 : decode cX12_ahead 14 = .ok (.aload_n 0, 1) := by decide +kernel
theorem dX12_ahead_15 : decode cX12_ahead 15 = .ok (.iload_n 1, 1) := by decide +kernel
theorem dX12_ahead_16 : decode cX12_ahead 16 = .ok (.invokevirtual 304, 3) := by decide +kernel
theorem dX12_ahead_19 : decode cX12_ahead 19 = .ok (.iload_n 2, 1) := by decide +kernel
theorem dX12_ahead_20 : decode cX12_ahead 20 = .ok (.tableswitch 64 0 2 #[28, 40, 52], 28) := by decide +kernel
theorem dX12_ahead_48 : decode cX12_ahead 48 = .ok (.aload_n 0, 1) := by decide +kernel
theorem dX12_ahead_49 : decode cX12_ahead 49 = .ok (.getfield 58, 3) := by decide +kernel
theorem dX12_ahead_52 : decode cX12_ahead 52 = .ok (.aload_n 0, 1) := by decide +kernel
theorem dX12_ahead_53 : decode cX12_ahead 53 = .ok (.getfield 101, 3) := by decide +kernel
theorem dX12_ahead_56 : decode cX12_ahead 56 = .ok (.invokevirtual 192, 3) := by decide +kernel
theorem dX12_ahead_59 : decode cX12_ahead 59 = .ok (.ireturn, 1) := by decide +kernel
theorem dX12_ahead_60 : decode cX12_ahead 60 = .ok (.aload_n 0, 1) := by decide +kernel
theorem dX12_ahead_61 : decode cX12_ahead 61 = .ok (.getfield 58, 3) := by decide +kernel
theorem dX12_ahead_64 : decode cX12_ahead 64 = .ok (.aload_n 0, 1) := by decide +kernel
theorem dX12_ahead_65 : decode cX12_ahead 65 = .ok (.getfield 101, 3) := by decide +kernel
theorem dX12_ahead_68 : decode cX12_ahead 68 = .ok (.invokevirtual 188, 3) := by decide +kernel
theorem dX12_ahead_71 : decode cX12_ahead 71 = .ok (.ireturn, 1) := by decide +kernel
theorem dX12_ahead_72 : decode cX12_ahead 72 = .ok (.aload_n 0, 1) := by decide +kernel
theorem dX12_ahead_73 : decode cX12_ahead 73 = .ok (.getfield 58, 3) := by decide +kernel
theorem dX12_ahead_76 : decode cX12_ahead 76 = .ok (.aload_n 0, 1) := by decide +kernel
theorem dX12_ahead_77 : decode cX12_ahead 77 = .ok (.getfield 101, 3) := by decide +kernel
theorem dX12_ahead_80 : decode cX12_ahead 80 = .ok (.invokevirtual 202, 3) := by decide +kernel
theorem dX12_ahead_83 : decode cX12_ahead 83 = .ok (.ireturn, 1) := by decide +kernel
theorem dX12_ahead_84 : decode cX12_ahead 84 = .ok (.aload_n 0, 1) := by decide +kernel
theorem dX12_ahead_85 : decode cX12_ahead 85 = .ok (.getfield 58, 3) := by decide +kernel
theorem dX12_ahead_88 : decode cX12_ahead 88 = .ok (.aload_n 0, 1) := by decide +kernel
theorem dX12_ahead_89 : decode cX12_ahead 89 = .ok (.getfield 101, 3) := by decide +kernel
theorem dX12_ahead_92 : decode cX12_ahead 92 = .ok (.invokevirtual 307, 3) := by decide +kernel
theorem dX12_ahead_95 : decode cX12_ahead 95 = .ok (.ireturn, 1) := by decide +kernel
theorem dX12_board_0 : decode cX12_board 0 = .ok (.aload_n 0, 1) := by decide +kernel
theorem dX12_board_1 : decode cX12_board 1 = .ok (.iload_n 1, 1) := by decide +kernel
theorem dX12_board_2 : decode cX12_board 2 = .ok (.sipush 600, 3) := by decide +kernel
theorem dX12_board_5 : decode cX12_board 5 = .ok (.invokevirtual 115, 3) := by decide +kernel
theorem dX12_board_8 : decode cX12_board 8 = .ok (.aload_n 0, 1) := by decide +kernel
theorem dX12_board_9 : decode cX12_board 9 = .ok (.getfield 12, 3) := by decide +kernel
theorem dX12_board_12 : decode cX12_board 12 = .ok (.iload_n 1, 1) := by decide +kernel
theorem dX12_board_13 : decode cX12_board 13 = .ok (.invokevirtual 119, 3) := by decide +kernel
theorem dX12_board_16 : decode cX12_board 16 = .ok (.aload_n 0, 1) := by decide +kernel
theorem dX12_board_17 : decode cX12_board 17 = .ok (.getfield 23, 3) := by decide +kernel
theorem dX12_board_20 : decode cX12_board 20 = .ok (.aload_n 0, 1) := by decide +kernel
theorem dX12_board_21 : decode cX12_board 21 = .ok (.getfield 12, 3) := by decide +kernel
theorem dX12_board_24 : decode cX12_board 24 = .ok (.invokevirtual 122, 3) := by decide +kernel
theorem dX12_board_27 : decode cX12_board 27 = .ok (.aload_n 0, 1) := by decide +kernel
theorem dX12_board_28 : decode cX12_board 28 = .ok (.getfield 12, 3) := by decide +kernel
theorem dX12_board_31 : decode cX12_board 31 = .ok (.invokevirtual 126, 3) := by decide +kernel
theorem dX12_board_34 : decode cX12_board 34 = .ok (.ifCond .eq 14, 3) := by decide +kernel
theorem dX12_board_37 : decode cX12_board 37 = .ok (.aload_n 0, 1) := by decide +kernel
theorem dX12_board_38 : decode cX12_board 38 = .ok (.getfield 12, 3) := by decide +kernel
theorem dX12_board_41 : decode cX12_board 41 = .ok (.getfield 130, 3) := by decide +kernel
theorem dX12_board_44 : decode cX12_board 44 = .ok (.bipush 10, 2) := by decide +kernel
theorem dX12_board_46 : decode cX12_board 46 = .ok (.isub, 1) := by decide +kernel
theorem dX12_board_47 : decode cX12_board 47 = .ok (.ireturn, 1) := by decide +kernel
theorem dX12_board_48 : decode cX12_board 48 = .ok (.aload_n 0, 1) := by decide +kernel
theorem dX12_board_49 : decode cX12_board 49 = .ok (.getfield 19, 3) := by decide +kernel
theorem dX12_board_52 : decode cX12_board 52 = .ok (.aload_n 0, 1) := by decide +kernel
theorem dX12_board_53 : decode cX12_board 53 = .ok (.getfield 23, 3) := by decide +kernel
theorem dX12_board_56 : decode cX12_board 56 = .ok (.invokevirtual 133, 3) := by decide +kernel
theorem dX12_board_59 : decode cX12_board 59 = .ok (.aload_n 0, 1) := by decide +kernel
theorem dX12_board_60 : decode cX12_board 60 = .ok (.invokevirtual 104, 3) := by decide +kernel
theorem dX12_board_63 : decode cX12_board 63 = .ok (.aload_n 0, 1) := by decide +kernel
theorem dX12_board_64 : decode cX12_board 64 = .ok (.getfield 19, 3) := by decide +kernel
theorem dX12_board_67 : decode cX12_board 67 = .ok (.getfield 136, 3) := by decide +kernel
theorem dX12_board_70 : decode cX12_board 70 = .ok (.ireturn, 1) := by decide +kernel
theorem dX12_book_0 : decode cX12_book 0 = .ok (.aload_n 0, 1) := by decide +kernel
theorem dX12_book_1 : decode cX12_book 1 = .ok (.iload_n 1, 1) := by decide +kernel
theorem dX12_book_2 : decode cX12_book 2 = .ok (.bipush 60, 2) := by decide +kernel
theorem dX12_book_4 : decode cX12_book 4 = .ok (.invokevirtual 115, 3) := by decide +kernel
theorem dX12_book_7 : decode cX12_book 7 = .ok (.aload_n 0, 1) := by decide +kernel
theorem dX12_book_8 : decode cX12_book 8 = .ok (.getfield 12, 3) := by decide +kernel
theorem dX12_book_11 : decode cX12_book 11 = .ok (.iload_n 1, 1) := by decide +kernel
theorem dX12_book_12 : decode cX12_book 12 = .ok (.invokevirtual 119, 3) := by decide +kernel
theorem dX12_book_15 : decode cX12_book 15 = .ok (.aload_n 0, 1) := by decide +kernel
theorem dX12_book_16 : decode cX12_book 16 = .ok (.getfield 43, 3) := by decide +kernel
theorem dX12_book_19 : decode cX12_book 19 = .ok (.aload_n 0, 1) := by decide +kernel
theorem dX12_book_20 : decode cX12_book 20 = .ok (.getfield 12, 3) := by decide +kernel
theorem dX12_book_23 : decode cX12_book 23 = .ok (.aload_n 0, 1) := by decide +kernel
theorem dX12_book_24 : decode cX12_book 24 = .ok (.getfield 19, 3) := by decide +kernel
theorem dX12_book_27 : decode cX12_book 27 = .ok (.invokevirtual 163, 3) := by decide +kernel
theorem dX12_book_30 : decode cX12_book 30 = .ok (.aload_n 0, 1) := by decide +kernel
theorem dX12_book_31 : decode cX12_book 31 = .ok (.getfield 12, 3) := by decide +kernel
theorem dX12_book_34 : decode cX12_book 34 = .ok (.invokevirtual 126, 3) := by decide +kernel
theorem dX12_book_37 : decode cX12_book 37 = .ok (.ifCond .eq 14, 3) := by decide +kernel
theorem dX12_book_40 : decode cX12_book 40 = .ok (.aload_n 0, 1) := by decide +kernel
theorem dX12_book_41 : decode cX12_book 41 = .ok (.getfield 12, 3) := by decide +kernel
theorem dX12_book_44 : decode cX12_book 44 = .ok (.getfield 130, 3) := by decide +kernel
theorem dX12_book_47 : decode cX12_book 47 = .ok (.bipush 10, 2) := by decide +kernel
theorem dX12_book_49 : decode cX12_book 49 = .ok (.isub, 1) := by decide +kernel
theorem dX12_book_50 : decode cX12_book 50 = .ok (.ireturn, 1) := by decide +kernel
theorem dX12_book_51 : decode cX12_book 51 = .ok (.aload_n 0, 1) := by decide +kernel
theorem dX12_book_52 : decode cX12_book 52 = .ok (.getfield 39, 3) := by decide +kernel
theorem dX12_book_55 : decode cX12_book 55 = .ok (.aload_n 0, 1) := by decide +kernel
theorem dX12_book_56 : decode cX12_book 56 = .ok (.getfield 43, 3) := by decide +kernel
theorem dX12_book_59 : decode cX12_book 59 = .ok (.invokevirtual 164, 3) := by decide +kernel
theorem dX12_book_62 : decode cX12_book 62 = .ok (.aload_n 0, 1) := by decide +kernel
theorem dX12_book_63 : decode cX12_book 63 = .ok (.getfield 39, 3) := by decide +kernel
theorem dX12_book_66 : decode cX12_book 66 = .ok (.getfield 167, 3) := by decide +kernel
theorem dX12_book_69 : decode cX12_book 69 = .ok (.ireturn, 1) := by decide +kernel
theorem dX12_cost_0 : decode cX12_cost 0 = .ok (.aload_n 0, 1) := by decide +kernel
theorem dX12_cost_1 : decode cX12_cost 1 = .ok (.iload_n 1, 1) := by decide +kernel
theorem dX12_cost_2 : decode cX12_cost 2 = .ok (.invokevirtual 211, 3) := by decide +kernel
theorem dX12_cost_5 : decode cX12_cost 5 = .ok (.aload_n 0, 1) := by decide +kernel
theorem dX12_cost_6 : decode cX12_cost 6 = .ok (.iload_n 2, 1) := by decide +kernel
theorem dX12_cost_7 : decode cX12_cost 7 = .ok (.iload_n 3, 1) := by decide +kernel
theorem dX12_cost_8 : decode cX12_cost 8 = .ok (.invokevirtual 248, 3) := by decide +kernel
theorem dX12_cost_11 : decode cX12_cost 11 = .ok (.aload_n 0, 1) := by decide +kernel
theorem dX12_cost_12 : decode cX12_cost 12 = .ok (.getfield 67, 3) := by decide +kernel
theorem dX12_cost_15 : decode cX12_cost 15 = .ok (.aload_n 0, 1) := by decide +kernel
theorem dX12_cost_16 : decode cX12_cost 16 = .ok (.getfield 97, 3) := by decide +kernel
theorem dX12_cost_19 : decode cX12_cost 19 = .ok (.iload_n 1, 1) := by decide +kernel
theorem dX12_cost_20 : decode cX12_cost 20 = .ok (.iload_n 3, 1) := by decide +kernel
theorem dX12_cost_21 : decode cX12_cost 21 = .ok (.bipush 8, 2) := by decide +kernel
theorem dX12_cost_23 : decode cX12_cost 23 = .ok (.imul, 1) := by decide +kernel
theorem dX12_cost_24 : decode cX12_cost 24 = .ok (.iload_n 2, 1) := by decide +kernel
theorem dX12_cost_25 : decode cX12_cost 25 = .ok (.iadd, 1) := by decide +kernel
theorem dX12_cost_26 : decode cX12_cost 26 = .ok (.invokevirtual 272, 3) := by decide +kernel
theorem dX12_cost_29 : decode cX12_cost 29 = .ok (.ireturn, 1) := by decide +kernel
theorem dX12_count_0 : decode cX12_count 0 = .ok (.iload_n 1, 1) := by decide +kernel
theorem dX12_count_1 : decode cX12_count 1 = .ok (.tableswitch 51 0 2 #[27, 35, 43], 27) := by decide +kernel
theorem dX12_count_28 : decode cX12_count 28 = .ok (.aload_n 0, 1) := by decide +kernel
theorem dX12_count_29 : decode cX12_count 29 = .ok (.getfield 90, 3) := by decide +kernel
theorem dX12_count_32 : decode cX12_count 32 = .ok (.getfield 344, 3) := by decide +kernel
theorem dX12_count_35 : decode cX12_count 35 = .ok (.ireturn, 1) := by decide +kernel
theorem dX12_count_36 : decode cX12_count 36 = .ok (.aload_n 0, 1) := by decide +kernel
theorem dX12_count_37 : decode cX12_count 37 = .ok (.getfield 12, 3) := by decide +kernel
theorem dX12_count_40 : decode cX12_count 40 = .ok (.getfield 107, 3) := by decide +kernel
theorem dX12_count_43 : decode cX12_count 43 = .ok (.ireturn, 1) := by decide +kernel
theorem dX12_count_44 : decode cX12_count 44 = .ok (.aload_n 0, 1) := by decide +kernel
theorem dX12_count_45 : decode cX12_count 45 = .ok (.getfield 90, 3) := by decide +kernel
theorem dX12_count_48 : decode cX12_count 48 = .ok (.getfield 143, 3) := by decide +kernel
theorem dX12_count_51 : decode cX12_count 51 = .ok (.ireturn, 1) := by decide +kernel
theorem dX12_count_52 : decode cX12_count 52 = .ok (.iconst (-1), 1) := by decide +kernel
theorem dX12_count_53 : decode cX12_count 53 = .ok (.ireturn, 1) := by decide +kernel
theorem dX12_crowd_0 : decode cX12_crowd 0 = .ok (.aload_n 0, 1) := by decide +kernel
theorem dX12_crowd_1 : decode cX12_crowd 1 = .ok (.iload_n 1, 1) := by decide +kernel
theorem dX12_crowd_2 : decode cX12_crowd 2 = .ok (.iconst 1, 1) := by decide +kernel
theorem dX12_crowd_3 : decode cX12_crowd 3 = .ok (.invokevirtual 176, 3) := by decide +kernel
theorem dX12_crowd_6 : decode cX12_crowd 6 = .ok (.iconst 0, 1) := by decide +kernel
theorem dX12_crowd_7 : decode cX12_crowd 7 = .ok (.istore_n 2, 1) := by decide +kernel
theorem dX12_crowd_8 : decode cX12_crowd 8 = .ok (.iconst 1, 1) := by decide +kernel
theorem dX12_crowd_9 : decode cX12_crowd 9 = .ok (.istore_n 3, 1) := by decide +kernel
theorem dX12_crowd_10 : decode cX12_crowd 10 = .ok (.iload_n 3, 1) := by decide +kernel
theorem dX12_crowd_11 : decode cX12_crowd 11 = .ok (.bipush 64, 2) := by decide +kernel
theorem dX12_crowd_13 : decode cX12_crowd 13 = .ok (.if_icmp .ge 32, 3) := by decide +kernel
theorem dX12_crowd_16 : decode cX12_crowd 16 = .ok (.aload_n 0, 1) := by decide +kernel
theorem dX12_crowd_17 : decode cX12_crowd 17 = .ok (.getfield 97, 3) := by decide +kernel
theorem dX12_crowd_20 : decode cX12_crowd 20 = .ok (.getfield 254, 3) := by decide +kernel
theorem dX12_crowd_23 : decode cX12_crowd 23 = .ok (.iload_n 3, 1) := by decide +kernel
theorem dX12_crowd_24 : decode cX12_crowd 24 = .ok (.iaload, 1) := by decide +kernel
theorem dX12_crowd_25 : decode cX12_crowd 25 = .ok (.aload_n 0, 1) := by decide +kernel
theorem dX12_crowd_26 : decode cX12_crowd 26 = .ok (.getfield 97, 3) := by decide +kernel
theorem dX12_crowd_29 : decode cX12_crowd 29 = .ok (.getfield 254, 3) := by decide +kernel
theorem dX12_crowd_32 : decode cX12_crowd 32 = .ok (.iload_n 2, 1) := by decide +kernel
theorem dX12_crowd_33 : decode cX12_crowd 33 = .ok (.iaload, 1) := by decide +kernel
theorem dX12_crowd_34 : decode cX12_crowd 34 = .ok (.if_icmp .le 5, 3) := by decide +kernel
theorem dX12_crowd_37 : decode cX12_crowd 37 = .ok (.iload_n 3, 1) := by decide +kernel
theorem dX12_crowd_38 : decode cX12_crowd 38 = .ok (.istore_n 2, 1) := by decide +kernel
theorem dX12_crowd_39 : decode cX12_crowd 39 = .ok (.iinc 3 1, 3) := by decide +kernel
theorem dX12_crowd_42 : decode cX12_crowd 42 = .ok (.goto (-32), 3) := by decide +kernel
theorem dX12_crowd_45 : decode cX12_crowd 45 = .ok (.iload_n 1, 1) := by decide +kernel
theorem dX12_crowd_46 : decode cX12_crowd 46 = .ok (.ifCond .ne 10, 3) := by decide +kernel
theorem dX12_crowd_49 : decode cX12_crowd 49 = .ok (.iload_n 2, 1) := by decide +kernel
theorem dX12_crowd_50 : decode cX12_crowd 50 = .ok (.invokestatic 338, 3) := by decide +kernel
theorem dX12_crowd_53 : decode cX12_crowd 53 = .ok (.goto 12, 3) := by decide +kernel
theorem dX12_crowd_56 : decode cX12_crowd 56 = .ok (.aload_n 0, 1) := by decide +kernel
theorem dX12_crowd_57 : decode cX12_crowd 57 = .ok (.getfield 97, 3) := by decide +kernel
theorem dX12_crowd_60 : decode cX12_crowd 60 = .ok (.getfield 254, 3) := by decide +kernel
theorem dX12_crowd_63 : decode cX12_crowd 63 = .ok (.iload_n 2, 1) := by decide +kernel
theorem dX12_crowd_64 : decode cX12_crowd 64 = .ok (.iaload, 1) := by decide +kernel
theorem dX12_crowd_65 : decode cX12_crowd 65 = .ok (.ireturn, 1) := by decide +kernel
theorem dX12_dear_0 : decode cX12_dear 0 = .ok (.aload_n 0, 1) := by decide +kernel
theorem dX12_dear_1 : decode cX12_dear 1 = .ok (.iload_n 1, 1) := by decide +kernel
theorem dX12_dear_2 : decode cX12_dear 2 = .ok (.invokevirtual 211, 3) := by decide +kernel
theorem dX12_dear_5 : decode cX12_dear 5 = .ok (.iconst 0, 1) := by decide +kernel
theorem dX12_dear_6 : decode cX12_dear 6 = .ok (.istore_n 2, 1) := by decide +kernel
theorem dX12_dear_7 : decode cX12_dear 7 = .ok (.iconst 0, 1) := by decide +kernel
theorem dX12_dear_8 : decode cX12_dear 8 = .ok (.istore_n 3, 1) := by decide +kernel
theorem dX12_dear_9 : decode cX12_dear 9 = .ok (.iload_n 3, 1) := by decide +kernel
theorem dX12_dear_10 : decode cX12_dear 10 = .ok (.bipush 64, 2) := by decide +kernel
theorem dX12_dear_12 : decode cX12_dear 12 = .ok (.if_icmp .ge 53, 3) := by decide +kernel
theorem dX12_dear_15 : decode cX12_dear 15 = .ok (.aload_n 0, 1) := by decide +kernel
theorem dX12_dear_16 : decode cX12_dear 16 = .ok (.getfield 97, 3) := by decide +kernel
theorem dX12_dear_19 : decode cX12_dear 19 = .ok (.getfield 287, 3) := by decide +kernel
theorem dX12_dear_22 : decode cX12_dear 22 = .ok (.iload_n 1, 1) := by decide +kernel
theorem dX12_dear_23 : decode cX12_dear 23 = .ok (.bipush 64, 2) := by decide +kernel
theorem dX12_dear_25 : decode cX12_dear 25 = .ok (.imul, 1) := by decide +kernel
theorem dX12_dear_26 : decode cX12_dear 26 = .ok (.iload_n 3, 1) := by decide +kernel
theorem dX12_dear_27 : decode cX12_dear 27 = .ok (.iadd, 1) := by decide +kernel
theorem dX12_dear_28 : decode cX12_dear 28 = .ok (.iaload, 1) := by decide +kernel
theorem dX12_dear_29 : decode cX12_dear 29 = .ok (.istore 4, 2) := by decide +kernel
theorem dX12_dear_31 : decode cX12_dear 31 = .ok (.iload 4, 2) := by decide +kernel
theorem dX12_dear_33 : decode cX12_dear 33 = .ok (.iconst (-1), 1) := by decide +kernel
theorem dX12_dear_34 : decode cX12_dear 34 = .ok (.if_icmp .eq 25, 3) := by decide +kernel
theorem dX12_dear_37 : decode cX12_dear 37 = .ok (.iload 4, 2) := by decide +kernel
theorem dX12_dear_39 : decode cX12_dear 39 = .ok (.iconst 4, 1) := by decide +kernel
theorem dX12_dear_40 : decode cX12_dear 40 = .ok (.if_icmp .eq 19, 3) := by decide +kernel
theorem dX12_dear_43 : decode cX12_dear 43 = .ok (.iload_n 2, 1) := by decide +kernel
theorem dX12_dear_44 : decode cX12_dear 44 = .ok (.aload_n 0, 1) := by decide +kernel
theorem dX12_dear_45 : decode cX12_dear 45 = .ok (.getfield 67, 3) := by decide +kernel
theorem dX12_dear_48 : decode cX12_dear 48 = .ok (.aload_n 0, 1) := by decide +kernel
theorem dX12_dear_49 : decode cX12_dear 49 = .ok (.getfield 97, 3) := by decide +kernel
theorem dX12_dear_52 : decode cX12_dear 52 = .ok (.iload_n 1, 1) := by decide +kernel
theorem dX12_dear_53 : decode cX12_dear 53 = .ok (.iload_n 3, 1) := by decide +kernel
theorem dX12_dear_54 : decode cX12_dear 54 = .ok (.invokevirtual 272, 3) := by decide +kernel
theorem dX12_dear_57 : decode cX12_dear 57 = .ok (.iadd, 1) := by decide +kernel
theorem dX12_dear_58 : decode cX12_dear 58 = .ok (.istore_n 2, 1) := by decide +kernel
theorem dX12_dear_59 : decode cX12_dear 59 = .ok (.iinc 3 1, 3) := by decide +kernel
theorem dX12_dear_62 : decode cX12_dear 62 = .ok (.goto (-53), 3) := by decide +kernel
theorem dX12_dear_65 : decode cX12_dear 65 = .ok (.iload_n 2, 1) := by decide +kernel
theorem dX12_dear_66 : decode cX12_dear 66 = .ok (.ireturn, 1) := by decide +kernel
theorem dX12_dist_0 : decode cX12_dist 0 = .ok (.aload_n 0, 1) := by decide +kernel
theorem dX12_dist_1 : decode cX12_dist 1 = .ok (.iload_n 1, 1) := by decide +kernel
theorem dX12_dist_2 : decode cX12_dist 2 = .ok (.invokevirtual 211, 3) := by decide +kernel
theorem dX12_dist_5 : decode cX12_dist 5 = .ok (.aload_n 0, 1) := by decide +kernel
theorem dX12_dist_6 : decode cX12_dist 6 = .ok (.iload_n 2, 1) := by decide +kernel
theorem dX12_dist_7 : decode cX12_dist 7 = .ok (.iload_n 3, 1) := by decide +kernel
theorem dX12_dist_8 : decode cX12_dist 8 = .ok (.invokevirtual 248, 3) := by decide +kernel
theorem dX12_dist_11 : decode cX12_dist 11 = .ok (.aload_n 0, 1) := by decide +kernel
theorem dX12_dist_12 : decode cX12_dist 12 = .ok (.getfield 67, 3) := by decide +kernel
theorem dX12_dist_15 : decode cX12_dist 15 = .ok (.aload_n 0, 1) := by decide +kernel
theorem dX12_dist_16 : decode cX12_dist 16 = .ok (.getfield 97, 3) := by decide +kernel
theorem dX12_dist_19 : decode cX12_dist 19 = .ok (.iload_n 1, 1) := by decide +kernel
theorem dX12_dist_20 : decode cX12_dist 20 = .ok (.iload_n 3, 1) := by decide +kernel
theorem dX12_dist_21 : decode cX12_dist 21 = .ok (.bipush 8, 2) := by decide +kernel
theorem dX12_dist_23 : decode cX12_dist 23 = .ok (.imul, 1) := by decide +kernel
theorem dX12_dist_24 : decode cX12_dist 24 = .ok (.iload_n 2, 1) := by decide +kernel
theorem dX12_dist_25 : decode cX12_dist 25 = .ok (.iadd, 1) := by decide +kernel
theorem dX12_dist_26 : decode cX12_dist 26 = .ok (.invokevirtual 290, 3) := by decide +kernel
theorem dX12_dist_29 : decode cX12_dist 29 = .ok (.ireturn, 1) := by decide +kernel
theorem dX12_doDrawnDeed_0 : decode cX12_doDrawnDeed 0 = .ok (.aload_n 0, 1) := by decide +kernel
theorem dX12_doDrawnDeed_1 : decode cX12_doDrawnDeed 1 = .ok (.aload_n 0, 1) := by decide +kernel
theorem dX12_doDrawnDeed_2 : decode cX12_doDrawnDeed 2 = .ok (.getfield 19, 3) := by decide +kernel
theorem dX12_doDrawnDeed_5 : decode cX12_doDrawnDeed 5 = .ok (.getfield 136, 3) := by decide +kernel
theorem dX12_doDrawnDeed_8 : decode cX12_doDrawnDeed 8 = .ok (.invokevirtual 393, 3) := by decide +kernel
theorem dX12_doDrawnDeed_11 : decode cX12_doDrawnDeed 11 = .ok (.istore_n 1, 1) := by decide +kernel
theorem dX12_doDrawnDeed_12 : decode cX12_doDrawnDeed 12 = .ok (.aload_n 0, 1) := by decide +kernel
theorem dX12_doDrawnDeed_13 : decode cX12_doDrawnDeed 13 = .ok (.bipush 8, 2) := by decide +kernel
theorem dX12_doDrawnDeed_15 : decode cX12_doDrawnDeed 15 = .ok (.invokevirtual 393, 3) := by decide +kernel
theorem dX12_doDrawnDeed_18 : decode cX12_doDrawnDeed 18 = .ok (.tableswitch 80 0 3 #[30, 46, 46, 62], 30) := by decide +kernel
theorem dX12_doDrawnDeed_48 : decode cX12_doDrawnDeed 48 = .ok (.aload_n 0, 1) := by decide +kernel
theorem dX12_doDrawnDeed_49 : decode cX12_doDrawnDeed 49 = .ok (.getfield 67, 3) := by decide +kernel
theorem dX12_doDrawnDeed_52 : decode cX12_doDrawnDeed 52 = .ok (.aload_n 0, 1) := by decide +kernel
theorem dX12_doDrawnDeed_53 : decode cX12_doDrawnDeed 53 = .ok (.getfield 101, 3) := by decide +kernel
theorem dX12_doDrawnDeed_56 : decode cX12_doDrawnDeed 56 = .ok (.iload_n 1, 1) := by decide +kernel
theorem dX12_doDrawnDeed_57 : decode cX12_doDrawnDeed 57 = .ok (.invokevirtual 400, 3) := by decide +kernel
theorem dX12_doDrawnDeed_60 : decode cX12_doDrawnDeed 60 = .ok (.pop, 1) := by decide +kernel
theorem dX12_doDrawnDeed_61 : decode cX12_doDrawnDeed 61 = .ok (.goto 48, 3) := by decide +kernel
theorem dX12_doDrawnDeed_64 : decode cX12_doDrawnDeed 64 = .ok (.aload_n 0, 1) := by decide +kernel
theorem dX12_doDrawnDeed_65 : decode cX12_doDrawnDeed 65 = .ok (.getfield 67, 3) := by decide +kernel
theorem dX12_doDrawnDeed_68 : decode cX12_doDrawnDeed 68 = .ok (.aload_n 0, 1) := by decide +kernel
theorem dX12_doDrawnDeed_69 : decode cX12_doDrawnDeed 69 = .ok (.getfield 101, 3) := by decide +kernel
theorem dX12_doDrawnDeed_72 : decode cX12_doDrawnDeed 72 = .ok (.iload_n 1, 1) := by decide +kernel
theorem dX12_doDrawnDeed_73 : decode cX12_doDrawnDeed 73 = .ok (.invokevirtual 403, 3) := by decide +kernel
theorem dX12_doDrawnDeed_76 : decode cX12_doDrawnDeed 76 = .ok (.pop, 1) := by decide +kernel
theorem dX12_doDrawnDeed_77 : decode cX12_doDrawnDeed 77 = .ok (.goto 32, 3) := by decide +kernel
theorem dX12_doDrawnDeed_80 : decode cX12_doDrawnDeed 80 = .ok (.aload_n 0, 1) := by decide +kernel
theorem dX12_doDrawnDeed_81 : decode cX12_doDrawnDeed 81 = .ok (.getfield 101, 3) := by decide +kernel
theorem dX12_doDrawnDeed_84 : decode cX12_doDrawnDeed 84 = .ok (.getfield 214, 3) := by decide +kernel
theorem dX12_doDrawnDeed_87 : decode cX12_doDrawnDeed 87 = .ok (.iload_n 1, 1) := by decide +kernel
theorem dX12_doDrawnDeed_88 : decode cX12_doDrawnDeed 88 = .ok (.aload_n 0, 1) := by decide +kernel
theorem dX12_doDrawnDeed_89 : decode cX12_doDrawnDeed 89 = .ok (.bipush 10, 2) := by decide +kernel
theorem dX12_doDrawnDeed_91 : decode cX12_doDrawnDeed 91 = .ok (.invokevirtual 393, 3) := by decide +kernel
theorem dX12_doDrawnDeed_94 : decode cX12_doDrawnDeed 94 = .ok (.iastore, 1) := by decide +kernel
theorem dX12_doDrawnDeed_95 : decode cX12_doDrawnDeed 95 = .ok (.goto 14, 3) := by decide +kernel
theorem dX12_doDrawnDeed_98 : decode cX12_doDrawnDeed 98 = .ok (.aload_n 0, 1) := by decide +kernel
theorem dX12_doDrawnDeed_99 : decode cX12_doDrawnDeed 99 = .ok (.getfield 67, 3) := by decide +kernel
theorem dX12_doDrawnDeed_102 : decode cX12_doDrawnDeed 102 = .ok (.aload_n 0, 1) := by decide +kernel
theorem dX12_doDrawnDeed_103 : decode cX12_doDrawnDeed 103 = .ok (.getfield 101, 3) := by decide +kernel
theorem dX12_doDrawnDeed_106 : decode cX12_doDrawnDeed 106 = .ok (.invokevirtual 298, 3) := by decide +kernel
theorem dX12_doDrawnDeed_109 : decode cX12_doDrawnDeed 109 = .ok (.return_, 1) := by decide +kernel
theorem dX12_drawn_0 : decode cX12_drawn 0 = .ok (.aload_n 0, 1) := by decide +kernel
theorem dX12_drawn_1 : decode cX12_drawn 1 = .ok (.aload_n 0, 1) := by decide +kernel
theorem dX12_drawn_2 : decode cX12_drawn 2 = .ok (.getfield 387, 3) := by decide +kernel
theorem dX12_drawn_5 : decode cX12_drawn 5 = .ok (.ldc_w 406, 3) := by decide +kernel
theorem dX12_drawn_8 : decode cX12_drawn 8 = .ok (.imul, 1) := by decide +kernel
theorem dX12_drawn_9 : decode cX12_drawn 9 = .ok (.sipush 12345, 3) := by decide +kernel
theorem dX12_drawn_12 : decode cX12_drawn 12 = .ok (.iadd, 1) := by decide +kernel
theorem dX12_drawn_13 : decode cX12_drawn 13 = .ok (.putfield 387, 3) := by decide +kernel
theorem dX12_drawn_16 : decode cX12_drawn 16 = .ok (.iload_n 1, 1) := by decide +kernel
theorem dX12_drawn_17 : decode cX12_drawn 17 = .ok (.ifCond .gt 7, 3) := by decide +kernel
theorem dX12_drawn_20 : decode cX12_drawn 20 = .ok (.iconst 0, 1) := by decide +kernel
theorem dX12_drawn_21 : decode cX12_drawn 21 = .ok (.goto 16, 3) := by decide +kernel
theorem dX12_drawn_24 : decode cX12_drawn 24 = .ok (.aload_n 0, 1) := by decide +kernel
theorem dX12_drawn_25 : decode cX12_drawn 25 = .ok (.getfield 387, 3) := by decide +kernel
theorem dX12_drawn_28 : decode cX12_drawn 28 = .ok (.bipush 16, 2) := by decide +kernel
theorem dX12_drawn_30 : decode cX12_drawn 30 = .ok (.iushr, 1) := by decide +kernel
theorem dX12_drawn_31 : decode cX12_drawn 31 = .ok (.sipush 32767, 3) := by decide +kernel
theorem dX12_drawn_34 : decode cX12_drawn 34 = .ok (.iand, 1) := by decide +kernel
theorem dX12_drawn_35 : decode cX12_drawn 35 = .ok (.iload_n 1, 1) := by decide +kernel
theorem dX12_drawn_36 : decode cX12_drawn 36 = .ok (.irem, 1) := by decide +kernel
theorem dX12_drawn_37 : decode cX12_drawn 37 = .ok (.ireturn, 1) := by decide +kernel
theorem dX12_fault_0 : decode cX12_fault 0 = .ok (.aload_n 0, 1) := by decide +kernel
theorem dX12_fault_1 : decode cX12_fault 1 = .ok (.getfield 12, 3) := by decide +kernel
theorem dX12_fault_4 : decode cX12_fault 4 = .ok (.getfield 170, 3) := by decide +kernel
theorem dX12_fault_7 : decode cX12_fault 7 = .ok (.ireturn, 1) := by decide +kernel
theorem dX12_feed_0 : decode cX12_feed 0 = .ok (.aload_n 0, 1) := by decide +kernel
theorem dX12_feed_1 : decode cX12_feed 1 = .ok (.getfield 12, 3) := by decide +kernel
theorem dX12_feed_4 : decode cX12_feed 4 = .ok (.getfield 107, 3) := by decide +kernel
theorem dX12_feed_7 : decode cX12_feed 7 = .ok (.bipush 20, 2) := by decide +kernel
theorem dX12_feed_9 : decode cX12_feed 9 = .ok (.iadd, 1) := by decide +kernel
theorem dX12_feed_10 : decode cX12_feed 10 = .ok (.sipush 600, 3) := by decide +kernel
theorem dX12_feed_13 : decode cX12_feed 13 = .ok (.if_icmp .le 5, 3) := by decide +kernel
theorem dX12_feed_16 : decode cX12_feed 16 = .ok (.iconst (-1), 1) := by decide +kernel
theorem dX12_feed_17 : decode cX12_feed 17 = .ok (.ireturn, 1) := by decide +kernel
theorem dX12_feed_18 : decode cX12_feed 18 = .ok (.aload_n 0, 1) := by decide +kernel
theorem dX12_feed_19 : decode cX12_feed 19 = .ok (.getfield 12, 3) := by decide +kernel
theorem dX12_feed_22 : decode cX12_feed 22 = .ok (.iload_n 1, 1) := by decide +kernel
theorem dX12_feed_23 : decode cX12_feed 23 = .ok (.invokevirtual 111, 3) := by decide +kernel
theorem dX12_feed_26 : decode cX12_feed 26 = .ok (.aload_n 0, 1) := by decide +kernel
theorem dX12_feed_27 : decode cX12_feed 27 = .ok (.getfield 12, 3) := by decide +kernel
theorem dX12_feed_30 : decode cX12_feed 30 = .ok (.iload_n 2, 1) := by decide +kernel
theorem dX12_feed_31 : decode cX12_feed 31 = .ok (.invokevirtual 111, 3) := by decide +kernel
theorem dX12_feed_34 : decode cX12_feed 34 = .ok (.aload_n 0, 1) := by decide +kernel
theorem dX12_feed_35 : decode cX12_feed 35 = .ok (.getfield 12, 3) := by decide +kernel
theorem dX12_feed_38 : decode cX12_feed 38 = .ok (.iload_n 3, 1) := by decide +kernel
theorem dX12_feed_39 : decode cX12_feed 39 = .ok (.invokevirtual 111, 3) := by decide +kernel
theorem dX12_feed_42 : decode cX12_feed 42 = .ok (.aload_n 0, 1) := by decide +kernel
theorem dX12_feed_43 : decode cX12_feed 43 = .ok (.getfield 12, 3) := by decide +kernel
theorem dX12_feed_46 : decode cX12_feed 46 = .ok (.iload 4, 2) := by decide +kernel
theorem dX12_feed_48 : decode cX12_feed 48 = .ok (.invokevirtual 111, 3) := by decide +kernel
theorem dX12_feed_51 : decode cX12_feed 51 = .ok (.aload_n 0, 1) := by decide +kernel
theorem dX12_feed_52 : decode cX12_feed 52 = .ok (.getfield 12, 3) := by decide +kernel
theorem dX12_feed_55 : decode cX12_feed 55 = .ok (.iload 5, 2) := by decide +kernel
theorem dX12_feed_57 : decode cX12_feed 57 = .ok (.invokevirtual 111, 3) := by decide +kernel
theorem dX12_feed_60 : decode cX12_feed 60 = .ok (.aload_n 0, 1) := by decide +kernel
theorem dX12_feed_61 : decode cX12_feed 61 = .ok (.getfield 12, 3) := by decide +kernel
theorem dX12_feed_64 : decode cX12_feed 64 = .ok (.getfield 107, 3) := by decide +kernel
theorem dX12_feed_67 : decode cX12_feed 67 = .ok (.ireturn, 1) := by decide +kernel
theorem dX12_fewest_0 : decode cX12_fewest 0 = .ok (.aload_n 0, 1) := by decide +kernel
theorem dX12_fewest_1 : decode cX12_fewest 1 = .ok (.iload_n 1, 1) := by decide +kernel
theorem dX12_fewest_2 : decode cX12_fewest 2 = .ok (.invokevirtual 211, 3) := by decide +kernel
theorem dX12_fewest_5 : decode cX12_fewest 5 = .ok (.aload_n 0, 1) := by decide +kernel
theorem dX12_fewest_6 : decode cX12_fewest 6 = .ok (.getfield 74, 3) := by decide +kernel
theorem dX12_fewest_9 : decode cX12_fewest 9 = .ok (.aload_n 0, 1) := by decide +kernel
theorem dX12_fewest_10 : decode cX12_fewest 10 = .ok (.getfield 97, 3) := by decide +kernel
theorem dX12_fewest_13 : decode cX12_fewest 13 = .ok (.iload_n 1, 1) := by decide +kernel
theorem dX12_fewest_14 : decode cX12_fewest 14 = .ok (.invokevirtual 310, 3) := by decide +kernel
theorem dX12_fewest_17 : decode cX12_fewest 17 = .ok (.ireturn, 1) := by decide +kernel
theorem dX12_fits_0 : decode cX12_fits 0 = .ok (.aload_n 0, 1) := by decide +kernel
theorem dX12_fits_1 : decode cX12_fits 1 = .ok (.iload_n 1, 1) := by decide +kernel
theorem dX12_fits_2 : decode cX12_fits 2 = .ok (.iconst 1, 1) := by decide +kernel
theorem dX12_fits_3 : decode cX12_fits 3 = .ok (.invokevirtual 176, 3) := by decide +kernel
theorem dX12_fits_6 : decode cX12_fits 6 = .ok (.aload_n 0, 1) := by decide +kernel
theorem dX12_fits_7 : decode cX12_fits 7 = .ok (.getfield 83, 3) := by decide +kernel
theorem dX12_fits_10 : decode cX12_fits 10 = .ok (.aload_n 0, 1) := by decide +kernel
theorem dX12_fits_11 : decode cX12_fits 11 = .ok (.getfield 97, 3) := by decide +kernel
theorem dX12_fits_14 : decode cX12_fits 14 = .ok (.aload_n 0, 1) := by decide +kernel
theorem dX12_fits_15 : decode cX12_fits 15 = .ok (.getfield 101, 3) := by decide +kernel
theorem dX12_fits_18 : decode cX12_fits 18 = .ok (.invokevirtual 320, 3) := by decide +kernel
theorem dX12_fits_21 : decode cX12_fits 21 = .ok (.istore_n 2, 1) := by decide +kernel
theorem dX12_fits_22 : decode cX12_fits 22 = .ok (.iload_n 1, 1) := by decide +kernel
theorem dX12_fits_23 : decode cX12_fits 23 = .ok (.ifCond .ne 5, 3) := by decide +kernel
theorem dX12_fits_26 : decode cX12_fits 26 = .ok (.iload_n 2, 1) := by decide +kernel
theorem dX12_fits_27 : decode cX12_fits 27 = .ok (.ireturn, 1) := by decide +kernel
theorem dX12_fits_28 : decode cX12_fits 28 = .ok (.iload_n 2, 1) := by decide +kernel
theorem dX12_fits_29 : decode cX12_fits 29 = .ok (.ifCond .ne 7, 3) := by decide +kernel
theorem dX12_fits_32 : decode cX12_fits 32 = .ok (.iconst (-1), 1) := by decide +kernel
theorem dX12_fits_33 : decode cX12_fits 33 = .ok (.goto 12, 3) := by decide +kernel
theorem dX12_fits_36 : decode cX12_fits 36 = .ok (.aload_n 0, 1) := by decide +kernel
theorem dX12_fits_37 : decode cX12_fits 37 = .ok (.getfield 83, 3) := by decide +kernel
theorem dX12_fits_40 : decode cX12_fits 40 = .ok (.getfield 324, 3) := by decide +kernel
theorem dX12_fits_43 : decode cX12_fits 43 = .ok (.iconst 0, 1) := by decide +kernel
theorem dX12_fits_44 : decode cX12_fits 44 = .ok (.iaload, 1) := by decide +kernel
theorem dX12_fits_45 : decode cX12_fits 45 = .ok (.ireturn, 1) := by decide +kernel
theorem dX12_goAhead_0 : decode cX12_goAhead 0 = .ok (.aload_n 0, 1) := by decide +kernel
theorem dX12_goAhead_1 : decode cX12_goAhead 1 = .ok (.getfield 101, 3) := by decide +kernel
theorem dX12_goAhead_4 : decode cX12_goAhead 4 = .ok (.aload_n 0, 1) := by decide +kernel
theorem dX12_goAhead_5 : decode cX12_goAhead 5 = .ok (.getfield 97, 3) := by decide +kernel
theorem dX12_goAhead_8 : decode cX12_goAhead 8 = .ok (.invokevirtual 296, 3) := by decide +kernel
theorem dX12_goAhead_11 : decode cX12_goAhead 11 = .ok (.iconst 0, 1) := by decide +kernel
theorem dX12_goAhead_12 : decode cX12_goAhead 12 = .ok (.istore_n 2, 1) := by decide +kernel
theorem dX12_goAhead_13 : decode cX12_goAhead 13 = .ok (.iload_n 2, 1) := by decide +kernel
theorem dX12_goAhead_14 : decode cX12_goAhead 14 = .ok (.iload_n 1, 1) := by decide +kernel
theorem dX12_goAhead_15 : decode cX12_goAhead 15 = .ok (.if_icmp .ge 34, 3) := by decide +kernel
theorem dX12_goAhead_18 : decode cX12_goAhead 18 = .ok (.aload_n 0, 1) := by decide +kernel
theorem dX12_goAhead_19 : decode cX12_goAhead 19 = .ok (.getfield 58, 3) := by decide +kernel
theorem dX12_goAhead_22 : decode cX12_goAhead 22 = .ok (.aload_n 0, 1) := by decide +kernel
theorem dX12_goAhead_23 : decode cX12_goAhead 23 = .ok (.getfield 101, 3) := by decide +kernel
theorem dX12_goAhead_26 : decode cX12_goAhead 26 = .ok (.invokevirtual 195, 3) := by decide +kernel
theorem dX12_goAhead_29 : decode cX12_goAhead 29 = .ok (.ifCond .ne 20, 3) := by decide +kernel
theorem dX12_goAhead_32 : decode cX12_goAhead 32 = .ok (.aload_n 0, 1) := by decide +kernel
theorem dX12_goAhead_33 : decode cX12_goAhead 33 = .ok (.getfield 67, 3) := by decide +kernel
theorem dX12_goAhead_36 : decode cX12_goAhead 36 = .ok (.aload_n 0, 1) := by decide +kernel
theorem dX12_goAhead_37 : decode cX12_goAhead 37 = .ok (.getfield 101, 3) := by decide +kernel
theorem dX12_goAhead_40 : decode cX12_goAhead 40 = .ok (.invokevirtual 298, 3) := by decide +kernel
theorem dX12_goAhead_43 : decode cX12_goAhead 43 = .ok (.iinc 2 1, 3) := by decide +kernel
theorem dX12_goAhead_46 : decode cX12_goAhead 46 = .ok (.goto (-33), 3) := by decide +kernel
theorem dX12_goAhead_49 : decode cX12_goAhead 49 = .ok (.return_, 1) := by decide +kernel
theorem dX12_goSeason_0 : decode cX12_goSeason 0 = .ok (.aload_n 0, 1) := by decide +kernel
theorem dX12_goSeason_1 : decode cX12_goSeason 1 = .ok (.getfield 101, 3) := by decide +kernel
theorem dX12_goSeason_4 : decode cX12_goSeason 4 = .ok (.aload_n 0, 1) := by decide +kernel
theorem dX12_goSeason_5 : decode cX12_goSeason 5 = .ok (.getfield 97, 3) := by decide +kernel
theorem dX12_goSeason_8 : decode cX12_goSeason 8 = .ok (.invokevirtual 296, 3) := by decide +kernel
theorem dX12_goSeason_11 : decode cX12_goSeason 11 = .ok (.aload_n 0, 1) := by decide +kernel
theorem dX12_goSeason_12 : decode cX12_goSeason 12 = .ok (.iload_n 1, 1) := by decide +kernel
theorem dX12_goSeason_13 : decode cX12_goSeason 13 = .ok (.putfield 387, 3) := by decide +kernel
theorem dX12_goSeason_16 : decode cX12_goSeason 16 = .ok (.iconst 0, 1) := by decide +kernel
theorem dX12_goSeason_17 : decode cX12_goSeason 17 = .ok (.istore 4, 2) := by decide +kernel
theorem dX12_goSeason_19 : decode cX12_goSeason 19 = .ok (.iload 4, 2) := by decide +kernel
theorem dX12_goSeason_21 : decode cX12_goSeason 21 = .ok (.iload_n 2, 1) := by decide +kernel
theorem dX12_goSeason_22 : decode cX12_goSeason 22 = .ok (.if_icmp .ge 45, 3) := by decide +kernel
theorem dX12_goSeason_25 : decode cX12_goSeason 25 = .ok (.aload_n 0, 1) := by decide +kernel
theorem dX12_goSeason_26 : decode cX12_goSeason 26 = .ok (.getfield 19, 3) := by decide +kernel
theorem dX12_goSeason_29 : decode cX12_goSeason 29 = .ok (.getfield 136, 3) := by decide +kernel
theorem dX12_goSeason_32 : decode cX12_goSeason 32 = .ok (.ifCond .le 7, 3) := by decide +kernel
theorem dX12_goSeason_35 : decode cX12_goSeason 35 = .ok (.aload_n 0, 1) := by decide +kernel
theorem dX12_goSeason_36 : decode cX12_goSeason 36 = .ok (.invokevirtual 390, 3) := by decide +kernel
theorem dX12_goSeason_39 : decode cX12_goSeason 39 = .ok (.aload_n 0, 1) := by decide +kernel
theorem dX12_goSeason_40 : decode cX12_goSeason 40 = .ok (.bipush 16, 2) := by decide +kernel
theorem dX12_goSeason_42 : decode cX12_goSeason 42 = .ok (.invokevirtual 393, 3) := by decide +kernel
theorem dX12_goSeason_45 : decode cX12_goSeason 45 = .ok (.iload_n 3, 1) := by decide +kernel
theorem dX12_goSeason_46 : decode cX12_goSeason 46 = .ok (.if_icmp .ge 15, 3) := by decide +kernel
theorem dX12_goSeason_49 : decode cX12_goSeason 49 = .ok (.aload_n 0, 1) := by decide +kernel
theorem dX12_goSeason_50 : decode cX12_goSeason 50 = .ok (.getfield 67, 3) := by decide +kernel
theorem dX12_goSeason_53 : decode cX12_goSeason 53 = .ok (.aload_n 0, 1) := by decide +kernel
theorem dX12_goSeason_54 : decode cX12_goSeason 54 = .ok (.getfield 101, 3) := by decide +kernel
theorem dX12_goSeason_57 : decode cX12_goSeason 57 = .ok (.iconst 1, 1) := by decide +kernel
theorem dX12_goSeason_58 : decode cX12_goSeason 58 = .ok (.invokevirtual 396, 3) := by decide +kernel
theorem dX12_goSeason_61 : decode cX12_goSeason 61 = .ok (.iinc 4 1, 3) := by decide +kernel
theorem dX12_goSeason_64 : decode cX12_goSeason 64 = .ok (.goto (-45), 3) := by decide +kernel
theorem dX12_goSeason_67 : decode cX12_goSeason 67 = .ok (.return_, 1) := by decide +kernel
theorem dX12_image_0 : decode cX12_image 0 = .ok (.aload_n 0, 1) := by decide +kernel
theorem dX12_image_1 : decode cX12_image 1 = .ok (.getfield 90, 3) := by decide +kernel
theorem dX12_image_4 : decode cX12_image 4 = .ok (.getfield 344, 3) := by decide +kernel
theorem dX12_image_7 : decode cX12_image 7 = .ok (.iconst 3, 1) := by decide +kernel
theorem dX12_image_8 : decode cX12_image 8 = .ok (.if_icmp .lt 5, 3) := by decide +kernel
theorem dX12_image_11 : decode cX12_image 11 = .ok (.iconst (-1), 1) := by decide +kernel
theorem dX12_image_12 : decode cX12_image 12 = .ok (.ireturn, 1) := by decide +kernel
theorem dX12_image_13 : decode cX12_image 13 = .ok (.aload_n 0, 1) := by decide +kernel
theorem dX12_image_14 : decode cX12_image 14 = .ok (.getfield 90, 3) := by decide +kernel
theorem dX12_image_17 : decode cX12_image 17 = .ok (.aload_n 0, 1) := by decide +kernel
theorem dX12_image_18 : decode cX12_image 18 = .ok (.getfield 97, 3) := by decide +kernel
theorem dX12_image_21 : decode cX12_image 21 = .ok (.invokevirtual 347, 3) := by decide +kernel
theorem dX12_image_24 : decode cX12_image 24 = .ok (.aload_n 0, 1) := by decide +kernel
theorem dX12_image_25 : decode cX12_image 25 = .ok (.getfield 90, 3) := by decide +kernel
theorem dX12_image_28 : decode cX12_image 28 = .ok (.getfield 344, 3) := by decide +kernel
theorem dX12_image_31 : decode cX12_image 31 = .ok (.ireturn, 1) := by decide +kernel
theorem dX12_init_0 : decode cX12_init 0 = .ok (.aload_n 0, 1) := by decide +kernel
theorem dX12_init_1 : decode cX12_init 1 = .ok (.invokespecial 3, 3) := by decide +kernel
theorem dX12_init_4 : decode cX12_init 4 = .ok (.aload_n 0, 1) := by decide +kernel
theorem dX12_init_5 : decode cX12_init 5 = .ok (.new 9, 3) := by decide +kernel
theorem dX12_init_8 : decode cX12_init 8 = .ok (.dup, 1) := by decide +kernel
theorem dX12_init_9 : decode cX12_init 9 = .ok (.invokespecial 11, 3) := by decide +kernel
theorem dX12_init_12 : decode cX12_init 12 = .ok (.putfield 12, 3) := by decide +kernel
theorem dX12_init_15 : decode cX12_init 15 = .ok (.aload_n 0, 1) := by decide +kernel
theorem dX12_init_16 : decode cX12_init 16 = .ok (.new 16, 3) := by decide +kernel
theorem dX12_init_19 : decode cX12_init 19 = .ok (.dup, 1) := by decide +kernel
theorem dX12_init_20 : decode cX12_init 20 = .ok (.invokespecial 18, 3) := by decide +kernel
theorem dX12_init_23 : decode cX12_init 23 = .ok (.putfield 19, 3) := by decide +kernel
theorem dX12_init_26 : decode cX12_init 26 = .ok (.aload_n 0, 1) := by decide +kernel
theorem dX12_init_27 : decode cX12_init 27 = .ok (.new 16, 3) := by decide +kernel
theorem dX12_init_30 : decode cX12_init 30 = .ok (.dup, 1) := by decide +kernel
theorem dX12_init_31 : decode cX12_init 31 = .ok (.invokespecial 18, 3) := by decide +kernel
theorem dX12_init_34 : decode cX12_init 34 = .ok (.putfield 23, 3) := by decide +kernel
theorem dX12_init_37 : decode cX12_init 37 = .ok (.aload_n 0, 1) := by decide +kernel
theorem dX12_init_38 : decode cX12_init 38 = .ok (.new 26, 3) := by decide +kernel
theorem dX12_init_41 : decode cX12_init 41 = .ok (.dup, 1) := by decide +kernel
theorem dX12_init_42 : decode cX12_init 42 = .ok (.invokespecial 28, 3) := by decide +kernel
theorem dX12_init_45 : decode cX12_init 45 = .ok (.putfield 29, 3) := by decide +kernel
theorem dX12_init_48 : decode cX12_init 48 = .ok (.aload_n 0, 1) := by decide +kernel
theorem dX12_init_49 : decode cX12_init 49 = .ok (.new 26, 3) := by decide +kernel
theorem dX12_init_52 : decode cX12_init 52 = .ok (.dup, 1) := by decide +kernel
theorem dX12_init_53 : decode cX12_init 53 = .ok (.invokespecial 28, 3) := by decide +kernel
theorem dX12_init_56 : decode cX12_init 56 = .ok (.putfield 33, 3) := by decide +kernel
theorem dX12_init_59 : decode cX12_init 59 = .ok (.aload_n 0, 1) := by decide +kernel
theorem dX12_init_60 : decode cX12_init 60 = .ok (.new 36, 3) := by decide +kernel
theorem dX12_init_63 : decode cX12_init 63 = .ok (.dup, 1) := by decide +kernel
theorem dX12_init_64 : decode cX12_init 64 = .ok (.invokespecial 38, 3) := by decide +kernel
theorem dX12_init_67 : decode cX12_init 67 = .ok (.putfield 39, 3) := by decide +kernel
theorem dX12_init_70 : decode cX12_init 70 = .ok (.aload_n 0, 1) := by decide +kernel
theorem dX12_init_71 : decode cX12_init 71 = .ok (.new 36, 3) := by decide +kernel
theorem dX12_init_74 : decode cX12_init 74 = .ok (.dup, 1) := by decide +kernel
theorem dX12_init_75 : decode cX12_init 75 = .ok (.invokespecial 38, 3) := by decide +kernel
theorem dX12_init_78 : decode cX12_init 78 = .ok (.putfield 43, 3) := by decide +kernel
theorem dX12_init_81 : decode cX12_init 81 = .ok (.aload_n 0, 1) := by decide +kernel
theorem dX12_init_82 : decode cX12_init 82 = .ok (.new 46, 3) := by decide +kernel
theorem dX12_init_85 : decode cX12_init 85 = .ok (.dup, 1) := by decide +kernel
theorem dX12_init_86 : decode cX12_init 86 = .ok (.invokespecial 48, 3) := by decide +kernel
theorem dX12_init_89 : decode cX12_init 89 = .ok (.putfield 49, 3) := by decide +kernel
theorem dX12_init_92 : decode cX12_init 92 = .ok (.aload_n 0, 1) := by decide +kernel
theorem dX12_init_93 : decode cX12_init 93 = .ok (.new 53, 3) := by decide +kernel
theorem dX12_init_96 : decode cX12_init 96 = .ok (.dup, 1) := by decide +kernel
theorem dX12_init_97 : decode cX12_init 97 = .ok (.aload_n 0, 1) := by decide +kernel
theorem dX12_init_98 : decode cX12_init 98 = .ok (.getfield 19, 3) := by decide +kernel
theorem dX12_init_101 : decode cX12_init 101 = .ok (.invokespecial 55, 3) := by decide +kernel
theorem dX12_init_104 : decode cX12_init 104 = .ok (.putfield 58, 3) := by decide +kernel
theorem dX12_init_107 : decode cX12_init 107 = .ok (.aload_n 0, 1) := by decide +kernel
theorem dX12_init_108 : decode cX12_init 108 = .ok (.new 62, 3) := by decide +kernel
theorem dX12_init_111 : decode cX12_init 111 = .ok (.dup, 1) := by decide +kernel
theorem dX12_init_112 : decode cX12_init 112 = .ok (.aload_n 0, 1) := by decide +kernel
theorem dX12_init_113 : decode cX12_init 113 = .ok (.getfield 19, 3) := by decide +kernel
theorem dX12_init_116 : decode cX12_init 116 = .ok (.aload_n 0, 1) := by decide +kernel
theorem dX12_init_117 : decode cX12_init 117 = .ok (.getfield 29, 3) := by decide +kernel
theorem dX12_init_120 : decode cX12_init 120 = .ok (.aload_n 0, 1) := by decide +kernel
theorem dX12_init_121 : decode cX12_init 121 = .ok (.getfield 58, 3) := by decide +kernel
theorem dX12_init_124 : decode cX12_init 124 = .ok (.invokespecial 64, 3) := by decide +kernel
theorem dX12_init_127 : decode cX12_init 127 = .ok (.putfield 67, 3) := by decide +kernel
theorem dX12_init_130 : decode cX12_init 130 = .ok (.aload_n 0, 1) := by decide +kernel
theorem dX12_init_131 : decode cX12_init 131 = .ok (.new 71, 3) := by decide +kernel
theorem dX12_init_134 : decode cX12_init 134 = .ok (.dup, 1) := by decide +kernel
theorem dX12_init_135 : decode cX12_init 135 = .ok (.aload_n 0, 1) := by decide +kernel
theorem dX12_init_136 : decode cX12_init 136 = .ok (.getfield 19, 3) := by decide +kernel
theorem dX12_init_139 : decode cX12_init 139 = .ok (.invokespecial 73, 3) := by decide +kernel
theorem dX12_init_142 : decode cX12_init 142 = .ok (.putfield 74, 3) := by decide +kernel
theorem dX12_init_145 : decode cX12_init 145 = .ok (.aload_n 0, 1) := by decide +kernel
theorem dX12_init_146 : decode cX12_init 146 = .ok (.new 78, 3) := by decide +kernel
theorem dX12_init_149 : decode cX12_init 149 = .ok (.dup, 1) := by decide +kernel
theorem dX12_init_150 : decode cX12_init 150 = .ok (.aload_n 0, 1) := by decide +kernel
theorem dX12_init_151 : decode cX12_init 151 = .ok (.getfield 19, 3) := by decide +kernel
theorem dX12_init_154 : decode cX12_init 154 = .ok (.aload_n 0, 1) := by decide +kernel
theorem dX12_init_155 : decode cX12_init 155 = .ok (.getfield 39, 3) := by decide +kernel
theorem dX12_init_158 : decode cX12_init 158 = .ok (.aload_n 0, 1) := by decide +kernel
theorem dX12_init_159 : decode cX12_init 159 = .ok (.getfield 67, 3) := by decide +kernel
theorem dX12_init_162 : decode cX12_init 162 = .ok (.invokespecial 80, 3) := by decide +kernel
theorem dX12_init_165 : decode cX12_init 165 = .ok (.putfield 83, 3) := by decide +kernel
theorem dX12_init_168 : decode cX12_init 168 = .ok (.aload_n 0, 1) := by decide +kernel
theorem dX12_init_169 : decode cX12_init 169 = .ok (.new 87, 3) := by decide +kernel
theorem dX12_init_172 : decode cX12_init 172 = .ok (.dup, 1) := by decide +kernel
theorem dX12_init_173 : decode cX12_init 173 = .ok (.invokespecial 89, 3) := by decide +kernel
theorem dX12_init_176 : decode cX12_init 176 = .ok (.putfield 90, 3) := by decide +kernel
theorem dX12_init_179 : decode cX12_init 179 = .ok (.aload_n 0, 1) := by decide +kernel
theorem dX12_init_180 : decode cX12_init 180 = .ok (.new 94, 3) := by decide +kernel
theorem dX12_init_183 : decode cX12_init 183 = .ok (.dup, 1) := by decide +kernel
theorem dX12_init_184 : decode cX12_init 184 = .ok (.invokespecial 96, 3) := by decide +kernel
theorem dX12_init_187 : decode cX12_init 187 = .ok (.putfield 97, 3) := by decide +kernel
theorem dX12_init_190 : decode cX12_init 190 = .ok (.aload_n 0, 1) := by decide +kernel
theorem dX12_init_191 : decode cX12_init 191 = .ok (.new 94, 3) := by decide +kernel
theorem dX12_init_194 : decode cX12_init 194 = .ok (.dup, 1) := by decide +kernel
theorem dX12_init_195 : decode cX12_init 195 = .ok (.invokespecial 96, 3) := by decide +kernel
theorem dX12_init_198 : decode cX12_init 198 = .ok (.putfield 101, 3) := by decide +kernel
theorem dX12_init_201 : decode cX12_init 201 = .ok (.aload_n 0, 1) := by decide +kernel
theorem dX12_init_202 : decode cX12_init 202 = .ok (.invokevirtual 104, 3) := by decide +kernel
theorem dX12_init_205 : decode cX12_init 205 = .ok (.return_, 1) := by decide +kernel
theorem dX12_jam_0 : decode cX12_jam 0 = .ok (.aload_n 0, 1) := by decide +kernel
theorem dX12_jam_1 : decode cX12_jam 1 = .ok (.iload_n 1, 1) := by decide +kernel
theorem dX12_jam_2 : decode cX12_jam 2 = .ok (.invokevirtual 301, 3) := by decide +kernel
theorem dX12_jam_5 : decode cX12_jam 5 = .ok (.aload_n 0, 1) := by decide +kernel
theorem dX12_jam_6 : decode cX12_jam 6 = .ok (.bipush 40, 2) := by decide +kernel
theorem dX12_jam_8 : decode cX12_jam 8 = .ok (.invokevirtual 304, 3) := by decide +kernel
theorem dX12_jam_11 : decode cX12_jam 11 = .ok (.iconst 0, 1) := by decide +kernel
theorem dX12_jam_12 : decode cX12_jam 12 = .ok (.istore_n 2, 1) := by decide +kernel
theorem dX12_jam_13 : decode cX12_jam 13 = .ok (.iconst 0, 1) := by decide +kernel
theorem dX12_jam_14 : decode cX12_jam 14 = .ok (.istore_n 3, 1) := by decide +kernel
theorem dX12_jam_15 : decode cX12_jam 15 = .ok (.iload_n 3, 1) := by decide +kernel
theorem dX12_jam_16 : decode cX12_jam 16 = .ok (.aload_n 0, 1) := by decide +kernel
theorem dX12_jam_17 : decode cX12_jam 17 = .ok (.getfield 19, 3) := by decide +kernel
theorem dX12_jam_20 : decode cX12_jam 20 = .ok (.getfield 179, 3) := by decide +kernel
theorem dX12_jam_23 : decode cX12_jam 23 = .ok (.if_icmp .ge 35, 3) := by decide +kernel
theorem dX12_jam_26 : decode cX12_jam 26 = .ok (.aload_n 0, 1) := by decide +kernel
theorem dX12_jam_27 : decode cX12_jam 27 = .ok (.getfield 58, 3) := by decide +kernel
theorem dX12_jam_30 : decode cX12_jam 30 = .ok (.aload_n 0, 1) := by decide +kernel
theorem dX12_jam_31 : decode cX12_jam 31 = .ok (.getfield 101, 3) := by decide +kernel
theorem dX12_jam_34 : decode cX12_jam 34 = .ok (.iload_n 1, 1) := by decide +kernel
theorem dX12_jam_35 : decode cX12_jam 35 = .ok (.bipush 8, 2) := by decide +kernel
theorem dX12_jam_37 : decode cX12_jam 37 = .ok (.imul, 1) := by decide +kernel
theorem dX12_jam_38 : decode cX12_jam 38 = .ok (.iload_n 3, 1) := by decide +kernel
theorem dX12_jam_39 : decode cX12_jam 39 = .ok (.iadd, 1) := by decide +kernel
theorem dX12_jam_40 : decode cX12_jam 40 = .ok (.invokevirtual 269, 3) := by decide +kernel
theorem dX12_jam_43 : decode cX12_jam 43 = .ok (.ifCond .le 9, 3) := by decide +kernel
theorem dX12_jam_46 : decode cX12_jam 46 = .ok (.iload_n 2, 1) := by decide +kernel
theorem dX12_jam_47 : decode cX12_jam 47 = .ok (.iconst 1, 1) := by decide +kernel
theorem dX12_jam_48 : decode cX12_jam 48 = .ok (.iload_n 3, 1) := by decide +kernel
theorem dX12_jam_49 : decode cX12_jam 49 = .ok (.ishl, 1) := by decide +kernel
theorem dX12_jam_50 : decode cX12_jam 50 = .ok (.ior, 1) := by decide +kernel
theorem dX12_jam_51 : decode cX12_jam 51 = .ok (.istore_n 2, 1) := by decide +kernel
theorem dX12_jam_52 : decode cX12_jam 52 = .ok (.iinc 3 1, 3) := by decide +kernel
theorem dX12_jam_55 : decode cX12_jam 55 = .ok (.goto (-40), 3) := by decide +kernel
theorem dX12_jam_58 : decode cX12_jam 58 = .ok (.iload_n 2, 1) := by decide +kernel
theorem dX12_jam_59 : decode cX12_jam 59 = .ok (.ireturn, 1) := by decide +kernel
theorem dX12_law_0 : decode cX12_law 0 = .ok (.aload_n 0, 1) := by decide +kernel
theorem dX12_law_1 : decode cX12_law 1 = .ok (.iload_n 1, 1) := by decide +kernel
theorem dX12_law_2 : decode cX12_law 2 = .ok (.sipush 150, 3) := by decide +kernel
theorem dX12_law_5 : decode cX12_law 5 = .ok (.invokevirtual 115, 3) := by decide +kernel
theorem dX12_law_8 : decode cX12_law 8 = .ok (.aload_n 0, 1) := by decide +kernel
theorem dX12_law_9 : decode cX12_law 9 = .ok (.getfield 12, 3) := by decide +kernel
theorem dX12_law_12 : decode cX12_law 12 = .ok (.iload_n 1, 1) := by decide +kernel
theorem dX12_law_13 : decode cX12_law 13 = .ok (.invokevirtual 119, 3) := by decide +kernel
theorem dX12_law_16 : decode cX12_law 16 = .ok (.aload_n 0, 1) := by decide +kernel
theorem dX12_law_17 : decode cX12_law 17 = .ok (.getfield 33, 3) := by decide +kernel
theorem dX12_law_20 : decode cX12_law 20 = .ok (.aload_n 0, 1) := by decide +kernel
theorem dX12_law_21 : decode cX12_law 21 = .ok (.getfield 12, 3) := by decide +kernel
theorem dX12_law_24 : decode cX12_law 24 = .ok (.invokevirtual 139, 3) := by decide +kernel
theorem dX12_law_27 : decode cX12_law 27 = .ok (.aload_n 0, 1) := by decide +kernel
theorem dX12_law_28 : decode cX12_law 28 = .ok (.getfield 12, 3) := by decide +kernel
theorem dX12_law_31 : decode cX12_law 31 = .ok (.invokevirtual 126, 3) := by decide +kernel
theorem dX12_law_34 : decode cX12_law 34 = .ok (.ifCond .eq 14, 3) := by decide +kernel
theorem dX12_law_37 : decode cX12_law 37 = .ok (.aload_n 0, 1) := by decide +kernel
theorem dX12_law_38 : decode cX12_law 38 = .ok (.getfield 12, 3) := by decide +kernel
theorem dX12_law_41 : decode cX12_law 41 = .ok (.getfield 130, 3) := by decide +kernel
theorem dX12_law_44 : decode cX12_law 44 = .ok (.bipush 10, 2) := by decide +kernel
theorem dX12_law_46 : decode cX12_law 46 = .ok (.isub, 1) := by decide +kernel
theorem dX12_law_47 : decode cX12_law 47 = .ok (.ireturn, 1) := by decide +kernel
theorem dX12_law_48 : decode cX12_law 48 = .ok (.aload_n 0, 1) := by decide +kernel
theorem dX12_law_49 : decode cX12_law 49 = .ok (.getfield 29, 3) := by decide +kernel
theorem dX12_law_52 : decode cX12_law 52 = .ok (.aload_n 0, 1) := by decide +kernel
theorem dX12_law_53 : decode cX12_law 53 = .ok (.getfield 33, 3) := by decide +kernel
theorem dX12_law_56 : decode cX12_law 56 = .ok (.invokevirtual 140, 3) := by decide +kernel
theorem dX12_law_59 : decode cX12_law 59 = .ok (.iconst 1, 1) := by decide +kernel
theorem dX12_law_60 : decode cX12_law 60 = .ok (.ireturn, 1) := by decide +kernel
theorem dX12_look_0 : decode cX12_look 0 = .ok (.aload_n 0, 1) := by decide +kernel
theorem dX12_look_1 : decode cX12_look 1 = .ok (.iload_n 1, 1) := by decide +kernel
theorem dX12_look_2 : decode cX12_look 2 = .ok (.iconst 1, 1) := by decide +kernel
theorem dX12_look_3 : decode cX12_look 3 = .ok (.invokevirtual 176, 3) := by decide +kernel
theorem dX12_look_6 : decode cX12_look 6 = .ok (.aload_n 0, 1) := by decide +kernel
theorem dX12_look_7 : decode cX12_look 7 = .ok (.getfield 83, 3) := by decide +kernel
theorem dX12_look_10 : decode cX12_look 10 = .ok (.aload_n 0, 1) := by decide +kernel
theorem dX12_look_11 : decode cX12_look 11 = .ok (.getfield 97, 3) := by decide +kernel
theorem dX12_look_14 : decode cX12_look 14 = .ok (.aload_n 0, 1) := by decide +kernel
theorem dX12_look_15 : decode cX12_look 15 = .ok (.getfield 101, 3) := by decide +kernel
theorem dX12_look_18 : decode cX12_look 18 = .ok (.invokevirtual 320, 3) := by decide +kernel
theorem dX12_look_21 : decode cX12_look 21 = .ok (.istore_n 2, 1) := by decide +kernel
theorem dX12_look_22 : decode cX12_look 22 = .ok (.iconst (-1), 1) := by decide +kernel
theorem dX12_look_23 : decode cX12_look 23 = .ok (.istore_n 3, 1) := by decide +kernel
theorem dX12_look_24 : decode cX12_look 24 = .ok (.iconst (-1), 1) := by decide +kernel
theorem dX12_look_25 : decode cX12_look 25 = .ok (.istore 4, 2) := by decide +kernel
theorem dX12_look_27 : decode cX12_look 27 = .ok (.iconst 0, 1) := by decide +kernel
theorem dX12_look_28 : decode cX12_look 28 = .ok (.istore 5, 2) := by decide +kernel
theorem dX12_look_30 : decode cX12_look 30 = .ok (.iload 5, 2) := by decide +kernel
theorem dX12_look_32 : decode cX12_look 32 = .ok (.bipush 64, 2) := by decide +kernel
theorem dX12_look_34 : decode cX12_look 34 = .ok (.if_icmp .ge 64, 3) := by decide +kernel
theorem dX12_look_37 : decode cX12_look 37 = .ok (.aload_n 0, 1) := by decide +kernel
theorem dX12_look_38 : decode cX12_look 38 = .ok (.getfield 19, 3) := by decide +kernel
theorem dX12_look_41 : decode cX12_look 41 = .ok (.iload 5, 2) := by decide +kernel
theorem dX12_look_43 : decode cX12_look 43 = .ok (.invokevirtual 327, 3) := by decide +kernel
theorem dX12_look_46 : decode cX12_look 46 = .ok (.ifCond .eq 46, 3) := by decide +kernel
theorem dX12_look_49 : decode cX12_look 49 = .ok (.aload_n 0, 1) := by decide +kernel
theorem dX12_look_50 : decode cX12_look 50 = .ok (.getfield 39, 3) := by decide +kernel
theorem dX12_look_53 : decode cX12_look 53 = .ok (.iload 5, 2) := by decide +kernel
theorem dX12_look_55 : decode cX12_look 55 = .ok (.invokevirtual 331, 3) := by decide +kernel
theorem dX12_look_58 : decode cX12_look 58 = .ok (.ifCond .ne 34, 3) := by decide +kernel
theorem dX12_look_61 : decode cX12_look 61 = .ok (.aload_n 0, 1) := by decide +kernel
theorem dX12_look_62 : decode cX12_look 62 = .ok (.getfield 83, 3) := by decide +kernel
theorem dX12_look_65 : decode cX12_look 65 = .ok (.iload_n 2, 1) := by decide +kernel
theorem dX12_look_66 : decode cX12_look 66 = .ok (.iload 5, 2) := by decide +kernel
theorem dX12_look_68 : decode cX12_look 68 = .ok (.invokevirtual 334, 3) := by decide +kernel
theorem dX12_look_71 : decode cX12_look 71 = .ok (.istore 6, 2) := by decide +kernel
theorem dX12_look_73 : decode cX12_look 73 = .ok (.iload_n 3, 1) := by decide +kernel
theorem dX12_look_74 : decode cX12_look 74 = .ok (.iconst (-1), 1) := by decide +kernel
theorem dX12_look_75 : decode cX12_look 75 = .ok (.if_icmp .eq 10, 3) := by decide +kernel
theorem dX12_look_78 : decode cX12_look 78 = .ok (.iload 6, 2) := by decide +kernel
theorem dX12_look_80 : decode cX12_look 80 = .ok (.iload 4, 2) := by decide +kernel
theorem dX12_look_82 : decode cX12_look 82 = .ok (.if_icmp .ge 10, 3) := by decide +kernel
theorem dX12_look_85 : decode cX12_look 85 = .ok (.iload 5, 2) := by decide +kernel
theorem dX12_look_87 : decode cX12_look 87 = .ok (.istore_n 3, 1) := by decide +kernel
theorem dX12_look_88 : decode cX12_look 88 = .ok (.iload 6, 2) := by decide +kernel
theorem dX12_look_90 : decode cX12_look 90 = .ok (.istore 4, 2) := by decide +kernel
theorem dX12_look_92 : decode cX12_look 92 = .ok (.iinc 5 1, 3) := by decide +kernel
theorem dX12_look_95 : decode cX12_look 95 = .ok (.goto (-65), 3) := by decide +kernel
theorem dX12_look_98 : decode cX12_look 98 = .ok (.iload_n 1, 1) := by decide +kernel
theorem dX12_look_99 : decode cX12_look 99 = .ok (.iconst 1, 1) := by decide +kernel
theorem dX12_look_100 : decode cX12_look 100 = .ok (.if_icmp .eq 8, 3) := by decide +kernel
theorem dX12_look_103 : decode cX12_look 103 = .ok (.iload_n 3, 1) := by decide +kernel
theorem dX12_look_104 : decode cX12_look 104 = .ok (.iconst (-1), 1) := by decide +kernel
theorem dX12_look_105 : decode cX12_look 105 = .ok (.if_icmp .ne 8, 3) := by decide +kernel
theorem dX12_look_108 : decode cX12_look 108 = .ok (.iload 4, 2) := by decide +kernel
theorem dX12_look_110 : decode cX12_look 110 = .ok (.goto 7, 3) := by decide +kernel
theorem dX12_look_113 : decode cX12_look 113 = .ok (.iload_n 3, 1) := by decide +kernel
theorem dX12_look_114 : decode cX12_look 114 = .ok (.invokestatic 338, 3) := by decide +kernel
theorem dX12_look_117 : decode cX12_look 117 = .ok (.ireturn, 1) := by decide +kernel
theorem dX12_meet_0 : decode cX12_meet 0 = .ok (.aload_n 0, 1) := by decide +kernel
theorem dX12_meet_1 : decode cX12_meet 1 = .ok (.iload_n 1, 1) := by decide +kernel
theorem dX12_meet_2 : decode cX12_meet 2 = .ok (.invokevirtual 211, 3) := by decide +kernel
theorem dX12_meet_5 : decode cX12_meet 5 = .ok (.aload_n 0, 1) := by decide +kernel
theorem dX12_meet_6 : decode cX12_meet 6 = .ok (.iload_n 2, 1) := by decide +kernel
theorem dX12_meet_7 : decode cX12_meet 7 = .ok (.invokevirtual 211, 3) := by decide +kernel
theorem dX12_meet_10 : decode cX12_meet 10 = .ok (.iconst 0, 1) := by decide +kernel
theorem dX12_meet_11 : decode cX12_meet 11 = .ok (.istore_n 3, 1) := by decide +kernel
theorem dX12_meet_12 : decode cX12_meet 12 = .ok (.iconst 0, 1) := by decide +kernel
theorem dX12_meet_13 : decode cX12_meet 13 = .ok (.istore 4, 2) := by decide +kernel
theorem dX12_meet_15 : decode cX12_meet 15 = .ok (.iload 4, 2) := by decide +kernel
theorem dX12_meet_17 : decode cX12_meet 17 = .ok (.bipush 64, 2) := by decide +kernel
theorem dX12_meet_19 : decode cX12_meet 19 = .ok (.if_icmp .ge 38, 3) := by decide +kernel
theorem dX12_meet_22 : decode cX12_meet 22 = .ok (.aload_n 0, 1) := by decide +kernel
theorem dX12_meet_23 : decode cX12_meet 23 = .ok (.getfield 97, 3) := by decide +kernel
theorem dX12_meet_26 : decode cX12_meet 26 = .ok (.iload_n 1, 1) := by decide +kernel
theorem dX12_meet_27 : decode cX12_meet 27 = .ok (.iload 4, 2) := by decide +kernel
theorem dX12_meet_29 : decode cX12_meet 29 = .ok (.invokevirtual 313, 3) := by decide +kernel
theorem dX12_meet_32 : decode cX12_meet 32 = .ok (.ifCond .eq 19, 3) := by decide +kernel
theorem dX12_meet_35 : decode cX12_meet 35 = .ok (.aload_n 0, 1) := by decide +kernel
theorem dX12_meet_36 : decode cX12_meet 36 = .ok (.getfield 97, 3) := by decide +kernel
theorem dX12_meet_39 : decode cX12_meet 39 = .ok (.iload_n 2, 1) := by decide +kernel
theorem dX12_meet_40 : decode cX12_meet 40 = .ok (.iload 4, 2) := by decide +kernel
theorem dX12_meet_42 : decode cX12_meet 42 = .ok (.invokevirtual 313, 3) := by decide +kernel
theorem dX12_meet_45 : decode cX12_meet 45 = .ok (.ifCond .eq 6, 3) := by decide +kernel
theorem dX12_meet_48 : decode cX12_meet 48 = .ok (.iinc 3 1, 3) := by decide +kernel
theorem dX12_meet_51 : decode cX12_meet 51 = .ok (.iinc 4 1, 3) := by decide +kernel
theorem dX12_meet_54 : decode cX12_meet 54 = .ok (.goto (-39), 3) := by decide +kernel
theorem dX12_meet_57 : decode cX12_meet 57 = .ok (.iload_n 3, 1) := by decide +kernel
theorem dX12_meet_58 : decode cX12_meet 58 = .ok (.ireturn, 1) := by decide +kernel
theorem dX12_nameOfPlace_0 : decode cX12_nameOfPlace 0 = .ok (.bipush 10, 2) := by decide +kernel
theorem dX12_nameOfPlace_2 : decode cX12_nameOfPlace 2 = .ok (.iload_n 0, 1) := by decide +kernel
theorem dX12_nameOfPlace_3 : decode cX12_nameOfPlace 3 = .ok (.bipush 8, 2) := by decide +kernel
theorem dX12_nameOfPlace_5 : decode cX12_nameOfPlace 5 = .ok (.idiv, 1) := by decide +kernel
theorem dX12_nameOfPlace_6 : decode cX12_nameOfPlace 6 = .ok (.imul, 1) := by decide +kernel
theorem dX12_nameOfPlace_7 : decode cX12_nameOfPlace 7 = .ok (.iload_n 0, 1) := by decide +kernel
theorem dX12_nameOfPlace_8 : decode cX12_nameOfPlace 8 = .ok (.bipush 8, 2) := by decide +kernel
theorem dX12_nameOfPlace_10 : decode cX12_nameOfPlace 10 = .ok (.irem, 1) := by decide +kernel
theorem dX12_nameOfPlace_11 : decode cX12_nameOfPlace 11 = .ok (.iadd, 1) := by decide +kernel
theorem dX12_nameOfPlace_12 : decode cX12_nameOfPlace 12 = .ok (.ireturn, 1) := by decide +kernel
theorem dX12_needLength_0 : decode cX12_needLength 0 = .ok (.iload_n 1, 1) := by decide +kernel
theorem dX12_needLength_1 : decode cX12_needLength 1 = .ok (.ifCond .lt 19, 3) := by decide +kernel
theorem dX12_needLength_4 : decode cX12_needLength 4 = .ok (.iload_n 1, 1) := by decide +kernel
theorem dX12_needLength_5 : decode cX12_needLength 5 = .ok (.iload_n 2, 1) := by decide +kernel
theorem dX12_needLength_6 : decode cX12_needLength 6 = .ok (.if_icmp .gt 14, 3) := by decide +kernel
theorem dX12_needLength_9 : decode cX12_needLength 9 = .ok (.iload_n 1, 1) := by decide +kernel
theorem dX12_needLength_10 : decode cX12_needLength 10 = .ok (.aload_n 0, 1) := by decide +kernel
theorem dX12_needLength_11 : decode cX12_needLength 11 = .ok (.getfield 12, 3) := by decide +kernel
theorem dX12_needLength_14 : decode cX12_needLength 14 = .ok (.getfield 107, 3) := by decide +kernel
theorem dX12_needLength_17 : decode cX12_needLength 17 = .ok (.if_icmp .le 24, 3) := by decide +kernel
theorem dX12_needLength_20 : decode cX12_needLength 20 = .ok (.aload_n 0, 1) := by decide +kernel
theorem dX12_needLength_21 : decode cX12_needLength 21 = .ok (.dup, 1) := by decide +kernel
theorem dX12_needLength_22 : decode cX12_needLength 22 = .ok (.getfield 356, 3) := by decide +kernel
theorem dX12_needLength_25 : decode cX12_needLength 25 = .ok (.iconst 1, 1) := by decide +kernel
theorem dX12_needLength_26 : decode cX12_needLength 26 = .ok (.iadd, 1) := by decide +kernel
theorem dX12_needLength_27 : decode cX12_needLength 27 = .ok (.putfield 356, 3) := by decide +kernel
theorem dX12_needLength_30 : decode cX12_needLength 30 = .ok (.new 367, 3) := by decide +kernel
theorem dX12_needLength_33 : decode cX12_needLength 33 = .ok (.dup, 1) := by decide +kernel
theorem dX12_needLength_34 : decode cX12_needLength 34 = .ok (.ldc_w 369, 3) := by decide +kernel
theorem dX12_needLength_37 : decode cX12_needLength 37 = .ok (.invokespecial 371, 3) := by decide +kernel
theorem dX12_needLength_40 : decode cX12_needLength 40 = .ok (.athrow, 1) := by decide +kernel
theorem dX12_needLength_41 : decode cX12_needLength 41 = .ok (.return_, 1) := by decide +kernel
theorem dX12_needNet_0 : decode cX12_needNet 0 = .ok (.iload_n 1, 1) := by decide +kernel
theorem dX12_needNet_1 : decode cX12_needNet 1 = .ok (.ifCond .lt 14, 3) := by decide +kernel
theorem dX12_needNet_4 : decode cX12_needNet 4 = .ok (.iload_n 1, 1) := by decide +kernel
theorem dX12_needNet_5 : decode cX12_needNet 5 = .ok (.aload_n 0, 1) := by decide +kernel
theorem dX12_needNet_6 : decode cX12_needNet 6 = .ok (.getfield 19, 3) := by decide +kernel
theorem dX12_needNet_9 : decode cX12_needNet 9 = .ok (.getfield 136, 3) := by decide +kernel
theorem dX12_needNet_12 : decode cX12_needNet 12 = .ok (.if_icmp .lt 24, 3) := by decide +kernel
theorem dX12_needNet_15 : decode cX12_needNet 15 = .ok (.aload_n 0, 1) := by decide +kernel
theorem dX12_needNet_16 : decode cX12_needNet 16 = .ok (.dup, 1) := by decide +kernel
theorem dX12_needNet_17 : decode cX12_needNet 17 = .ok (.getfield 353, 3) := by decide +kernel
theorem dX12_needNet_20 : decode cX12_needNet 20 = .ok (.iconst 1, 1) := by decide +kernel
theorem dX12_needNet_21 : decode cX12_needNet 21 = .ok (.iadd, 1) := by decide +kernel
theorem dX12_needNet_22 : decode cX12_needNet 22 = .ok (.putfield 353, 3) := by decide +kernel
theorem dX12_needNet_25 : decode cX12_needNet 25 = .ok (.new 378, 3) := by decide +kernel
theorem dX12_needNet_28 : decode cX12_needNet 28 = .ok (.dup, 1) := by decide +kernel
theorem dX12_needNet_29 : decode cX12_needNet 29 = .ok (.ldc_w 380, 3) := by decide +kernel
theorem dX12_needNet_32 : decode cX12_needNet 32 = .ok (.invokespecial 382, 3) := by decide +kernel
theorem dX12_needNet_35 : decode cX12_needNet 35 = .ok (.athrow, 1) := by decide +kernel
theorem dX12_needNet_36 : decode cX12_needNet 36 = .ok (.return_, 1) := by decide +kernel
theorem dX12_needPlace_0 : decode cX12_needPlace 0 = .ok (.iload_n 1, 1) := by decide +kernel
theorem dX12_needPlace_1 : decode cX12_needPlace 1 = .ok (.ifCond .lt 29, 3) := by decide +kernel
theorem dX12_needPlace_4 : decode cX12_needPlace 4 = .ok (.iload_n 1, 1) := by decide +kernel
theorem dX12_needPlace_5 : decode cX12_needPlace 5 = .ok (.aload_n 0, 1) := by decide +kernel
theorem dX12_needPlace_6 : decode cX12_needPlace 6 = .ok (.getfield 19, 3) := by decide +kernel
theorem dX12_needPlace_9 : decode cX12_needPlace 9 = .ok (.getfield 179, 3) := by decide +kernel
theorem dX12_needPlace_12 : decode cX12_needPlace 12 = .ok (.if_icmp .ge 18, 3) := by decide +kernel
theorem dX12_needPlace_15 : decode cX12_needPlace 15 = .ok (.iload_n 2, 1) := by decide +kernel
theorem dX12_needPlace_16 : decode cX12_needPlace 16 = .ok (.ifCond .lt 14, 3) := by decide +kernel
theorem dX12_needPlace_19 : decode cX12_needPlace 19 = .ok (.iload_n 2, 1) := by decide +kernel
theorem dX12_needPlace_20 : decode cX12_needPlace 20 = .ok (.aload_n 0, 1) := by decide +kernel
theorem dX12_needPlace_21 : decode cX12_needPlace 21 = .ok (.getfield 19, 3) := by decide +kernel
theorem dX12_needPlace_24 : decode cX12_needPlace 24 = .ok (.getfield 182, 3) := by decide +kernel
theorem dX12_needPlace_27 : decode cX12_needPlace 27 = .ok (.if_icmp .lt 24, 3) := by decide +kernel
theorem dX12_needPlace_30 : decode cX12_needPlace 30 = .ok (.aload_n 0, 1) := by decide +kernel
theorem dX12_needPlace_31 : decode cX12_needPlace 31 = .ok (.dup, 1) := by decide +kernel
theorem dX12_needPlace_32 : decode cX12_needPlace 32 = .ok (.getfield 353, 3) := by decide +kernel
theorem dX12_needPlace_35 : decode cX12_needPlace 35 = .ok (.iconst 1, 1) := by decide +kernel
theorem dX12_needPlace_36 : decode cX12_needPlace 36 = .ok (.iadd, 1) := by decide +kernel
theorem dX12_needPlace_37 : decode cX12_needPlace 37 = .ok (.putfield 353, 3) := by decide +kernel
theorem dX12_needPlace_40 : decode cX12_needPlace 40 = .ok (.new 378, 3) := by decide +kernel
theorem dX12_needPlace_43 : decode cX12_needPlace 43 = .ok (.dup, 1) := by decide +kernel
theorem dX12_needPlace_44 : decode cX12_needPlace 44 = .ok (.ldc_w 385, 3) := by decide +kernel
theorem dX12_needPlace_47 : decode cX12_needPlace 47 = .ok (.invokespecial 382, 3) := by decide +kernel
theorem dX12_needPlace_50 : decode cX12_needPlace 50 = .ok (.athrow, 1) := by decide +kernel
theorem dX12_needPlace_51 : decode cX12_needPlace 51 = .ok (.return_, 1) := by decide +kernel
theorem dX12_needRange_0 : decode cX12_needRange 0 = .ok (.iload_n 1, 1) := by decide +kernel
theorem dX12_needRange_1 : decode cX12_needRange 1 = .ok (.iload_n 2, 1) := by decide +kernel
theorem dX12_needRange_2 : decode cX12_needRange 2 = .ok (.if_icmp .lt 8, 3) := by decide +kernel
theorem dX12_needRange_5 : decode cX12_needRange 5 = .ok (.iload_n 1, 1) := by decide +kernel
theorem dX12_needRange_6 : decode cX12_needRange 6 = .ok (.iload_n 3, 1) := by decide +kernel
theorem dX12_needRange_7 : decode cX12_needRange 7 = .ok (.if_icmp .le 24, 3) := by decide +kernel
theorem dX12_needRange_10 : decode cX12_needRange 10 = .ok (.aload_n 0, 1) := by decide +kernel
theorem dX12_needRange_11 : decode cX12_needRange 11 = .ok (.dup, 1) := by decide +kernel
theorem dX12_needRange_12 : decode cX12_needRange 12 = .ok (.getfield 356, 3) := by decide +kernel
theorem dX12_needRange_15 : decode cX12_needRange 15 = .ok (.iconst 1, 1) := by decide +kernel
theorem dX12_needRange_16 : decode cX12_needRange 16 = .ok (.iadd, 1) := by decide +kernel
theorem dX12_needRange_17 : decode cX12_needRange 17 = .ok (.putfield 356, 3) := by decide +kernel
theorem dX12_needRange_20 : decode cX12_needRange 20 = .ok (.new 367, 3) := by decide +kernel
theorem dX12_needRange_23 : decode cX12_needRange 23 = .ok (.dup, 1) := by decide +kernel
theorem dX12_needRange_24 : decode cX12_needRange 24 = .ok (.ldc_w 374, 3) := by decide +kernel
theorem dX12_needRange_27 : decode cX12_needRange 27 = .ok (.invokespecial 371, 3) := by decide +kernel
theorem dX12_needRange_30 : decode cX12_needRange 30 = .ok (.athrow, 1) := by decide +kernel
theorem dX12_needRange_31 : decode cX12_needRange 31 = .ok (.return_, 1) := by decide +kernel
theorem dX12_needRow_0 : decode cX12_needRow 0 = .ok (.iload_n 1, 1) := by decide +kernel
theorem dX12_needRow_1 : decode cX12_needRow 1 = .ok (.ifCond .lt 14, 3) := by decide +kernel
theorem dX12_needRow_4 : decode cX12_needRow 4 = .ok (.iload_n 1, 1) := by decide +kernel
theorem dX12_needRow_5 : decode cX12_needRow 5 = .ok (.aload_n 0, 1) := by decide +kernel
theorem dX12_needRow_6 : decode cX12_needRow 6 = .ok (.getfield 19, 3) := by decide +kernel
theorem dX12_needRow_9 : decode cX12_needRow 9 = .ok (.getfield 182, 3) := by decide +kernel
theorem dX12_needRow_12 : decode cX12_needRow 12 = .ok (.if_icmp .lt 24, 3) := by decide +kernel
theorem dX12_needRow_15 : decode cX12_needRow 15 = .ok (.aload_n 0, 1) := by decide +kernel
theorem dX12_needRow_16 : decode cX12_needRow 16 = .ok (.dup, 1) := by decide +kernel
theorem dX12_needRow_17 : decode cX12_needRow 17 = .ok (.getfield 353, 3) := by decide +kernel
theorem dX12_needRow_20 : decode cX12_needRow 20 = .ok (.iconst 1, 1) := by decide +kernel
theorem dX12_needRow_21 : decode cX12_needRow 21 = .ok (.iadd, 1) := by decide +kernel
theorem dX12_needRow_22 : decode cX12_needRow 22 = .ok (.putfield 353, 3) := by decide +kernel
theorem dX12_needRow_25 : decode cX12_needRow 25 = .ok (.new 378, 3) := by decide +kernel
theorem dX12_needRow_28 : decode cX12_needRow 28 = .ok (.dup, 1) := by decide +kernel
theorem dX12_needRow_29 : decode cX12_needRow 29 = .ok (.ldc_w 383, 3) := by decide +kernel
theorem dX12_needRow_32 : decode cX12_needRow 32 = .ok (.invokespecial 382, 3) := by decide +kernel
theorem dX12_needRow_35 : decode cX12_needRow 35 = .ok (.athrow, 1) := by decide +kernel
theorem dX12_needRow_36 : decode cX12_needRow 36 = .ok (.return_, 1) := by decide +kernel
theorem dX12_needWhat_0 : decode cX12_needWhat 0 = .ok (.iload_n 1, 1) := by decide +kernel
theorem dX12_needWhat_1 : decode cX12_needWhat 1 = .ok (.ifCond .lt 8, 3) := by decide +kernel
theorem dX12_needWhat_4 : decode cX12_needWhat 4 = .ok (.iload_n 1, 1) := by decide +kernel
theorem dX12_needWhat_5 : decode cX12_needWhat 5 = .ok (.iload_n 2, 1) := by decide +kernel
theorem dX12_needWhat_6 : decode cX12_needWhat 6 = .ok (.if_icmp .le 24, 3) := by decide +kernel
theorem dX12_needWhat_9 : decode cX12_needWhat 9 = .ok (.aload_n 0, 1) := by decide +kernel
theorem dX12_needWhat_10 : decode cX12_needWhat 10 = .ok (.dup, 1) := by decide +kernel
theorem dX12_needWhat_11 : decode cX12_needWhat 11 = .ok (.getfield 356, 3) := by decide +kernel
theorem dX12_needWhat_14 : decode cX12_needWhat 14 = .ok (.iconst 1, 1) := by decide +kernel
theorem dX12_needWhat_15 : decode cX12_needWhat 15 = .ok (.iadd, 1) := by decide +kernel
theorem dX12_needWhat_16 : decode cX12_needWhat 16 = .ok (.putfield 356, 3) := by decide +kernel
theorem dX12_needWhat_19 : decode cX12_needWhat 19 = .ok (.new 367, 3) := by decide +kernel
theorem dX12_needWhat_22 : decode cX12_needWhat 22 = .ok (.dup, 1) := by decide +kernel
theorem dX12_needWhat_23 : decode cX12_needWhat 23 = .ok (.ldc_w 376, 3) := by decide +kernel
theorem dX12_needWhat_26 : decode cX12_needWhat 26 = .ok (.invokespecial 371, 3) := by decide +kernel
theorem dX12_needWhat_29 : decode cX12_needWhat 29 = .ok (.athrow, 1) := by decide +kernel
theorem dX12_needWhat_30 : decode cX12_needWhat 30 = .ok (.return_, 1) := by decide +kernel
theorem dX12_net_0 : decode cX12_net 0 = .ok (.aload_n 0, 1) := by decide +kernel
theorem dX12_net_1 : decode cX12_net 1 = .ok (.iload_n 1, 1) := by decide +kernel
theorem dX12_net_2 : decode cX12_net 2 = .ok (.invokevirtual 211, 3) := by decide +kernel
theorem dX12_net_5 : decode cX12_net 5 = .ok (.aload_n 0, 1) := by decide +kernel
theorem dX12_net_6 : decode cX12_net 6 = .ok (.iload_n 2, 1) := by decide +kernel
theorem dX12_net_7 : decode cX12_net 7 = .ok (.bipush 10, 2) := by decide +kernel
theorem dX12_net_9 : decode cX12_net 9 = .ok (.invokevirtual 176, 3) := by decide +kernel
theorem dX12_net_12 : decode cX12_net 12 = .ok (.iload_n 2, 1) := by decide +kernel
theorem dX12_net_13 : decode cX12_net 13 = .ok (.tableswitch 182 0 9 #[55, 65, 75, 85, 94, 107, 120, 143, 156, 169], 55) := by decide +kernel
theorem dX12_net_68 : decode cX12_net 68 = .ok (.aload_n 0, 1) := by decide +kernel
theorem dX12_net_69 : decode cX12_net 69 = .ok (.getfield 97, 3) := by decide +kernel
theorem dX12_net_72 : decode cX12_net 72 = .ok (.getfield 214, 3) := by decide +kernel
theorem dX12_net_75 : decode cX12_net 75 = .ok (.iload_n 1, 1) := by decide +kernel
theorem dX12_net_76 : decode cX12_net 76 = .ok (.iaload, 1) := by decide +kernel
theorem dX12_net_77 : decode cX12_net 77 = .ok (.ireturn, 1) := by decide +kernel
theorem dX12_net_78 : decode cX12_net 78 = .ok (.aload_n 0, 1) := by decide +kernel
theorem dX12_net_79 : decode cX12_net 79 = .ok (.getfield 19, 3) := by decide +kernel
theorem dX12_net_82 : decode cX12_net 82 = .ok (.getfield 218, 3) := by decide +kernel
theorem dX12_net_85 : decode cX12_net 85 = .ok (.iload_n 1, 1) := by decide +kernel
theorem dX12_net_86 : decode cX12_net 86 = .ok (.iaload, 1) := by decide +kernel
theorem dX12_net_87 : decode cX12_net 87 = .ok (.ireturn, 1) := by decide +kernel
theorem dX12_net_88 : decode cX12_net 88 = .ok (.aload_n 0, 1) := by decide +kernel
theorem dX12_net_89 : decode cX12_net 89 = .ok (.getfield 19, 3) := by decide +kernel
theorem dX12_net_92 : decode cX12_net 92 = .ok (.getfield 221, 3) := by decide +kernel
theorem dX12_net_95 : decode cX12_net 95 = .ok (.iload_n 1, 1) := by decide +kernel
theorem dX12_net_96 : decode cX12_net 96 = .ok (.iaload, 1) := by decide +kernel
theorem dX12_net_97 : decode cX12_net 97 = .ok (.ireturn, 1) := by decide +kernel
theorem dX12_net_98 : decode cX12_net 98 = .ok (.aload_n 0, 1) := by decide +kernel
theorem dX12_net_99 : decode cX12_net 99 = .ok (.getfield 97, 3) := by decide +kernel
theorem dX12_net_102 : decode cX12_net 102 = .ok (.iload_n 1, 1) := by decide +kernel
theorem dX12_net_103 : decode cX12_net 103 = .ok (.invokevirtual 224, 3) := by decide +kernel
theorem dX12_net_106 : decode cX12_net 106 = .ok (.ireturn, 1) := by decide +kernel
theorem dX12_net_107 : decode cX12_net 107 = .ok (.aload_n 0, 1) := by decide +kernel
theorem dX12_net_108 : decode cX12_net 108 = .ok (.getfield 58, 3) := by decide +kernel
theorem dX12_net_111 : decode cX12_net 111 = .ok (.aload_n 0, 1) := by decide +kernel
theorem dX12_net_112 : decode cX12_net 112 = .ok (.getfield 97, 3) := by decide +kernel
theorem dX12_net_115 : decode cX12_net 115 = .ok (.iload_n 1, 1) := by decide +kernel
theorem dX12_net_116 : decode cX12_net 116 = .ok (.invokevirtual 228, 3) := by decide +kernel
theorem dX12_net_119 : decode cX12_net 119 = .ok (.ireturn, 1) := by decide +kernel
theorem dX12_net_120 : decode cX12_net 120 = .ok (.aload_n 0, 1) := by decide +kernel
theorem dX12_net_121 : decode cX12_net 121 = .ok (.getfield 58, 3) := by decide +kernel
theorem dX12_net_124 : decode cX12_net 124 = .ok (.aload_n 0, 1) := by decide +kernel
theorem dX12_net_125 : decode cX12_net 125 = .ok (.getfield 97, 3) := by decide +kernel
theorem dX12_net_128 : decode cX12_net 128 = .ok (.iload_n 1, 1) := by decide +kernel
theorem dX12_net_129 : decode cX12_net 129 = .ok (.invokevirtual 232, 3) := by decide +kernel
theorem dX12_net_132 : decode cX12_net 132 = .ok (.ireturn, 1) := by decide +kernel
theorem dX12_net_133 : decode cX12_net 133 = .ok (.aload_n 0, 1) := by decide +kernel
theorem dX12_net_134 : decode cX12_net 134 = .ok (.getfield 19, 3) := by decide +kernel
theorem dX12_net_137 : decode cX12_net 137 = .ok (.getfield 218, 3) := by decide +kernel
theorem dX12_net_140 : decode cX12_net 140 = .ok (.iload_n 1, 1) := by decide +kernel
theorem dX12_net_141 : decode cX12_net 141 = .ok (.iaload, 1) := by decide +kernel
theorem dX12_net_142 : decode cX12_net 142 = .ok (.aload_n 0, 1) := by decide +kernel
theorem dX12_net_143 : decode cX12_net 143 = .ok (.getfield 58, 3) := by decide +kernel
theorem dX12_net_146 : decode cX12_net 146 = .ok (.aload_n 0, 1) := by decide +kernel
theorem dX12_net_147 : decode cX12_net 147 = .ok (.getfield 97, 3) := by decide +kernel
theorem dX12_net_150 : decode cX12_net 150 = .ok (.iload_n 1, 1) := by decide +kernel
theorem dX12_net_151 : decode cX12_net 151 = .ok (.invokevirtual 232, 3) := by decide +kernel
theorem dX12_net_154 : decode cX12_net 154 = .ok (.isub, 1) := by decide +kernel
theorem dX12_net_155 : decode cX12_net 155 = .ok (.ireturn, 1) := by decide +kernel
theorem dX12_net_156 : decode cX12_net 156 = .ok (.aload_n 0, 1) := by decide +kernel
theorem dX12_net_157 : decode cX12_net 157 = .ok (.getfield 58, 3) := by decide +kernel
theorem dX12_net_160 : decode cX12_net 160 = .ok (.aload_n 0, 1) := by decide +kernel
theorem dX12_net_161 : decode cX12_net 161 = .ok (.getfield 97, 3) := by decide +kernel
theorem dX12_net_164 : decode cX12_net 164 = .ok (.iload_n 1, 1) := by decide +kernel
theorem dX12_net_165 : decode cX12_net 165 = .ok (.invokevirtual 235, 3) := by decide +kernel
theorem dX12_net_168 : decode cX12_net 168 = .ok (.ireturn, 1) := by decide +kernel
theorem dX12_net_169 : decode cX12_net 169 = .ok (.aload_n 0, 1) := by decide +kernel
theorem dX12_net_170 : decode cX12_net 170 = .ok (.getfield 58, 3) := by decide +kernel
theorem dX12_net_173 : decode cX12_net 173 = .ok (.aload_n 0, 1) := by decide +kernel
theorem dX12_net_174 : decode cX12_net 174 = .ok (.getfield 97, 3) := by decide +kernel
theorem dX12_net_177 : decode cX12_net 177 = .ok (.iload_n 1, 1) := by decide +kernel
theorem dX12_net_178 : decode cX12_net 178 = .ok (.invokevirtual 238, 3) := by decide +kernel
theorem dX12_net_181 : decode cX12_net 181 = .ok (.ireturn, 1) := by decide +kernel
theorem dX12_net_182 : decode cX12_net 182 = .ok (.aload_n 0, 1) := by decide +kernel
theorem dX12_net_183 : decode cX12_net 183 = .ok (.getfield 58, 3) := by decide +kernel
theorem dX12_net_186 : decode cX12_net 186 = .ok (.aload_n 0, 1) := by decide +kernel
theorem dX12_net_187 : decode cX12_net 187 = .ok (.getfield 97, 3) := by decide +kernel
theorem dX12_net_190 : decode cX12_net 190 = .ok (.iload_n 1, 1) := by decide +kernel
theorem dX12_net_191 : decode cX12_net 191 = .ok (.invokevirtual 241, 3) := by decide +kernel
theorem dX12_net_194 : decode cX12_net 194 = .ok (.ireturn, 1) := by decide +kernel
theorem dX12_net_195 : decode cX12_net 195 = .ok (.aload_n 0, 1) := by decide +kernel
theorem dX12_net_196 : decode cX12_net 196 = .ok (.getfield 58, 3) := by decide +kernel
theorem dX12_net_199 : decode cX12_net 199 = .ok (.aload_n 0, 1) := by decide +kernel
theorem dX12_net_200 : decode cX12_net 200 = .ok (.getfield 97, 3) := by decide +kernel
theorem dX12_net_203 : decode cX12_net 203 = .ok (.iload_n 1, 1) := by decide +kernel
theorem dX12_net_204 : decode cX12_net 204 = .ok (.invokevirtual 244, 3) := by decide +kernel
theorem dX12_net_207 : decode cX12_net 207 = .ok (.ifCond .eq 7, 3) := by decide +kernel
theorem dX12_net_210 : decode cX12_net 210 = .ok (.iconst 1, 1) := by decide +kernel
theorem dX12_net_211 : decode cX12_net 211 = .ok (.goto 4, 3) := by decide +kernel
theorem dX12_net_214 : decode cX12_net 214 = .ok (.iconst 0, 1) := by decide +kernel
theorem dX12_net_215 : decode cX12_net 215 = .ok (.ireturn, 1) := by decide +kernel
theorem dX12_parent_0 : decode cX12_parent 0 = .ok (.aload_n 0, 1) := by decide +kernel
theorem dX12_parent_1 : decode cX12_parent 1 = .ok (.iload_n 1, 1) := by decide +kernel
theorem dX12_parent_2 : decode cX12_parent 2 = .ok (.invokevirtual 211, 3) := by decide +kernel
theorem dX12_parent_5 : decode cX12_parent 5 = .ok (.aload_n 0, 1) := by decide +kernel
theorem dX12_parent_6 : decode cX12_parent 6 = .ok (.iload_n 2, 1) := by decide +kernel
theorem dX12_parent_7 : decode cX12_parent 7 = .ok (.iload_n 3, 1) := by decide +kernel
theorem dX12_parent_8 : decode cX12_parent 8 = .ok (.invokevirtual 248, 3) := by decide +kernel
theorem dX12_parent_11 : decode cX12_parent 11 = .ok (.aload_n 0, 1) := by decide +kernel
theorem dX12_parent_12 : decode cX12_parent 12 = .ok (.getfield 97, 3) := by decide +kernel
theorem dX12_parent_15 : decode cX12_parent 15 = .ok (.getfield 287, 3) := by decide +kernel
theorem dX12_parent_18 : decode cX12_parent 18 = .ok (.iload_n 1, 1) := by decide +kernel
theorem dX12_parent_19 : decode cX12_parent 19 = .ok (.bipush 64, 2) := by decide +kernel
theorem dX12_parent_21 : decode cX12_parent 21 = .ok (.imul, 1) := by decide +kernel
theorem dX12_parent_22 : decode cX12_parent 22 = .ok (.iload_n 3, 1) := by decide +kernel
theorem dX12_parent_23 : decode cX12_parent 23 = .ok (.bipush 8, 2) := by decide +kernel
theorem dX12_parent_25 : decode cX12_parent 25 = .ok (.imul, 1) := by decide +kernel
theorem dX12_parent_26 : decode cX12_parent 26 = .ok (.iadd, 1) := by decide +kernel
theorem dX12_parent_27 : decode cX12_parent 27 = .ok (.iload_n 2, 1) := by decide +kernel
theorem dX12_parent_28 : decode cX12_parent 28 = .ok (.iadd, 1) := by decide +kernel
theorem dX12_parent_29 : decode cX12_parent 29 = .ok (.iaload, 1) := by decide +kernel
theorem dX12_parent_30 : decode cX12_parent 30 = .ok (.ireturn, 1) := by decide +kernel
theorem dX12_place_0 : decode cX12_place 0 = .ok (.aload_n 0, 1) := by decide +kernel
theorem dX12_place_1 : decode cX12_place 1 = .ok (.iload_n 1, 1) := by decide +kernel
theorem dX12_place_2 : decode cX12_place 2 = .ok (.iload_n 2, 1) := by decide +kernel
theorem dX12_place_3 : decode cX12_place 3 = .ok (.invokevirtual 248, 3) := by decide +kernel
theorem dX12_place_6 : decode cX12_place 6 = .ok (.aload_n 0, 1) := by decide +kernel
theorem dX12_place_7 : decode cX12_place 7 = .ok (.iload_n 3, 1) := by decide +kernel
theorem dX12_place_8 : decode cX12_place 8 = .ok (.bipush 6, 2) := by decide +kernel
theorem dX12_place_10 : decode cX12_place 10 = .ok (.invokevirtual 176, 3) := by decide +kernel
theorem dX12_place_13 : decode cX12_place 13 = .ok (.iload_n 2, 1) := by decide +kernel
theorem dX12_place_14 : decode cX12_place 14 = .ok (.bipush 8, 2) := by decide +kernel
theorem dX12_place_16 : decode cX12_place 16 = .ok (.imul, 1) := by decide +kernel
theorem dX12_place_17 : decode cX12_place 17 = .ok (.iload_n 1, 1) := by decide +kernel
theorem dX12_place_18 : decode cX12_place 18 = .ok (.iadd, 1) := by decide +kernel
theorem dX12_place_19 : decode cX12_place 19 = .ok (.istore 4, 2) := by decide +kernel
theorem dX12_place_21 : decode cX12_place 21 = .ok (.iload_n 3, 1) := by decide +kernel
theorem dX12_place_22 : decode cX12_place 22 = .ok (.tableswitch 107 0 5 #[38, 49, 60, 71, 82, 96], 38) := by decide +kernel
theorem dX12_place_60 : decode cX12_place 60 = .ok (.aload_n 0, 1) := by decide +kernel
theorem dX12_place_61 : decode cX12_place 61 = .ok (.getfield 19, 3) := by decide +kernel
theorem dX12_place_64 : decode cX12_place 64 = .ok (.getfield 251, 3) := by decide +kernel
theorem dX12_place_67 : decode cX12_place 67 = .ok (.iload 4, 2) := by decide +kernel
theorem dX12_place_69 : decode cX12_place 69 = .ok (.iaload, 1) := by decide +kernel
theorem dX12_place_70 : decode cX12_place 70 = .ok (.ireturn, 1) := by decide +kernel
theorem dX12_place_71 : decode cX12_place 71 = .ok (.aload_n 0, 1) := by decide +kernel
theorem dX12_place_72 : decode cX12_place 72 = .ok (.getfield 97, 3) := by decide +kernel
theorem dX12_place_75 : decode cX12_place 75 = .ok (.getfield 254, 3) := by decide +kernel
theorem dX12_place_78 : decode cX12_place 78 = .ok (.iload 4, 2) := by decide +kernel
theorem dX12_place_80 : decode cX12_place 80 = .ok (.iaload, 1) := by decide +kernel
theorem dX12_place_81 : decode cX12_place 81 = .ok (.ireturn, 1) := by decide +kernel
theorem dX12_place_82 : decode cX12_place 82 = .ok (.aload_n 0, 1) := by decide +kernel
theorem dX12_place_83 : decode cX12_place 83 = .ok (.getfield 97, 3) := by decide +kernel
theorem dX12_place_86 : decode cX12_place 86 = .ok (.getfield 257, 3) := by decide +kernel
theorem dX12_place_89 : decode cX12_place 89 = .ok (.iload 4, 2) := by decide +kernel
theorem dX12_place_91 : decode cX12_place 91 = .ok (.iaload, 1) := by decide +kernel
theorem dX12_place_92 : decode cX12_place 92 = .ok (.ireturn, 1) := by decide +kernel
theorem dX12_place_93 : decode cX12_place 93 = .ok (.aload_n 0, 1) := by decide +kernel
theorem dX12_place_94 : decode cX12_place 94 = .ok (.getfield 97, 3) := by decide +kernel
theorem dX12_place_97 : decode cX12_place 97 = .ok (.getfield 260, 3) := by decide +kernel
theorem dX12_place_100 : decode cX12_place 100 = .ok (.iload 4, 2) := by decide +kernel
theorem dX12_place_102 : decode cX12_place 102 = .ok (.iaload, 1) := by decide +kernel
theorem dX12_place_103 : decode cX12_place 103 = .ok (.ireturn, 1) := by decide +kernel
theorem dX12_place_104 : decode cX12_place 104 = .ok (.aload_n 0, 1) := by decide +kernel
theorem dX12_place_105 : decode cX12_place 105 = .ok (.getfield 58, 3) := by decide +kernel
theorem dX12_place_108 : decode cX12_place 108 = .ok (.aload_n 0, 1) := by decide +kernel
theorem dX12_place_109 : decode cX12_place 109 = .ok (.getfield 97, 3) := by decide +kernel
theorem dX12_place_112 : decode cX12_place 112 = .ok (.iload 4, 2) := by decide +kernel
theorem dX12_place_114 : decode cX12_place 114 = .ok (.invokevirtual 263, 3) := by decide +kernel
theorem dX12_place_117 : decode cX12_place 117 = .ok (.ireturn, 1) := by decide +kernel
theorem dX12_place_118 : decode cX12_place 118 = .ok (.aload_n 0, 1) := by decide +kernel
theorem dX12_place_119 : decode cX12_place 119 = .ok (.getfield 19, 3) := by decide +kernel
theorem dX12_place_122 : decode cX12_place 122 = .ok (.getfield 266, 3) := by decide +kernel
theorem dX12_place_125 : decode cX12_place 125 = .ok (.iload 4, 2) := by decide +kernel
theorem dX12_place_127 : decode cX12_place 127 = .ok (.iaload, 1) := by decide +kernel
theorem dX12_place_128 : decode cX12_place 128 = .ok (.ireturn, 1) := by decide +kernel
theorem dX12_place_129 : decode cX12_place 129 = .ok (.aload_n 0, 1) := by decide +kernel
theorem dX12_place_130 : decode cX12_place 130 = .ok (.getfield 58, 3) := by decide +kernel
theorem dX12_place_133 : decode cX12_place 133 = .ok (.aload_n 0, 1) := by decide +kernel
theorem dX12_place_134 : decode cX12_place 134 = .ok (.getfield 97, 3) := by decide +kernel
theorem dX12_place_137 : decode cX12_place 137 = .ok (.iload 4, 2) := by decide +kernel
theorem dX12_place_139 : decode cX12_place 139 = .ok (.invokevirtual 269, 3) := by decide +kernel
theorem dX12_place_142 : decode cX12_place 142 = .ok (.ireturn, 1) := by decide +kernel
theorem dX12_restore_0 : decode cX12_restore 0 = .ok (.aload_n 0, 1) := by decide +kernel
theorem dX12_restore_1 : decode cX12_restore 1 = .ok (.getfield 90, 3) := by decide +kernel
theorem dX12_restore_4 : decode cX12_restore 4 = .ok (.getfield 344, 3) := by decide +kernel
theorem dX12_restore_7 : decode cX12_restore 7 = .ok (.ifCond .ne 5, 3) := by decide +kernel
theorem dX12_restore_10 : decode cX12_restore 10 = .ok (.iconst (-1), 1) := by decide +kernel
theorem dX12_restore_11 : decode cX12_restore 11 = .ok (.ireturn, 1) := by decide +kernel
theorem dX12_restore_12 : decode cX12_restore 12 = .ok (.aload_n 0, 1) := by decide +kernel
theorem dX12_restore_13 : decode cX12_restore 13 = .ok (.getfield 90, 3) := by decide +kernel
theorem dX12_restore_16 : decode cX12_restore 16 = .ok (.aload_n 0, 1) := by decide +kernel
theorem dX12_restore_17 : decode cX12_restore 17 = .ok (.getfield 97, 3) := by decide +kernel
theorem dX12_restore_20 : decode cX12_restore 20 = .ok (.invokevirtual 350, 3) := by decide +kernel
theorem dX12_restore_23 : decode cX12_restore 23 = .ok (.aload_n 0, 1) := by decide +kernel
theorem dX12_restore_24 : decode cX12_restore 24 = .ok (.iconst 0, 1) := by decide +kernel
theorem dX12_restore_25 : decode cX12_restore 25 = .ok (.putfield 160, 3) := by decide +kernel
theorem dX12_restore_28 : decode cX12_restore 28 = .ok (.aload_n 0, 1) := by decide +kernel
theorem dX12_restore_29 : decode cX12_restore 29 = .ok (.getfield 90, 3) := by decide +kernel
theorem dX12_restore_32 : decode cX12_restore 32 = .ok (.getfield 344, 3) := by decide +kernel
theorem dX12_restore_35 : decode cX12_restore 35 = .ok (.ireturn, 1) := by decide +kernel
theorem dX12_season_0 : decode cX12_season 0 = .ok (.aload_n 0, 1) := by decide +kernel
theorem dX12_season_1 : decode cX12_season 1 = .ok (.iload_n 2, 1) := by decide +kernel
theorem dX12_season_2 : decode cX12_season 2 = .ok (.iconst 1, 1) := by decide +kernel
theorem dX12_season_3 : decode cX12_season 3 = .ok (.bipush 40, 2) := by decide +kernel
theorem dX12_season_5 : decode cX12_season 5 = .ok (.invokevirtual 276, 3) := by decide +kernel
theorem dX12_season_8 : decode cX12_season 8 = .ok (.aload_n 0, 1) := by decide +kernel
theorem dX12_season_9 : decode cX12_season 9 = .ok (.iload_n 3, 1) := by decide +kernel
theorem dX12_season_10 : decode cX12_season 10 = .ok (.iconst 0, 1) := by decide +kernel
theorem dX12_season_11 : decode cX12_season 11 = .ok (.bipush 16, 2) := by decide +kernel
theorem dX12_season_13 : decode cX12_season 13 = .ok (.invokevirtual 276, 3) := by decide +kernel
theorem dX12_season_16 : decode cX12_season 16 = .ok (.aload_n 0, 1) := by decide +kernel
theorem dX12_season_17 : decode cX12_season 17 = .ok (.iload 4, 2) := by decide +kernel
theorem dX12_season_19 : decode cX12_season 19 = .ok (.iconst 3, 1) := by decide +kernel
theorem dX12_season_20 : decode cX12_season 20 = .ok (.invokevirtual 176, 3) := by decide +kernel
theorem dX12_season_23 : decode cX12_season 23 = .ok (.aload_n 0, 1) := by decide +kernel
theorem dX12_season_24 : decode cX12_season 24 = .ok (.iload_n 1, 1) := by decide +kernel
theorem dX12_season_25 : decode cX12_season 25 = .ok (.iload_n 2, 1) := by decide +kernel
theorem dX12_season_26 : decode cX12_season 26 = .ok (.iload_n 3, 1) := by decide +kernel
theorem dX12_season_27 : decode cX12_season 27 = .ok (.invokevirtual 341, 3) := by decide +kernel
theorem dX12_season_30 : decode cX12_season 30 = .ok (.iload 4, 2) := by decide +kernel
theorem dX12_season_32 : decode cX12_season 32 = .ok (.tableswitch 60 0 2 #[28, 40, 52], 28) := by decide +kernel
theorem dX12_season_60 : decode cX12_season 60 = .ok (.aload_n 0, 1) := by decide +kernel
theorem dX12_season_61 : decode cX12_season 61 = .ok (.getfield 58, 3) := by decide +kernel
theorem dX12_season_64 : decode cX12_season 64 = .ok (.aload_n 0, 1) := by decide +kernel
theorem dX12_season_65 : decode cX12_season 65 = .ok (.getfield 101, 3) := by decide +kernel
theorem dX12_season_68 : decode cX12_season 68 = .ok (.invokevirtual 192, 3) := by decide +kernel
theorem dX12_season_71 : decode cX12_season 71 = .ok (.ireturn, 1) := by decide +kernel
theorem dX12_season_72 : decode cX12_season 72 = .ok (.aload_n 0, 1) := by decide +kernel
theorem dX12_season_73 : decode cX12_season 73 = .ok (.getfield 58, 3) := by decide +kernel
theorem dX12_season_76 : decode cX12_season 76 = .ok (.aload_n 0, 1) := by decide +kernel
theorem dX12_season_77 : decode cX12_season 77 = .ok (.getfield 101, 3) := by decide +kernel
theorem dX12_season_80 : decode cX12_season 80 = .ok (.invokevirtual 188, 3) := by decide +kernel
theorem dX12_season_83 : decode cX12_season 83 = .ok (.ireturn, 1) := by decide +kernel
theorem dX12_season_84 : decode cX12_season 84 = .ok (.aload_n 0, 1) := by decide +kernel
theorem dX12_season_85 : decode cX12_season 85 = .ok (.getfield 101, 3) := by decide +kernel
theorem dX12_season_88 : decode cX12_season 88 = .ok (.getfield 185, 3) := by decide +kernel
theorem dX12_season_91 : decode cX12_season 91 = .ok (.ireturn, 1) := by decide +kernel
theorem dX12_season_92 : decode cX12_season 92 = .ok (.aload_n 0, 1) := by decide +kernel
theorem dX12_season_93 : decode cX12_season 93 = .ok (.getfield 58, 3) := by decide +kernel
theorem dX12_season_96 : decode cX12_season 96 = .ok (.aload_n 0, 1) := by decide +kernel
theorem dX12_season_97 : decode cX12_season 97 = .ok (.getfield 101, 3) := by decide +kernel
theorem dX12_season_100 : decode cX12_season 100 = .ok (.invokevirtual 202, 3) := by decide +kernel
theorem dX12_season_103 : decode cX12_season 103 = .ok (.ireturn, 1) := by decide +kernel
theorem dX12_settled_0 : decode cX12_settled 0 = .ok (.aload_n 0, 1) := by decide +kernel
theorem dX12_settled_1 : decode cX12_settled 1 = .ok (.getfield 101, 3) := by decide +kernel
theorem dX12_settled_4 : decode cX12_settled 4 = .ok (.aload_n 0, 1) := by decide +kernel
theorem dX12_settled_5 : decode cX12_settled 5 = .ok (.getfield 97, 3) := by decide +kernel
theorem dX12_settled_8 : decode cX12_settled 8 = .ok (.invokevirtual 296, 3) := by decide +kernel
theorem dX12_settled_11 : decode cX12_settled 11 = .ok (.iconst 0, 1) := by decide +kernel
theorem dX12_settled_12 : decode cX12_settled 12 = .ok (.istore_n 1, 1) := by decide +kernel
theorem dX12_settled_13 : decode cX12_settled 13 = .ok (.iload_n 1, 1) := by decide +kernel
theorem dX12_settled_14 : decode cX12_settled 14 = .ok (.bipush 40, 2) := by decide +kernel
theorem dX12_settled_16 : decode cX12_settled 16 = .ok (.if_icmp .gt 36, 3) := by decide +kernel
theorem dX12_settled_19 : decode cX12_settled 19 = .ok (.aload_n 0, 1) := by decide +kernel
theorem dX12_settled_20 : decode cX12_settled 20 = .ok (.getfield 58, 3) := by decide +kernel
theorem dX12_settled_23 : decode cX12_settled 23 = .ok (.aload_n 0, 1) := by decide +kernel
theorem dX12_settled_24 : decode cX12_settled 24 = .ok (.getfield 101, 3) := by decide +kernel
theorem dX12_settled_27 : decode cX12_settled 27 = .ok (.invokevirtual 195, 3) := by decide +kernel
theorem dX12_settled_30 : decode cX12_settled 30 = .ok (.ifCond .eq 5, 3) := by decide +kernel
theorem dX12_settled_33 : decode cX12_settled 33 = .ok (.iload_n 1, 1) := by decide +kernel
theorem dX12_settled_34 : decode cX12_settled 34 = .ok (.ireturn, 1) := by decide +kernel
theorem dX12_settled_35 : decode cX12_settled 35 = .ok (.aload_n 0, 1) := by decide +kernel
theorem dX12_settled_36 : decode cX12_settled 36 = .ok (.getfield 67, 3) := by decide +kernel
theorem dX12_settled_39 : decode cX12_settled 39 = .ok (.aload_n 0, 1) := by decide +kernel
theorem dX12_settled_40 : decode cX12_settled 40 = .ok (.getfield 101, 3) := by decide +kernel
theorem dX12_settled_43 : decode cX12_settled 43 = .ok (.invokevirtual 298, 3) := by decide +kernel
theorem dX12_settled_46 : decode cX12_settled 46 = .ok (.iinc 1 1, 3) := by decide +kernel
theorem dX12_settled_49 : decode cX12_settled 49 = .ok (.goto (-36), 3) := by decide +kernel
theorem dX12_settled_52 : decode cX12_settled 52 = .ok (.iconst (-1), 1) := by decide +kernel
theorem dX12_settled_53 : decode cX12_settled 53 = .ok (.ireturn, 1) := by decide +kernel
theorem dX12_shed_0 : decode cX12_shed 0 = .ok (.aload_n 0, 1) := by decide +kernel
theorem dX12_shed_1 : decode cX12_shed 1 = .ok (.iload_n 1, 1) := by decide +kernel
theorem dX12_shed_2 : decode cX12_shed 2 = .ok (.invokevirtual 211, 3) := by decide +kernel
theorem dX12_shed_5 : decode cX12_shed 5 = .ok (.aload_n 0, 1) := by decide +kernel
theorem dX12_shed_6 : decode cX12_shed 6 = .ok (.getfield 19, 3) := by decide +kernel
theorem dX12_shed_9 : decode cX12_shed 9 = .ok (.getfield 221, 3) := by decide +kernel
theorem dX12_shed_12 : decode cX12_shed 12 = .ok (.iload_n 1, 1) := by decide +kernel
theorem dX12_shed_13 : decode cX12_shed 13 = .ok (.iaload, 1) := by decide +kernel
theorem dX12_shed_14 : decode cX12_shed 14 = .ok (.ifCond .ne 7, 3) := by decide +kernel
theorem dX12_shed_17 : decode cX12_shed 17 = .ok (.iconst 0, 1) := by decide +kernel
theorem dX12_shed_18 : decode cX12_shed 18 = .ok (.goto 15, 3) := by decide +kernel
theorem dX12_shed_21 : decode cX12_shed 21 = .ok (.aload_n 0, 1) := by decide +kernel
theorem dX12_shed_22 : decode cX12_shed 22 = .ok (.getfield 67, 3) := by decide +kernel
theorem dX12_shed_25 : decode cX12_shed 25 = .ok (.aload_n 0, 1) := by decide +kernel
theorem dX12_shed_26 : decode cX12_shed 26 = .ok (.getfield 97, 3) := by decide +kernel
theorem dX12_shed_29 : decode cX12_shed 29 = .ok (.iload_n 1, 1) := by decide +kernel
theorem dX12_shed_30 : decode cX12_shed 30 = .ok (.invokevirtual 317, 3) := by decide +kernel
theorem dX12_shed_33 : decode cX12_shed 33 = .ok (.ireturn, 1) := by decide +kernel
theorem dX12_span_0 : decode cX12_span 0 = .ok (.aload_n 0, 1) := by decide +kernel
theorem dX12_span_1 : decode cX12_span 1 = .ok (.iload 6, 2) := by decide +kernel
theorem dX12_span_3 : decode cX12_span 3 = .ok (.invokevirtual 211, 3) := by decide +kernel
theorem dX12_span_6 : decode cX12_span 6 = .ok (.aload_n 0, 1) := by decide +kernel
theorem dX12_span_7 : decode cX12_span 7 = .ok (.iload_n 2, 1) := by decide +kernel
theorem dX12_span_8 : decode cX12_span 8 = .ok (.iconst 1, 1) := by decide +kernel
theorem dX12_span_9 : decode cX12_span 9 = .ok (.iconst 5, 1) := by decide +kernel
theorem dX12_span_10 : decode cX12_span 10 = .ok (.invokevirtual 276, 3) := by decide +kernel
theorem dX12_span_13 : decode cX12_span 13 = .ok (.aload_n 0, 1) := by decide +kernel
theorem dX12_span_14 : decode cX12_span 14 = .ok (.iload_n 3, 1) := by decide +kernel
theorem dX12_span_15 : decode cX12_span 15 = .ok (.iconst 1, 1) := by decide +kernel
theorem dX12_span_16 : decode cX12_span 16 = .ok (.bipush 40, 2) := by decide +kernel
theorem dX12_span_18 : decode cX12_span 18 = .ok (.invokevirtual 276, 3) := by decide +kernel
theorem dX12_span_21 : decode cX12_span 21 = .ok (.aload_n 0, 1) := by decide +kernel
theorem dX12_span_22 : decode cX12_span 22 = .ok (.iload 4, 2) := by decide +kernel
theorem dX12_span_24 : decode cX12_span 24 = .ok (.iconst 0, 1) := by decide +kernel
theorem dX12_span_25 : decode cX12_span 25 = .ok (.bipush 16, 2) := by decide +kernel
theorem dX12_span_27 : decode cX12_span 27 = .ok (.invokevirtual 276, 3) := by decide +kernel
theorem dX12_span_30 : decode cX12_span 30 = .ok (.aload_n 0, 1) := by decide +kernel
theorem dX12_span_31 : decode cX12_span 31 = .ok (.iload 5, 2) := by decide +kernel
theorem dX12_span_33 : decode cX12_span 33 = .ok (.iconst 2, 1) := by decide +kernel
theorem dX12_span_34 : decode cX12_span 34 = .ok (.invokevirtual 176, 3) := by decide +kernel
theorem dX12_span_37 : decode cX12_span 37 = .ok (.bipush 64, 2) := by decide +kernel
theorem dX12_span_39 : decode cX12_span 39 = .ok (.istore 7, 2) := by decide +kernel
theorem dX12_span_41 : decode cX12_span 41 = .ok (.iconst 0, 1) := by decide +kernel
theorem dX12_span_42 : decode cX12_span 42 = .ok (.istore 8, 2) := by decide +kernel
theorem dX12_span_44 : decode cX12_span 44 = .ok (.iconst 0, 1) := by decide +kernel
theorem dX12_span_45 : decode cX12_span 45 = .ok (.istore 9, 2) := by decide +kernel
theorem dX12_span_47 : decode cX12_span 47 = .ok (.iconst 0, 1) := by decide +kernel
theorem dX12_span_48 : decode cX12_span 48 = .ok (.istore 10, 2) := by decide +kernel
theorem dX12_span_50 : decode cX12_span 50 = .ok (.iload 10, 2) := by decide +kernel
theorem dX12_span_52 : decode cX12_span 52 = .ok (.iload_n 2, 1) := by decide +kernel
theorem dX12_span_53 : decode cX12_span 53 = .ok (.if_icmp .ge 91, 3) := by decide +kernel
theorem dX12_span_56 : decode cX12_span 56 = .ok (.aload_n 0, 1) := by decide +kernel
theorem dX12_span_57 : decode cX12_span 57 = .ok (.iload_n 1, 1) := by decide +kernel
theorem dX12_span_58 : decode cX12_span 58 = .ok (.iload 10, 2) := by decide +kernel
theorem dX12_span_60 : decode cX12_span 60 = .ok (.iadd, 1) := by decide +kernel
theorem dX12_span_61 : decode cX12_span 61 = .ok (.iload_n 3, 1) := by decide +kernel
theorem dX12_span_62 : decode cX12_span 62 = .ok (.iload 4, 2) := by decide +kernel
theorem dX12_span_64 : decode cX12_span 64 = .ok (.invokevirtual 341, 3) := by decide +kernel
theorem dX12_span_67 : decode cX12_span 67 = .ok (.aload_n 0, 1) := by decide +kernel
theorem dX12_span_68 : decode cX12_span 68 = .ok (.getfield 58, 3) := by decide +kernel
theorem dX12_span_71 : decode cX12_span 71 = .ok (.aload_n 0, 1) := by decide +kernel
theorem dX12_span_72 : decode cX12_span 72 = .ok (.getfield 101, 3) := by decide +kernel
theorem dX12_span_75 : decode cX12_span 75 = .ok (.invokevirtual 192, 3) := by decide +kernel
theorem dX12_span_78 : decode cX12_span 78 = .ok (.istore 11, 2) := by decide +kernel
theorem dX12_span_80 : decode cX12_span 80 = .ok (.iload 11, 2) := by decide +kernel
theorem dX12_span_82 : decode cX12_span 82 = .ok (.iload 7, 2) := by decide +kernel
theorem dX12_span_84 : decode cX12_span 84 = .ok (.if_icmp .ge 8, 3) := by decide +kernel
theorem dX12_span_87 : decode cX12_span 87 = .ok (.iload 11, 2) := by decide +kernel
theorem dX12_span_89 : decode cX12_span 89 = .ok (.goto 5, 3) := by decide +kernel
theorem dX12_span_92 : decode cX12_span 92 = .ok (.iload 7, 2) := by decide +kernel
theorem dX12_span_94 : decode cX12_span 94 = .ok (.istore 7, 2) := by decide +kernel
theorem dX12_span_96 : decode cX12_span 96 = .ok (.iload 11, 2) := by decide +kernel
theorem dX12_span_98 : decode cX12_span 98 = .ok (.iload 8, 2) := by decide +kernel
theorem dX12_span_100 : decode cX12_span 100 = .ok (.if_icmp .le 8, 3) := by decide +kernel
theorem dX12_span_103 : decode cX12_span 103 = .ok (.iload 11, 2) := by decide +kernel
theorem dX12_span_105 : decode cX12_span 105 = .ok (.goto 5, 3) := by decide +kernel
theorem dX12_span_108 : decode cX12_span 108 = .ok (.iload 8, 2) := by decide +kernel
theorem dX12_span_110 : decode cX12_span 110 = .ok (.istore 8, 2) := by decide +kernel
theorem dX12_span_112 : decode cX12_span 112 = .ok (.iload 9, 2) := by decide +kernel
theorem dX12_span_114 : decode cX12_span 114 = .ok (.aload_n 0, 1) := by decide +kernel
theorem dX12_span_115 : decode cX12_span 115 = .ok (.getfield 58, 3) := by decide +kernel
theorem dX12_span_118 : decode cX12_span 118 = .ok (.aload_n 0, 1) := by decide +kernel
theorem dX12_span_119 : decode cX12_span 119 = .ok (.getfield 101, 3) := by decide +kernel
theorem dX12_span_122 : decode cX12_span 122 = .ok (.iload 6, 2) := by decide +kernel
theorem dX12_span_124 : decode cX12_span 124 = .ok (.invokevirtual 244, 3) := by decide +kernel
theorem dX12_span_127 : decode cX12_span 127 = .ok (.ifCond .eq 7, 3) := by decide +kernel
theorem dX12_span_130 : decode cX12_span 130 = .ok (.iconst 1, 1) := by decide +kernel
theorem dX12_span_131 : decode cX12_span 131 = .ok (.goto 4, 3) := by decide +kernel
theorem dX12_span_134 : decode cX12_span 134 = .ok (.iconst 0, 1) := by decide +kernel
theorem dX12_span_135 : decode cX12_span 135 = .ok (.iadd, 1) := by decide +kernel
theorem dX12_span_136 : decode cX12_span 136 = .ok (.istore 9, 2) := by decide +kernel
theorem dX12_span_138 : decode cX12_span 138 = .ok (.iinc 10 1, 3) := by decide +kernel
theorem dX12_span_141 : decode cX12_span 141 = .ok (.goto (-91), 3) := by decide +kernel
theorem dX12_span_144 : decode cX12_span 144 = .ok (.iload 5, 2) := by decide +kernel
theorem dX12_span_146 : decode cX12_span 146 = .ok (.iconst 2, 1) := by decide +kernel
theorem dX12_span_147 : decode cX12_span 147 = .ok (.if_icmp .ne 6, 3) := by decide +kernel
theorem dX12_span_150 : decode cX12_span 150 = .ok (.iload 9, 2) := by decide +kernel
theorem dX12_span_152 : decode cX12_span 152 = .ok (.ireturn, 1) := by decide +kernel
theorem dX12_span_153 : decode cX12_span 153 = .ok (.iload 5, 2) := by decide +kernel
theorem dX12_span_155 : decode cX12_span 155 = .ok (.ifCond .ne 8, 3) := by decide +kernel
theorem dX12_span_158 : decode cX12_span 158 = .ok (.iload 7, 2) := by decide +kernel
theorem dX12_span_160 : decode cX12_span 160 = .ok (.goto 5, 3) := by decide +kernel
theorem dX12_span_163 : decode cX12_span 163 = .ok (.iload 8, 2) := by decide +kernel
theorem dX12_span_165 : decode cX12_span 165 = .ok (.ireturn, 1) := by decide +kernel
theorem dX12_spared_0 : decode cX12_spared 0 = .ok (.aload_n 0, 1) := by decide +kernel
theorem dX12_spared_1 : decode cX12_spared 1 = .ok (.iload_n 1, 1) := by decide +kernel
theorem dX12_spared_2 : decode cX12_spared 2 = .ok (.invokevirtual 211, 3) := by decide +kernel
theorem dX12_spared_5 : decode cX12_spared 5 = .ok (.aload_n 0, 1) := by decide +kernel
theorem dX12_spared_6 : decode cX12_spared 6 = .ok (.iload_n 2, 1) := by decide +kernel
theorem dX12_spared_7 : decode cX12_spared 7 = .ok (.iload_n 3, 1) := by decide +kernel
theorem dX12_spared_8 : decode cX12_spared 8 = .ok (.invokevirtual 248, 3) := by decide +kernel
theorem dX12_spared_11 : decode cX12_spared 11 = .ok (.aload_n 0, 1) := by decide +kernel
theorem dX12_spared_12 : decode cX12_spared 12 = .ok (.getfield 67, 3) := by decide +kernel
theorem dX12_spared_15 : decode cX12_spared 15 = .ok (.aload_n 0, 1) := by decide +kernel
theorem dX12_spared_16 : decode cX12_spared 16 = .ok (.getfield 97, 3) := by decide +kernel
theorem dX12_spared_19 : decode cX12_spared 19 = .ok (.iload_n 1, 1) := by decide +kernel
theorem dX12_spared_20 : decode cX12_spared 20 = .ok (.iload_n 3, 1) := by decide +kernel
theorem dX12_spared_21 : decode cX12_spared 21 = .ok (.bipush 8, 2) := by decide +kernel
theorem dX12_spared_23 : decode cX12_spared 23 = .ok (.imul, 1) := by decide +kernel
theorem dX12_spared_24 : decode cX12_spared 24 = .ok (.iload_n 2, 1) := by decide +kernel
theorem dX12_spared_25 : decode cX12_spared 25 = .ok (.iadd, 1) := by decide +kernel
theorem dX12_spared_26 : decode cX12_spared 26 = .ok (.invokevirtual 293, 3) := by decide +kernel
theorem dX12_spared_29 : decode cX12_spared 29 = .ok (.ireturn, 1) := by decide +kernel
theorem dX12_startAnew_0 : decode cX12_startAnew 0 = .ok (.aload_n 0, 1) := by decide +kernel
theorem dX12_startAnew_1 : decode cX12_startAnew 1 = .ok (.getfield 97, 3) := by decide +kernel
theorem dX12_startAnew_4 : decode cX12_startAnew 4 = .ok (.aload_n 0, 1) := by decide +kernel
theorem dX12_startAnew_5 : decode cX12_startAnew 5 = .ok (.getfield 19, 3) := by decide +kernel
theorem dX12_startAnew_8 : decode cX12_startAnew 8 = .ok (.invokevirtual 359, 3) := by decide +kernel
theorem dX12_startAnew_11 : decode cX12_startAnew 11 = .ok (.aload_n 0, 1) := by decide +kernel
theorem dX12_startAnew_12 : decode cX12_startAnew 12 = .ok (.getfield 29, 3) := by decide +kernel
theorem dX12_startAnew_15 : decode cX12_startAnew 15 = .ok (.invokevirtual 362, 3) := by decide +kernel
theorem dX12_startAnew_18 : decode cX12_startAnew 18 = .ok (.aload_n 0, 1) := by decide +kernel
theorem dX12_startAnew_19 : decode cX12_startAnew 19 = .ok (.getfield 39, 3) := by decide +kernel
theorem dX12_startAnew_22 : decode cX12_startAnew 22 = .ok (.invokevirtual 365, 3) := by decide +kernel
theorem dX12_startAnew_25 : decode cX12_startAnew 25 = .ok (.aload_n 0, 1) := by decide +kernel
theorem dX12_startAnew_26 : decode cX12_startAnew 26 = .ok (.getfield 90, 3) := by decide +kernel
theorem dX12_startAnew_29 : decode cX12_startAnew 29 = .ok (.invokevirtual 366, 3) := by decide +kernel
theorem dX12_startAnew_32 : decode cX12_startAnew 32 = .ok (.aload_n 0, 1) := by decide +kernel
theorem dX12_startAnew_33 : decode cX12_startAnew 33 = .ok (.iconst 0, 1) := by decide +kernel
theorem dX12_startAnew_34 : decode cX12_startAnew 34 = .ok (.putfield 160, 3) := by decide +kernel
theorem dX12_startAnew_37 : decode cX12_startAnew 37 = .ok (.return_, 1) := by decide +kernel
theorem dX12_status_0 : decode cX12_status 0 = .ok (.iload_n 1, 1) := by decide +kernel
theorem dX12_status_1 : decode cX12_status 1 = .ok (.ifCond .ne 8, 3) := by decide +kernel
theorem dX12_status_4 : decode cX12_status 4 = .ok (.aload_n 0, 1) := by decide +kernel
theorem dX12_status_5 : decode cX12_status 5 = .ok (.getfield 353, 3) := by decide +kernel
theorem dX12_status_8 : decode cX12_status 8 = .ok (.ireturn, 1) := by decide +kernel
theorem dX12_status_9 : decode cX12_status 9 = .ok (.iload_n 1, 1) := by decide +kernel
theorem dX12_status_10 : decode cX12_status 10 = .ok (.iconst 1, 1) := by decide +kernel
theorem dX12_status_11 : decode cX12_status 11 = .ok (.if_icmp .ne 10, 3) := by decide +kernel
theorem dX12_status_14 : decode cX12_status 14 = .ok (.aload_n 0, 1) := by decide +kernel
theorem dX12_status_15 : decode cX12_status 15 = .ok (.getfield 356, 3) := by decide +kernel
theorem dX12_status_18 : decode cX12_status 18 = .ok (.goto 4, 3) := by decide +kernel
theorem dX12_status_21 : decode cX12_status 21 = .ok (.iconst (-1), 1) := by decide +kernel
theorem dX12_status_22 : decode cX12_status 22 = .ok (.ireturn, 1) := by decide +kernel
theorem dX12_tight_0 : decode cX12_tight 0 = .ok (.aload_n 0, 1) := by decide +kernel
theorem dX12_tight_1 : decode cX12_tight 1 = .ok (.iload_n 1, 1) := by decide +kernel
theorem dX12_tight_2 : decode cX12_tight 2 = .ok (.iconst 1, 1) := by decide +kernel
theorem dX12_tight_3 : decode cX12_tight 3 = .ok (.invokevirtual 176, 3) := by decide +kernel
theorem dX12_tight_6 : decode cX12_tight 6 = .ok (.sipush (-1000), 3) := by decide +kernel
theorem dX12_tight_9 : decode cX12_tight 9 = .ok (.istore_n 2, 1) := by decide +kernel
theorem dX12_tight_10 : decode cX12_tight 10 = .ok (.sipush (-1000), 3) := by decide +kernel
theorem dX12_tight_13 : decode cX12_tight 13 = .ok (.istore_n 3, 1) := by decide +kernel
theorem dX12_tight_14 : decode cX12_tight 14 = .ok (.iconst 0, 1) := by decide +kernel
theorem dX12_tight_15 : decode cX12_tight 15 = .ok (.istore 4, 2) := by decide +kernel
theorem dX12_tight_17 : decode cX12_tight 17 = .ok (.iload 4, 2) := by decide +kernel
theorem dX12_tight_19 : decode cX12_tight 19 = .ok (.aload_n 0, 1) := by decide +kernel
theorem dX12_tight_20 : decode cX12_tight 20 = .ok (.getfield 19, 3) := by decide +kernel
theorem dX12_tight_23 : decode cX12_tight 23 = .ok (.getfield 136, 3) := by decide +kernel
theorem dX12_tight_26 : decode cX12_tight 26 = .ok (.if_icmp .ge 83, 3) := by decide +kernel
theorem dX12_tight_29 : decode cX12_tight 29 = .ok (.aload_n 0, 1) := by decide +kernel
theorem dX12_tight_30 : decode cX12_tight 30 = .ok (.getfield 19, 3) := by decide +kernel
theorem dX12_tight_33 : decode cX12_tight 33 = .ok (.getfield 221, 3) := by decide +kernel
theorem dX12_tight_36 : decode cX12_tight 36 = .ok (.iload 4, 2) := by decide +kernel
theorem dX12_tight_38 : decode cX12_tight 38 = .ok (.iaload, 1) := by decide +kernel
theorem dX12_tight_39 : decode cX12_tight 39 = .ok (.ifCond .le 64, 3) := by decide +kernel
theorem dX12_tight_42 : decode cX12_tight 42 = .ok (.aload_n 0, 1) := by decide +kernel
theorem dX12_tight_43 : decode cX12_tight 43 = .ok (.getfield 58, 3) := by decide +kernel
theorem dX12_tight_46 : decode cX12_tight 46 = .ok (.aload_n 0, 1) := by decide +kernel
theorem dX12_tight_47 : decode cX12_tight 47 = .ok (.getfield 97, 3) := by decide +kernel
theorem dX12_tight_50 : decode cX12_tight 50 = .ok (.iload 4, 2) := by decide +kernel
theorem dX12_tight_52 : decode cX12_tight 52 = .ok (.invokevirtual 244, 3) := by decide +kernel
theorem dX12_tight_55 : decode cX12_tight 55 = .ok (.ifCond .eq 48, 3) := by decide +kernel
theorem dX12_tight_58 : decode cX12_tight 58 = .ok (.aload_n 0, 1) := by decide +kernel
theorem dX12_tight_59 : decode cX12_tight 59 = .ok (.getfield 19, 3) := by decide +kernel
theorem dX12_tight_62 : decode cX12_tight 62 = .ok (.getfield 218, 3) := by decide +kernel
theorem dX12_tight_65 : decode cX12_tight 65 = .ok (.iload 4, 2) := by decide +kernel
theorem dX12_tight_67 : decode cX12_tight 67 = .ok (.iaload, 1) := by decide +kernel
theorem dX12_tight_68 : decode cX12_tight 68 = .ok (.aload_n 0, 1) := by decide +kernel
theorem dX12_tight_69 : decode cX12_tight 69 = .ok (.getfield 58, 3) := by decide +kernel
theorem dX12_tight_72 : decode cX12_tight 72 = .ok (.aload_n 0, 1) := by decide +kernel
theorem dX12_tight_73 : decode cX12_tight 73 = .ok (.getfield 97, 3) := by decide +kernel
theorem dX12_tight_76 : decode cX12_tight 76 = .ok (.iload 4, 2) := by decide +kernel
theorem dX12_tight_78 : decode cX12_tight 78 = .ok (.invokevirtual 232, 3) := by decide +kernel
theorem dX12_tight_81 : decode cX12_tight 81 = .ok (.isub, 1) := by decide +kernel
theorem dX12_tight_82 : decode cX12_tight 82 = .ok (.istore 5, 2) := by decide +kernel
theorem dX12_tight_84 : decode cX12_tight 84 = .ok (.iload_n 2, 1) := by decide +kernel
theorem dX12_tight_85 : decode cX12_tight 85 = .ok (.sipush (-1000), 3) := by decide +kernel
theorem dX12_tight_88 : decode cX12_tight 88 = .ok (.if_icmp .eq 9, 3) := by decide +kernel
theorem dX12_tight_91 : decode cX12_tight 91 = .ok (.iload 5, 2) := by decide +kernel
theorem dX12_tight_93 : decode cX12_tight 93 = .ok (.iload_n 3, 1) := by decide +kernel
theorem dX12_tight_94 : decode cX12_tight 94 = .ok (.if_icmp .ge 9, 3) := by decide +kernel
theorem dX12_tight_97 : decode cX12_tight 97 = .ok (.iload 4, 2) := by decide +kernel
theorem dX12_tight_99 : decode cX12_tight 99 = .ok (.istore_n 2, 1) := by decide +kernel
theorem dX12_tight_100 : decode cX12_tight 100 = .ok (.iload 5, 2) := by decide +kernel
theorem dX12_tight_102 : decode cX12_tight 102 = .ok (.istore_n 3, 1) := by decide +kernel
theorem dX12_tight_103 : decode cX12_tight 103 = .ok (.iinc 4 1, 3) := by decide +kernel
theorem dX12_tight_106 : decode cX12_tight 106 = .ok (.goto (-89), 3) := by decide +kernel
theorem dX12_tight_109 : decode cX12_tight 109 = .ok (.iload_n 1, 1) := by decide +kernel
theorem dX12_tight_110 : decode cX12_tight 110 = .ok (.ifCond .ne 7, 3) := by decide +kernel
theorem dX12_tight_113 : decode cX12_tight 113 = .ok (.iload_n 2, 1) := by decide +kernel
theorem dX12_tight_114 : decode cX12_tight 114 = .ok (.goto 4, 3) := by decide +kernel
theorem dX12_tight_117 : decode cX12_tight 117 = .ok (.iload_n 3, 1) := by decide +kernel
theorem dX12_tight_118 : decode cX12_tight 118 = .ok (.ireturn, 1) := by decide +kernel
theorem dX12_told_0 : decode cX12_told 0 = .ok (.aload_n 0, 1) := by decide +kernel
theorem dX12_told_1 : decode cX12_told 1 = .ok (.iload_n 1, 1) := by decide +kernel
theorem dX12_told_2 : decode cX12_told 2 = .ok (.bipush 12, 2) := by decide +kernel
theorem dX12_told_4 : decode cX12_told 4 = .ok (.invokevirtual 176, 3) := by decide +kernel
theorem dX12_told_7 : decode cX12_told 7 = .ok (.iload_n 1, 1) := by decide +kernel
theorem dX12_told_8 : decode cX12_told 8 = .ok (.tableswitch 185 0 11 #[64, 72, 80, 88, 96, 108, 120, 140, 152, 164, 172, 180], 64) := by decide +kernel
theorem dX12_told_72 : decode cX12_told 72 = .ok (.aload_n 0, 1) := by decide +kernel
theorem dX12_told_73 : decode cX12_told 73 = .ok (.getfield 19, 3) := by decide +kernel
theorem dX12_told_76 : decode cX12_told 76 = .ok (.getfield 179, 3) := by decide +kernel
theorem dX12_told_79 : decode cX12_told 79 = .ok (.ireturn, 1) := by decide +kernel
theorem dX12_told_80 : decode cX12_told 80 = .ok (.aload_n 0, 1) := by decide +kernel
theorem dX12_told_81 : decode cX12_told 81 = .ok (.getfield 19, 3) := by decide +kernel
theorem dX12_told_84 : decode cX12_told 84 = .ok (.getfield 182, 3) := by decide +kernel
theorem dX12_told_87 : decode cX12_told 87 = .ok (.ireturn, 1) := by decide +kernel
theorem dX12_told_88 : decode cX12_told 88 = .ok (.aload_n 0, 1) := by decide +kernel
theorem dX12_told_89 : decode cX12_told 89 = .ok (.getfield 19, 3) := by decide +kernel
theorem dX12_told_92 : decode cX12_told 92 = .ok (.getfield 136, 3) := by decide +kernel
theorem dX12_told_95 : decode cX12_told 95 = .ok (.ireturn, 1) := by decide +kernel
theorem dX12_told_96 : decode cX12_told 96 = .ok (.aload_n 0, 1) := by decide +kernel
theorem dX12_told_97 : decode cX12_told 97 = .ok (.getfield 97, 3) := by decide +kernel
theorem dX12_told_100 : decode cX12_told 100 = .ok (.getfield 185, 3) := by decide +kernel
theorem dX12_told_103 : decode cX12_told 103 = .ok (.ireturn, 1) := by decide +kernel
theorem dX12_told_104 : decode cX12_told 104 = .ok (.aload_n 0, 1) := by decide +kernel
theorem dX12_told_105 : decode cX12_told 105 = .ok (.getfield 58, 3) := by decide +kernel
theorem dX12_told_108 : decode cX12_told 108 = .ok (.aload_n 0, 1) := by decide +kernel
theorem dX12_told_109 : decode cX12_told 109 = .ok (.getfield 97, 3) := by decide +kernel
theorem dX12_told_112 : decode cX12_told 112 = .ok (.invokevirtual 188, 3) := by decide +kernel
theorem dX12_told_115 : decode cX12_told 115 = .ok (.ireturn, 1) := by decide +kernel
theorem dX12_told_116 : decode cX12_told 116 = .ok (.aload_n 0, 1) := by decide +kernel
theorem dX12_told_117 : decode cX12_told 117 = .ok (.getfield 58, 3) := by decide +kernel
theorem dX12_told_120 : decode cX12_told 120 = .ok (.aload_n 0, 1) := by decide +kernel
theorem dX12_told_121 : decode cX12_told 121 = .ok (.getfield 97, 3) := by decide +kernel
theorem dX12_told_124 : decode cX12_told 124 = .ok (.invokevirtual 192, 3) := by decide +kernel
theorem dX12_told_127 : decode cX12_told 127 = .ok (.ireturn, 1) := by decide +kernel
theorem dX12_told_128 : decode cX12_told 128 = .ok (.aload_n 0, 1) := by decide +kernel
theorem dX12_told_129 : decode cX12_told 129 = .ok (.getfield 58, 3) := by decide +kernel
theorem dX12_told_132 : decode cX12_told 132 = .ok (.aload_n 0, 1) := by decide +kernel
theorem dX12_told_133 : decode cX12_told 133 = .ok (.getfield 97, 3) := by decide +kernel
theorem dX12_told_136 : decode cX12_told 136 = .ok (.invokevirtual 195, 3) := by decide +kernel
theorem dX12_told_139 : decode cX12_told 139 = .ok (.ifCond .eq 7, 3) := by decide +kernel
theorem dX12_told_142 : decode cX12_told 142 = .ok (.iconst 1, 1) := by decide +kernel
theorem dX12_told_143 : decode cX12_told 143 = .ok (.goto 4, 3) := by decide +kernel
theorem dX12_told_146 : decode cX12_told 146 = .ok (.iconst 0, 1) := by decide +kernel
theorem dX12_told_147 : decode cX12_told 147 = .ok (.ireturn, 1) := by decide +kernel
theorem dX12_told_148 : decode cX12_told 148 = .ok (.aload_n 0, 1) := by decide +kernel
theorem dX12_told_149 : decode cX12_told 149 = .ok (.getfield 58, 3) := by decide +kernel
theorem dX12_told_152 : decode cX12_told 152 = .ok (.aload_n 0, 1) := by decide +kernel
theorem dX12_told_153 : decode cX12_told 153 = .ok (.getfield 97, 3) := by decide +kernel
theorem dX12_told_156 : decode cX12_told 156 = .ok (.invokevirtual 199, 3) := by decide +kernel
theorem dX12_told_159 : decode cX12_told 159 = .ok (.ireturn, 1) := by decide +kernel
theorem dX12_told_160 : decode cX12_told 160 = .ok (.aload_n 0, 1) := by decide +kernel
theorem dX12_told_161 : decode cX12_told 161 = .ok (.getfield 58, 3) := by decide +kernel
theorem dX12_told_164 : decode cX12_told 164 = .ok (.aload_n 0, 1) := by decide +kernel
theorem dX12_told_165 : decode cX12_told 165 = .ok (.getfield 97, 3) := by decide +kernel
theorem dX12_told_168 : decode cX12_told 168 = .ok (.invokevirtual 202, 3) := by decide +kernel
theorem dX12_told_171 : decode cX12_told 171 = .ok (.ireturn, 1) := by decide +kernel
theorem dX12_told_172 : decode cX12_told 172 = .ok (.aload_n 0, 1) := by decide +kernel
theorem dX12_told_173 : decode cX12_told 173 = .ok (.getfield 19, 3) := by decide +kernel
theorem dX12_told_176 : decode cX12_told 176 = .ok (.getfield 205, 3) := by decide +kernel
theorem dX12_told_179 : decode cX12_told 179 = .ok (.ireturn, 1) := by decide +kernel
theorem dX12_told_180 : decode cX12_told 180 = .ok (.aload_n 0, 1) := by decide +kernel
theorem dX12_told_181 : decode cX12_told 181 = .ok (.getfield 39, 3) := by decide +kernel
theorem dX12_told_184 : decode cX12_told 184 = .ok (.getfield 167, 3) := by decide +kernel
theorem dX12_told_187 : decode cX12_told 187 = .ok (.ireturn, 1) := by decide +kernel
theorem dX12_told_188 : decode cX12_told 188 = .ok (.aload_n 0, 1) := by decide +kernel
theorem dX12_told_189 : decode cX12_told 189 = .ok (.getfield 160, 3) := by decide +kernel
theorem dX12_told_192 : decode cX12_told 192 = .ok (.ireturn, 1) := by decide +kernel
theorem dX12_told_193 : decode cX12_told 193 = .ok (.aload_n 0, 1) := by decide +kernel
theorem dX12_told_194 : decode cX12_told 194 = .ok (.getfield 58, 3) := by decide +kernel
theorem dX12_told_197 : decode cX12_told 197 = .ok (.aload_n 0, 1) := by decide +kernel
theorem dX12_told_198 : decode cX12_told 198 = .ok (.getfield 97, 3) := by decide +kernel
theorem dX12_told_201 : decode cX12_told 201 = .ok (.invokevirtual 208, 3) := by decide +kernel
theorem dX12_told_204 : decode cX12_told 204 = .ok (.ireturn, 1) := by decide +kernel
theorem dX12_tree_0 : decode cX12_tree 0 = .ok (.aload_n 0, 1) := by decide +kernel
theorem dX12_tree_1 : decode cX12_tree 1 = .ok (.iload_n 1, 1) := by decide +kernel
theorem dX12_tree_2 : decode cX12_tree 2 = .ok (.invokevirtual 211, 3) := by decide +kernel
theorem dX12_tree_5 : decode cX12_tree 5 = .ok (.aload_n 0, 1) := by decide +kernel
theorem dX12_tree_6 : decode cX12_tree 6 = .ok (.iload_n 2, 1) := by decide +kernel
theorem dX12_tree_7 : decode cX12_tree 7 = .ok (.invokevirtual 301, 3) := by decide +kernel
theorem dX12_tree_10 : decode cX12_tree 10 = .ok (.iconst 0, 1) := by decide +kernel
theorem dX12_tree_11 : decode cX12_tree 11 = .ok (.istore_n 3, 1) := by decide +kernel
theorem dX12_tree_12 : decode cX12_tree 12 = .ok (.iconst 0, 1) := by decide +kernel
theorem dX12_tree_13 : decode cX12_tree 13 = .ok (.istore 4, 2) := by decide +kernel
theorem dX12_tree_15 : decode cX12_tree 15 = .ok (.iload 4, 2) := by decide +kernel
theorem dX12_tree_17 : decode cX12_tree 17 = .ok (.aload_n 0, 1) := by decide +kernel
theorem dX12_tree_18 : decode cX12_tree 18 = .ok (.getfield 19, 3) := by decide +kernel
theorem dX12_tree_21 : decode cX12_tree 21 = .ok (.getfield 179, 3) := by decide +kernel
theorem dX12_tree_24 : decode cX12_tree 24 = .ok (.if_icmp .ge 34, 3) := by decide +kernel
theorem dX12_tree_27 : decode cX12_tree 27 = .ok (.aload_n 0, 1) := by decide +kernel
theorem dX12_tree_28 : decode cX12_tree 28 = .ok (.getfield 97, 3) := by decide +kernel
theorem dX12_tree_31 : decode cX12_tree 31 = .ok (.iload_n 1, 1) := by decide +kernel
theorem dX12_tree_32 : decode cX12_tree 32 = .ok (.iload_n 2, 1) := by decide +kernel
theorem dX12_tree_33 : decode cX12_tree 33 = .ok (.bipush 8, 2) := by decide +kernel
theorem dX12_tree_35 : decode cX12_tree 35 = .ok (.imul, 1) := by decide +kernel
theorem dX12_tree_36 : decode cX12_tree 36 = .ok (.iload 4, 2) := by decide +kernel
theorem dX12_tree_38 : decode cX12_tree 38 = .ok (.iadd, 1) := by decide +kernel
theorem dX12_tree_39 : decode cX12_tree 39 = .ok (.invokevirtual 313, 3) := by decide +kernel
theorem dX12_tree_42 : decode cX12_tree 42 = .ok (.ifCond .eq 10, 3) := by decide +kernel
theorem dX12_tree_45 : decode cX12_tree 45 = .ok (.iload_n 3, 1) := by decide +kernel
theorem dX12_tree_46 : decode cX12_tree 46 = .ok (.iconst 1, 1) := by decide +kernel
theorem dX12_tree_47 : decode cX12_tree 47 = .ok (.iload 4, 2) := by decide +kernel
theorem dX12_tree_49 : decode cX12_tree 49 = .ok (.ishl, 1) := by decide +kernel
theorem dX12_tree_50 : decode cX12_tree 50 = .ok (.ior, 1) := by decide +kernel
theorem dX12_tree_51 : decode cX12_tree 51 = .ok (.istore_n 3, 1) := by decide +kernel
theorem dX12_tree_52 : decode cX12_tree 52 = .ok (.iinc 4 1, 3) := by decide +kernel
theorem dX12_tree_55 : decode cX12_tree 55 = .ok (.goto (-40), 3) := by decide +kernel
theorem dX12_tree_58 : decode cX12_tree 58 = .ok (.iload_n 3, 1) := by decide +kernel
theorem dX12_tree_59 : decode cX12_tree 59 = .ok (.ireturn, 1) := by decide +kernel
theorem dX12_undo_0 : decode cX12_undo 0 = .ok (.aload_n 0, 1) := by decide +kernel
theorem dX12_undo_1 : decode cX12_undo 1 = .ok (.getfield 90, 3) := by decide +kernel
theorem dX12_undo_4 : decode cX12_undo 4 = .ok (.getfield 143, 3) := by decide +kernel
theorem dX12_undo_7 : decode cX12_undo 7 = .ok (.ifCond .ne 5, 3) := by decide +kernel
theorem dX12_undo_10 : decode cX12_undo 10 = .ok (.iconst (-1), 1) := by decide +kernel
theorem dX12_undo_11 : decode cX12_undo 11 = .ok (.ireturn, 1) := by decide +kernel
theorem dX12_undo_12 : decode cX12_undo 12 = .ok (.aload_n 0, 1) := by decide +kernel
theorem dX12_undo_13 : decode cX12_undo 13 = .ok (.getfield 90, 3) := by decide +kernel
theorem dX12_undo_16 : decode cX12_undo 16 = .ok (.aload_n 0, 1) := by decide +kernel
theorem dX12_undo_17 : decode cX12_undo 17 = .ok (.getfield 97, 3) := by decide +kernel
theorem dX12_undo_20 : decode cX12_undo 20 = .ok (.invokevirtual 173, 3) := by decide +kernel
theorem dX12_undo_23 : decode cX12_undo 23 = .ok (.aload_n 0, 1) := by decide +kernel
theorem dX12_undo_24 : decode cX12_undo 24 = .ok (.iconst 0, 1) := by decide +kernel
theorem dX12_undo_25 : decode cX12_undo 25 = .ok (.putfield 160, 3) := by decide +kernel
theorem dX12_undo_28 : decode cX12_undo 28 = .ok (.aload_n 0, 1) := by decide +kernel
theorem dX12_undo_29 : decode cX12_undo 29 = .ok (.getfield 90, 3) := by decide +kernel
theorem dX12_undo_32 : decode cX12_undo 32 = .ok (.getfield 143, 3) := by decide +kernel
theorem dX12_undo_35 : decode cX12_undo 35 = .ok (.ireturn, 1) := by decide +kernel
theorem dX12_work_0 : decode cX12_work 0 = .ok (.aload_n 0, 1) := by decide +kernel
theorem dX12_work_1 : decode cX12_work 1 = .ok (.iload_n 1, 1) := by decide +kernel
theorem dX12_work_2 : decode cX12_work 2 = .ok (.sipush 150, 3) := by decide +kernel
theorem dX12_work_5 : decode cX12_work 5 = .ok (.invokevirtual 115, 3) := by decide +kernel
theorem dX12_work_8 : decode cX12_work 8 = .ok (.aload_n 0, 1) := by decide +kernel
theorem dX12_work_9 : decode cX12_work 9 = .ok (.getfield 90, 3) := by decide +kernel
theorem dX12_work_12 : decode cX12_work 12 = .ok (.getfield 143, 3) := by decide +kernel
theorem dX12_work_15 : decode cX12_work 15 = .ok (.bipush 16, 2) := by decide +kernel
theorem dX12_work_17 : decode cX12_work 17 = .ok (.if_icmp .lt 14, 3) := by decide +kernel
theorem dX12_work_20 : decode cX12_work 20 = .ok (.aload_n 0, 1) := by decide +kernel
theorem dX12_work_21 : decode cX12_work 21 = .ok (.getfield 12, 3) := by decide +kernel
theorem dX12_work_24 : decode cX12_work 24 = .ok (.iconst 0, 1) := by decide +kernel
theorem dX12_work_25 : decode cX12_work 25 = .ok (.invokevirtual 119, 3) := by decide +kernel
theorem dX12_work_28 : decode cX12_work 28 = .ok (.bipush (-20), 2) := by decide +kernel
theorem dX12_work_30 : decode cX12_work 30 = .ok (.ireturn, 1) := by decide +kernel
theorem dX12_work_31 : decode cX12_work 31 = .ok (.aload_n 0, 1) := by decide +kernel
theorem dX12_work_32 : decode cX12_work 32 = .ok (.getfield 12, 3) := by decide +kernel
theorem dX12_work_35 : decode cX12_work 35 = .ok (.iload_n 1, 1) := by decide +kernel
theorem dX12_work_36 : decode cX12_work 36 = .ok (.invokevirtual 119, 3) := by decide +kernel
theorem dX12_work_39 : decode cX12_work 39 = .ok (.aload_n 0, 1) := by decide +kernel
theorem dX12_work_40 : decode cX12_work 40 = .ok (.getfield 49, 3) := by decide +kernel
theorem dX12_work_43 : decode cX12_work 43 = .ok (.aload_n 0, 1) := by decide +kernel
theorem dX12_work_44 : decode cX12_work 44 = .ok (.getfield 12, 3) := by decide +kernel
theorem dX12_work_47 : decode cX12_work 47 = .ok (.aload_n 0, 1) := by decide +kernel
theorem dX12_work_48 : decode cX12_work 48 = .ok (.getfield 19, 3) := by decide +kernel
theorem dX12_work_51 : decode cX12_work 51 = .ok (.invokevirtual 146, 3) := by decide +kernel
theorem dX12_work_54 : decode cX12_work 54 = .ok (.aload_n 0, 1) := by decide +kernel
theorem dX12_work_55 : decode cX12_work 55 = .ok (.getfield 12, 3) := by decide +kernel
theorem dX12_work_58 : decode cX12_work 58 = .ok (.invokevirtual 126, 3) := by decide +kernel
theorem dX12_work_61 : decode cX12_work 61 = .ok (.ifCond .eq 14, 3) := by decide +kernel
theorem dX12_work_64 : decode cX12_work 64 = .ok (.aload_n 0, 1) := by decide +kernel
theorem dX12_work_65 : decode cX12_work 65 = .ok (.getfield 12, 3) := by decide +kernel
theorem dX12_work_68 : decode cX12_work 68 = .ok (.getfield 130, 3) := by decide +kernel
theorem dX12_work_71 : decode cX12_work 71 = .ok (.bipush 10, 2) := by decide +kernel
theorem dX12_work_73 : decode cX12_work 73 = .ok (.isub, 1) := by decide +kernel
theorem dX12_work_74 : decode cX12_work 74 = .ok (.ireturn, 1) := by decide +kernel
theorem dX12_work_75 : decode cX12_work 75 = .ok (.aload_n 0, 1) := by decide +kernel
theorem dX12_work_76 : decode cX12_work 76 = .ok (.getfield 90, 3) := by decide +kernel
theorem dX12_work_79 : decode cX12_work 79 = .ok (.aload_n 0, 1) := by decide +kernel
theorem dX12_work_80 : decode cX12_work 80 = .ok (.getfield 97, 3) := by decide +kernel
theorem dX12_work_83 : decode cX12_work 83 = .ok (.invokevirtual 149, 3) := by decide +kernel
theorem dX12_work_86 : decode cX12_work 86 = .ok (.aload_n 0, 1) := by decide +kernel
theorem dX12_work_87 : decode cX12_work 87 = .ok (.getfield 49, 3) := by decide +kernel
theorem dX12_work_90 : decode cX12_work 90 = .ok (.aload_n 0, 1) := by decide +kernel
theorem dX12_work_91 : decode cX12_work 91 = .ok (.getfield 67, 3) := by decide +kernel
theorem dX12_work_94 : decode cX12_work 94 = .ok (.aload_n 0, 1) := by decide +kernel
theorem dX12_work_95 : decode cX12_work 95 = .ok (.getfield 97, 3) := by decide +kernel
theorem dX12_work_98 : decode cX12_work 98 = .ok (.invokevirtual 153, 3) := by decide +kernel
theorem dX12_work_101 : decode cX12_work 101 = .ok (.istore_n 2, 1) := by decide +kernel
theorem dX12_work_102 : decode cX12_work 102 = .ok (.aload_n 0, 1) := by decide +kernel
theorem dX12_work_103 : decode cX12_work 103 = .ok (.aload_n 0, 1) := by decide +kernel
theorem dX12_work_104 : decode cX12_work 104 = .ok (.getfield 49, 3) := by decide +kernel
theorem dX12_work_107 : decode cX12_work 107 = .ok (.getfield 157, 3) := by decide +kernel
theorem dX12_work_110 : decode cX12_work 110 = .ok (.putfield 160, 3) := by decide +kernel
theorem dX12_work_113 : decode cX12_work 113 = .ok (.iload_n 2, 1) := by decide +kernel
theorem dX12_work_114 : decode cX12_work 114 = .ok (.ireturn, 1) := by decide +kernel
theorem dX12_would_0 : decode cX12_would 0 = .ok (.aload_n 0, 1) := by decide +kernel
theorem dX12_would_1 : decode cX12_would 1 = .ok (.iload_n 1, 1) := by decide +kernel
theorem dX12_would_2 : decode cX12_would 2 = .ok (.iconst 0, 1) := by decide +kernel
theorem dX12_would_3 : decode cX12_would 3 = .ok (.sipush 9999, 3) := by decide +kernel
theorem dX12_would_6 : decode cX12_would 6 = .ok (.invokevirtual 276, 3) := by decide +kernel
theorem dX12_would_9 : decode cX12_would 9 = .ok (.aload_n 0, 1) := by decide +kernel
theorem dX12_would_10 : decode cX12_would 10 = .ok (.iload_n 2, 1) := by decide +kernel
theorem dX12_would_11 : decode cX12_would 11 = .ok (.iconst 0, 1) := by decide +kernel
theorem dX12_would_12 : decode cX12_would 12 = .ok (.bipush 6, 2) := by decide +kernel
theorem dX12_would_14 : decode cX12_would 14 = .ok (.invokevirtual 276, 3) := by decide +kernel
theorem dX12_would_17 : decode cX12_would 17 = .ok (.aload_n 0, 1) := by decide +kernel
theorem dX12_would_18 : decode cX12_would 18 = .ok (.iload_n 3, 1) := by decide +kernel
theorem dX12_would_19 : decode cX12_would 19 = .ok (.iconst 0, 1) := by decide +kernel
theorem dX12_would_20 : decode cX12_would 20 = .ok (.bipush 9, 2) := by decide +kernel
theorem dX12_would_22 : decode cX12_would 22 = .ok (.invokevirtual 276, 3) := by decide +kernel
theorem dX12_would_25 : decode cX12_would 25 = .ok (.aload_n 0, 1) := by decide +kernel
theorem dX12_would_26 : decode cX12_would 26 = .ok (.iload 4, 2) := by decide +kernel
theorem dX12_would_28 : decode cX12_would 28 = .ok (.iconst 0, 1) := by decide +kernel
theorem dX12_would_29 : decode cX12_would 29 = .ok (.sipush 400, 3) := by decide +kernel
theorem dX12_would_32 : decode cX12_would 32 = .ok (.invokevirtual 276, 3) := by decide +kernel
theorem dX12_would_35 : decode cX12_would 35 = .ok (.aload_n 0, 1) := by decide +kernel
theorem dX12_would_36 : decode cX12_would 36 = .ok (.iload 5, 2) := by decide +kernel
theorem dX12_would_38 : decode cX12_would 38 = .ok (.iconst 1, 1) := by decide +kernel
theorem dX12_would_39 : decode cX12_would 39 = .ok (.iconst 3, 1) := by decide +kernel
theorem dX12_would_40 : decode cX12_would 40 = .ok (.invokevirtual 276, 3) := by decide +kernel
theorem dX12_would_43 : decode cX12_would 43 = .ok (.aload_n 0, 1) := by decide +kernel
theorem dX12_would_44 : decode cX12_would 44 = .ok (.iload 6, 2) := by decide +kernel
theorem dX12_would_46 : decode cX12_would 46 = .ok (.iconst 0, 1) := by decide +kernel
theorem dX12_would_47 : decode cX12_would 47 = .ok (.bipush 7, 2) := by decide +kernel
theorem dX12_would_49 : decode cX12_would 49 = .ok (.invokevirtual 276, 3) := by decide +kernel
theorem dX12_would_52 : decode cX12_would 52 = .ok (.aload_n 0, 1) := by decide +kernel
theorem dX12_would_53 : decode cX12_would 53 = .ok (.iload 7, 2) := by decide +kernel
theorem dX12_would_55 : decode cX12_would 55 = .ok (.iconst 0, 1) := by decide +kernel
theorem dX12_would_56 : decode cX12_would 56 = .ok (.bipush 7, 2) := by decide +kernel
theorem dX12_would_58 : decode cX12_would 58 = .ok (.invokevirtual 276, 3) := by decide +kernel
theorem dX12_would_61 : decode cX12_would 61 = .ok (.aload_n 0, 1) := by decide +kernel
theorem dX12_would_62 : decode cX12_would 62 = .ok (.iload 8, 2) := by decide +kernel
theorem dX12_would_64 : decode cX12_would 64 = .ok (.iconst 0, 1) := by decide +kernel
theorem dX12_would_65 : decode cX12_would 65 = .ok (.bipush 6, 2) := by decide +kernel
theorem dX12_would_67 : decode cX12_would 67 = .ok (.invokevirtual 276, 3) := by decide +kernel
theorem dX12_would_70 : decode cX12_would 70 = .ok (.aload_n 0, 1) := by decide +kernel
theorem dX12_would_71 : decode cX12_would 71 = .ok (.getfield 29, 3) := by decide +kernel
theorem dX12_would_74 : decode cX12_would 74 = .ok (.getfield 280, 3) := by decide +kernel
theorem dX12_would_77 : decode cX12_would 77 = .ok (.astore 9, 2) := by decide +kernel
theorem dX12_would_79 : decode cX12_would 79 = .ok (.aload 9, 2) := by decide +kernel
theorem dX12_would_81 : decode cX12_would 81 = .ok (.iconst 0, 1) := by decide +kernel
theorem dX12_would_82 : decode cX12_would 82 = .ok (.iload_n 1, 1) := by decide +kernel
theorem dX12_would_83 : decode cX12_would 83 = .ok (.iastore, 1) := by decide +kernel
theorem dX12_would_84 : decode cX12_would 84 = .ok (.aload 9, 2) := by decide +kernel
theorem dX12_would_86 : decode cX12_would 86 = .ok (.iconst 1, 1) := by decide +kernel
theorem dX12_would_87 : decode cX12_would 87 = .ok (.iload_n 2, 1) := by decide +kernel
theorem dX12_would_88 : decode cX12_would 88 = .ok (.iastore, 1) := by decide +kernel
theorem dX12_would_89 : decode cX12_would 89 = .ok (.aload 9, 2) := by decide +kernel
theorem dX12_would_91 : decode cX12_would 91 = .ok (.iconst 2, 1) := by decide +kernel
theorem dX12_would_92 : decode cX12_would 92 = .ok (.iload_n 3, 1) := by decide +kernel
theorem dX12_would_93 : decode cX12_would 93 = .ok (.iastore, 1) := by decide +kernel
theorem dX12_would_94 : decode cX12_would 94 = .ok (.aload 9, 2) := by decide +kernel
theorem dX12_would_96 : decode cX12_would 96 = .ok (.iconst 3, 1) := by decide +kernel
theorem dX12_would_97 : decode cX12_would 97 = .ok (.iload 4, 2) := by decide +kernel
theorem dX12_would_99 : decode cX12_would 99 = .ok (.iastore, 1) := by decide +kernel
theorem dX12_would_100 : decode cX12_would 100 = .ok (.aload 9, 2) := by decide +kernel
theorem dX12_would_102 : decode cX12_would 102 = .ok (.iconst 4, 1) := by decide +kernel
theorem dX12_would_103 : decode cX12_would 103 = .ok (.iload 5, 2) := by decide +kernel
theorem dX12_would_105 : decode cX12_would 105 = .ok (.iastore, 1) := by decide +kernel
theorem dX12_would_106 : decode cX12_would 106 = .ok (.aload 9, 2) := by decide +kernel
theorem dX12_would_108 : decode cX12_would 108 = .ok (.iconst 5, 1) := by decide +kernel
theorem dX12_would_109 : decode cX12_would 109 = .ok (.iload 6, 2) := by decide +kernel
theorem dX12_would_111 : decode cX12_would 111 = .ok (.iastore, 1) := by decide +kernel
theorem dX12_would_112 : decode cX12_would 112 = .ok (.aload 9, 2) := by decide +kernel
theorem dX12_would_114 : decode cX12_would 114 = .ok (.bipush 6, 2) := by decide +kernel
theorem dX12_would_116 : decode cX12_would 116 = .ok (.iload 7, 2) := by decide +kernel
theorem dX12_would_118 : decode cX12_would 118 = .ok (.iastore, 1) := by decide +kernel
theorem dX12_would_119 : decode cX12_would 119 = .ok (.aload 9, 2) := by decide +kernel
theorem dX12_would_121 : decode cX12_would 121 = .ok (.bipush 7, 2) := by decide +kernel
theorem dX12_would_123 : decode cX12_would 123 = .ok (.iload 8, 2) := by decide +kernel
theorem dX12_would_125 : decode cX12_would 125 = .ok (.iastore, 1) := by decide +kernel
theorem dX12_would_126 : decode cX12_would 126 = .ok (.aload_n 0, 1) := by decide +kernel
theorem dX12_would_127 : decode cX12_would 127 = .ok (.getfield 29, 3) := by decide +kernel
theorem dX12_would_130 : decode cX12_would 130 = .ok (.invokevirtual 283, 3) := by decide +kernel
theorem dX12_would_133 : decode cX12_would 133 = .ok (.ireturn, 1) := by decide +kernel
