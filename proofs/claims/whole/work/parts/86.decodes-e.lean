theorem dJ2_charAt_3b067_0 : decode cJ2_charAt_3b067 0 = .ok (.iload_n 1, 1) := by decide +kernel
theorem dJ2_charAt_3b067_1 : decode cJ2_charAt_3b067 1 = .ok (.aload_n 0, 1) := by decide +kernel
theorem dJ2_charAt_3b067_2 : decode cJ2_charAt_3b067 2 = .ok (.invokestatic 67, 3) := by decide +kernel
theorem dJ2_charAt_3b067_5 : decode cJ2_charAt_3b067 5 = .ok (.aload_n 0, 1) := by decide +kernel
theorem dJ2_charAt_3b067_6 : decode cJ2_charAt_3b067 6 = .ok (.iload_n 1, 1) := by decide +kernel
theorem dJ2_charAt_3b067_7 : decode cJ2_charAt_3b067 7 = .ok (.invokestatic 71, 3) := by decide +kernel
theorem dJ2_charAt_3b067_10 : decode cJ2_charAt_3b067 10 = .ok (.ireturn, 1) := by decide +kernel
theorem dJ2_checkIndex_2214a_0 : decode cJ2_checkIndex_2214a 0 = .ok (.iload_n 0, 1) := by decide +kernel
theorem dJ2_checkIndex_2214a_1 : decode cJ2_checkIndex_2214a 1 = .ok (.aload_n 1, 1) := by decide +kernel
theorem dJ2_checkIndex_2214a_2 : decode cJ2_checkIndex_2214a 2 = .ok (.invokestatic 48, 3) := by decide +kernel
theorem dJ2_checkIndex_2214a_5 : decode cJ2_checkIndex_2214a 5 = .ok (.invokestatic 414, 3) := by decide +kernel
theorem dJ2_checkIndex_2214a_8 : decode cJ2_checkIndex_2214a 8 = .ok (.return_, 1) := by decide +kernel
theorem dJ2_getChar_3b067_0 : decode cJ2_getChar_3b067 0 = .ok (.getstatic 44, 3) := by decide +kernel
theorem dJ2_getChar_3b067_3 : decode cJ2_getChar_3b067 3 = .ok (.ifCond .ne 25, 3) := by decide +kernel
theorem dJ2_getChar_3b067_6 : decode cJ2_getChar_3b067 6 = .ok (.iload_n 1, 1) := by decide +kernel
theorem dJ2_getChar_3b067_7 : decode cJ2_getChar_3b067 7 = .ok (.ifCond .lt 11, 3) := by decide +kernel
theorem dJ2_getChar_3b067_10 : decode cJ2_getChar_3b067 10 = .ok (.iload_n 1, 1) := by decide +kernel
theorem dJ2_getChar_3b067_11 : decode cJ2_getChar_3b067 11 = .ok (.aload_n 0, 1) := by decide +kernel
theorem dJ2_getChar_3b067_12 : decode cJ2_getChar_3b067 12 = .ok (.invokestatic 48, 3) := by decide +kernel
theorem dJ2_getChar_3b067_15 : decode cJ2_getChar_3b067 15 = .ok (.if_icmp .lt 13, 3) := by decide +kernel
theorem dJ2_getChar_3b067_18 : decode cJ2_getChar_3b067 18 = .ok (.new 52, 3) := by decide +kernel
theorem dJ2_getChar_3b067_21 : decode cJ2_getChar_3b067 21 = .ok (.dup, 1) := by decide +kernel
theorem dJ2_getChar_3b067_22 : decode cJ2_getChar_3b067 22 = .ok (.ldc 54, 2) := by decide +kernel
theorem dJ2_getChar_3b067_24 : decode cJ2_getChar_3b067 24 = .ok (.invokespecial 56, 3) := by decide +kernel
theorem dJ2_getChar_3b067_27 : decode cJ2_getChar_3b067 27 = .ok (.athrow, 1) := by decide +kernel
theorem dJ2_getChar_3b067_28 : decode cJ2_getChar_3b067 28 = .ok (.iload_n 1, 1) := by decide +kernel
theorem dJ2_getChar_3b067_29 : decode cJ2_getChar_3b067 29 = .ok (.iconst 1, 1) := by decide +kernel
theorem dJ2_getChar_3b067_30 : decode cJ2_getChar_3b067 30 = .ok (.ishl, 1) := by decide +kernel
theorem dJ2_getChar_3b067_31 : decode cJ2_getChar_3b067 31 = .ok (.istore_n 1, 1) := by decide +kernel
theorem dJ2_getChar_3b067_32 : decode cJ2_getChar_3b067 32 = .ok (.aload_n 0, 1) := by decide +kernel
theorem dJ2_getChar_3b067_33 : decode cJ2_getChar_3b067 33 = .ok (.iload_n 1, 1) := by decide +kernel
theorem dJ2_getChar_3b067_34 : decode cJ2_getChar_3b067 34 = .ok (.iinc 1 1, 3) := by decide +kernel
theorem dJ2_getChar_3b067_37 : decode cJ2_getChar_3b067 37 = .ok (.baload, 1) := by decide +kernel
theorem dJ2_getChar_3b067_38 : decode cJ2_getChar_3b067 38 = .ok (.sipush 255, 3) := by decide +kernel
theorem dJ2_getChar_3b067_41 : decode cJ2_getChar_3b067 41 = .ok (.iand, 1) := by decide +kernel
theorem dJ2_getChar_3b067_42 : decode cJ2_getChar_3b067 42 = .ok (.getstatic 59, 3) := by decide +kernel
theorem dJ2_getChar_3b067_45 : decode cJ2_getChar_3b067 45 = .ok (.ishl, 1) := by decide +kernel
theorem dJ2_getChar_3b067_46 : decode cJ2_getChar_3b067 46 = .ok (.aload_n 0, 1) := by decide +kernel
theorem dJ2_getChar_3b067_47 : decode cJ2_getChar_3b067 47 = .ok (.iload_n 1, 1) := by decide +kernel
theorem dJ2_getChar_3b067_48 : decode cJ2_getChar_3b067 48 = .ok (.baload, 1) := by decide +kernel
theorem dJ2_getChar_3b067_49 : decode cJ2_getChar_3b067 49 = .ok (.sipush 255, 3) := by decide +kernel
theorem dJ2_getChar_3b067_52 : decode cJ2_getChar_3b067 52 = .ok (.iand, 1) := by decide +kernel
theorem dJ2_getChar_3b067_53 : decode cJ2_getChar_3b067 53 = .ok (.getstatic 63, 3) := by decide +kernel
theorem dJ2_getChar_3b067_56 : decode cJ2_getChar_3b067 56 = .ok (.ishl, 1) := by decide +kernel
theorem dJ2_getChar_3b067_57 : decode cJ2_getChar_3b067 57 = .ok (.ior, 1) := by decide +kernel
theorem dJ2_getChar_3b067_58 : decode cJ2_getChar_3b067 58 = .ok (.i2c, 1) := by decide +kernel
theorem dJ2_getChar_3b067_59 : decode cJ2_getChar_3b067 59 = .ok (.ireturn, 1) := by decide +kernel
theorem dJ2_length_9d52b_0 : decode cJ2_length_9d52b 0 = .ok (.aload_n 0, 1) := by decide +kernel
theorem dJ2_length_9d52b_1 : decode cJ2_length_9d52b 1 = .ok (.arraylength, 1) := by decide +kernel
theorem dJ2_length_9d52b_2 : decode cJ2_length_9d52b 2 = .ok (.iconst 1, 1) := by decide +kernel
theorem dJ2_length_9d52b_3 : decode cJ2_length_9d52b 3 = .ok (.ishr, 1) := by decide +kernel
theorem dJ2_length_9d52b_4 : decode cJ2_length_9d52b 4 = .ok (.ireturn, 1) := by decide +kernel
theorem dL_ahead_0 : decode cL_ahead 0 = .ok (.aload_n 3, 1) := by decide +kernel
theorem dL_ahead_1 : decode cL_ahead 1 = .ok (.iconst 0, 1) := by decide +kernel
theorem dL_ahead_2 : decode cL_ahead 2 = .ok (.aload_n 0, 1) := by decide +kernel
theorem dL_ahead_3 : decode cL_ahead 3 = .ok (.iload_n 1, 1) := by decide +kernel
theorem dL_ahead_4 : decode cL_ahead 4 = .ok (.iload_n 2, 1) := by decide +kernel
theorem dL_ahead_5 : decode cL_ahead 5 = .ok (.invokevirtual 56, 3) := by decide +kernel
theorem dL_ahead_8 : decode cL_ahead 8 = .ok (.i2l, 1) := by decide +kernel
theorem dL_ahead_9 : decode cL_ahead 9 = .ok (.lastore, 1) := by decide +kernel
theorem dL_ahead_10 : decode cL_ahead 10 = .ok (.goto 7, 3) := by decide +kernel
theorem dL_ahead_13 : decode cL_ahead 13 = .ok (.astore 4, 2) := by decide +kernel
theorem dL_ahead_15 : decode cL_ahead 15 = .ok (.iconst 1, 1) := by decide +kernel
theorem dL_ahead_16 : decode cL_ahead 16 = .ok (.ireturn, 1) := by decide +kernel
theorem dL_ahead_17 : decode cL_ahead 17 = .ok (.iconst 0, 1) := by decide +kernel
theorem dL_ahead_18 : decode cL_ahead 18 = .ok (.ireturn, 1) := by decide +kernel
theorem dL_board_0 : decode cL_board 0 = .ok (.aload_n 2, 1) := by decide +kernel
theorem dL_board_1 : decode cL_board 1 = .ok (.iconst 0, 1) := by decide +kernel
theorem dL_board_2 : decode cL_board 2 = .ok (.aload_n 0, 1) := by decide +kernel
theorem dL_board_3 : decode cL_board 3 = .ok (.iload_n 1, 1) := by decide +kernel
theorem dL_board_4 : decode cL_board 4 = .ok (.invokevirtual 7, 3) := by decide +kernel
theorem dL_board_7 : decode cL_board 7 = .ok (.i2l, 1) := by decide +kernel
theorem dL_board_8 : decode cL_board 8 = .ok (.lastore, 1) := by decide +kernel
theorem dL_board_9 : decode cL_board 9 = .ok (.goto 6, 3) := by decide +kernel
theorem dL_board_12 : decode cL_board 12 = .ok (.astore_n 3, 1) := by decide +kernel
theorem dL_board_13 : decode cL_board 13 = .ok (.iconst 1, 1) := by decide +kernel
theorem dL_board_14 : decode cL_board 14 = .ok (.ireturn, 1) := by decide +kernel
theorem dL_board_15 : decode cL_board 15 = .ok (.iconst 0, 1) := by decide +kernel
theorem dL_board_16 : decode cL_board 16 = .ok (.ireturn, 1) := by decide +kernel
theorem dL_book_0 : decode cL_book 0 = .ok (.aload_n 2, 1) := by decide +kernel
theorem dL_book_1 : decode cL_book 1 = .ok (.iconst 0, 1) := by decide +kernel
theorem dL_book_2 : decode cL_book 2 = .ok (.aload_n 0, 1) := by decide +kernel
theorem dL_book_3 : decode cL_book 3 = .ok (.iload_n 1, 1) := by decide +kernel
theorem dL_book_4 : decode cL_book 4 = .ok (.invokevirtual 21, 3) := by decide +kernel
theorem dL_book_7 : decode cL_book 7 = .ok (.i2l, 1) := by decide +kernel
theorem dL_book_8 : decode cL_book 8 = .ok (.lastore, 1) := by decide +kernel
theorem dL_book_9 : decode cL_book 9 = .ok (.goto 6, 3) := by decide +kernel
theorem dL_book_12 : decode cL_book 12 = .ok (.astore_n 3, 1) := by decide +kernel
theorem dL_book_13 : decode cL_book 13 = .ok (.iconst 1, 1) := by decide +kernel
theorem dL_book_14 : decode cL_book 14 = .ok (.ireturn, 1) := by decide +kernel
theorem dL_book_15 : decode cL_book 15 = .ok (.iconst 0, 1) := by decide +kernel
theorem dL_book_16 : decode cL_book 16 = .ok (.ireturn, 1) := by decide +kernel
theorem dL_cost_0 : decode cL_cost 0 = .ok (.aload 4, 2) := by decide +kernel
theorem dL_cost_2 : decode cL_cost 2 = .ok (.iconst 0, 1) := by decide +kernel
theorem dL_cost_3 : decode cL_cost 3 = .ok (.aload_n 0, 1) := by decide +kernel
theorem dL_cost_4 : decode cL_cost 4 = .ok (.iload_n 1, 1) := by decide +kernel
theorem dL_cost_5 : decode cL_cost 5 = .ok (.iload_n 2, 1) := by decide +kernel
theorem dL_cost_6 : decode cL_cost 6 = .ok (.iload_n 3, 1) := by decide +kernel
theorem dL_cost_7 : decode cL_cost 7 = .ok (.invokevirtual 37, 3) := by decide +kernel
theorem dL_cost_10 : decode cL_cost 10 = .ok (.i2l, 1) := by decide +kernel
theorem dL_cost_11 : decode cL_cost 11 = .ok (.lastore, 1) := by decide +kernel
theorem dL_cost_12 : decode cL_cost 12 = .ok (.goto 7, 3) := by decide +kernel
theorem dL_cost_15 : decode cL_cost 15 = .ok (.astore 5, 2) := by decide +kernel
theorem dL_cost_17 : decode cL_cost 17 = .ok (.iconst 1, 1) := by decide +kernel
theorem dL_cost_18 : decode cL_cost 18 = .ok (.ireturn, 1) := by decide +kernel
theorem dL_cost_19 : decode cL_cost 19 = .ok (.iconst 0, 1) := by decide +kernel
theorem dL_cost_20 : decode cL_cost 20 = .ok (.ireturn, 1) := by decide +kernel
theorem dL_crowd_0 : decode cL_crowd 0 = .ok (.aload_n 2, 1) := by decide +kernel
theorem dL_crowd_1 : decode cL_crowd 1 = .ok (.iconst 0, 1) := by decide +kernel
theorem dL_crowd_2 : decode cL_crowd 2 = .ok (.aload_n 0, 1) := by decide +kernel
theorem dL_crowd_3 : decode cL_crowd 3 = .ok (.iload_n 1, 1) := by decide +kernel
theorem dL_crowd_4 : decode cL_crowd 4 = .ok (.invokevirtual 80, 3) := by decide +kernel
theorem dL_crowd_7 : decode cL_crowd 7 = .ok (.i2l, 1) := by decide +kernel
theorem dL_crowd_8 : decode cL_crowd 8 = .ok (.lastore, 1) := by decide +kernel
theorem dL_crowd_9 : decode cL_crowd 9 = .ok (.goto 6, 3) := by decide +kernel
theorem dL_crowd_12 : decode cL_crowd 12 = .ok (.astore_n 3, 1) := by decide +kernel
theorem dL_crowd_13 : decode cL_crowd 13 = .ok (.iconst 1, 1) := by decide +kernel
theorem dL_crowd_14 : decode cL_crowd 14 = .ok (.ireturn, 1) := by decide +kernel
theorem dL_crowd_15 : decode cL_crowd 15 = .ok (.iconst 0, 1) := by decide +kernel
theorem dL_crowd_16 : decode cL_crowd 16 = .ok (.ireturn, 1) := by decide +kernel
theorem dL_dear_0 : decode cL_dear 0 = .ok (.aload_n 2, 1) := by decide +kernel
theorem dL_dear_1 : decode cL_dear 1 = .ok (.iconst 0, 1) := by decide +kernel
theorem dL_dear_2 : decode cL_dear 2 = .ok (.aload_n 0, 1) := by decide +kernel
theorem dL_dear_3 : decode cL_dear 3 = .ok (.iload_n 1, 1) := by decide +kernel
theorem dL_dear_4 : decode cL_dear 4 = .ok (.invokevirtual 68, 3) := by decide +kernel
theorem dL_dear_7 : decode cL_dear 7 = .ok (.i2l, 1) := by decide +kernel
theorem dL_dear_8 : decode cL_dear 8 = .ok (.lastore, 1) := by decide +kernel
theorem dL_dear_9 : decode cL_dear 9 = .ok (.goto 6, 3) := by decide +kernel
theorem dL_dear_12 : decode cL_dear 12 = .ok (.astore_n 3, 1) := by decide +kernel
theorem dL_dear_13 : decode cL_dear 13 = .ok (.iconst 1, 1) := by decide +kernel
theorem dL_dear_14 : decode cL_dear 14 = .ok (.ireturn, 1) := by decide +kernel
theorem dL_dear_15 : decode cL_dear 15 = .ok (.iconst 0, 1) := by decide +kernel
theorem dL_dear_16 : decode cL_dear 16 = .ok (.ireturn, 1) := by decide +kernel
theorem dL_dist_0 : decode cL_dist 0 = .ok (.aload 4, 2) := by decide +kernel
theorem dL_dist_2 : decode cL_dist 2 = .ok (.iconst 0, 1) := by decide +kernel
theorem dL_dist_3 : decode cL_dist 3 = .ok (.aload_n 0, 1) := by decide +kernel
theorem dL_dist_4 : decode cL_dist 4 = .ok (.iload_n 1, 1) := by decide +kernel
theorem dL_dist_5 : decode cL_dist 5 = .ok (.iload_n 2, 1) := by decide +kernel
theorem dL_dist_6 : decode cL_dist 6 = .ok (.iload_n 3, 1) := by decide +kernel
theorem dL_dist_7 : decode cL_dist 7 = .ok (.invokevirtual 47, 3) := by decide +kernel
theorem dL_dist_10 : decode cL_dist 10 = .ok (.i2l, 1) := by decide +kernel
theorem dL_dist_11 : decode cL_dist 11 = .ok (.lastore, 1) := by decide +kernel
theorem dL_dist_12 : decode cL_dist 12 = .ok (.goto 7, 3) := by decide +kernel
theorem dL_dist_15 : decode cL_dist 15 = .ok (.astore 5, 2) := by decide +kernel
theorem dL_dist_17 : decode cL_dist 17 = .ok (.iconst 1, 1) := by decide +kernel
theorem dL_dist_18 : decode cL_dist 18 = .ok (.ireturn, 1) := by decide +kernel
theorem dL_dist_19 : decode cL_dist 19 = .ok (.iconst 0, 1) := by decide +kernel
theorem dL_dist_20 : decode cL_dist 20 = .ok (.ireturn, 1) := by decide +kernel
theorem dL_fewest_0 : decode cL_fewest 0 = .ok (.aload_n 2, 1) := by decide +kernel
theorem dL_fewest_1 : decode cL_fewest 1 = .ok (.iconst 0, 1) := by decide +kernel
theorem dL_fewest_2 : decode cL_fewest 2 = .ok (.aload_n 0, 1) := by decide +kernel
theorem dL_fewest_3 : decode cL_fewest 3 = .ok (.iload_n 1, 1) := by decide +kernel
theorem dL_fewest_4 : decode cL_fewest 4 = .ok (.invokevirtual 59, 3) := by decide +kernel
theorem dL_fewest_7 : decode cL_fewest 7 = .ok (.i2l, 1) := by decide +kernel
theorem dL_fewest_8 : decode cL_fewest 8 = .ok (.lastore, 1) := by decide +kernel
theorem dL_fewest_9 : decode cL_fewest 9 = .ok (.goto 6, 3) := by decide +kernel
theorem dL_fewest_12 : decode cL_fewest 12 = .ok (.astore_n 3, 1) := by decide +kernel
theorem dL_fewest_13 : decode cL_fewest 13 = .ok (.iconst 1, 1) := by decide +kernel
theorem dL_fewest_14 : decode cL_fewest 14 = .ok (.ireturn, 1) := by decide +kernel
theorem dL_fewest_15 : decode cL_fewest 15 = .ok (.iconst 0, 1) := by decide +kernel
theorem dL_fewest_16 : decode cL_fewest 16 = .ok (.ireturn, 1) := by decide +kernel
theorem dL_fits_0 : decode cL_fits 0 = .ok (.aload_n 2, 1) := by decide +kernel
theorem dL_fits_1 : decode cL_fits 1 = .ok (.iconst 0, 1) := by decide +kernel
theorem dL_fits_2 : decode cL_fits 2 = .ok (.aload_n 0, 1) := by decide +kernel
theorem dL_fits_3 : decode cL_fits 3 = .ok (.iload_n 1, 1) := by decide +kernel
theorem dL_fits_4 : decode cL_fits 4 = .ok (.invokevirtual 74, 3) := by decide +kernel
theorem dL_fits_7 : decode cL_fits 7 = .ok (.i2l, 1) := by decide +kernel
theorem dL_fits_8 : decode cL_fits 8 = .ok (.lastore, 1) := by decide +kernel
theorem dL_fits_9 : decode cL_fits 9 = .ok (.goto 6, 3) := by decide +kernel
theorem dL_fits_12 : decode cL_fits 12 = .ok (.astore_n 3, 1) := by decide +kernel
theorem dL_fits_13 : decode cL_fits 13 = .ok (.iconst 1, 1) := by decide +kernel
theorem dL_fits_14 : decode cL_fits 14 = .ok (.ireturn, 1) := by decide +kernel
theorem dL_fits_15 : decode cL_fits 15 = .ok (.iconst 0, 1) := by decide +kernel
theorem dL_fits_16 : decode cL_fits 16 = .ok (.ireturn, 1) := by decide +kernel
theorem dL_jam_0 : decode cL_jam 0 = .ok (.aload_n 2, 1) := by decide +kernel
theorem dL_jam_1 : decode cL_jam 1 = .ok (.iconst 0, 1) := by decide +kernel
theorem dL_jam_2 : decode cL_jam 2 = .ok (.aload_n 0, 1) := by decide +kernel
theorem dL_jam_3 : decode cL_jam 3 = .ok (.iload_n 1, 1) := by decide +kernel
theorem dL_jam_4 : decode cL_jam 4 = .ok (.invokevirtual 53, 3) := by decide +kernel
theorem dL_jam_7 : decode cL_jam 7 = .ok (.i2l, 1) := by decide +kernel
theorem dL_jam_8 : decode cL_jam 8 = .ok (.lastore, 1) := by decide +kernel
theorem dL_jam_9 : decode cL_jam 9 = .ok (.goto 6, 3) := by decide +kernel
theorem dL_jam_12 : decode cL_jam 12 = .ok (.astore_n 3, 1) := by decide +kernel
theorem dL_jam_13 : decode cL_jam 13 = .ok (.iconst 1, 1) := by decide +kernel
theorem dL_jam_14 : decode cL_jam 14 = .ok (.ireturn, 1) := by decide +kernel
theorem dL_jam_15 : decode cL_jam 15 = .ok (.iconst 0, 1) := by decide +kernel
theorem dL_jam_16 : decode cL_jam 16 = .ok (.ireturn, 1) := by decide +kernel
theorem dL_law_0 : decode cL_law 0 = .ok (.aload_n 2, 1) := by decide +kernel
theorem dL_law_1 : decode cL_law 1 = .ok (.iconst 0, 1) := by decide +kernel
theorem dL_law_2 : decode cL_law 2 = .ok (.aload_n 0, 1) := by decide +kernel
theorem dL_law_3 : decode cL_law 3 = .ok (.iload_n 1, 1) := by decide +kernel
theorem dL_law_4 : decode cL_law 4 = .ok (.invokevirtual 15, 3) := by decide +kernel
theorem dL_law_7 : decode cL_law 7 = .ok (.i2l, 1) := by decide +kernel
theorem dL_law_8 : decode cL_law 8 = .ok (.lastore, 1) := by decide +kernel
theorem dL_law_9 : decode cL_law 9 = .ok (.goto 6, 3) := by decide +kernel
theorem dL_law_12 : decode cL_law 12 = .ok (.astore_n 3, 1) := by decide +kernel
theorem dL_law_13 : decode cL_law 13 = .ok (.iconst 1, 1) := by decide +kernel
theorem dL_law_14 : decode cL_law 14 = .ok (.ireturn, 1) := by decide +kernel
theorem dL_law_15 : decode cL_law 15 = .ok (.iconst 0, 1) := by decide +kernel
theorem dL_law_16 : decode cL_law 16 = .ok (.ireturn, 1) := by decide +kernel
theorem dL_law__0 : decode cL_law_ 0 = .ok (.new 8, 3) := by decide +kernel
theorem dL_law__3 : decode cL_law_ 3 = .ok (.dup, 1) := by decide +kernel
theorem dL_law__4 : decode cL_law_ 4 = .ok (.invokespecial 94, 3) := by decide +kernel
theorem dL_law__7 : decode cL_law_ 7 = .ok (.astore_n 1, 1) := by decide +kernel
theorem dL_law__8 : decode cL_law_ 8 = .ok (.new 95, 3) := by decide +kernel
theorem dL_law__11 : decode cL_law_ 11 = .ok (.dup, 1) := by decide +kernel
theorem dL_law__12 : decode cL_law_ 12 = .ok (.invokespecial 97, 3) := by decide +kernel
theorem dL_law__15 : decode cL_law_ 15 = .ok (.astore_n 2, 1) := by decide +kernel
theorem dL_law__16 : decode cL_law_ 16 = .ok (.iconst 1, 1) := by decide +kernel
theorem dL_law__17 : decode cL_law_ 17 = .ok (.newarray .long, 2) := by decide +kernel
theorem dL_law__19 : decode cL_law_ 19 = .ok (.astore_n 3, 1) := by decide +kernel
theorem dL_law__20 : decode cL_law_ 20 = .ok (.iconst 0, 1) := by decide +kernel
theorem dL_law__21 : decode cL_law_ 21 = .ok (.istore 4, 2) := by decide +kernel
theorem dL_law__23 : decode cL_law_ 23 = .ok (.iload 4, 2) := by decide +kernel
theorem dL_law__25 : decode cL_law_ 25 = .ok (.aload_n 0, 1) := by decide +kernel
theorem dL_law__26 : decode cL_law_ 26 = .ok (.arraylength, 1) := by decide +kernel
theorem dL_law__27 : decode cL_law_ 27 = .ok (.bipush 9, 2) := by decide +kernel
theorem dL_law__29 : decode cL_law_ 29 = .ok (.isub, 1) := by decide +kernel
theorem dL_law__30 : decode cL_law_ 30 = .ok (.if_icmp .gt 2108, 3) := by decide +kernel
theorem dL_law__33 : decode cL_law_ 33 = .ok (.aload_n 0, 1) := by decide +kernel
theorem dL_law__34 : decode cL_law_ 34 = .ok (.iload 4, 2) := by decide +kernel
theorem dL_law__36 : decode cL_law_ 36 = .ok (.iaload, 1) := by decide +kernel
theorem dL_law__37 : decode cL_law_ 37 = .ok (.bipush 63, 2) := by decide +kernel
theorem dL_law__39 : decode cL_law_ 39 = .ok (.iand, 1) := by decide +kernel
theorem dL_law__40 : decode cL_law_ 40 = .ok (.tableswitch 2092 0 32 #[148, 221, 277, 333, 389, 445, 458, 471, 527, 595, 675, 755, 901, 981, 1061, 1141, 1154, 1210, 1278, 1334, 1402, 1470, 1526, 1582, 1638, 1694, 1750, 1806, 1898, 2016, 2029, 2042, 2067], 148) := by decide +kernel
theorem dL_law__188 : decode cL_law_ 188 = .ok (.aload_n 1, 1) := by decide +kernel
theorem dL_law__189 : decode cL_law_ 189 = .ok (.aload_n 0, 1) := by decide +kernel
theorem dL_law__190 : decode cL_law_ 190 = .ok (.iload 4, 2) := by decide +kernel
theorem dL_law__192 : decode cL_law_ 192 = .ok (.iconst 1, 1) := by decide +kernel
theorem dL_law__193 : decode cL_law_ 193 = .ok (.iadd, 1) := by decide +kernel
theorem dL_law__194 : decode cL_law_ 194 = .ok (.iaload, 1) := by decide +kernel
theorem dL_law__195 : decode cL_law_ 195 = .ok (.aload_n 0, 1) := by decide +kernel
theorem dL_law__196 : decode cL_law_ 196 = .ok (.iload 4, 2) := by decide +kernel
theorem dL_law__198 : decode cL_law_ 198 = .ok (.iconst 2, 1) := by decide +kernel
theorem dL_law__199 : decode cL_law_ 199 = .ok (.iadd, 1) := by decide +kernel
theorem dL_law__200 : decode cL_law_ 200 = .ok (.iaload, 1) := by decide +kernel
theorem dL_law__201 : decode cL_law_ 201 = .ok (.aload_n 0, 1) := by decide +kernel
theorem dL_law__202 : decode cL_law_ 202 = .ok (.iload 4, 2) := by decide +kernel
theorem dL_law__204 : decode cL_law_ 204 = .ok (.iconst 3, 1) := by decide +kernel
theorem dL_law__205 : decode cL_law_ 205 = .ok (.iadd, 1) := by decide +kernel
theorem dL_law__206 : decode cL_law_ 206 = .ok (.iaload, 1) := by decide +kernel
theorem dL_law__207 : decode cL_law_ 207 = .ok (.aload_n 0, 1) := by decide +kernel
theorem dL_law__208 : decode cL_law_ 208 = .ok (.iload 4, 2) := by decide +kernel
theorem dL_law__210 : decode cL_law_ 210 = .ok (.iconst 4, 1) := by decide +kernel
theorem dL_law__211 : decode cL_law_ 211 = .ok (.iadd, 1) := by decide +kernel
theorem dL_law__212 : decode cL_law_ 212 = .ok (.iaload, 1) := by decide +kernel
theorem dL_law__213 : decode cL_law_ 213 = .ok (.aload_n 0, 1) := by decide +kernel
theorem dL_law__214 : decode cL_law_ 214 = .ok (.iload 4, 2) := by decide +kernel
theorem dL_law__216 : decode cL_law_ 216 = .ok (.iconst 5, 1) := by decide +kernel
theorem dL_law__217 : decode cL_law_ 217 = .ok (.iadd, 1) := by decide +kernel
theorem dL_law__218 : decode cL_law_ 218 = .ok (.iaload, 1) := by decide +kernel
theorem dL_law__219 : decode cL_law_ 219 = .ok (.invokevirtual 98, 3) := by decide +kernel
theorem dL_law__222 : decode cL_law_ 222 = .ok (.aload_n 2, 1) := by decide +kernel
theorem dL_law__223 : decode cL_law_ 223 = .ok (.aload_n 0, 1) := by decide +kernel
theorem dL_law__224 : decode cL_law_ 224 = .ok (.iload 4, 2) := by decide +kernel
theorem dL_law__226 : decode cL_law_ 226 = .ok (.iconst 1, 1) := by decide +kernel
theorem dL_law__227 : decode cL_law_ 227 = .ok (.iadd, 1) := by decide +kernel
theorem dL_law__228 : decode cL_law_ 228 = .ok (.iaload, 1) := by decide +kernel
theorem dL_law__229 : decode cL_law_ 229 = .ok (.aload_n 0, 1) := by decide +kernel
theorem dL_law__230 : decode cL_law_ 230 = .ok (.iload 4, 2) := by decide +kernel
theorem dL_law__232 : decode cL_law_ 232 = .ok (.iconst 2, 1) := by decide +kernel
theorem dL_law__233 : decode cL_law_ 233 = .ok (.iadd, 1) := by decide +kernel
theorem dL_law__234 : decode cL_law_ 234 = .ok (.iaload, 1) := by decide +kernel
theorem dL_law__235 : decode cL_law_ 235 = .ok (.aload_n 0, 1) := by decide +kernel
theorem dL_law__236 : decode cL_law_ 236 = .ok (.iload 4, 2) := by decide +kernel
theorem dL_law__238 : decode cL_law_ 238 = .ok (.iconst 3, 1) := by decide +kernel
theorem dL_law__239 : decode cL_law_ 239 = .ok (.iadd, 1) := by decide +kernel
theorem dL_law__240 : decode cL_law_ 240 = .ok (.iaload, 1) := by decide +kernel
theorem dL_law__241 : decode cL_law_ 241 = .ok (.aload_n 0, 1) := by decide +kernel
theorem dL_law__242 : decode cL_law_ 242 = .ok (.iload 4, 2) := by decide +kernel
theorem dL_law__244 : decode cL_law_ 244 = .ok (.iconst 4, 1) := by decide +kernel
theorem dL_law__245 : decode cL_law_ 245 = .ok (.iadd, 1) := by decide +kernel
theorem dL_law__246 : decode cL_law_ 246 = .ok (.iaload, 1) := by decide +kernel
theorem dL_law__247 : decode cL_law_ 247 = .ok (.aload_n 0, 1) := by decide +kernel
theorem dL_law__248 : decode cL_law_ 248 = .ok (.iload 4, 2) := by decide +kernel
theorem dL_law__250 : decode cL_law_ 250 = .ok (.iconst 5, 1) := by decide +kernel
theorem dL_law__251 : decode cL_law_ 251 = .ok (.iadd, 1) := by decide +kernel
theorem dL_law__252 : decode cL_law_ 252 = .ok (.iaload, 1) := by decide +kernel
theorem dL_law__253 : decode cL_law_ 253 = .ok (.invokevirtual 102, 3) := by decide +kernel
theorem dL_law__256 : decode cL_law_ 256 = .ok (.if_icmp .eq 1876, 3) := by decide +kernel
theorem dL_law__259 : decode cL_law_ 259 = .ok (.iconst 0, 1) := by decide +kernel
theorem dL_law__260 : decode cL_law_ 260 = .ok (.ireturn, 1) := by decide +kernel
theorem dL_law__261 : decode cL_law_ 261 = .ok (.aload_n 1, 1) := by decide +kernel
theorem dL_law__262 : decode cL_law_ 262 = .ok (.aload_n 0, 1) := by decide +kernel
theorem dL_law__263 : decode cL_law_ 263 = .ok (.iload 4, 2) := by decide +kernel
theorem dL_law__265 : decode cL_law_ 265 = .ok (.iconst 1, 1) := by decide +kernel
theorem dL_law__266 : decode cL_law_ 266 = .ok (.iadd, 1) := by decide +kernel
theorem dL_law__267 : decode cL_law_ 267 = .ok (.iaload, 1) := by decide +kernel
theorem dL_law__268 : decode cL_law_ 268 = .ok (.aload_n 3, 1) := by decide +kernel
theorem dL_law__269 : decode cL_law_ 269 = .ok (.invokestatic 103, 3) := by decide +kernel
theorem dL_law__272 : decode cL_law_ 272 = .ok (.istore 5, 2) := by decide +kernel
theorem dL_law__274 : decode cL_law_ 274 = .ok (.aload_n 2, 1) := by decide +kernel
theorem dL_law__275 : decode cL_law_ 275 = .ok (.aload_n 0, 1) := by decide +kernel
theorem dL_law__276 : decode cL_law_ 276 = .ok (.iload 4, 2) := by decide +kernel
theorem dL_law__278 : decode cL_law_ 278 = .ok (.iconst 1, 1) := by decide +kernel
theorem dL_law__279 : decode cL_law_ 279 = .ok (.iadd, 1) := by decide +kernel
theorem dL_law__280 : decode cL_law_ 280 = .ok (.iaload, 1) := by decide +kernel
theorem dL_law__281 : decode cL_law_ 281 = .ok (.invokevirtual 108, 3) := by decide +kernel
theorem dL_law__284 : decode cL_law_ 284 = .ok (.istore 6, 2) := by decide +kernel
theorem dL_law__286 : decode cL_law_ 286 = .ok (.aload_n 2, 1) := by decide +kernel
theorem dL_law__287 : decode cL_law_ 287 = .ok (.invokevirtual 109, 3) := by decide +kernel
theorem dL_law__290 : decode cL_law_ 290 = .ok (.iload 5, 2) := by decide +kernel
theorem dL_law__292 : decode cL_law_ 292 = .ok (.if_icmp .eq 5, 3) := by decide +kernel
theorem dL_law__295 : decode cL_law_ 295 = .ok (.iconst 0, 1) := by decide +kernel
theorem dL_law__296 : decode cL_law_ 296 = .ok (.ireturn, 1) := by decide +kernel
theorem dL_law__297 : decode cL_law_ 297 = .ok (.iload 5, 2) := by decide +kernel
theorem dL_law__299 : decode cL_law_ 299 = .ok (.ifCond .ne 15, 3) := by decide +kernel
theorem dL_law__302 : decode cL_law_ 302 = .ok (.aload_n 3, 1) := by decide +kernel
theorem dL_law__303 : decode cL_law_ 303 = .ok (.iconst 0, 1) := by decide +kernel
theorem dL_law__304 : decode cL_law_ 304 = .ok (.laload, 1) := by decide +kernel
theorem dL_law__305 : decode cL_law_ 305 = .ok (.iload 6, 2) := by decide +kernel
theorem dL_law__307 : decode cL_law_ 307 = .ok (.i2l, 1) := by decide +kernel
theorem dL_law__308 : decode cL_law_ 308 = .ok (.lcmp, 1) := by decide +kernel
theorem dL_law__309 : decode cL_law_ 309 = .ok (.ifCond .eq 5, 3) := by decide +kernel
theorem dL_law__312 : decode cL_law_ 312 = .ok (.iconst 0, 1) := by decide +kernel
theorem dL_law__313 : decode cL_law_ 313 = .ok (.ireturn, 1) := by decide +kernel
theorem dL_law__314 : decode cL_law_ 314 = .ok (.goto 1818, 3) := by decide +kernel
theorem dL_law__317 : decode cL_law_ 317 = .ok (.aload_n 1, 1) := by decide +kernel
theorem dL_law__318 : decode cL_law_ 318 = .ok (.aload_n 0, 1) := by decide +kernel
theorem dL_law__319 : decode cL_law_ 319 = .ok (.iload 4, 2) := by decide +kernel
theorem dL_law__321 : decode cL_law_ 321 = .ok (.iconst 1, 1) := by decide +kernel
theorem dL_law__322 : decode cL_law_ 322 = .ok (.iadd, 1) := by decide +kernel
theorem dL_law__323 : decode cL_law_ 323 = .ok (.iaload, 1) := by decide +kernel
theorem dL_law__324 : decode cL_law_ 324 = .ok (.aload_n 3, 1) := by decide +kernel
theorem dL_law__325 : decode cL_law_ 325 = .ok (.invokestatic 113, 3) := by decide +kernel
theorem dL_law__328 : decode cL_law_ 328 = .ok (.istore 5, 2) := by decide +kernel
theorem dL_law__330 : decode cL_law_ 330 = .ok (.aload_n 2, 1) := by decide +kernel
theorem dL_law__331 : decode cL_law_ 331 = .ok (.aload_n 0, 1) := by decide +kernel
theorem dL_law__332 : decode cL_law_ 332 = .ok (.iload 4, 2) := by decide +kernel
theorem dL_law__334 : decode cL_law_ 334 = .ok (.iconst 1, 1) := by decide +kernel
theorem dL_law__335 : decode cL_law_ 335 = .ok (.iadd, 1) := by decide +kernel
theorem dL_law__336 : decode cL_law_ 336 = .ok (.iaload, 1) := by decide +kernel
theorem dL_law__337 : decode cL_law_ 337 = .ok (.invokevirtual 115, 3) := by decide +kernel
theorem dL_law__340 : decode cL_law_ 340 = .ok (.istore 6, 2) := by decide +kernel
theorem dL_law__342 : decode cL_law_ 342 = .ok (.aload_n 2, 1) := by decide +kernel
theorem dL_law__343 : decode cL_law_ 343 = .ok (.invokevirtual 109, 3) := by decide +kernel
theorem dL_law__346 : decode cL_law_ 346 = .ok (.iload 5, 2) := by decide +kernel
theorem dL_law__348 : decode cL_law_ 348 = .ok (.if_icmp .eq 5, 3) := by decide +kernel
theorem dL_law__351 : decode cL_law_ 351 = .ok (.iconst 0, 1) := by decide +kernel
theorem dL_law__352 : decode cL_law_ 352 = .ok (.ireturn, 1) := by decide +kernel
theorem dL_law__353 : decode cL_law_ 353 = .ok (.iload 5, 2) := by decide +kernel
theorem dL_law__355 : decode cL_law_ 355 = .ok (.ifCond .ne 15, 3) := by decide +kernel
theorem dL_law__358 : decode cL_law_ 358 = .ok (.aload_n 3, 1) := by decide +kernel
theorem dL_law__359 : decode cL_law_ 359 = .ok (.iconst 0, 1) := by decide +kernel
theorem dL_law__360 : decode cL_law_ 360 = .ok (.laload, 1) := by decide +kernel
theorem dL_law__361 : decode cL_law_ 361 = .ok (.iload 6, 2) := by decide +kernel
theorem dL_law__363 : decode cL_law_ 363 = .ok (.i2l, 1) := by decide +kernel
theorem dL_law__364 : decode cL_law_ 364 = .ok (.lcmp, 1) := by decide +kernel
theorem dL_law__365 : decode cL_law_ 365 = .ok (.ifCond .eq 5, 3) := by decide +kernel
theorem dL_law__368 : decode cL_law_ 368 = .ok (.iconst 0, 1) := by decide +kernel
theorem dL_law__369 : decode cL_law_ 369 = .ok (.ireturn, 1) := by decide +kernel
theorem dL_law__370 : decode cL_law_ 370 = .ok (.goto 1762, 3) := by decide +kernel
theorem dL_law__373 : decode cL_law_ 373 = .ok (.aload_n 1, 1) := by decide +kernel
theorem dL_law__374 : decode cL_law_ 374 = .ok (.aload_n 0, 1) := by decide +kernel
theorem dL_law__375 : decode cL_law_ 375 = .ok (.iload 4, 2) := by decide +kernel
theorem dL_law__377 : decode cL_law_ 377 = .ok (.iconst 1, 1) := by decide +kernel
theorem dL_law__378 : decode cL_law_ 378 = .ok (.iadd, 1) := by decide +kernel
theorem dL_law__379 : decode cL_law_ 379 = .ok (.iaload, 1) := by decide +kernel
theorem dL_law__380 : decode cL_law_ 380 = .ok (.aload_n 3, 1) := by decide +kernel
theorem dL_law__381 : decode cL_law_ 381 = .ok (.invokestatic 116, 3) := by decide +kernel
theorem dL_law__384 : decode cL_law_ 384 = .ok (.istore 5, 2) := by decide +kernel
theorem dL_law__386 : decode cL_law_ 386 = .ok (.aload_n 2, 1) := by decide +kernel
theorem dL_law__387 : decode cL_law_ 387 = .ok (.aload_n 0, 1) := by decide +kernel
theorem dL_law__388 : decode cL_law_ 388 = .ok (.iload 4, 2) := by decide +kernel
theorem dL_law__390 : decode cL_law_ 390 = .ok (.iconst 1, 1) := by decide +kernel
theorem dL_law__391 : decode cL_law_ 391 = .ok (.iadd, 1) := by decide +kernel
theorem dL_law__392 : decode cL_law_ 392 = .ok (.iaload, 1) := by decide +kernel
theorem dL_law__393 : decode cL_law_ 393 = .ok (.invokevirtual 118, 3) := by decide +kernel
theorem dL_law__396 : decode cL_law_ 396 = .ok (.istore 6, 2) := by decide +kernel
theorem dL_law__398 : decode cL_law_ 398 = .ok (.aload_n 2, 1) := by decide +kernel
theorem dL_law__399 : decode cL_law_ 399 = .ok (.invokevirtual 109, 3) := by decide +kernel
theorem dL_law__402 : decode cL_law_ 402 = .ok (.iload 5, 2) := by decide +kernel
theorem dL_law__404 : decode cL_law_ 404 = .ok (.if_icmp .eq 5, 3) := by decide +kernel
theorem dL_law__407 : decode cL_law_ 407 = .ok (.iconst 0, 1) := by decide +kernel
theorem dL_law__408 : decode cL_law_ 408 = .ok (.ireturn, 1) := by decide +kernel
theorem dL_law__409 : decode cL_law_ 409 = .ok (.iload 5, 2) := by decide +kernel
theorem dL_law__411 : decode cL_law_ 411 = .ok (.ifCond .ne 15, 3) := by decide +kernel
theorem dL_law__414 : decode cL_law_ 414 = .ok (.aload_n 3, 1) := by decide +kernel
theorem dL_law__415 : decode cL_law_ 415 = .ok (.iconst 0, 1) := by decide +kernel
theorem dL_law__416 : decode cL_law_ 416 = .ok (.laload, 1) := by decide +kernel
theorem dL_law__417 : decode cL_law_ 417 = .ok (.iload 6, 2) := by decide +kernel
theorem dL_law__419 : decode cL_law_ 419 = .ok (.i2l, 1) := by decide +kernel
theorem dL_law__420 : decode cL_law_ 420 = .ok (.lcmp, 1) := by decide +kernel
theorem dL_law__421 : decode cL_law_ 421 = .ok (.ifCond .eq 5, 3) := by decide +kernel
theorem dL_law__424 : decode cL_law_ 424 = .ok (.iconst 0, 1) := by decide +kernel
theorem dL_law__425 : decode cL_law_ 425 = .ok (.ireturn, 1) := by decide +kernel
theorem dL_law__426 : decode cL_law_ 426 = .ok (.goto 1706, 3) := by decide +kernel
theorem dL_law__429 : decode cL_law_ 429 = .ok (.aload_n 1, 1) := by decide +kernel
theorem dL_law__430 : decode cL_law_ 430 = .ok (.aload_n 0, 1) := by decide +kernel
theorem dL_law__431 : decode cL_law_ 431 = .ok (.iload 4, 2) := by decide +kernel
theorem dL_law__433 : decode cL_law_ 433 = .ok (.iconst 1, 1) := by decide +kernel
theorem dL_law__434 : decode cL_law_ 434 = .ok (.iadd, 1) := by decide +kernel
theorem dL_law__435 : decode cL_law_ 435 = .ok (.iaload, 1) := by decide +kernel
theorem dL_law__436 : decode cL_law_ 436 = .ok (.aload_n 3, 1) := by decide +kernel
theorem dL_law__437 : decode cL_law_ 437 = .ok (.invokestatic 119, 3) := by decide +kernel
theorem dL_law__440 : decode cL_law_ 440 = .ok (.istore 5, 2) := by decide +kernel
theorem dL_law__442 : decode cL_law_ 442 = .ok (.aload_n 2, 1) := by decide +kernel
theorem dL_law__443 : decode cL_law_ 443 = .ok (.aload_n 0, 1) := by decide +kernel
theorem dL_law__444 : decode cL_law_ 444 = .ok (.iload 4, 2) := by decide +kernel
theorem dL_law__446 : decode cL_law_ 446 = .ok (.iconst 1, 1) := by decide +kernel
theorem dL_law__447 : decode cL_law_ 447 = .ok (.iadd, 1) := by decide +kernel
theorem dL_law__448 : decode cL_law_ 448 = .ok (.iaload, 1) := by decide +kernel
theorem dL_law__449 : decode cL_law_ 449 = .ok (.invokevirtual 121, 3) := by decide +kernel
theorem dL_law__452 : decode cL_law_ 452 = .ok (.istore 6, 2) := by decide +kernel
theorem dL_law__454 : decode cL_law_ 454 = .ok (.aload_n 2, 1) := by decide +kernel
theorem dL_law__455 : decode cL_law_ 455 = .ok (.invokevirtual 109, 3) := by decide +kernel
theorem dL_law__458 : decode cL_law_ 458 = .ok (.iload 5, 2) := by decide +kernel
theorem dL_law__460 : decode cL_law_ 460 = .ok (.if_icmp .eq 5, 3) := by decide +kernel
theorem dL_law__463 : decode cL_law_ 463 = .ok (.iconst 0, 1) := by decide +kernel
theorem dL_law__464 : decode cL_law_ 464 = .ok (.ireturn, 1) := by decide +kernel
theorem dL_law__465 : decode cL_law_ 465 = .ok (.iload 5, 2) := by decide +kernel
theorem dL_law__467 : decode cL_law_ 467 = .ok (.ifCond .ne 15, 3) := by decide +kernel
theorem dL_law__470 : decode cL_law_ 470 = .ok (.aload_n 3, 1) := by decide +kernel
theorem dL_law__471 : decode cL_law_ 471 = .ok (.iconst 0, 1) := by decide +kernel
theorem dL_law__472 : decode cL_law_ 472 = .ok (.laload, 1) := by decide +kernel
theorem dL_law__473 : decode cL_law_ 473 = .ok (.iload 6, 2) := by decide +kernel
theorem dL_law__475 : decode cL_law_ 475 = .ok (.i2l, 1) := by decide +kernel
theorem dL_law__476 : decode cL_law_ 476 = .ok (.lcmp, 1) := by decide +kernel
theorem dL_law__477 : decode cL_law_ 477 = .ok (.ifCond .eq 5, 3) := by decide +kernel
theorem dL_law__480 : decode cL_law_ 480 = .ok (.iconst 0, 1) := by decide +kernel
theorem dL_law__481 : decode cL_law_ 481 = .ok (.ireturn, 1) := by decide +kernel
theorem dL_law__482 : decode cL_law_ 482 = .ok (.goto 1650, 3) := by decide +kernel
theorem dL_law__485 : decode cL_law_ 485 = .ok (.aload_n 1, 1) := by decide +kernel
theorem dL_law__486 : decode cL_law_ 486 = .ok (.invokevirtual 122, 3) := by decide +kernel
theorem dL_law__489 : decode cL_law_ 489 = .ok (.aload_n 2, 1) := by decide +kernel
theorem dL_law__490 : decode cL_law_ 490 = .ok (.invokevirtual 125, 3) := by decide +kernel
theorem dL_law__493 : decode cL_law_ 493 = .ok (.if_icmp .eq 1639, 3) := by decide +kernel
theorem dL_law__496 : decode cL_law_ 496 = .ok (.iconst 0, 1) := by decide +kernel
theorem dL_law__497 : decode cL_law_ 497 = .ok (.ireturn, 1) := by decide +kernel
theorem dL_law__498 : decode cL_law_ 498 = .ok (.aload_n 1, 1) := by decide +kernel
theorem dL_law__499 : decode cL_law_ 499 = .ok (.invokevirtual 126, 3) := by decide +kernel
theorem dL_law__502 : decode cL_law_ 502 = .ok (.aload_n 2, 1) := by decide +kernel
theorem dL_law__503 : decode cL_law_ 503 = .ok (.invokevirtual 129, 3) := by decide +kernel
theorem dL_law__506 : decode cL_law_ 506 = .ok (.if_icmp .eq 1626, 3) := by decide +kernel
theorem dL_law__509 : decode cL_law_ 509 = .ok (.iconst 0, 1) := by decide +kernel
theorem dL_law__510 : decode cL_law_ 510 = .ok (.ireturn, 1) := by decide +kernel
theorem dL_law__511 : decode cL_law_ 511 = .ok (.aload_n 1, 1) := by decide +kernel
theorem dL_law__512 : decode cL_law_ 512 = .ok (.aload_n 0, 1) := by decide +kernel
theorem dL_law__513 : decode cL_law_ 513 = .ok (.iload 4, 2) := by decide +kernel
theorem dL_law__515 : decode cL_law_ 515 = .ok (.iconst 1, 1) := by decide +kernel
theorem dL_law__516 : decode cL_law_ 516 = .ok (.iadd, 1) := by decide +kernel
theorem dL_law__517 : decode cL_law_ 517 = .ok (.iaload, 1) := by decide +kernel
theorem dL_law__518 : decode cL_law_ 518 = .ok (.aload_n 3, 1) := by decide +kernel
theorem dL_law__519 : decode cL_law_ 519 = .ok (.invokestatic 130, 3) := by decide +kernel
theorem dL_law__522 : decode cL_law_ 522 = .ok (.istore 5, 2) := by decide +kernel
theorem dL_law__524 : decode cL_law_ 524 = .ok (.aload_n 2, 1) := by decide +kernel
theorem dL_law__525 : decode cL_law_ 525 = .ok (.aload_n 0, 1) := by decide +kernel
theorem dL_law__526 : decode cL_law_ 526 = .ok (.iload 4, 2) := by decide +kernel
theorem dL_law__528 : decode cL_law_ 528 = .ok (.iconst 1, 1) := by decide +kernel
theorem dL_law__529 : decode cL_law_ 529 = .ok (.iadd, 1) := by decide +kernel
theorem dL_law__530 : decode cL_law_ 530 = .ok (.iaload, 1) := by decide +kernel
theorem dL_law__531 : decode cL_law_ 531 = .ok (.invokevirtual 132, 3) := by decide +kernel
theorem dL_law__534 : decode cL_law_ 534 = .ok (.istore 6, 2) := by decide +kernel
theorem dL_law__536 : decode cL_law_ 536 = .ok (.aload_n 2, 1) := by decide +kernel
theorem dL_law__537 : decode cL_law_ 537 = .ok (.invokevirtual 109, 3) := by decide +kernel
theorem dL_law__540 : decode cL_law_ 540 = .ok (.iload 5, 2) := by decide +kernel
theorem dL_law__542 : decode cL_law_ 542 = .ok (.if_icmp .eq 5, 3) := by decide +kernel
theorem dL_law__545 : decode cL_law_ 545 = .ok (.iconst 0, 1) := by decide +kernel
theorem dL_law__546 : decode cL_law_ 546 = .ok (.ireturn, 1) := by decide +kernel
theorem dL_law__547 : decode cL_law_ 547 = .ok (.iload 5, 2) := by decide +kernel
theorem dL_law__549 : decode cL_law_ 549 = .ok (.ifCond .ne 15, 3) := by decide +kernel
theorem dL_law__552 : decode cL_law_ 552 = .ok (.aload_n 3, 1) := by decide +kernel
theorem dL_law__553 : decode cL_law_ 553 = .ok (.iconst 0, 1) := by decide +kernel
theorem dL_law__554 : decode cL_law_ 554 = .ok (.laload, 1) := by decide +kernel
theorem dL_law__555 : decode cL_law_ 555 = .ok (.iload 6, 2) := by decide +kernel
theorem dL_law__557 : decode cL_law_ 557 = .ok (.i2l, 1) := by decide +kernel
theorem dL_law__558 : decode cL_law_ 558 = .ok (.lcmp, 1) := by decide +kernel
theorem dL_law__559 : decode cL_law_ 559 = .ok (.ifCond .eq 5, 3) := by decide +kernel
theorem dL_law__562 : decode cL_law_ 562 = .ok (.iconst 0, 1) := by decide +kernel
theorem dL_law__563 : decode cL_law_ 563 = .ok (.ireturn, 1) := by decide +kernel
theorem dL_law__564 : decode cL_law_ 564 = .ok (.goto 1568, 3) := by decide +kernel
theorem dL_law__567 : decode cL_law_ 567 = .ok (.aload_n 1, 1) := by decide +kernel
theorem dL_law__568 : decode cL_law_ 568 = .ok (.aload_n 0, 1) := by decide +kernel
theorem dL_law__569 : decode cL_law_ 569 = .ok (.iload 4, 2) := by decide +kernel
theorem dL_law__571 : decode cL_law_ 571 = .ok (.iconst 1, 1) := by decide +kernel
theorem dL_law__572 : decode cL_law_ 572 = .ok (.iadd, 1) := by decide +kernel
theorem dL_law__573 : decode cL_law_ 573 = .ok (.iaload, 1) := by decide +kernel
theorem dL_law__574 : decode cL_law_ 574 = .ok (.aload_n 0, 1) := by decide +kernel
theorem dL_law__575 : decode cL_law_ 575 = .ok (.iload 4, 2) := by decide +kernel
theorem dL_law__577 : decode cL_law_ 577 = .ok (.iconst 2, 1) := by decide +kernel
theorem dL_law__578 : decode cL_law_ 578 = .ok (.iadd, 1) := by decide +kernel
theorem dL_law__579 : decode cL_law_ 579 = .ok (.iaload, 1) := by decide +kernel
theorem dL_law__580 : decode cL_law_ 580 = .ok (.aload_n 3, 1) := by decide +kernel
theorem dL_law__581 : decode cL_law_ 581 = .ok (.invokestatic 133, 3) := by decide +kernel
theorem dL_law__584 : decode cL_law_ 584 = .ok (.istore 5, 2) := by decide +kernel
theorem dL_law__586 : decode cL_law_ 586 = .ok (.aload_n 2, 1) := by decide +kernel
theorem dL_law__587 : decode cL_law_ 587 = .ok (.aload_n 0, 1) := by decide +kernel
theorem dL_law__588 : decode cL_law_ 588 = .ok (.iload 4, 2) := by decide +kernel
theorem dL_law__590 : decode cL_law_ 590 = .ok (.iconst 1, 1) := by decide +kernel
theorem dL_law__591 : decode cL_law_ 591 = .ok (.iadd, 1) := by decide +kernel
theorem dL_law__592 : decode cL_law_ 592 = .ok (.iaload, 1) := by decide +kernel
theorem dL_law__593 : decode cL_law_ 593 = .ok (.aload_n 0, 1) := by decide +kernel
theorem dL_law__594 : decode cL_law_ 594 = .ok (.iload 4, 2) := by decide +kernel
theorem dL_law__596 : decode cL_law_ 596 = .ok (.iconst 2, 1) := by decide +kernel
theorem dL_law__597 : decode cL_law_ 597 = .ok (.iadd, 1) := by decide +kernel
theorem dL_law__598 : decode cL_law_ 598 = .ok (.iaload, 1) := by decide +kernel
theorem dL_law__599 : decode cL_law_ 599 = .ok (.invokevirtual 136, 3) := by decide +kernel
theorem dL_law__602 : decode cL_law_ 602 = .ok (.istore 6, 2) := by decide +kernel
theorem dL_law__604 : decode cL_law_ 604 = .ok (.aload_n 2, 1) := by decide +kernel
theorem dL_law__605 : decode cL_law_ 605 = .ok (.invokevirtual 109, 3) := by decide +kernel
theorem dL_law__608 : decode cL_law_ 608 = .ok (.iload 5, 2) := by decide +kernel
theorem dL_law__610 : decode cL_law_ 610 = .ok (.if_icmp .eq 5, 3) := by decide +kernel
theorem dL_law__613 : decode cL_law_ 613 = .ok (.iconst 0, 1) := by decide +kernel
theorem dL_law__614 : decode cL_law_ 614 = .ok (.ireturn, 1) := by decide +kernel
theorem dL_law__615 : decode cL_law_ 615 = .ok (.iload 5, 2) := by decide +kernel
theorem dL_law__617 : decode cL_law_ 617 = .ok (.ifCond .ne 15, 3) := by decide +kernel
theorem dL_law__620 : decode cL_law_ 620 = .ok (.aload_n 3, 1) := by decide +kernel
theorem dL_law__621 : decode cL_law_ 621 = .ok (.iconst 0, 1) := by decide +kernel
theorem dL_law__622 : decode cL_law_ 622 = .ok (.laload, 1) := by decide +kernel
theorem dL_law__623 : decode cL_law_ 623 = .ok (.iload 6, 2) := by decide +kernel
theorem dL_law__625 : decode cL_law_ 625 = .ok (.i2l, 1) := by decide +kernel
theorem dL_law__626 : decode cL_law_ 626 = .ok (.lcmp, 1) := by decide +kernel
theorem dL_law__627 : decode cL_law_ 627 = .ok (.ifCond .eq 5, 3) := by decide +kernel
theorem dL_law__630 : decode cL_law_ 630 = .ok (.iconst 0, 1) := by decide +kernel
theorem dL_law__631 : decode cL_law_ 631 = .ok (.ireturn, 1) := by decide +kernel
theorem dL_law__632 : decode cL_law_ 632 = .ok (.goto 1500, 3) := by decide +kernel
theorem dL_law__635 : decode cL_law_ 635 = .ok (.aload_n 1, 1) := by decide +kernel
theorem dL_law__636 : decode cL_law_ 636 = .ok (.aload_n 0, 1) := by decide +kernel
theorem dL_law__637 : decode cL_law_ 637 = .ok (.iload 4, 2) := by decide +kernel
theorem dL_law__639 : decode cL_law_ 639 = .ok (.iconst 1, 1) := by decide +kernel
theorem dL_law__640 : decode cL_law_ 640 = .ok (.iadd, 1) := by decide +kernel
theorem dL_law__641 : decode cL_law_ 641 = .ok (.iaload, 1) := by decide +kernel
theorem dL_law__642 : decode cL_law_ 642 = .ok (.aload_n 0, 1) := by decide +kernel
theorem dL_law__643 : decode cL_law_ 643 = .ok (.iload 4, 2) := by decide +kernel
theorem dL_law__645 : decode cL_law_ 645 = .ok (.iconst 2, 1) := by decide +kernel
theorem dL_law__646 : decode cL_law_ 646 = .ok (.iadd, 1) := by decide +kernel
theorem dL_law__647 : decode cL_law_ 647 = .ok (.iaload, 1) := by decide +kernel
theorem dL_law__648 : decode cL_law_ 648 = .ok (.aload_n 0, 1) := by decide +kernel
theorem dL_law__649 : decode cL_law_ 649 = .ok (.iload 4, 2) := by decide +kernel
theorem dL_law__651 : decode cL_law_ 651 = .ok (.iconst 3, 1) := by decide +kernel
theorem dL_law__652 : decode cL_law_ 652 = .ok (.iadd, 1) := by decide +kernel
theorem dL_law__653 : decode cL_law_ 653 = .ok (.iaload, 1) := by decide +kernel
theorem dL_law__654 : decode cL_law_ 654 = .ok (.aload_n 3, 1) := by decide +kernel
theorem dL_law__655 : decode cL_law_ 655 = .ok (.invokestatic 137, 3) := by decide +kernel
theorem dL_law__658 : decode cL_law_ 658 = .ok (.istore 5, 2) := by decide +kernel
theorem dL_law__660 : decode cL_law_ 660 = .ok (.aload_n 2, 1) := by decide +kernel
theorem dL_law__661 : decode cL_law_ 661 = .ok (.aload_n 0, 1) := by decide +kernel
theorem dL_law__662 : decode cL_law_ 662 = .ok (.iload 4, 2) := by decide +kernel
theorem dL_law__664 : decode cL_law_ 664 = .ok (.iconst 1, 1) := by decide +kernel
theorem dL_law__665 : decode cL_law_ 665 = .ok (.iadd, 1) := by decide +kernel
theorem dL_law__666 : decode cL_law_ 666 = .ok (.iaload, 1) := by decide +kernel
theorem dL_law__667 : decode cL_law_ 667 = .ok (.aload_n 0, 1) := by decide +kernel
theorem dL_law__668 : decode cL_law_ 668 = .ok (.iload 4, 2) := by decide +kernel
theorem dL_law__670 : decode cL_law_ 670 = .ok (.iconst 2, 1) := by decide +kernel
theorem dL_law__671 : decode cL_law_ 671 = .ok (.iadd, 1) := by decide +kernel
theorem dL_law__672 : decode cL_law_ 672 = .ok (.iaload, 1) := by decide +kernel
theorem dL_law__673 : decode cL_law_ 673 = .ok (.aload_n 0, 1) := by decide +kernel
theorem dL_law__674 : decode cL_law_ 674 = .ok (.iload 4, 2) := by decide +kernel
theorem dL_law__676 : decode cL_law_ 676 = .ok (.iconst 3, 1) := by decide +kernel
theorem dL_law__677 : decode cL_law_ 677 = .ok (.iadd, 1) := by decide +kernel
theorem dL_law__678 : decode cL_law_ 678 = .ok (.iaload, 1) := by decide +kernel
theorem dL_law__679 : decode cL_law_ 679 = .ok (.invokevirtual 140, 3) := by decide +kernel
theorem dL_law__682 : decode cL_law_ 682 = .ok (.istore 6, 2) := by decide +kernel
theorem dL_law__684 : decode cL_law_ 684 = .ok (.aload_n 2, 1) := by decide +kernel
theorem dL_law__685 : decode cL_law_ 685 = .ok (.invokevirtual 109, 3) := by decide +kernel
theorem dL_law__688 : decode cL_law_ 688 = .ok (.iload 5, 2) := by decide +kernel
theorem dL_law__690 : decode cL_law_ 690 = .ok (.if_icmp .eq 5, 3) := by decide +kernel
theorem dL_law__693 : decode cL_law_ 693 = .ok (.iconst 0, 1) := by decide +kernel
theorem dL_law__694 : decode cL_law_ 694 = .ok (.ireturn, 1) := by decide +kernel
theorem dL_law__695 : decode cL_law_ 695 = .ok (.iload 5, 2) := by decide +kernel
theorem dL_law__697 : decode cL_law_ 697 = .ok (.ifCond .ne 15, 3) := by decide +kernel
theorem dL_law__700 : decode cL_law_ 700 = .ok (.aload_n 3, 1) := by decide +kernel
theorem dL_law__701 : decode cL_law_ 701 = .ok (.iconst 0, 1) := by decide +kernel
theorem dL_law__702 : decode cL_law_ 702 = .ok (.laload, 1) := by decide +kernel
theorem dL_law__703 : decode cL_law_ 703 = .ok (.iload 6, 2) := by decide +kernel
theorem dL_law__705 : decode cL_law_ 705 = .ok (.i2l, 1) := by decide +kernel
theorem dL_law__706 : decode cL_law_ 706 = .ok (.lcmp, 1) := by decide +kernel
theorem dL_law__707 : decode cL_law_ 707 = .ok (.ifCond .eq 5, 3) := by decide +kernel
theorem dL_law__710 : decode cL_law_ 710 = .ok (.iconst 0, 1) := by decide +kernel
theorem dL_law__711 : decode cL_law_ 711 = .ok (.ireturn, 1) := by decide +kernel
theorem dL_law__712 : decode cL_law_ 712 = .ok (.goto 1420, 3) := by decide +kernel
theorem dL_law__715 : decode cL_law_ 715 = .ok (.aload_n 1, 1) := by decide +kernel
theorem dL_law__716 : decode cL_law_ 716 = .ok (.aload_n 0, 1) := by decide +kernel
theorem dL_law__717 : decode cL_law_ 717 = .ok (.iload 4, 2) := by decide +kernel
theorem dL_law__719 : decode cL_law_ 719 = .ok (.iconst 1, 1) := by decide +kernel
theorem dL_law__720 : decode cL_law_ 720 = .ok (.iadd, 1) := by decide +kernel
theorem dL_law__721 : decode cL_law_ 721 = .ok (.iaload, 1) := by decide +kernel
theorem dL_law__722 : decode cL_law_ 722 = .ok (.aload_n 0, 1) := by decide +kernel
theorem dL_law__723 : decode cL_law_ 723 = .ok (.iload 4, 2) := by decide +kernel
theorem dL_law__725 : decode cL_law_ 725 = .ok (.iconst 2, 1) := by decide +kernel
theorem dL_law__726 : decode cL_law_ 726 = .ok (.iadd, 1) := by decide +kernel
theorem dL_law__727 : decode cL_law_ 727 = .ok (.iaload, 1) := by decide +kernel
theorem dL_law__728 : decode cL_law_ 728 = .ok (.aload_n 0, 1) := by decide +kernel
theorem dL_law__729 : decode cL_law_ 729 = .ok (.iload 4, 2) := by decide +kernel
theorem dL_law__731 : decode cL_law_ 731 = .ok (.iconst 3, 1) := by decide +kernel
theorem dL_law__732 : decode cL_law_ 732 = .ok (.iadd, 1) := by decide +kernel
theorem dL_law__733 : decode cL_law_ 733 = .ok (.iaload, 1) := by decide +kernel
theorem dL_law__734 : decode cL_law_ 734 = .ok (.aload_n 3, 1) := by decide +kernel
theorem dL_law__735 : decode cL_law_ 735 = .ok (.invokestatic 141, 3) := by decide +kernel
theorem dL_law__738 : decode cL_law_ 738 = .ok (.istore 5, 2) := by decide +kernel
theorem dL_law__740 : decode cL_law_ 740 = .ok (.aload_n 2, 1) := by decide +kernel
theorem dL_law__741 : decode cL_law_ 741 = .ok (.aload_n 0, 1) := by decide +kernel
theorem dL_law__742 : decode cL_law_ 742 = .ok (.iload 4, 2) := by decide +kernel
theorem dL_law__744 : decode cL_law_ 744 = .ok (.iconst 1, 1) := by decide +kernel
theorem dL_law__745 : decode cL_law_ 745 = .ok (.iadd, 1) := by decide +kernel
theorem dL_law__746 : decode cL_law_ 746 = .ok (.iaload, 1) := by decide +kernel
theorem dL_law__747 : decode cL_law_ 747 = .ok (.aload_n 0, 1) := by decide +kernel
theorem dL_law__748 : decode cL_law_ 748 = .ok (.iload 4, 2) := by decide +kernel
theorem dL_law__750 : decode cL_law_ 750 = .ok (.iconst 2, 1) := by decide +kernel
theorem dL_law__751 : decode cL_law_ 751 = .ok (.iadd, 1) := by decide +kernel
theorem dL_law__752 : decode cL_law_ 752 = .ok (.iaload, 1) := by decide +kernel
theorem dL_law__753 : decode cL_law_ 753 = .ok (.aload_n 0, 1) := by decide +kernel
theorem dL_law__754 : decode cL_law_ 754 = .ok (.iload 4, 2) := by decide +kernel
theorem dL_law__756 : decode cL_law_ 756 = .ok (.iconst 3, 1) := by decide +kernel
theorem dL_law__757 : decode cL_law_ 757 = .ok (.iadd, 1) := by decide +kernel
theorem dL_law__758 : decode cL_law_ 758 = .ok (.iaload, 1) := by decide +kernel
theorem dL_law__759 : decode cL_law_ 759 = .ok (.invokevirtual 143, 3) := by decide +kernel
theorem dL_law__762 : decode cL_law_ 762 = .ok (.istore 6, 2) := by decide +kernel
theorem dL_law__764 : decode cL_law_ 764 = .ok (.aload_n 2, 1) := by decide +kernel
theorem dL_law__765 : decode cL_law_ 765 = .ok (.invokevirtual 109, 3) := by decide +kernel
theorem dL_law__768 : decode cL_law_ 768 = .ok (.iload 5, 2) := by decide +kernel
theorem dL_law__770 : decode cL_law_ 770 = .ok (.if_icmp .eq 5, 3) := by decide +kernel
theorem dL_law__773 : decode cL_law_ 773 = .ok (.iconst 0, 1) := by decide +kernel
theorem dL_law__774 : decode cL_law_ 774 = .ok (.ireturn, 1) := by decide +kernel
theorem dL_law__775 : decode cL_law_ 775 = .ok (.iload 5, 2) := by decide +kernel
theorem dL_law__777 : decode cL_law_ 777 = .ok (.ifCond .ne 15, 3) := by decide +kernel
theorem dL_law__780 : decode cL_law_ 780 = .ok (.aload_n 3, 1) := by decide +kernel
theorem dL_law__781 : decode cL_law_ 781 = .ok (.iconst 0, 1) := by decide +kernel
theorem dL_law__782 : decode cL_law_ 782 = .ok (.laload, 1) := by decide +kernel
theorem dL_law__783 : decode cL_law_ 783 = .ok (.iload 6, 2) := by decide +kernel
theorem dL_law__785 : decode cL_law_ 785 = .ok (.i2l, 1) := by decide +kernel
theorem dL_law__786 : decode cL_law_ 786 = .ok (.lcmp, 1) := by decide +kernel
theorem dL_law__787 : decode cL_law_ 787 = .ok (.ifCond .eq 5, 3) := by decide +kernel
theorem dL_law__790 : decode cL_law_ 790 = .ok (.iconst 0, 1) := by decide +kernel
theorem dL_law__791 : decode cL_law_ 791 = .ok (.ireturn, 1) := by decide +kernel
theorem dL_law__792 : decode cL_law_ 792 = .ok (.goto 1340, 3) := by decide +kernel
theorem dL_law__795 : decode cL_law_ 795 = .ok (.aload_n 1, 1) := by decide +kernel
theorem dL_law__796 : decode cL_law_ 796 = .ok (.aload_n 0, 1) := by decide +kernel
theorem dL_law__797 : decode cL_law_ 797 = .ok (.iload 4, 2) := by decide +kernel
theorem dL_law__799 : decode cL_law_ 799 = .ok (.iconst 1, 1) := by decide +kernel
theorem dL_law__800 : decode cL_law_ 800 = .ok (.iadd, 1) := by decide +kernel
theorem dL_law__801 : decode cL_law_ 801 = .ok (.iaload, 1) := by decide +kernel
theorem dL_law__802 : decode cL_law_ 802 = .ok (.aload_n 0, 1) := by decide +kernel
theorem dL_law__803 : decode cL_law_ 803 = .ok (.iload 4, 2) := by decide +kernel
theorem dL_law__805 : decode cL_law_ 805 = .ok (.iconst 2, 1) := by decide +kernel
theorem dL_law__806 : decode cL_law_ 806 = .ok (.iadd, 1) := by decide +kernel
theorem dL_law__807 : decode cL_law_ 807 = .ok (.iaload, 1) := by decide +kernel
theorem dL_law__808 : decode cL_law_ 808 = .ok (.aload_n 0, 1) := by decide +kernel
theorem dL_law__809 : decode cL_law_ 809 = .ok (.iload 4, 2) := by decide +kernel
theorem dL_law__811 : decode cL_law_ 811 = .ok (.iconst 3, 1) := by decide +kernel
theorem dL_law__812 : decode cL_law_ 812 = .ok (.iadd, 1) := by decide +kernel
theorem dL_law__813 : decode cL_law_ 813 = .ok (.iaload, 1) := by decide +kernel
theorem dL_law__814 : decode cL_law_ 814 = .ok (.aload_n 0, 1) := by decide +kernel
theorem dL_law__815 : decode cL_law_ 815 = .ok (.iload 4, 2) := by decide +kernel
theorem dL_law__817 : decode cL_law_ 817 = .ok (.iconst 4, 1) := by decide +kernel
theorem dL_law__818 : decode cL_law_ 818 = .ok (.iadd, 1) := by decide +kernel
theorem dL_law__819 : decode cL_law_ 819 = .ok (.iaload, 1) := by decide +kernel
theorem dL_law__820 : decode cL_law_ 820 = .ok (.aload_n 0, 1) := by decide +kernel
theorem dL_law__821 : decode cL_law_ 821 = .ok (.iload 4, 2) := by decide +kernel
theorem dL_law__823 : decode cL_law_ 823 = .ok (.iconst 5, 1) := by decide +kernel
theorem dL_law__824 : decode cL_law_ 824 = .ok (.iadd, 1) := by decide +kernel
theorem dL_law__825 : decode cL_law_ 825 = .ok (.iaload, 1) := by decide +kernel
theorem dL_law__826 : decode cL_law_ 826 = .ok (.aload_n 0, 1) := by decide +kernel
theorem dL_law__827 : decode cL_law_ 827 = .ok (.iload 4, 2) := by decide +kernel
theorem dL_law__829 : decode cL_law_ 829 = .ok (.bipush 6, 2) := by decide +kernel
theorem dL_law__831 : decode cL_law_ 831 = .ok (.iadd, 1) := by decide +kernel
theorem dL_law__832 : decode cL_law_ 832 = .ok (.iaload, 1) := by decide +kernel
theorem dL_law__833 : decode cL_law_ 833 = .ok (.aload_n 0, 1) := by decide +kernel
theorem dL_law__834 : decode cL_law_ 834 = .ok (.iload 4, 2) := by decide +kernel
theorem dL_law__836 : decode cL_law_ 836 = .ok (.bipush 7, 2) := by decide +kernel
theorem dL_law__838 : decode cL_law_ 838 = .ok (.iadd, 1) := by decide +kernel
theorem dL_law__839 : decode cL_law_ 839 = .ok (.iaload, 1) := by decide +kernel
theorem dL_law__840 : decode cL_law_ 840 = .ok (.aload_n 0, 1) := by decide +kernel
theorem dL_law__841 : decode cL_law_ 841 = .ok (.iload 4, 2) := by decide +kernel
theorem dL_law__843 : decode cL_law_ 843 = .ok (.bipush 8, 2) := by decide +kernel
theorem dL_law__845 : decode cL_law_ 845 = .ok (.iadd, 1) := by decide +kernel
theorem dL_law__846 : decode cL_law_ 846 = .ok (.iaload, 1) := by decide +kernel
theorem dL_law__847 : decode cL_law_ 847 = .ok (.aload_n 3, 1) := by decide +kernel
theorem dL_law__848 : decode cL_law_ 848 = .ok (.invokestatic 144, 3) := by decide +kernel
theorem dL_law__851 : decode cL_law_ 851 = .ok (.istore 5, 2) := by decide +kernel
theorem dL_law__853 : decode cL_law_ 853 = .ok (.aload_n 2, 1) := by decide +kernel
theorem dL_law__854 : decode cL_law_ 854 = .ok (.aload_n 0, 1) := by decide +kernel
theorem dL_law__855 : decode cL_law_ 855 = .ok (.iload 4, 2) := by decide +kernel
theorem dL_law__857 : decode cL_law_ 857 = .ok (.iconst 1, 1) := by decide +kernel
theorem dL_law__858 : decode cL_law_ 858 = .ok (.iadd, 1) := by decide +kernel
theorem dL_law__859 : decode cL_law_ 859 = .ok (.iaload, 1) := by decide +kernel
theorem dL_law__860 : decode cL_law_ 860 = .ok (.aload_n 0, 1) := by decide +kernel
theorem dL_law__861 : decode cL_law_ 861 = .ok (.iload 4, 2) := by decide +kernel
theorem dL_law__863 : decode cL_law_ 863 = .ok (.iconst 2, 1) := by decide +kernel
theorem dL_law__864 : decode cL_law_ 864 = .ok (.iadd, 1) := by decide +kernel
theorem dL_law__865 : decode cL_law_ 865 = .ok (.iaload, 1) := by decide +kernel
theorem dL_law__866 : decode cL_law_ 866 = .ok (.aload_n 0, 1) := by decide +kernel
theorem dL_law__867 : decode cL_law_ 867 = .ok (.iload 4, 2) := by decide +kernel
theorem dL_law__869 : decode cL_law_ 869 = .ok (.iconst 3, 1) := by decide +kernel
theorem dL_law__870 : decode cL_law_ 870 = .ok (.iadd, 1) := by decide +kernel
theorem dL_law__871 : decode cL_law_ 871 = .ok (.iaload, 1) := by decide +kernel
theorem dL_law__872 : decode cL_law_ 872 = .ok (.aload_n 0, 1) := by decide +kernel
theorem dL_law__873 : decode cL_law_ 873 = .ok (.iload 4, 2) := by decide +kernel
theorem dL_law__875 : decode cL_law_ 875 = .ok (.iconst 4, 1) := by decide +kernel
theorem dL_law__876 : decode cL_law_ 876 = .ok (.iadd, 1) := by decide +kernel
theorem dL_law__877 : decode cL_law_ 877 = .ok (.iaload, 1) := by decide +kernel
theorem dL_law__878 : decode cL_law_ 878 = .ok (.aload_n 0, 1) := by decide +kernel
theorem dL_law__879 : decode cL_law_ 879 = .ok (.iload 4, 2) := by decide +kernel
theorem dL_law__881 : decode cL_law_ 881 = .ok (.iconst 5, 1) := by decide +kernel
theorem dL_law__882 : decode cL_law_ 882 = .ok (.iadd, 1) := by decide +kernel
theorem dL_law__883 : decode cL_law_ 883 = .ok (.iaload, 1) := by decide +kernel
theorem dL_law__884 : decode cL_law_ 884 = .ok (.aload_n 0, 1) := by decide +kernel
theorem dL_law__885 : decode cL_law_ 885 = .ok (.iload 4, 2) := by decide +kernel
theorem dL_law__887 : decode cL_law_ 887 = .ok (.bipush 6, 2) := by decide +kernel
theorem dL_law__889 : decode cL_law_ 889 = .ok (.iadd, 1) := by decide +kernel
theorem dL_law__890 : decode cL_law_ 890 = .ok (.iaload, 1) := by decide +kernel
theorem dL_law__891 : decode cL_law_ 891 = .ok (.aload_n 0, 1) := by decide +kernel
theorem dL_law__892 : decode cL_law_ 892 = .ok (.iload 4, 2) := by decide +kernel
theorem dL_law__894 : decode cL_law_ 894 = .ok (.bipush 7, 2) := by decide +kernel
theorem dL_law__896 : decode cL_law_ 896 = .ok (.iadd, 1) := by decide +kernel
theorem dL_law__897 : decode cL_law_ 897 = .ok (.iaload, 1) := by decide +kernel
theorem dL_law__898 : decode cL_law_ 898 = .ok (.aload_n 0, 1) := by decide +kernel
theorem dL_law__899 : decode cL_law_ 899 = .ok (.iload 4, 2) := by decide +kernel
theorem dL_law__901 : decode cL_law_ 901 = .ok (.bipush 8, 2) := by decide +kernel
theorem dL_law__903 : decode cL_law_ 903 = .ok (.iadd, 1) := by decide +kernel
theorem dL_law__904 : decode cL_law_ 904 = .ok (.iaload, 1) := by decide +kernel
theorem dL_law__905 : decode cL_law_ 905 = .ok (.invokevirtual 147, 3) := by decide +kernel
theorem dL_law__908 : decode cL_law_ 908 = .ok (.istore 6, 2) := by decide +kernel
theorem dL_law__910 : decode cL_law_ 910 = .ok (.aload_n 2, 1) := by decide +kernel
theorem dL_law__911 : decode cL_law_ 911 = .ok (.invokevirtual 109, 3) := by decide +kernel
theorem dL_law__914 : decode cL_law_ 914 = .ok (.iload 5, 2) := by decide +kernel
theorem dL_law__916 : decode cL_law_ 916 = .ok (.if_icmp .eq 5, 3) := by decide +kernel
theorem dL_law__919 : decode cL_law_ 919 = .ok (.iconst 0, 1) := by decide +kernel
theorem dL_law__920 : decode cL_law_ 920 = .ok (.ireturn, 1) := by decide +kernel
theorem dL_law__921 : decode cL_law_ 921 = .ok (.iload 5, 2) := by decide +kernel
theorem dL_law__923 : decode cL_law_ 923 = .ok (.ifCond .ne 15, 3) := by decide +kernel
theorem dL_law__926 : decode cL_law_ 926 = .ok (.aload_n 3, 1) := by decide +kernel
theorem dL_law__927 : decode cL_law_ 927 = .ok (.iconst 0, 1) := by decide +kernel
theorem dL_law__928 : decode cL_law_ 928 = .ok (.laload, 1) := by decide +kernel
theorem dL_law__929 : decode cL_law_ 929 = .ok (.iload 6, 2) := by decide +kernel
theorem dL_law__931 : decode cL_law_ 931 = .ok (.i2l, 1) := by decide +kernel
theorem dL_law__932 : decode cL_law_ 932 = .ok (.lcmp, 1) := by decide +kernel
theorem dL_law__933 : decode cL_law_ 933 = .ok (.ifCond .eq 5, 3) := by decide +kernel
theorem dL_law__936 : decode cL_law_ 936 = .ok (.iconst 0, 1) := by decide +kernel
theorem dL_law__937 : decode cL_law_ 937 = .ok (.ireturn, 1) := by decide +kernel
theorem dL_law__938 : decode cL_law_ 938 = .ok (.goto 1194, 3) := by decide +kernel
theorem dL_law__941 : decode cL_law_ 941 = .ok (.aload_n 1, 1) := by decide +kernel
theorem dL_law__942 : decode cL_law_ 942 = .ok (.aload_n 0, 1) := by decide +kernel
theorem dL_law__943 : decode cL_law_ 943 = .ok (.iload 4, 2) := by decide +kernel
theorem dL_law__945 : decode cL_law_ 945 = .ok (.iconst 1, 1) := by decide +kernel
theorem dL_law__946 : decode cL_law_ 946 = .ok (.iadd, 1) := by decide +kernel
theorem dL_law__947 : decode cL_law_ 947 = .ok (.iaload, 1) := by decide +kernel
theorem dL_law__948 : decode cL_law_ 948 = .ok (.aload_n 0, 1) := by decide +kernel
theorem dL_law__949 : decode cL_law_ 949 = .ok (.iload 4, 2) := by decide +kernel
theorem dL_law__951 : decode cL_law_ 951 = .ok (.iconst 2, 1) := by decide +kernel
theorem dL_law__952 : decode cL_law_ 952 = .ok (.iadd, 1) := by decide +kernel
theorem dL_law__953 : decode cL_law_ 953 = .ok (.iaload, 1) := by decide +kernel
theorem dL_law__954 : decode cL_law_ 954 = .ok (.aload_n 0, 1) := by decide +kernel
theorem dL_law__955 : decode cL_law_ 955 = .ok (.iload 4, 2) := by decide +kernel
theorem dL_law__957 : decode cL_law_ 957 = .ok (.iconst 3, 1) := by decide +kernel
theorem dL_law__958 : decode cL_law_ 958 = .ok (.iadd, 1) := by decide +kernel
theorem dL_law__959 : decode cL_law_ 959 = .ok (.iaload, 1) := by decide +kernel
theorem dL_law__960 : decode cL_law_ 960 = .ok (.aload_n 3, 1) := by decide +kernel
theorem dL_law__961 : decode cL_law_ 961 = .ok (.invokestatic 148, 3) := by decide +kernel
theorem dL_law__964 : decode cL_law_ 964 = .ok (.istore 5, 2) := by decide +kernel
theorem dL_law__966 : decode cL_law_ 966 = .ok (.aload_n 2, 1) := by decide +kernel
theorem dL_law__967 : decode cL_law_ 967 = .ok (.aload_n 0, 1) := by decide +kernel
theorem dL_law__968 : decode cL_law_ 968 = .ok (.iload 4, 2) := by decide +kernel
theorem dL_law__970 : decode cL_law_ 970 = .ok (.iconst 1, 1) := by decide +kernel
theorem dL_law__971 : decode cL_law_ 971 = .ok (.iadd, 1) := by decide +kernel
theorem dL_law__972 : decode cL_law_ 972 = .ok (.iaload, 1) := by decide +kernel
theorem dL_law__973 : decode cL_law_ 973 = .ok (.aload_n 0, 1) := by decide +kernel
theorem dL_law__974 : decode cL_law_ 974 = .ok (.iload 4, 2) := by decide +kernel
theorem dL_law__976 : decode cL_law_ 976 = .ok (.iconst 2, 1) := by decide +kernel
theorem dL_law__977 : decode cL_law_ 977 = .ok (.iadd, 1) := by decide +kernel
theorem dL_law__978 : decode cL_law_ 978 = .ok (.iaload, 1) := by decide +kernel
theorem dL_law__979 : decode cL_law_ 979 = .ok (.aload_n 0, 1) := by decide +kernel
theorem dL_law__980 : decode cL_law_ 980 = .ok (.iload 4, 2) := by decide +kernel
theorem dL_law__982 : decode cL_law_ 982 = .ok (.iconst 3, 1) := by decide +kernel
theorem dL_law__983 : decode cL_law_ 983 = .ok (.iadd, 1) := by decide +kernel
theorem dL_law__984 : decode cL_law_ 984 = .ok (.iaload, 1) := by decide +kernel
theorem dL_law__985 : decode cL_law_ 985 = .ok (.invokevirtual 150, 3) := by decide +kernel
theorem dL_law__988 : decode cL_law_ 988 = .ok (.istore 6, 2) := by decide +kernel
theorem dL_law__990 : decode cL_law_ 990 = .ok (.aload_n 2, 1) := by decide +kernel
theorem dL_law__991 : decode cL_law_ 991 = .ok (.invokevirtual 109, 3) := by decide +kernel
theorem dL_law__994 : decode cL_law_ 994 = .ok (.iload 5, 2) := by decide +kernel
theorem dL_law__996 : decode cL_law_ 996 = .ok (.if_icmp .eq 5, 3) := by decide +kernel
theorem dL_law__999 : decode cL_law_ 999 = .ok (.iconst 0, 1) := by decide +kernel
theorem dL_law__1000 : decode cL_law_ 1000 = .ok (.ireturn, 1) := by decide +kernel
theorem dL_law__1001 : decode cL_law_ 1001 = .ok (.iload 5, 2) := by decide +kernel
theorem dL_law__1003 : decode cL_law_ 1003 = .ok (.ifCond .ne 15, 3) := by decide +kernel
theorem dL_law__1006 : decode cL_law_ 1006 = .ok (.aload_n 3, 1) := by decide +kernel
theorem dL_law__1007 : decode cL_law_ 1007 = .ok (.iconst 0, 1) := by decide +kernel
theorem dL_law__1008 : decode cL_law_ 1008 = .ok (.laload, 1) := by decide +kernel
theorem dL_law__1009 : decode cL_law_ 1009 = .ok (.iload 6, 2) := by decide +kernel
theorem dL_law__1011 : decode cL_law_ 1011 = .ok (.i2l, 1) := by decide +kernel
theorem dL_law__1012 : decode cL_law_ 1012 = .ok (.lcmp, 1) := by decide +kernel
theorem dL_law__1013 : decode cL_law_ 1013 = .ok (.ifCond .eq 5, 3) := by decide +kernel
theorem dL_law__1016 : decode cL_law_ 1016 = .ok (.iconst 0, 1) := by decide +kernel
theorem dL_law__1017 : decode cL_law_ 1017 = .ok (.ireturn, 1) := by decide +kernel
theorem dL_law__1018 : decode cL_law_ 1018 = .ok (.goto 1114, 3) := by decide +kernel
theorem dL_law__1021 : decode cL_law_ 1021 = .ok (.aload_n 1, 1) := by decide +kernel
theorem dL_law__1022 : decode cL_law_ 1022 = .ok (.aload_n 0, 1) := by decide +kernel
theorem dL_law__1023 : decode cL_law_ 1023 = .ok (.iload 4, 2) := by decide +kernel
theorem dL_law__1025 : decode cL_law_ 1025 = .ok (.iconst 1, 1) := by decide +kernel
theorem dL_law__1026 : decode cL_law_ 1026 = .ok (.iadd, 1) := by decide +kernel
theorem dL_law__1027 : decode cL_law_ 1027 = .ok (.iaload, 1) := by decide +kernel
theorem dL_law__1028 : decode cL_law_ 1028 = .ok (.aload_n 0, 1) := by decide +kernel
theorem dL_law__1029 : decode cL_law_ 1029 = .ok (.iload 4, 2) := by decide +kernel
theorem dL_law__1031 : decode cL_law_ 1031 = .ok (.iconst 2, 1) := by decide +kernel
theorem dL_law__1032 : decode cL_law_ 1032 = .ok (.iadd, 1) := by decide +kernel
theorem dL_law__1033 : decode cL_law_ 1033 = .ok (.iaload, 1) := by decide +kernel
theorem dL_law__1034 : decode cL_law_ 1034 = .ok (.aload_n 0, 1) := by decide +kernel
theorem dL_law__1035 : decode cL_law_ 1035 = .ok (.iload 4, 2) := by decide +kernel
theorem dL_law__1037 : decode cL_law_ 1037 = .ok (.iconst 3, 1) := by decide +kernel
theorem dL_law__1038 : decode cL_law_ 1038 = .ok (.iadd, 1) := by decide +kernel
theorem dL_law__1039 : decode cL_law_ 1039 = .ok (.iaload, 1) := by decide +kernel
theorem dL_law__1040 : decode cL_law_ 1040 = .ok (.aload_n 3, 1) := by decide +kernel
theorem dL_law__1041 : decode cL_law_ 1041 = .ok (.invokestatic 151, 3) := by decide +kernel
theorem dL_law__1044 : decode cL_law_ 1044 = .ok (.istore 5, 2) := by decide +kernel
theorem dL_law__1046 : decode cL_law_ 1046 = .ok (.aload_n 2, 1) := by decide +kernel
theorem dL_law__1047 : decode cL_law_ 1047 = .ok (.aload_n 0, 1) := by decide +kernel
theorem dL_law__1048 : decode cL_law_ 1048 = .ok (.iload 4, 2) := by decide +kernel
theorem dL_law__1050 : decode cL_law_ 1050 = .ok (.iconst 1, 1) := by decide +kernel
theorem dL_law__1051 : decode cL_law_ 1051 = .ok (.iadd, 1) := by decide +kernel
theorem dL_law__1052 : decode cL_law_ 1052 = .ok (.iaload, 1) := by decide +kernel
theorem dL_law__1053 : decode cL_law_ 1053 = .ok (.aload_n 0, 1) := by decide +kernel
theorem dL_law__1054 : decode cL_law_ 1054 = .ok (.iload 4, 2) := by decide +kernel
theorem dL_law__1056 : decode cL_law_ 1056 = .ok (.iconst 2, 1) := by decide +kernel
theorem dL_law__1057 : decode cL_law_ 1057 = .ok (.iadd, 1) := by decide +kernel
theorem dL_law__1058 : decode cL_law_ 1058 = .ok (.iaload, 1) := by decide +kernel
theorem dL_law__1059 : decode cL_law_ 1059 = .ok (.aload_n 0, 1) := by decide +kernel
theorem dL_law__1060 : decode cL_law_ 1060 = .ok (.iload 4, 2) := by decide +kernel
theorem dL_law__1062 : decode cL_law_ 1062 = .ok (.iconst 3, 1) := by decide +kernel
theorem dL_law__1063 : decode cL_law_ 1063 = .ok (.iadd, 1) := by decide +kernel
theorem dL_law__1064 : decode cL_law_ 1064 = .ok (.iaload, 1) := by decide +kernel
theorem dL_law__1065 : decode cL_law_ 1065 = .ok (.invokevirtual 153, 3) := by decide +kernel
theorem dL_law__1068 : decode cL_law_ 1068 = .ok (.istore 6, 2) := by decide +kernel
theorem dL_law__1070 : decode cL_law_ 1070 = .ok (.aload_n 2, 1) := by decide +kernel
theorem dL_law__1071 : decode cL_law_ 1071 = .ok (.invokevirtual 109, 3) := by decide +kernel
theorem dL_law__1074 : decode cL_law_ 1074 = .ok (.iload 5, 2) := by decide +kernel
theorem dL_law__1076 : decode cL_law_ 1076 = .ok (.if_icmp .eq 5, 3) := by decide +kernel
theorem dL_law__1079 : decode cL_law_ 1079 = .ok (.iconst 0, 1) := by decide +kernel
theorem dL_law__1080 : decode cL_law_ 1080 = .ok (.ireturn, 1) := by decide +kernel
theorem dL_law__1081 : decode cL_law_ 1081 = .ok (.iload 5, 2) := by decide +kernel
theorem dL_law__1083 : decode cL_law_ 1083 = .ok (.ifCond .ne 15, 3) := by decide +kernel
theorem dL_law__1086 : decode cL_law_ 1086 = .ok (.aload_n 3, 1) := by decide +kernel
theorem dL_law__1087 : decode cL_law_ 1087 = .ok (.iconst 0, 1) := by decide +kernel
theorem dL_law__1088 : decode cL_law_ 1088 = .ok (.laload, 1) := by decide +kernel
theorem dL_law__1089 : decode cL_law_ 1089 = .ok (.iload 6, 2) := by decide +kernel
theorem dL_law__1091 : decode cL_law_ 1091 = .ok (.i2l, 1) := by decide +kernel
theorem dL_law__1092 : decode cL_law_ 1092 = .ok (.lcmp, 1) := by decide +kernel
theorem dL_law__1093 : decode cL_law_ 1093 = .ok (.ifCond .eq 5, 3) := by decide +kernel
theorem dL_law__1096 : decode cL_law_ 1096 = .ok (.iconst 0, 1) := by decide +kernel
theorem dL_law__1097 : decode cL_law_ 1097 = .ok (.ireturn, 1) := by decide +kernel
theorem dL_law__1098 : decode cL_law_ 1098 = .ok (.goto 1034, 3) := by decide +kernel
theorem dL_law__1101 : decode cL_law_ 1101 = .ok (.aload_n 1, 1) := by decide +kernel
theorem dL_law__1102 : decode cL_law_ 1102 = .ok (.aload_n 0, 1) := by decide +kernel
theorem dL_law__1103 : decode cL_law_ 1103 = .ok (.iload 4, 2) := by decide +kernel
theorem dL_law__1105 : decode cL_law_ 1105 = .ok (.iconst 1, 1) := by decide +kernel
theorem dL_law__1106 : decode cL_law_ 1106 = .ok (.iadd, 1) := by decide +kernel
theorem dL_law__1107 : decode cL_law_ 1107 = .ok (.iaload, 1) := by decide +kernel
theorem dL_law__1108 : decode cL_law_ 1108 = .ok (.aload_n 0, 1) := by decide +kernel
theorem dL_law__1109 : decode cL_law_ 1109 = .ok (.iload 4, 2) := by decide +kernel
theorem dL_law__1111 : decode cL_law_ 1111 = .ok (.iconst 2, 1) := by decide +kernel
theorem dL_law__1112 : decode cL_law_ 1112 = .ok (.iadd, 1) := by decide +kernel
theorem dL_law__1113 : decode cL_law_ 1113 = .ok (.iaload, 1) := by decide +kernel
theorem dL_law__1114 : decode cL_law_ 1114 = .ok (.aload_n 0, 1) := by decide +kernel
theorem dL_law__1115 : decode cL_law_ 1115 = .ok (.iload 4, 2) := by decide +kernel
theorem dL_law__1117 : decode cL_law_ 1117 = .ok (.iconst 3, 1) := by decide +kernel
theorem dL_law__1118 : decode cL_law_ 1118 = .ok (.iadd, 1) := by decide +kernel
theorem dL_law__1119 : decode cL_law_ 1119 = .ok (.iaload, 1) := by decide +kernel
theorem dL_law__1120 : decode cL_law_ 1120 = .ok (.aload_n 3, 1) := by decide +kernel
theorem dL_law__1121 : decode cL_law_ 1121 = .ok (.invokestatic 154, 3) := by decide +kernel
theorem dL_law__1124 : decode cL_law_ 1124 = .ok (.istore 5, 2) := by decide +kernel
theorem dL_law__1126 : decode cL_law_ 1126 = .ok (.aload_n 2, 1) := by decide +kernel
theorem dL_law__1127 : decode cL_law_ 1127 = .ok (.aload_n 0, 1) := by decide +kernel
theorem dL_law__1128 : decode cL_law_ 1128 = .ok (.iload 4, 2) := by decide +kernel
theorem dL_law__1130 : decode cL_law_ 1130 = .ok (.iconst 1, 1) := by decide +kernel
theorem dL_law__1131 : decode cL_law_ 1131 = .ok (.iadd, 1) := by decide +kernel
theorem dL_law__1132 : decode cL_law_ 1132 = .ok (.iaload, 1) := by decide +kernel
theorem dL_law__1133 : decode cL_law_ 1133 = .ok (.aload_n 0, 1) := by decide +kernel
theorem dL_law__1134 : decode cL_law_ 1134 = .ok (.iload 4, 2) := by decide +kernel
theorem dL_law__1136 : decode cL_law_ 1136 = .ok (.iconst 2, 1) := by decide +kernel
theorem dL_law__1137 : decode cL_law_ 1137 = .ok (.iadd, 1) := by decide +kernel
theorem dL_law__1138 : decode cL_law_ 1138 = .ok (.iaload, 1) := by decide +kernel
theorem dL_law__1139 : decode cL_law_ 1139 = .ok (.aload_n 0, 1) := by decide +kernel
theorem dL_law__1140 : decode cL_law_ 1140 = .ok (.iload 4, 2) := by decide +kernel
theorem dL_law__1142 : decode cL_law_ 1142 = .ok (.iconst 3, 1) := by decide +kernel
theorem dL_law__1143 : decode cL_law_ 1143 = .ok (.iadd, 1) := by decide +kernel
theorem dL_law__1144 : decode cL_law_ 1144 = .ok (.iaload, 1) := by decide +kernel
theorem dL_law__1145 : decode cL_law_ 1145 = .ok (.invokevirtual 156, 3) := by decide +kernel
theorem dL_law__1148 : decode cL_law_ 1148 = .ok (.istore 6, 2) := by decide +kernel
theorem dL_law__1150 : decode cL_law_ 1150 = .ok (.aload_n 2, 1) := by decide +kernel
theorem dL_law__1151 : decode cL_law_ 1151 = .ok (.invokevirtual 109, 3) := by decide +kernel
theorem dL_law__1154 : decode cL_law_ 1154 = .ok (.iload 5, 2) := by decide +kernel
theorem dL_law__1156 : decode cL_law_ 1156 = .ok (.if_icmp .eq 5, 3) := by decide +kernel
theorem dL_law__1159 : decode cL_law_ 1159 = .ok (.iconst 0, 1) := by decide +kernel
theorem dL_law__1160 : decode cL_law_ 1160 = .ok (.ireturn, 1) := by decide +kernel
theorem dL_law__1161 : decode cL_law_ 1161 = .ok (.iload 5, 2) := by decide +kernel
theorem dL_law__1163 : decode cL_law_ 1163 = .ok (.ifCond .ne 15, 3) := by decide +kernel
theorem dL_law__1166 : decode cL_law_ 1166 = .ok (.aload_n 3, 1) := by decide +kernel
theorem dL_law__1167 : decode cL_law_ 1167 = .ok (.iconst 0, 1) := by decide +kernel
theorem dL_law__1168 : decode cL_law_ 1168 = .ok (.laload, 1) := by decide +kernel
theorem dL_law__1169 : decode cL_law_ 1169 = .ok (.iload 6, 2) := by decide +kernel
theorem dL_law__1171 : decode cL_law_ 1171 = .ok (.i2l, 1) := by decide +kernel
theorem dL_law__1172 : decode cL_law_ 1172 = .ok (.lcmp, 1) := by decide +kernel
theorem dL_law__1173 : decode cL_law_ 1173 = .ok (.ifCond .eq 5, 3) := by decide +kernel
theorem dL_law__1176 : decode cL_law_ 1176 = .ok (.iconst 0, 1) := by decide +kernel
theorem dL_law__1177 : decode cL_law_ 1177 = .ok (.ireturn, 1) := by decide +kernel
theorem dL_law__1178 : decode cL_law_ 1178 = .ok (.goto 954, 3) := by decide +kernel
theorem dL_law__1181 : decode cL_law_ 1181 = .ok (.aload_n 1, 1) := by decide +kernel
theorem dL_law__1182 : decode cL_law_ 1182 = .ok (.invokevirtual 157, 3) := by decide +kernel
theorem dL_law__1185 : decode cL_law_ 1185 = .ok (.aload_n 2, 1) := by decide +kernel
theorem dL_law__1186 : decode cL_law_ 1186 = .ok (.invokevirtual 160, 3) := by decide +kernel
theorem dL_law__1189 : decode cL_law_ 1189 = .ok (.if_icmp .eq 943, 3) := by decide +kernel
theorem dL_law__1192 : decode cL_law_ 1192 = .ok (.iconst 0, 1) := by decide +kernel
theorem dL_law__1193 : decode cL_law_ 1193 = .ok (.ireturn, 1) := by decide +kernel
theorem dL_law__1194 : decode cL_law_ 1194 = .ok (.aload_n 1, 1) := by decide +kernel
theorem dL_law__1195 : decode cL_law_ 1195 = .ok (.aload_n 0, 1) := by decide +kernel
theorem dL_law__1196 : decode cL_law_ 1196 = .ok (.iload 4, 2) := by decide +kernel
theorem dL_law__1198 : decode cL_law_ 1198 = .ok (.iconst 1, 1) := by decide +kernel
theorem dL_law__1199 : decode cL_law_ 1199 = .ok (.iadd, 1) := by decide +kernel
theorem dL_law__1200 : decode cL_law_ 1200 = .ok (.iaload, 1) := by decide +kernel
theorem dL_law__1201 : decode cL_law_ 1201 = .ok (.aload_n 3, 1) := by decide +kernel
theorem dL_law__1202 : decode cL_law_ 1202 = .ok (.invokestatic 161, 3) := by decide +kernel
theorem dL_law__1205 : decode cL_law_ 1205 = .ok (.istore 5, 2) := by decide +kernel
theorem dL_law__1207 : decode cL_law_ 1207 = .ok (.aload_n 2, 1) := by decide +kernel
theorem dL_law__1208 : decode cL_law_ 1208 = .ok (.aload_n 0, 1) := by decide +kernel
theorem dL_law__1209 : decode cL_law_ 1209 = .ok (.iload 4, 2) := by decide +kernel
theorem dL_law__1211 : decode cL_law_ 1211 = .ok (.iconst 1, 1) := by decide +kernel
theorem dL_law__1212 : decode cL_law_ 1212 = .ok (.iadd, 1) := by decide +kernel
theorem dL_law__1213 : decode cL_law_ 1213 = .ok (.iaload, 1) := by decide +kernel
theorem dL_law__1214 : decode cL_law_ 1214 = .ok (.invokevirtual 163, 3) := by decide +kernel
theorem dL_law__1217 : decode cL_law_ 1217 = .ok (.istore 6, 2) := by decide +kernel
theorem dL_law__1219 : decode cL_law_ 1219 = .ok (.aload_n 2, 1) := by decide +kernel
theorem dL_law__1220 : decode cL_law_ 1220 = .ok (.invokevirtual 109, 3) := by decide +kernel
theorem dL_law__1223 : decode cL_law_ 1223 = .ok (.iload 5, 2) := by decide +kernel
theorem dL_law__1225 : decode cL_law_ 1225 = .ok (.if_icmp .eq 5, 3) := by decide +kernel
theorem dL_law__1228 : decode cL_law_ 1228 = .ok (.iconst 0, 1) := by decide +kernel
theorem dL_law__1229 : decode cL_law_ 1229 = .ok (.ireturn, 1) := by decide +kernel
theorem dL_law__1230 : decode cL_law_ 1230 = .ok (.iload 5, 2) := by decide +kernel
theorem dL_law__1232 : decode cL_law_ 1232 = .ok (.ifCond .ne 15, 3) := by decide +kernel
theorem dL_law__1235 : decode cL_law_ 1235 = .ok (.aload_n 3, 1) := by decide +kernel
theorem dL_law__1236 : decode cL_law_ 1236 = .ok (.iconst 0, 1) := by decide +kernel
theorem dL_law__1237 : decode cL_law_ 1237 = .ok (.laload, 1) := by decide +kernel
theorem dL_law__1238 : decode cL_law_ 1238 = .ok (.iload 6, 2) := by decide +kernel
theorem dL_law__1240 : decode cL_law_ 1240 = .ok (.i2l, 1) := by decide +kernel
theorem dL_law__1241 : decode cL_law_ 1241 = .ok (.lcmp, 1) := by decide +kernel
theorem dL_law__1242 : decode cL_law_ 1242 = .ok (.ifCond .eq 5, 3) := by decide +kernel
theorem dL_law__1245 : decode cL_law_ 1245 = .ok (.iconst 0, 1) := by decide +kernel
theorem dL_law__1246 : decode cL_law_ 1246 = .ok (.ireturn, 1) := by decide +kernel
theorem dL_law__1247 : decode cL_law_ 1247 = .ok (.goto 885, 3) := by decide +kernel
theorem dL_law__1250 : decode cL_law_ 1250 = .ok (.aload_n 1, 1) := by decide +kernel
theorem dL_law__1251 : decode cL_law_ 1251 = .ok (.aload_n 0, 1) := by decide +kernel
theorem dL_law__1252 : decode cL_law_ 1252 = .ok (.iload 4, 2) := by decide +kernel
theorem dL_law__1254 : decode cL_law_ 1254 = .ok (.iconst 1, 1) := by decide +kernel
theorem dL_law__1255 : decode cL_law_ 1255 = .ok (.iadd, 1) := by decide +kernel
theorem dL_law__1256 : decode cL_law_ 1256 = .ok (.iaload, 1) := by decide +kernel
theorem dL_law__1257 : decode cL_law_ 1257 = .ok (.aload_n 0, 1) := by decide +kernel
theorem dL_law__1258 : decode cL_law_ 1258 = .ok (.iload 4, 2) := by decide +kernel
theorem dL_law__1260 : decode cL_law_ 1260 = .ok (.iconst 2, 1) := by decide +kernel
theorem dL_law__1261 : decode cL_law_ 1261 = .ok (.iadd, 1) := by decide +kernel
theorem dL_law__1262 : decode cL_law_ 1262 = .ok (.iaload, 1) := by decide +kernel
theorem dL_law__1263 : decode cL_law_ 1263 = .ok (.aload_n 3, 1) := by decide +kernel
theorem dL_law__1264 : decode cL_law_ 1264 = .ok (.invokestatic 164, 3) := by decide +kernel
theorem dL_law__1267 : decode cL_law_ 1267 = .ok (.istore 5, 2) := by decide +kernel
theorem dL_law__1269 : decode cL_law_ 1269 = .ok (.aload_n 2, 1) := by decide +kernel
theorem dL_law__1270 : decode cL_law_ 1270 = .ok (.aload_n 0, 1) := by decide +kernel
theorem dL_law__1271 : decode cL_law_ 1271 = .ok (.iload 4, 2) := by decide +kernel
theorem dL_law__1273 : decode cL_law_ 1273 = .ok (.iconst 1, 1) := by decide +kernel
theorem dL_law__1274 : decode cL_law_ 1274 = .ok (.iadd, 1) := by decide +kernel
theorem dL_law__1275 : decode cL_law_ 1275 = .ok (.iaload, 1) := by decide +kernel
theorem dL_law__1276 : decode cL_law_ 1276 = .ok (.aload_n 0, 1) := by decide +kernel
theorem dL_law__1277 : decode cL_law_ 1277 = .ok (.iload 4, 2) := by decide +kernel
theorem dL_law__1279 : decode cL_law_ 1279 = .ok (.iconst 2, 1) := by decide +kernel
theorem dL_law__1280 : decode cL_law_ 1280 = .ok (.iadd, 1) := by decide +kernel
theorem dL_law__1281 : decode cL_law_ 1281 = .ok (.iaload, 1) := by decide +kernel
theorem dL_law__1282 : decode cL_law_ 1282 = .ok (.invokevirtual 166, 3) := by decide +kernel
theorem dL_law__1285 : decode cL_law_ 1285 = .ok (.istore 6, 2) := by decide +kernel
theorem dL_law__1287 : decode cL_law_ 1287 = .ok (.aload_n 2, 1) := by decide +kernel
theorem dL_law__1288 : decode cL_law_ 1288 = .ok (.invokevirtual 109, 3) := by decide +kernel
theorem dL_law__1291 : decode cL_law_ 1291 = .ok (.iload 5, 2) := by decide +kernel
theorem dL_law__1293 : decode cL_law_ 1293 = .ok (.if_icmp .eq 5, 3) := by decide +kernel
theorem dL_law__1296 : decode cL_law_ 1296 = .ok (.iconst 0, 1) := by decide +kernel
theorem dL_law__1297 : decode cL_law_ 1297 = .ok (.ireturn, 1) := by decide +kernel
theorem dL_law__1298 : decode cL_law_ 1298 = .ok (.iload 5, 2) := by decide +kernel
theorem dL_law__1300 : decode cL_law_ 1300 = .ok (.ifCond .ne 15, 3) := by decide +kernel
theorem dL_law__1303 : decode cL_law_ 1303 = .ok (.aload_n 3, 1) := by decide +kernel
theorem dL_law__1304 : decode cL_law_ 1304 = .ok (.iconst 0, 1) := by decide +kernel
theorem dL_law__1305 : decode cL_law_ 1305 = .ok (.laload, 1) := by decide +kernel
theorem dL_law__1306 : decode cL_law_ 1306 = .ok (.iload 6, 2) := by decide +kernel
theorem dL_law__1308 : decode cL_law_ 1308 = .ok (.i2l, 1) := by decide +kernel
theorem dL_law__1309 : decode cL_law_ 1309 = .ok (.lcmp, 1) := by decide +kernel
theorem dL_law__1310 : decode cL_law_ 1310 = .ok (.ifCond .eq 5, 3) := by decide +kernel
theorem dL_law__1313 : decode cL_law_ 1313 = .ok (.iconst 0, 1) := by decide +kernel
theorem dL_law__1314 : decode cL_law_ 1314 = .ok (.ireturn, 1) := by decide +kernel
theorem dL_law__1315 : decode cL_law_ 1315 = .ok (.goto 817, 3) := by decide +kernel
theorem dL_law__1318 : decode cL_law_ 1318 = .ok (.aload_n 1, 1) := by decide +kernel
theorem dL_law__1319 : decode cL_law_ 1319 = .ok (.aload_n 0, 1) := by decide +kernel
theorem dL_law__1320 : decode cL_law_ 1320 = .ok (.iload 4, 2) := by decide +kernel
theorem dL_law__1322 : decode cL_law_ 1322 = .ok (.iconst 1, 1) := by decide +kernel
theorem dL_law__1323 : decode cL_law_ 1323 = .ok (.iadd, 1) := by decide +kernel
theorem dL_law__1324 : decode cL_law_ 1324 = .ok (.iaload, 1) := by decide +kernel
theorem dL_law__1325 : decode cL_law_ 1325 = .ok (.aload_n 3, 1) := by decide +kernel
theorem dL_law__1326 : decode cL_law_ 1326 = .ok (.invokestatic 167, 3) := by decide +kernel
theorem dL_law__1329 : decode cL_law_ 1329 = .ok (.istore 5, 2) := by decide +kernel
theorem dL_law__1331 : decode cL_law_ 1331 = .ok (.aload_n 2, 1) := by decide +kernel
theorem dL_law__1332 : decode cL_law_ 1332 = .ok (.aload_n 0, 1) := by decide +kernel
theorem dL_law__1333 : decode cL_law_ 1333 = .ok (.iload 4, 2) := by decide +kernel
theorem dL_law__1335 : decode cL_law_ 1335 = .ok (.iconst 1, 1) := by decide +kernel
theorem dL_law__1336 : decode cL_law_ 1336 = .ok (.iadd, 1) := by decide +kernel
theorem dL_law__1337 : decode cL_law_ 1337 = .ok (.iaload, 1) := by decide +kernel
theorem dL_law__1338 : decode cL_law_ 1338 = .ok (.invokevirtual 169, 3) := by decide +kernel
theorem dL_law__1341 : decode cL_law_ 1341 = .ok (.istore 6, 2) := by decide +kernel
theorem dL_law__1343 : decode cL_law_ 1343 = .ok (.aload_n 2, 1) := by decide +kernel
theorem dL_law__1344 : decode cL_law_ 1344 = .ok (.invokevirtual 109, 3) := by decide +kernel
theorem dL_law__1347 : decode cL_law_ 1347 = .ok (.iload 5, 2) := by decide +kernel
theorem dL_law__1349 : decode cL_law_ 1349 = .ok (.if_icmp .eq 5, 3) := by decide +kernel
theorem dL_law__1352 : decode cL_law_ 1352 = .ok (.iconst 0, 1) := by decide +kernel
theorem dL_law__1353 : decode cL_law_ 1353 = .ok (.ireturn, 1) := by decide +kernel
theorem dL_law__1354 : decode cL_law_ 1354 = .ok (.iload 5, 2) := by decide +kernel
theorem dL_law__1356 : decode cL_law_ 1356 = .ok (.ifCond .ne 15, 3) := by decide +kernel
theorem dL_law__1359 : decode cL_law_ 1359 = .ok (.aload_n 3, 1) := by decide +kernel
theorem dL_law__1360 : decode cL_law_ 1360 = .ok (.iconst 0, 1) := by decide +kernel
theorem dL_law__1361 : decode cL_law_ 1361 = .ok (.laload, 1) := by decide +kernel
theorem dL_law__1362 : decode cL_law_ 1362 = .ok (.iload 6, 2) := by decide +kernel
theorem dL_law__1364 : decode cL_law_ 1364 = .ok (.i2l, 1) := by decide +kernel
theorem dL_law__1365 : decode cL_law_ 1365 = .ok (.lcmp, 1) := by decide +kernel
theorem dL_law__1366 : decode cL_law_ 1366 = .ok (.ifCond .eq 5, 3) := by decide +kernel
theorem dL_law__1369 : decode cL_law_ 1369 = .ok (.iconst 0, 1) := by decide +kernel
theorem dL_law__1370 : decode cL_law_ 1370 = .ok (.ireturn, 1) := by decide +kernel
theorem dL_law__1371 : decode cL_law_ 1371 = .ok (.goto 761, 3) := by decide +kernel
theorem dL_law__1374 : decode cL_law_ 1374 = .ok (.aload_n 1, 1) := by decide +kernel
theorem dL_law__1375 : decode cL_law_ 1375 = .ok (.aload_n 0, 1) := by decide +kernel
theorem dL_law__1376 : decode cL_law_ 1376 = .ok (.iload 4, 2) := by decide +kernel
theorem dL_law__1378 : decode cL_law_ 1378 = .ok (.iconst 1, 1) := by decide +kernel
theorem dL_law__1379 : decode cL_law_ 1379 = .ok (.iadd, 1) := by decide +kernel
theorem dL_law__1380 : decode cL_law_ 1380 = .ok (.iaload, 1) := by decide +kernel
theorem dL_law__1381 : decode cL_law_ 1381 = .ok (.aload_n 0, 1) := by decide +kernel
theorem dL_law__1382 : decode cL_law_ 1382 = .ok (.iload 4, 2) := by decide +kernel
theorem dL_law__1384 : decode cL_law_ 1384 = .ok (.iconst 2, 1) := by decide +kernel
theorem dL_law__1385 : decode cL_law_ 1385 = .ok (.iadd, 1) := by decide +kernel
theorem dL_law__1386 : decode cL_law_ 1386 = .ok (.iaload, 1) := by decide +kernel
theorem dL_law__1387 : decode cL_law_ 1387 = .ok (.aload_n 3, 1) := by decide +kernel
theorem dL_law__1388 : decode cL_law_ 1388 = .ok (.invokestatic 170, 3) := by decide +kernel
theorem dL_law__1391 : decode cL_law_ 1391 = .ok (.istore 5, 2) := by decide +kernel
theorem dL_law__1393 : decode cL_law_ 1393 = .ok (.aload_n 2, 1) := by decide +kernel
theorem dL_law__1394 : decode cL_law_ 1394 = .ok (.aload_n 0, 1) := by decide +kernel
theorem dL_law__1395 : decode cL_law_ 1395 = .ok (.iload 4, 2) := by decide +kernel
theorem dL_law__1397 : decode cL_law_ 1397 = .ok (.iconst 1, 1) := by decide +kernel
theorem dL_law__1398 : decode cL_law_ 1398 = .ok (.iadd, 1) := by decide +kernel
theorem dL_law__1399 : decode cL_law_ 1399 = .ok (.iaload, 1) := by decide +kernel
theorem dL_law__1400 : decode cL_law_ 1400 = .ok (.aload_n 0, 1) := by decide +kernel
theorem dL_law__1401 : decode cL_law_ 1401 = .ok (.iload 4, 2) := by decide +kernel
theorem dL_law__1403 : decode cL_law_ 1403 = .ok (.iconst 2, 1) := by decide +kernel
theorem dL_law__1404 : decode cL_law_ 1404 = .ok (.iadd, 1) := by decide +kernel
theorem dL_law__1405 : decode cL_law_ 1405 = .ok (.iaload, 1) := by decide +kernel
theorem dL_law__1406 : decode cL_law_ 1406 = .ok (.invokevirtual 172, 3) := by decide +kernel
theorem dL_law__1409 : decode cL_law_ 1409 = .ok (.istore 6, 2) := by decide +kernel
theorem dL_law__1411 : decode cL_law_ 1411 = .ok (.aload_n 2, 1) := by decide +kernel
theorem dL_law__1412 : decode cL_law_ 1412 = .ok (.invokevirtual 109, 3) := by decide +kernel
theorem dL_law__1415 : decode cL_law_ 1415 = .ok (.iload 5, 2) := by decide +kernel
theorem dL_law__1417 : decode cL_law_ 1417 = .ok (.if_icmp .eq 5, 3) := by decide +kernel
theorem dL_law__1420 : decode cL_law_ 1420 = .ok (.iconst 0, 1) := by decide +kernel
theorem dL_law__1421 : decode cL_law_ 1421 = .ok (.ireturn, 1) := by decide +kernel
theorem dL_law__1422 : decode cL_law_ 1422 = .ok (.iload 5, 2) := by decide +kernel
theorem dL_law__1424 : decode cL_law_ 1424 = .ok (.ifCond .ne 15, 3) := by decide +kernel
theorem dL_law__1427 : decode cL_law_ 1427 = .ok (.aload_n 3, 1) := by decide +kernel
theorem dL_law__1428 : decode cL_law_ 1428 = .ok (.iconst 0, 1) := by decide +kernel
theorem dL_law__1429 : decode cL_law_ 1429 = .ok (.laload, 1) := by decide +kernel
theorem dL_law__1430 : decode cL_law_ 1430 = .ok (.iload 6, 2) := by decide +kernel
theorem dL_law__1432 : decode cL_law_ 1432 = .ok (.i2l, 1) := by decide +kernel
theorem dL_law__1433 : decode cL_law_ 1433 = .ok (.lcmp, 1) := by decide +kernel
theorem dL_law__1434 : decode cL_law_ 1434 = .ok (.ifCond .eq 5, 3) := by decide +kernel
theorem dL_law__1437 : decode cL_law_ 1437 = .ok (.iconst 0, 1) := by decide +kernel
theorem dL_law__1438 : decode cL_law_ 1438 = .ok (.ireturn, 1) := by decide +kernel
theorem dL_law__1439 : decode cL_law_ 1439 = .ok (.goto 693, 3) := by decide +kernel
theorem dL_law__1442 : decode cL_law_ 1442 = .ok (.aload_n 1, 1) := by decide +kernel
theorem dL_law__1443 : decode cL_law_ 1443 = .ok (.aload_n 0, 1) := by decide +kernel
theorem dL_law__1444 : decode cL_law_ 1444 = .ok (.iload 4, 2) := by decide +kernel
theorem dL_law__1446 : decode cL_law_ 1446 = .ok (.iconst 1, 1) := by decide +kernel
theorem dL_law__1447 : decode cL_law_ 1447 = .ok (.iadd, 1) := by decide +kernel
theorem dL_law__1448 : decode cL_law_ 1448 = .ok (.iaload, 1) := by decide +kernel
theorem dL_law__1449 : decode cL_law_ 1449 = .ok (.aload_n 0, 1) := by decide +kernel
theorem dL_law__1450 : decode cL_law_ 1450 = .ok (.iload 4, 2) := by decide +kernel
theorem dL_law__1452 : decode cL_law_ 1452 = .ok (.iconst 2, 1) := by decide +kernel
theorem dL_law__1453 : decode cL_law_ 1453 = .ok (.iadd, 1) := by decide +kernel
theorem dL_law__1454 : decode cL_law_ 1454 = .ok (.iaload, 1) := by decide +kernel
theorem dL_law__1455 : decode cL_law_ 1455 = .ok (.aload_n 3, 1) := by decide +kernel
theorem dL_law__1456 : decode cL_law_ 1456 = .ok (.invokestatic 173, 3) := by decide +kernel
theorem dL_law__1459 : decode cL_law_ 1459 = .ok (.istore 5, 2) := by decide +kernel
theorem dL_law__1461 : decode cL_law_ 1461 = .ok (.aload_n 2, 1) := by decide +kernel
theorem dL_law__1462 : decode cL_law_ 1462 = .ok (.aload_n 0, 1) := by decide +kernel
theorem dL_law__1463 : decode cL_law_ 1463 = .ok (.iload 4, 2) := by decide +kernel
theorem dL_law__1465 : decode cL_law_ 1465 = .ok (.iconst 1, 1) := by decide +kernel
theorem dL_law__1466 : decode cL_law_ 1466 = .ok (.iadd, 1) := by decide +kernel
theorem dL_law__1467 : decode cL_law_ 1467 = .ok (.iaload, 1) := by decide +kernel
theorem dL_law__1468 : decode cL_law_ 1468 = .ok (.aload_n 0, 1) := by decide +kernel
theorem dL_law__1469 : decode cL_law_ 1469 = .ok (.iload 4, 2) := by decide +kernel
theorem dL_law__1471 : decode cL_law_ 1471 = .ok (.iconst 2, 1) := by decide +kernel
theorem dL_law__1472 : decode cL_law_ 1472 = .ok (.iadd, 1) := by decide +kernel
theorem dL_law__1473 : decode cL_law_ 1473 = .ok (.iaload, 1) := by decide +kernel
theorem dL_law__1474 : decode cL_law_ 1474 = .ok (.invokevirtual 175, 3) := by decide +kernel
theorem dL_law__1477 : decode cL_law_ 1477 = .ok (.istore 6, 2) := by decide +kernel
theorem dL_law__1479 : decode cL_law_ 1479 = .ok (.aload_n 2, 1) := by decide +kernel
theorem dL_law__1480 : decode cL_law_ 1480 = .ok (.invokevirtual 109, 3) := by decide +kernel
theorem dL_law__1483 : decode cL_law_ 1483 = .ok (.iload 5, 2) := by decide +kernel
theorem dL_law__1485 : decode cL_law_ 1485 = .ok (.if_icmp .eq 5, 3) := by decide +kernel
theorem dL_law__1488 : decode cL_law_ 1488 = .ok (.iconst 0, 1) := by decide +kernel
theorem dL_law__1489 : decode cL_law_ 1489 = .ok (.ireturn, 1) := by decide +kernel
theorem dL_law__1490 : decode cL_law_ 1490 = .ok (.iload 5, 2) := by decide +kernel
theorem dL_law__1492 : decode cL_law_ 1492 = .ok (.ifCond .ne 15, 3) := by decide +kernel
theorem dL_law__1495 : decode cL_law_ 1495 = .ok (.aload_n 3, 1) := by decide +kernel
theorem dL_law__1496 : decode cL_law_ 1496 = .ok (.iconst 0, 1) := by decide +kernel
theorem dL_law__1497 : decode cL_law_ 1497 = .ok (.laload, 1) := by decide +kernel
theorem dL_law__1498 : decode cL_law_ 1498 = .ok (.iload 6, 2) := by decide +kernel
theorem dL_law__1500 : decode cL_law_ 1500 = .ok (.i2l, 1) := by decide +kernel
theorem dL_law__1501 : decode cL_law_ 1501 = .ok (.lcmp, 1) := by decide +kernel
theorem dL_law__1502 : decode cL_law_ 1502 = .ok (.ifCond .eq 5, 3) := by decide +kernel
theorem dL_law__1505 : decode cL_law_ 1505 = .ok (.iconst 0, 1) := by decide +kernel
theorem dL_law__1506 : decode cL_law_ 1506 = .ok (.ireturn, 1) := by decide +kernel
theorem dL_law__1507 : decode cL_law_ 1507 = .ok (.goto 625, 3) := by decide +kernel
theorem dL_law__1510 : decode cL_law_ 1510 = .ok (.aload_n 1, 1) := by decide +kernel
theorem dL_law__1511 : decode cL_law_ 1511 = .ok (.aload_n 0, 1) := by decide +kernel
theorem dL_law__1512 : decode cL_law_ 1512 = .ok (.iload 4, 2) := by decide +kernel
theorem dL_law__1514 : decode cL_law_ 1514 = .ok (.iconst 1, 1) := by decide +kernel
theorem dL_law__1515 : decode cL_law_ 1515 = .ok (.iadd, 1) := by decide +kernel
theorem dL_law__1516 : decode cL_law_ 1516 = .ok (.iaload, 1) := by decide +kernel
theorem dL_law__1517 : decode cL_law_ 1517 = .ok (.aload_n 3, 1) := by decide +kernel
theorem dL_law__1518 : decode cL_law_ 1518 = .ok (.invokestatic 176, 3) := by decide +kernel
theorem dL_law__1521 : decode cL_law_ 1521 = .ok (.istore 5, 2) := by decide +kernel
theorem dL_law__1523 : decode cL_law_ 1523 = .ok (.aload_n 2, 1) := by decide +kernel
theorem dL_law__1524 : decode cL_law_ 1524 = .ok (.aload_n 0, 1) := by decide +kernel
theorem dL_law__1525 : decode cL_law_ 1525 = .ok (.iload 4, 2) := by decide +kernel
theorem dL_law__1527 : decode cL_law_ 1527 = .ok (.iconst 1, 1) := by decide +kernel
theorem dL_law__1528 : decode cL_law_ 1528 = .ok (.iadd, 1) := by decide +kernel
theorem dL_law__1529 : decode cL_law_ 1529 = .ok (.iaload, 1) := by decide +kernel
theorem dL_law__1530 : decode cL_law_ 1530 = .ok (.invokevirtual 178, 3) := by decide +kernel
theorem dL_law__1533 : decode cL_law_ 1533 = .ok (.istore 6, 2) := by decide +kernel
theorem dL_law__1535 : decode cL_law_ 1535 = .ok (.aload_n 2, 1) := by decide +kernel
theorem dL_law__1536 : decode cL_law_ 1536 = .ok (.invokevirtual 109, 3) := by decide +kernel
theorem dL_law__1539 : decode cL_law_ 1539 = .ok (.iload 5, 2) := by decide +kernel
theorem dL_law__1541 : decode cL_law_ 1541 = .ok (.if_icmp .eq 5, 3) := by decide +kernel
theorem dL_law__1544 : decode cL_law_ 1544 = .ok (.iconst 0, 1) := by decide +kernel
theorem dL_law__1545 : decode cL_law_ 1545 = .ok (.ireturn, 1) := by decide +kernel
theorem dL_law__1546 : decode cL_law_ 1546 = .ok (.iload 5, 2) := by decide +kernel
theorem dL_law__1548 : decode cL_law_ 1548 = .ok (.ifCond .ne 15, 3) := by decide +kernel
theorem dL_law__1551 : decode cL_law_ 1551 = .ok (.aload_n 3, 1) := by decide +kernel
theorem dL_law__1552 : decode cL_law_ 1552 = .ok (.iconst 0, 1) := by decide +kernel
theorem dL_law__1553 : decode cL_law_ 1553 = .ok (.laload, 1) := by decide +kernel
theorem dL_law__1554 : decode cL_law_ 1554 = .ok (.iload 6, 2) := by decide +kernel
theorem dL_law__1556 : decode cL_law_ 1556 = .ok (.i2l, 1) := by decide +kernel
theorem dL_law__1557 : decode cL_law_ 1557 = .ok (.lcmp, 1) := by decide +kernel
theorem dL_law__1558 : decode cL_law_ 1558 = .ok (.ifCond .eq 5, 3) := by decide +kernel
theorem dL_law__1561 : decode cL_law_ 1561 = .ok (.iconst 0, 1) := by decide +kernel
theorem dL_law__1562 : decode cL_law_ 1562 = .ok (.ireturn, 1) := by decide +kernel
theorem dL_law__1563 : decode cL_law_ 1563 = .ok (.goto 569, 3) := by decide +kernel
theorem dL_law__1566 : decode cL_law_ 1566 = .ok (.aload_n 1, 1) := by decide +kernel
theorem dL_law__1567 : decode cL_law_ 1567 = .ok (.aload_n 0, 1) := by decide +kernel
theorem dL_law__1568 : decode cL_law_ 1568 = .ok (.iload 4, 2) := by decide +kernel
theorem dL_law__1570 : decode cL_law_ 1570 = .ok (.iconst 1, 1) := by decide +kernel
theorem dL_law__1571 : decode cL_law_ 1571 = .ok (.iadd, 1) := by decide +kernel
theorem dL_law__1572 : decode cL_law_ 1572 = .ok (.iaload, 1) := by decide +kernel
theorem dL_law__1573 : decode cL_law_ 1573 = .ok (.aload_n 3, 1) := by decide +kernel
theorem dL_law__1574 : decode cL_law_ 1574 = .ok (.invokestatic 179, 3) := by decide +kernel
theorem dL_law__1577 : decode cL_law_ 1577 = .ok (.istore 5, 2) := by decide +kernel
theorem dL_law__1579 : decode cL_law_ 1579 = .ok (.aload_n 2, 1) := by decide +kernel
theorem dL_law__1580 : decode cL_law_ 1580 = .ok (.aload_n 0, 1) := by decide +kernel
theorem dL_law__1581 : decode cL_law_ 1581 = .ok (.iload 4, 2) := by decide +kernel
theorem dL_law__1583 : decode cL_law_ 1583 = .ok (.iconst 1, 1) := by decide +kernel
theorem dL_law__1584 : decode cL_law_ 1584 = .ok (.iadd, 1) := by decide +kernel
theorem dL_law__1585 : decode cL_law_ 1585 = .ok (.iaload, 1) := by decide +kernel
theorem dL_law__1586 : decode cL_law_ 1586 = .ok (.invokevirtual 181, 3) := by decide +kernel
theorem dL_law__1589 : decode cL_law_ 1589 = .ok (.istore 6, 2) := by decide +kernel
theorem dL_law__1591 : decode cL_law_ 1591 = .ok (.aload_n 2, 1) := by decide +kernel
theorem dL_law__1592 : decode cL_law_ 1592 = .ok (.invokevirtual 109, 3) := by decide +kernel
theorem dL_law__1595 : decode cL_law_ 1595 = .ok (.iload 5, 2) := by decide +kernel
theorem dL_law__1597 : decode cL_law_ 1597 = .ok (.if_icmp .eq 5, 3) := by decide +kernel
theorem dL_law__1600 : decode cL_law_ 1600 = .ok (.iconst 0, 1) := by decide +kernel
theorem dL_law__1601 : decode cL_law_ 1601 = .ok (.ireturn, 1) := by decide +kernel
theorem dL_law__1602 : decode cL_law_ 1602 = .ok (.iload 5, 2) := by decide +kernel
theorem dL_law__1604 : decode cL_law_ 1604 = .ok (.ifCond .ne 15, 3) := by decide +kernel
theorem dL_law__1607 : decode cL_law_ 1607 = .ok (.aload_n 3, 1) := by decide +kernel
theorem dL_law__1608 : decode cL_law_ 1608 = .ok (.iconst 0, 1) := by decide +kernel
theorem dL_law__1609 : decode cL_law_ 1609 = .ok (.laload, 1) := by decide +kernel
theorem dL_law__1610 : decode cL_law_ 1610 = .ok (.iload 6, 2) := by decide +kernel
theorem dL_law__1612 : decode cL_law_ 1612 = .ok (.i2l, 1) := by decide +kernel
theorem dL_law__1613 : decode cL_law_ 1613 = .ok (.lcmp, 1) := by decide +kernel
theorem dL_law__1614 : decode cL_law_ 1614 = .ok (.ifCond .eq 5, 3) := by decide +kernel
theorem dL_law__1617 : decode cL_law_ 1617 = .ok (.iconst 0, 1) := by decide +kernel
theorem dL_law__1618 : decode cL_law_ 1618 = .ok (.ireturn, 1) := by decide +kernel
theorem dL_law__1619 : decode cL_law_ 1619 = .ok (.goto 513, 3) := by decide +kernel
theorem dL_law__1622 : decode cL_law_ 1622 = .ok (.aload_n 1, 1) := by decide +kernel
theorem dL_law__1623 : decode cL_law_ 1623 = .ok (.aload_n 0, 1) := by decide +kernel
theorem dL_law__1624 : decode cL_law_ 1624 = .ok (.iload 4, 2) := by decide +kernel
theorem dL_law__1626 : decode cL_law_ 1626 = .ok (.iconst 1, 1) := by decide +kernel
theorem dL_law__1627 : decode cL_law_ 1627 = .ok (.iadd, 1) := by decide +kernel
theorem dL_law__1628 : decode cL_law_ 1628 = .ok (.iaload, 1) := by decide +kernel
theorem dL_law__1629 : decode cL_law_ 1629 = .ok (.aload_n 3, 1) := by decide +kernel
theorem dL_law__1630 : decode cL_law_ 1630 = .ok (.invokestatic 182, 3) := by decide +kernel
theorem dL_law__1633 : decode cL_law_ 1633 = .ok (.istore 5, 2) := by decide +kernel
theorem dL_law__1635 : decode cL_law_ 1635 = .ok (.aload_n 2, 1) := by decide +kernel
theorem dL_law__1636 : decode cL_law_ 1636 = .ok (.aload_n 0, 1) := by decide +kernel
theorem dL_law__1637 : decode cL_law_ 1637 = .ok (.iload 4, 2) := by decide +kernel
theorem dL_law__1639 : decode cL_law_ 1639 = .ok (.iconst 1, 1) := by decide +kernel
theorem dL_law__1640 : decode cL_law_ 1640 = .ok (.iadd, 1) := by decide +kernel
theorem dL_law__1641 : decode cL_law_ 1641 = .ok (.iaload, 1) := by decide +kernel
theorem dL_law__1642 : decode cL_law_ 1642 = .ok (.invokevirtual 184, 3) := by decide +kernel
theorem dL_law__1645 : decode cL_law_ 1645 = .ok (.istore 6, 2) := by decide +kernel
theorem dL_law__1647 : decode cL_law_ 1647 = .ok (.aload_n 2, 1) := by decide +kernel
theorem dL_law__1648 : decode cL_law_ 1648 = .ok (.invokevirtual 109, 3) := by decide +kernel
theorem dL_law__1651 : decode cL_law_ 1651 = .ok (.iload 5, 2) := by decide +kernel
theorem dL_law__1653 : decode cL_law_ 1653 = .ok (.if_icmp .eq 5, 3) := by decide +kernel
theorem dL_law__1656 : decode cL_law_ 1656 = .ok (.iconst 0, 1) := by decide +kernel
theorem dL_law__1657 : decode cL_law_ 1657 = .ok (.ireturn, 1) := by decide +kernel
theorem dL_law__1658 : decode cL_law_ 1658 = .ok (.iload 5, 2) := by decide +kernel
theorem dL_law__1660 : decode cL_law_ 1660 = .ok (.ifCond .ne 15, 3) := by decide +kernel
theorem dL_law__1663 : decode cL_law_ 1663 = .ok (.aload_n 3, 1) := by decide +kernel
theorem dL_law__1664 : decode cL_law_ 1664 = .ok (.iconst 0, 1) := by decide +kernel
theorem dL_law__1665 : decode cL_law_ 1665 = .ok (.laload, 1) := by decide +kernel
theorem dL_law__1666 : decode cL_law_ 1666 = .ok (.iload 6, 2) := by decide +kernel
theorem dL_law__1668 : decode cL_law_ 1668 = .ok (.i2l, 1) := by decide +kernel
theorem dL_law__1669 : decode cL_law_ 1669 = .ok (.lcmp, 1) := by decide +kernel
theorem dL_law__1670 : decode cL_law_ 1670 = .ok (.ifCond .eq 5, 3) := by decide +kernel
theorem dL_law__1673 : decode cL_law_ 1673 = .ok (.iconst 0, 1) := by decide +kernel
theorem dL_law__1674 : decode cL_law_ 1674 = .ok (.ireturn, 1) := by decide +kernel
theorem dL_law__1675 : decode cL_law_ 1675 = .ok (.goto 457, 3) := by decide +kernel
theorem dL_law__1678 : decode cL_law_ 1678 = .ok (.aload_n 1, 1) := by decide +kernel
theorem dL_law__1679 : decode cL_law_ 1679 = .ok (.aload_n 0, 1) := by decide +kernel
theorem dL_law__1680 : decode cL_law_ 1680 = .ok (.iload 4, 2) := by decide +kernel
theorem dL_law__1682 : decode cL_law_ 1682 = .ok (.iconst 1, 1) := by decide +kernel
theorem dL_law__1683 : decode cL_law_ 1683 = .ok (.iadd, 1) := by decide +kernel
theorem dL_law__1684 : decode cL_law_ 1684 = .ok (.iaload, 1) := by decide +kernel
theorem dL_law__1685 : decode cL_law_ 1685 = .ok (.aload_n 3, 1) := by decide +kernel
theorem dL_law__1686 : decode cL_law_ 1686 = .ok (.invokestatic 185, 3) := by decide +kernel
theorem dL_law__1689 : decode cL_law_ 1689 = .ok (.istore 5, 2) := by decide +kernel
theorem dL_law__1691 : decode cL_law_ 1691 = .ok (.aload_n 2, 1) := by decide +kernel
theorem dL_law__1692 : decode cL_law_ 1692 = .ok (.aload_n 0, 1) := by decide +kernel
theorem dL_law__1693 : decode cL_law_ 1693 = .ok (.iload 4, 2) := by decide +kernel
theorem dL_law__1695 : decode cL_law_ 1695 = .ok (.iconst 1, 1) := by decide +kernel
theorem dL_law__1696 : decode cL_law_ 1696 = .ok (.iadd, 1) := by decide +kernel
theorem dL_law__1697 : decode cL_law_ 1697 = .ok (.iaload, 1) := by decide +kernel
theorem dL_law__1698 : decode cL_law_ 1698 = .ok (.invokevirtual 187, 3) := by decide +kernel
theorem dL_law__1701 : decode cL_law_ 1701 = .ok (.istore 6, 2) := by decide +kernel
theorem dL_law__1703 : decode cL_law_ 1703 = .ok (.aload_n 2, 1) := by decide +kernel
theorem dL_law__1704 : decode cL_law_ 1704 = .ok (.invokevirtual 109, 3) := by decide +kernel
theorem dL_law__1707 : decode cL_law_ 1707 = .ok (.iload 5, 2) := by decide +kernel
theorem dL_law__1709 : decode cL_law_ 1709 = .ok (.if_icmp .eq 5, 3) := by decide +kernel
theorem dL_law__1712 : decode cL_law_ 1712 = .ok (.iconst 0, 1) := by decide +kernel
theorem dL_law__1713 : decode cL_law_ 1713 = .ok (.ireturn, 1) := by decide +kernel
theorem dL_law__1714 : decode cL_law_ 1714 = .ok (.iload 5, 2) := by decide +kernel
theorem dL_law__1716 : decode cL_law_ 1716 = .ok (.ifCond .ne 15, 3) := by decide +kernel
theorem dL_law__1719 : decode cL_law_ 1719 = .ok (.aload_n 3, 1) := by decide +kernel
theorem dL_law__1720 : decode cL_law_ 1720 = .ok (.iconst 0, 1) := by decide +kernel
theorem dL_law__1721 : decode cL_law_ 1721 = .ok (.laload, 1) := by decide +kernel
theorem dL_law__1722 : decode cL_law_ 1722 = .ok (.iload 6, 2) := by decide +kernel
theorem dL_law__1724 : decode cL_law_ 1724 = .ok (.i2l, 1) := by decide +kernel
theorem dL_law__1725 : decode cL_law_ 1725 = .ok (.lcmp, 1) := by decide +kernel
theorem dL_law__1726 : decode cL_law_ 1726 = .ok (.ifCond .eq 5, 3) := by decide +kernel
theorem dL_law__1729 : decode cL_law_ 1729 = .ok (.iconst 0, 1) := by decide +kernel
theorem dL_law__1730 : decode cL_law_ 1730 = .ok (.ireturn, 1) := by decide +kernel
theorem dL_law__1731 : decode cL_law_ 1731 = .ok (.goto 401, 3) := by decide +kernel
theorem dL_law__1734 : decode cL_law_ 1734 = .ok (.aload_n 1, 1) := by decide +kernel
theorem dL_law__1735 : decode cL_law_ 1735 = .ok (.aload_n 0, 1) := by decide +kernel
theorem dL_law__1736 : decode cL_law_ 1736 = .ok (.iload 4, 2) := by decide +kernel
theorem dL_law__1738 : decode cL_law_ 1738 = .ok (.iconst 1, 1) := by decide +kernel
theorem dL_law__1739 : decode cL_law_ 1739 = .ok (.iadd, 1) := by decide +kernel
theorem dL_law__1740 : decode cL_law_ 1740 = .ok (.iaload, 1) := by decide +kernel
theorem dL_law__1741 : decode cL_law_ 1741 = .ok (.aload_n 3, 1) := by decide +kernel
theorem dL_law__1742 : decode cL_law_ 1742 = .ok (.invokestatic 188, 3) := by decide +kernel
theorem dL_law__1745 : decode cL_law_ 1745 = .ok (.istore 5, 2) := by decide +kernel
theorem dL_law__1747 : decode cL_law_ 1747 = .ok (.aload_n 2, 1) := by decide +kernel
theorem dL_law__1748 : decode cL_law_ 1748 = .ok (.aload_n 0, 1) := by decide +kernel
theorem dL_law__1749 : decode cL_law_ 1749 = .ok (.iload 4, 2) := by decide +kernel
theorem dL_law__1751 : decode cL_law_ 1751 = .ok (.iconst 1, 1) := by decide +kernel
theorem dL_law__1752 : decode cL_law_ 1752 = .ok (.iadd, 1) := by decide +kernel
theorem dL_law__1753 : decode cL_law_ 1753 = .ok (.iaload, 1) := by decide +kernel
theorem dL_law__1754 : decode cL_law_ 1754 = .ok (.invokevirtual 190, 3) := by decide +kernel
theorem dL_law__1757 : decode cL_law_ 1757 = .ok (.istore 6, 2) := by decide +kernel
theorem dL_law__1759 : decode cL_law_ 1759 = .ok (.aload_n 2, 1) := by decide +kernel
theorem dL_law__1760 : decode cL_law_ 1760 = .ok (.invokevirtual 109, 3) := by decide +kernel
theorem dL_law__1763 : decode cL_law_ 1763 = .ok (.iload 5, 2) := by decide +kernel
theorem dL_law__1765 : decode cL_law_ 1765 = .ok (.if_icmp .eq 5, 3) := by decide +kernel
theorem dL_law__1768 : decode cL_law_ 1768 = .ok (.iconst 0, 1) := by decide +kernel
theorem dL_law__1769 : decode cL_law_ 1769 = .ok (.ireturn, 1) := by decide +kernel
theorem dL_law__1770 : decode cL_law_ 1770 = .ok (.iload 5, 2) := by decide +kernel
theorem dL_law__1772 : decode cL_law_ 1772 = .ok (.ifCond .ne 15, 3) := by decide +kernel
theorem dL_law__1775 : decode cL_law_ 1775 = .ok (.aload_n 3, 1) := by decide +kernel
theorem dL_law__1776 : decode cL_law_ 1776 = .ok (.iconst 0, 1) := by decide +kernel
theorem dL_law__1777 : decode cL_law_ 1777 = .ok (.laload, 1) := by decide +kernel
theorem dL_law__1778 : decode cL_law_ 1778 = .ok (.iload 6, 2) := by decide +kernel
theorem dL_law__1780 : decode cL_law_ 1780 = .ok (.i2l, 1) := by decide +kernel
theorem dL_law__1781 : decode cL_law_ 1781 = .ok (.lcmp, 1) := by decide +kernel
theorem dL_law__1782 : decode cL_law_ 1782 = .ok (.ifCond .eq 5, 3) := by decide +kernel
theorem dL_law__1785 : decode cL_law_ 1785 = .ok (.iconst 0, 1) := by decide +kernel
theorem dL_law__1786 : decode cL_law_ 1786 = .ok (.ireturn, 1) := by decide +kernel
theorem dL_law__1787 : decode cL_law_ 1787 = .ok (.goto 345, 3) := by decide +kernel
theorem dL_law__1790 : decode cL_law_ 1790 = .ok (.aload_n 1, 1) := by decide +kernel
theorem dL_law__1791 : decode cL_law_ 1791 = .ok (.aload_n 0, 1) := by decide +kernel
theorem dL_law__1792 : decode cL_law_ 1792 = .ok (.iload 4, 2) := by decide +kernel
theorem dL_law__1794 : decode cL_law_ 1794 = .ok (.iconst 1, 1) := by decide +kernel
theorem dL_law__1795 : decode cL_law_ 1795 = .ok (.iadd, 1) := by decide +kernel
theorem dL_law__1796 : decode cL_law_ 1796 = .ok (.iaload, 1) := by decide +kernel
theorem dL_law__1797 : decode cL_law_ 1797 = .ok (.aload_n 3, 1) := by decide +kernel
theorem dL_law__1798 : decode cL_law_ 1798 = .ok (.invokestatic 191, 3) := by decide +kernel
theorem dL_law__1801 : decode cL_law_ 1801 = .ok (.istore 5, 2) := by decide +kernel
theorem dL_law__1803 : decode cL_law_ 1803 = .ok (.aload_n 2, 1) := by decide +kernel
theorem dL_law__1804 : decode cL_law_ 1804 = .ok (.aload_n 0, 1) := by decide +kernel
theorem dL_law__1805 : decode cL_law_ 1805 = .ok (.iload 4, 2) := by decide +kernel
theorem dL_law__1807 : decode cL_law_ 1807 = .ok (.iconst 1, 1) := by decide +kernel
theorem dL_law__1808 : decode cL_law_ 1808 = .ok (.iadd, 1) := by decide +kernel
theorem dL_law__1809 : decode cL_law_ 1809 = .ok (.iaload, 1) := by decide +kernel
theorem dL_law__1810 : decode cL_law_ 1810 = .ok (.invokevirtual 193, 3) := by decide +kernel
theorem dL_law__1813 : decode cL_law_ 1813 = .ok (.istore 6, 2) := by decide +kernel
theorem dL_law__1815 : decode cL_law_ 1815 = .ok (.aload_n 2, 1) := by decide +kernel
theorem dL_law__1816 : decode cL_law_ 1816 = .ok (.invokevirtual 109, 3) := by decide +kernel
theorem dL_law__1819 : decode cL_law_ 1819 = .ok (.iload 5, 2) := by decide +kernel
theorem dL_law__1821 : decode cL_law_ 1821 = .ok (.if_icmp .eq 5, 3) := by decide +kernel
theorem dL_law__1824 : decode cL_law_ 1824 = .ok (.iconst 0, 1) := by decide +kernel
theorem dL_law__1825 : decode cL_law_ 1825 = .ok (.ireturn, 1) := by decide +kernel
theorem dL_law__1826 : decode cL_law_ 1826 = .ok (.iload 5, 2) := by decide +kernel
theorem dL_law__1828 : decode cL_law_ 1828 = .ok (.ifCond .ne 15, 3) := by decide +kernel
theorem dL_law__1831 : decode cL_law_ 1831 = .ok (.aload_n 3, 1) := by decide +kernel
theorem dL_law__1832 : decode cL_law_ 1832 = .ok (.iconst 0, 1) := by decide +kernel
theorem dL_law__1833 : decode cL_law_ 1833 = .ok (.laload, 1) := by decide +kernel
theorem dL_law__1834 : decode cL_law_ 1834 = .ok (.iload 6, 2) := by decide +kernel
theorem dL_law__1836 : decode cL_law_ 1836 = .ok (.i2l, 1) := by decide +kernel
theorem dL_law__1837 : decode cL_law_ 1837 = .ok (.lcmp, 1) := by decide +kernel
theorem dL_law__1838 : decode cL_law_ 1838 = .ok (.ifCond .eq 5, 3) := by decide +kernel
theorem dL_law__1841 : decode cL_law_ 1841 = .ok (.iconst 0, 1) := by decide +kernel
theorem dL_law__1842 : decode cL_law_ 1842 = .ok (.ireturn, 1) := by decide +kernel
theorem dL_law__1843 : decode cL_law_ 1843 = .ok (.goto 289, 3) := by decide +kernel
theorem dL_law__1846 : decode cL_law_ 1846 = .ok (.aload_n 1, 1) := by decide +kernel
theorem dL_law__1847 : decode cL_law_ 1847 = .ok (.aload_n 0, 1) := by decide +kernel
theorem dL_law__1848 : decode cL_law_ 1848 = .ok (.iload 4, 2) := by decide +kernel
theorem dL_law__1850 : decode cL_law_ 1850 = .ok (.iconst 1, 1) := by decide +kernel
theorem dL_law__1851 : decode cL_law_ 1851 = .ok (.iadd, 1) := by decide +kernel
theorem dL_law__1852 : decode cL_law_ 1852 = .ok (.iaload, 1) := by decide +kernel
theorem dL_law__1853 : decode cL_law_ 1853 = .ok (.aload_n 0, 1) := by decide +kernel
theorem dL_law__1854 : decode cL_law_ 1854 = .ok (.iload 4, 2) := by decide +kernel
theorem dL_law__1856 : decode cL_law_ 1856 = .ok (.iconst 2, 1) := by decide +kernel
theorem dL_law__1857 : decode cL_law_ 1857 = .ok (.iadd, 1) := by decide +kernel
theorem dL_law__1858 : decode cL_law_ 1858 = .ok (.iaload, 1) := by decide +kernel
theorem dL_law__1859 : decode cL_law_ 1859 = .ok (.aload_n 0, 1) := by decide +kernel
theorem dL_law__1860 : decode cL_law_ 1860 = .ok (.iload 4, 2) := by decide +kernel
theorem dL_law__1862 : decode cL_law_ 1862 = .ok (.iconst 3, 1) := by decide +kernel
theorem dL_law__1863 : decode cL_law_ 1863 = .ok (.iadd, 1) := by decide +kernel
theorem dL_law__1864 : decode cL_law_ 1864 = .ok (.iaload, 1) := by decide +kernel
theorem dL_law__1865 : decode cL_law_ 1865 = .ok (.aload_n 0, 1) := by decide +kernel
theorem dL_law__1866 : decode cL_law_ 1866 = .ok (.iload 4, 2) := by decide +kernel
theorem dL_law__1868 : decode cL_law_ 1868 = .ok (.iconst 4, 1) := by decide +kernel
theorem dL_law__1869 : decode cL_law_ 1869 = .ok (.iadd, 1) := by decide +kernel
theorem dL_law__1870 : decode cL_law_ 1870 = .ok (.iaload, 1) := by decide +kernel
theorem dL_law__1871 : decode cL_law_ 1871 = .ok (.aload_n 3, 1) := by decide +kernel
theorem dL_law__1872 : decode cL_law_ 1872 = .ok (.invokestatic 194, 3) := by decide +kernel
theorem dL_law__1875 : decode cL_law_ 1875 = .ok (.istore 5, 2) := by decide +kernel
theorem dL_law__1877 : decode cL_law_ 1877 = .ok (.aload_n 2, 1) := by decide +kernel
theorem dL_law__1878 : decode cL_law_ 1878 = .ok (.aload_n 0, 1) := by decide +kernel
theorem dL_law__1879 : decode cL_law_ 1879 = .ok (.iload 4, 2) := by decide +kernel
theorem dL_law__1881 : decode cL_law_ 1881 = .ok (.iconst 1, 1) := by decide +kernel
theorem dL_law__1882 : decode cL_law_ 1882 = .ok (.iadd, 1) := by decide +kernel
theorem dL_law__1883 : decode cL_law_ 1883 = .ok (.iaload, 1) := by decide +kernel
theorem dL_law__1884 : decode cL_law_ 1884 = .ok (.aload_n 0, 1) := by decide +kernel
theorem dL_law__1885 : decode cL_law_ 1885 = .ok (.iload 4, 2) := by decide +kernel
theorem dL_law__1887 : decode cL_law_ 1887 = .ok (.iconst 2, 1) := by decide +kernel
theorem dL_law__1888 : decode cL_law_ 1888 = .ok (.iadd, 1) := by decide +kernel
theorem dL_law__1889 : decode cL_law_ 1889 = .ok (.iaload, 1) := by decide +kernel
theorem dL_law__1890 : decode cL_law_ 1890 = .ok (.aload_n 0, 1) := by decide +kernel
theorem dL_law__1891 : decode cL_law_ 1891 = .ok (.iload 4, 2) := by decide +kernel
theorem dL_law__1893 : decode cL_law_ 1893 = .ok (.iconst 3, 1) := by decide +kernel
theorem dL_law__1894 : decode cL_law_ 1894 = .ok (.iadd, 1) := by decide +kernel
theorem dL_law__1895 : decode cL_law_ 1895 = .ok (.iaload, 1) := by decide +kernel
theorem dL_law__1896 : decode cL_law_ 1896 = .ok (.aload_n 0, 1) := by decide +kernel
theorem dL_law__1897 : decode cL_law_ 1897 = .ok (.iload 4, 2) := by decide +kernel
theorem dL_law__1899 : decode cL_law_ 1899 = .ok (.iconst 4, 1) := by decide +kernel
theorem dL_law__1900 : decode cL_law_ 1900 = .ok (.iadd, 1) := by decide +kernel
theorem dL_law__1901 : decode cL_law_ 1901 = .ok (.iaload, 1) := by decide +kernel
theorem dL_law__1902 : decode cL_law_ 1902 = .ok (.invokevirtual 197, 3) := by decide +kernel
theorem dL_law__1905 : decode cL_law_ 1905 = .ok (.istore 6, 2) := by decide +kernel
theorem dL_law__1907 : decode cL_law_ 1907 = .ok (.aload_n 2, 1) := by decide +kernel
theorem dL_law__1908 : decode cL_law_ 1908 = .ok (.invokevirtual 109, 3) := by decide +kernel
theorem dL_law__1911 : decode cL_law_ 1911 = .ok (.iload 5, 2) := by decide +kernel
theorem dL_law__1913 : decode cL_law_ 1913 = .ok (.if_icmp .eq 5, 3) := by decide +kernel
theorem dL_law__1916 : decode cL_law_ 1916 = .ok (.iconst 0, 1) := by decide +kernel
theorem dL_law__1917 : decode cL_law_ 1917 = .ok (.ireturn, 1) := by decide +kernel
theorem dL_law__1918 : decode cL_law_ 1918 = .ok (.iload 5, 2) := by decide +kernel
theorem dL_law__1920 : decode cL_law_ 1920 = .ok (.ifCond .ne 15, 3) := by decide +kernel
theorem dL_law__1923 : decode cL_law_ 1923 = .ok (.aload_n 3, 1) := by decide +kernel
theorem dL_law__1924 : decode cL_law_ 1924 = .ok (.iconst 0, 1) := by decide +kernel
theorem dL_law__1925 : decode cL_law_ 1925 = .ok (.laload, 1) := by decide +kernel
theorem dL_law__1926 : decode cL_law_ 1926 = .ok (.iload 6, 2) := by decide +kernel
theorem dL_law__1928 : decode cL_law_ 1928 = .ok (.i2l, 1) := by decide +kernel
theorem dL_law__1929 : decode cL_law_ 1929 = .ok (.lcmp, 1) := by decide +kernel
theorem dL_law__1930 : decode cL_law_ 1930 = .ok (.ifCond .eq 5, 3) := by decide +kernel
theorem dL_law__1933 : decode cL_law_ 1933 = .ok (.iconst 0, 1) := by decide +kernel
theorem dL_law__1934 : decode cL_law_ 1934 = .ok (.ireturn, 1) := by decide +kernel
theorem dL_law__1935 : decode cL_law_ 1935 = .ok (.goto 197, 3) := by decide +kernel
theorem dL_law__1938 : decode cL_law_ 1938 = .ok (.aload_n 1, 1) := by decide +kernel
theorem dL_law__1939 : decode cL_law_ 1939 = .ok (.aload_n 0, 1) := by decide +kernel
theorem dL_law__1940 : decode cL_law_ 1940 = .ok (.iload 4, 2) := by decide +kernel
theorem dL_law__1942 : decode cL_law_ 1942 = .ok (.iconst 1, 1) := by decide +kernel
theorem dL_law__1943 : decode cL_law_ 1943 = .ok (.iadd, 1) := by decide +kernel
theorem dL_law__1944 : decode cL_law_ 1944 = .ok (.iaload, 1) := by decide +kernel
theorem dL_law__1945 : decode cL_law_ 1945 = .ok (.aload_n 0, 1) := by decide +kernel
theorem dL_law__1946 : decode cL_law_ 1946 = .ok (.iload 4, 2) := by decide +kernel
theorem dL_law__1948 : decode cL_law_ 1948 = .ok (.iconst 2, 1) := by decide +kernel
theorem dL_law__1949 : decode cL_law_ 1949 = .ok (.iadd, 1) := by decide +kernel
theorem dL_law__1950 : decode cL_law_ 1950 = .ok (.iaload, 1) := by decide +kernel
theorem dL_law__1951 : decode cL_law_ 1951 = .ok (.aload_n 0, 1) := by decide +kernel
theorem dL_law__1952 : decode cL_law_ 1952 = .ok (.iload 4, 2) := by decide +kernel
theorem dL_law__1954 : decode cL_law_ 1954 = .ok (.iconst 3, 1) := by decide +kernel
theorem dL_law__1955 : decode cL_law_ 1955 = .ok (.iadd, 1) := by decide +kernel
theorem dL_law__1956 : decode cL_law_ 1956 = .ok (.iaload, 1) := by decide +kernel
theorem dL_law__1957 : decode cL_law_ 1957 = .ok (.aload_n 0, 1) := by decide +kernel
theorem dL_law__1958 : decode cL_law_ 1958 = .ok (.iload 4, 2) := by decide +kernel
theorem dL_law__1960 : decode cL_law_ 1960 = .ok (.iconst 4, 1) := by decide +kernel
theorem dL_law__1961 : decode cL_law_ 1961 = .ok (.iadd, 1) := by decide +kernel
theorem dL_law__1962 : decode cL_law_ 1962 = .ok (.iaload, 1) := by decide +kernel
theorem dL_law__1963 : decode cL_law_ 1963 = .ok (.aload_n 0, 1) := by decide +kernel
theorem dL_law__1964 : decode cL_law_ 1964 = .ok (.iload 4, 2) := by decide +kernel
theorem dL_law__1966 : decode cL_law_ 1966 = .ok (.iconst 5, 1) := by decide +kernel
theorem dL_law__1967 : decode cL_law_ 1967 = .ok (.iadd, 1) := by decide +kernel
theorem dL_law__1968 : decode cL_law_ 1968 = .ok (.iaload, 1) := by decide +kernel
theorem dL_law__1969 : decode cL_law_ 1969 = .ok (.aload_n 0, 1) := by decide +kernel
theorem dL_law__1970 : decode cL_law_ 1970 = .ok (.iload 4, 2) := by decide +kernel
theorem dL_law__1972 : decode cL_law_ 1972 = .ok (.bipush 6, 2) := by decide +kernel
theorem dL_law__1974 : decode cL_law_ 1974 = .ok (.iadd, 1) := by decide +kernel
theorem dL_law__1975 : decode cL_law_ 1975 = .ok (.iaload, 1) := by decide +kernel
theorem dL_law__1976 : decode cL_law_ 1976 = .ok (.aload_n 3, 1) := by decide +kernel
theorem dL_law__1977 : decode cL_law_ 1977 = .ok (.invokestatic 198, 3) := by decide +kernel
theorem dL_law__1980 : decode cL_law_ 1980 = .ok (.istore 5, 2) := by decide +kernel
theorem dL_law__1982 : decode cL_law_ 1982 = .ok (.aload_n 2, 1) := by decide +kernel
theorem dL_law__1983 : decode cL_law_ 1983 = .ok (.aload_n 0, 1) := by decide +kernel
theorem dL_law__1984 : decode cL_law_ 1984 = .ok (.iload 4, 2) := by decide +kernel
theorem dL_law__1986 : decode cL_law_ 1986 = .ok (.iconst 1, 1) := by decide +kernel
theorem dL_law__1987 : decode cL_law_ 1987 = .ok (.iadd, 1) := by decide +kernel
theorem dL_law__1988 : decode cL_law_ 1988 = .ok (.iaload, 1) := by decide +kernel
theorem dL_law__1989 : decode cL_law_ 1989 = .ok (.aload_n 0, 1) := by decide +kernel
theorem dL_law__1990 : decode cL_law_ 1990 = .ok (.iload 4, 2) := by decide +kernel
theorem dL_law__1992 : decode cL_law_ 1992 = .ok (.iconst 2, 1) := by decide +kernel
theorem dL_law__1993 : decode cL_law_ 1993 = .ok (.iadd, 1) := by decide +kernel
theorem dL_law__1994 : decode cL_law_ 1994 = .ok (.iaload, 1) := by decide +kernel
theorem dL_law__1995 : decode cL_law_ 1995 = .ok (.aload_n 0, 1) := by decide +kernel
theorem dL_law__1996 : decode cL_law_ 1996 = .ok (.iload 4, 2) := by decide +kernel
theorem dL_law__1998 : decode cL_law_ 1998 = .ok (.iconst 3, 1) := by decide +kernel
theorem dL_law__1999 : decode cL_law_ 1999 = .ok (.iadd, 1) := by decide +kernel
theorem dL_law__2000 : decode cL_law_ 2000 = .ok (.iaload, 1) := by decide +kernel
theorem dL_law__2001 : decode cL_law_ 2001 = .ok (.aload_n 0, 1) := by decide +kernel
theorem dL_law__2002 : decode cL_law_ 2002 = .ok (.iload 4, 2) := by decide +kernel
theorem dL_law__2004 : decode cL_law_ 2004 = .ok (.iconst 4, 1) := by decide +kernel
theorem dL_law__2005 : decode cL_law_ 2005 = .ok (.iadd, 1) := by decide +kernel
theorem dL_law__2006 : decode cL_law_ 2006 = .ok (.iaload, 1) := by decide +kernel
theorem dL_law__2007 : decode cL_law_ 2007 = .ok (.aload_n 0, 1) := by decide +kernel
theorem dL_law__2008 : decode cL_law_ 2008 = .ok (.iload 4, 2) := by decide +kernel
theorem dL_law__2010 : decode cL_law_ 2010 = .ok (.iconst 5, 1) := by decide +kernel
theorem dL_law__2011 : decode cL_law_ 2011 = .ok (.iadd, 1) := by decide +kernel
theorem dL_law__2012 : decode cL_law_ 2012 = .ok (.iaload, 1) := by decide +kernel
theorem dL_law__2013 : decode cL_law_ 2013 = .ok (.aload_n 0, 1) := by decide +kernel
theorem dL_law__2014 : decode cL_law_ 2014 = .ok (.iload 4, 2) := by decide +kernel
theorem dL_law__2016 : decode cL_law_ 2016 = .ok (.bipush 6, 2) := by decide +kernel
theorem dL_law__2018 : decode cL_law_ 2018 = .ok (.iadd, 1) := by decide +kernel
theorem dL_law__2019 : decode cL_law_ 2019 = .ok (.iaload, 1) := by decide +kernel
theorem dL_law__2020 : decode cL_law_ 2020 = .ok (.invokevirtual 201, 3) := by decide +kernel
theorem dL_law__2023 : decode cL_law_ 2023 = .ok (.istore 6, 2) := by decide +kernel
theorem dL_law__2025 : decode cL_law_ 2025 = .ok (.aload_n 2, 1) := by decide +kernel
theorem dL_law__2026 : decode cL_law_ 2026 = .ok (.invokevirtual 109, 3) := by decide +kernel
theorem dL_law__2029 : decode cL_law_ 2029 = .ok (.iload 5, 2) := by decide +kernel
theorem dL_law__2031 : decode cL_law_ 2031 = .ok (.if_icmp .eq 5, 3) := by decide +kernel
theorem dL_law__2034 : decode cL_law_ 2034 = .ok (.iconst 0, 1) := by decide +kernel
theorem dL_law__2035 : decode cL_law_ 2035 = .ok (.ireturn, 1) := by decide +kernel
theorem dL_law__2036 : decode cL_law_ 2036 = .ok (.iload 5, 2) := by decide +kernel
theorem dL_law__2038 : decode cL_law_ 2038 = .ok (.ifCond .ne 15, 3) := by decide +kernel
theorem dL_law__2041 : decode cL_law_ 2041 = .ok (.aload_n 3, 1) := by decide +kernel
theorem dL_law__2042 : decode cL_law_ 2042 = .ok (.iconst 0, 1) := by decide +kernel
theorem dL_law__2043 : decode cL_law_ 2043 = .ok (.laload, 1) := by decide +kernel
theorem dL_law__2044 : decode cL_law_ 2044 = .ok (.iload 6, 2) := by decide +kernel
theorem dL_law__2046 : decode cL_law_ 2046 = .ok (.i2l, 1) := by decide +kernel
theorem dL_law__2047 : decode cL_law_ 2047 = .ok (.lcmp, 1) := by decide +kernel
theorem dL_law__2048 : decode cL_law_ 2048 = .ok (.ifCond .eq 5, 3) := by decide +kernel
theorem dL_law__2051 : decode cL_law_ 2051 = .ok (.iconst 0, 1) := by decide +kernel
theorem dL_law__2052 : decode cL_law_ 2052 = .ok (.ireturn, 1) := by decide +kernel
theorem dL_law__2053 : decode cL_law_ 2053 = .ok (.goto 79, 3) := by decide +kernel
theorem dL_law__2056 : decode cL_law_ 2056 = .ok (.aload_n 1, 1) := by decide +kernel
theorem dL_law__2057 : decode cL_law_ 2057 = .ok (.invokevirtual 202, 3) := by decide +kernel
theorem dL_law__2060 : decode cL_law_ 2060 = .ok (.aload_n 2, 1) := by decide +kernel
theorem dL_law__2061 : decode cL_law_ 2061 = .ok (.invokevirtual 205, 3) := by decide +kernel
theorem dL_law__2064 : decode cL_law_ 2064 = .ok (.if_icmp .eq 68, 3) := by decide +kernel
theorem dL_law__2067 : decode cL_law_ 2067 = .ok (.iconst 0, 1) := by decide +kernel
theorem dL_law__2068 : decode cL_law_ 2068 = .ok (.ireturn, 1) := by decide +kernel
theorem dL_law__2069 : decode cL_law_ 2069 = .ok (.aload_n 1, 1) := by decide +kernel
theorem dL_law__2070 : decode cL_law_ 2070 = .ok (.invokevirtual 206, 3) := by decide +kernel
theorem dL_law__2073 : decode cL_law_ 2073 = .ok (.aload_n 2, 1) := by decide +kernel
theorem dL_law__2074 : decode cL_law_ 2074 = .ok (.invokevirtual 209, 3) := by decide +kernel
theorem dL_law__2077 : decode cL_law_ 2077 = .ok (.if_icmp .eq 55, 3) := by decide +kernel
theorem dL_law__2080 : decode cL_law_ 2080 = .ok (.iconst 0, 1) := by decide +kernel
theorem dL_law__2081 : decode cL_law_ 2081 = .ok (.ireturn, 1) := by decide +kernel
theorem dL_law__2082 : decode cL_law_ 2082 = .ok (.aload_n 1, 1) := by decide +kernel
theorem dL_law__2083 : decode cL_law_ 2083 = .ok (.aload_n 0, 1) := by decide +kernel
theorem dL_law__2084 : decode cL_law_ 2084 = .ok (.iload 4, 2) := by decide +kernel
theorem dL_law__2086 : decode cL_law_ 2086 = .ok (.iconst 1, 1) := by decide +kernel
theorem dL_law__2087 : decode cL_law_ 2087 = .ok (.iadd, 1) := by decide +kernel
theorem dL_law__2088 : decode cL_law_ 2088 = .ok (.iaload, 1) := by decide +kernel
theorem dL_law__2089 : decode cL_law_ 2089 = .ok (.invokevirtual 210, 3) := by decide +kernel
theorem dL_law__2092 : decode cL_law_ 2092 = .ok (.aload_n 2, 1) := by decide +kernel
theorem dL_law__2093 : decode cL_law_ 2093 = .ok (.aload_n 0, 1) := by decide +kernel
theorem dL_law__2094 : decode cL_law_ 2094 = .ok (.iload 4, 2) := by decide +kernel
theorem dL_law__2096 : decode cL_law_ 2096 = .ok (.iconst 1, 1) := by decide +kernel
theorem dL_law__2097 : decode cL_law_ 2097 = .ok (.iadd, 1) := by decide +kernel
theorem dL_law__2098 : decode cL_law_ 2098 = .ok (.iaload, 1) := by decide +kernel
theorem dL_law__2099 : decode cL_law_ 2099 = .ok (.invokevirtual 213, 3) := by decide +kernel
theorem dL_law__2102 : decode cL_law_ 2102 = .ok (.if_icmp .eq 30, 3) := by decide +kernel
theorem dL_law__2105 : decode cL_law_ 2105 = .ok (.iconst 0, 1) := by decide +kernel
theorem dL_law__2106 : decode cL_law_ 2106 = .ok (.ireturn, 1) := by decide +kernel
theorem dL_law__2107 : decode cL_law_ 2107 = .ok (.aload_n 1, 1) := by decide +kernel
theorem dL_law__2108 : decode cL_law_ 2108 = .ok (.aload_n 0, 1) := by decide +kernel
theorem dL_law__2109 : decode cL_law_ 2109 = .ok (.iload 4, 2) := by decide +kernel
theorem dL_law__2111 : decode cL_law_ 2111 = .ok (.iconst 1, 1) := by decide +kernel
theorem dL_law__2112 : decode cL_law_ 2112 = .ok (.iadd, 1) := by decide +kernel
theorem dL_law__2113 : decode cL_law_ 2113 = .ok (.iaload, 1) := by decide +kernel
theorem dL_law__2114 : decode cL_law_ 2114 = .ok (.invokevirtual 214, 3) := by decide +kernel
theorem dL_law__2117 : decode cL_law_ 2117 = .ok (.aload_n 2, 1) := by decide +kernel
theorem dL_law__2118 : decode cL_law_ 2118 = .ok (.aload_n 0, 1) := by decide +kernel
theorem dL_law__2119 : decode cL_law_ 2119 = .ok (.iload 4, 2) := by decide +kernel
theorem dL_law__2121 : decode cL_law_ 2121 = .ok (.iconst 1, 1) := by decide +kernel
theorem dL_law__2122 : decode cL_law_ 2122 = .ok (.iadd, 1) := by decide +kernel
theorem dL_law__2123 : decode cL_law_ 2123 = .ok (.iaload, 1) := by decide +kernel
theorem dL_law__2124 : decode cL_law_ 2124 = .ok (.invokevirtual 217, 3) := by decide +kernel
theorem dL_law__2127 : decode cL_law_ 2127 = .ok (.if_icmp .eq 5, 3) := by decide +kernel
theorem dL_law__2130 : decode cL_law_ 2130 = .ok (.iconst 0, 1) := by decide +kernel
theorem dL_law__2131 : decode cL_law_ 2131 = .ok (.ireturn, 1) := by decide +kernel
theorem dL_law__2132 : decode cL_law_ 2132 = .ok (.iinc 4 9, 3) := by decide +kernel
theorem dL_law__2135 : decode cL_law_ 2135 = .ok (.goto (-2112), 3) := by decide +kernel
theorem dL_law__2138 : decode cL_law_ 2138 = .ok (.iconst 1, 1) := by decide +kernel
theorem dL_law__2139 : decode cL_law_ 2139 = .ok (.ireturn, 1) := by decide +kernel
theorem dL_look_0 : decode cL_look 0 = .ok (.aload_n 2, 1) := by decide +kernel
theorem dL_look_1 : decode cL_look 1 = .ok (.iconst 0, 1) := by decide +kernel
theorem dL_look_2 : decode cL_look 2 = .ok (.aload_n 0, 1) := by decide +kernel
theorem dL_look_3 : decode cL_look 3 = .ok (.iload_n 1, 1) := by decide +kernel
theorem dL_look_4 : decode cL_look 4 = .ok (.invokevirtual 77, 3) := by decide +kernel
theorem dL_look_7 : decode cL_look 7 = .ok (.i2l, 1) := by decide +kernel
theorem dL_look_8 : decode cL_look 8 = .ok (.lastore, 1) := by decide +kernel
theorem dL_look_9 : decode cL_look 9 = .ok (.goto 6, 3) := by decide +kernel
theorem dL_look_12 : decode cL_look 12 = .ok (.astore_n 3, 1) := by decide +kernel
theorem dL_look_13 : decode cL_look 13 = .ok (.iconst 1, 1) := by decide +kernel
theorem dL_look_14 : decode cL_look 14 = .ok (.ireturn, 1) := by decide +kernel
theorem dL_look_15 : decode cL_look 15 = .ok (.iconst 0, 1) := by decide +kernel
theorem dL_look_16 : decode cL_look 16 = .ok (.ireturn, 1) := by decide +kernel
theorem dL_meet_0 : decode cL_meet 0 = .ok (.aload_n 3, 1) := by decide +kernel
theorem dL_meet_1 : decode cL_meet 1 = .ok (.iconst 0, 1) := by decide +kernel
theorem dL_meet_2 : decode cL_meet 2 = .ok (.aload_n 0, 1) := by decide +kernel
theorem dL_meet_3 : decode cL_meet 3 = .ok (.iload_n 1, 1) := by decide +kernel
theorem dL_meet_4 : decode cL_meet 4 = .ok (.iload_n 2, 1) := by decide +kernel
theorem dL_meet_5 : decode cL_meet 5 = .ok (.invokevirtual 65, 3) := by decide +kernel
theorem dL_meet_8 : decode cL_meet 8 = .ok (.i2l, 1) := by decide +kernel
theorem dL_meet_9 : decode cL_meet 9 = .ok (.lastore, 1) := by decide +kernel
theorem dL_meet_10 : decode cL_meet 10 = .ok (.goto 7, 3) := by decide +kernel
theorem dL_meet_13 : decode cL_meet 13 = .ok (.astore 4, 2) := by decide +kernel
theorem dL_meet_15 : decode cL_meet 15 = .ok (.iconst 1, 1) := by decide +kernel
theorem dL_meet_16 : decode cL_meet 16 = .ok (.ireturn, 1) := by decide +kernel
theorem dL_meet_17 : decode cL_meet 17 = .ok (.iconst 0, 1) := by decide +kernel
theorem dL_meet_18 : decode cL_meet 18 = .ok (.ireturn, 1) := by decide +kernel
theorem dL_net_0 : decode cL_net 0 = .ok (.aload_n 3, 1) := by decide +kernel
theorem dL_net_1 : decode cL_net 1 = .ok (.iconst 0, 1) := by decide +kernel
theorem dL_net_2 : decode cL_net 2 = .ok (.aload_n 0, 1) := by decide +kernel
theorem dL_net_3 : decode cL_net 3 = .ok (.iload_n 1, 1) := by decide +kernel
theorem dL_net_4 : decode cL_net 4 = .ok (.iload_n 2, 1) := by decide +kernel
theorem dL_net_5 : decode cL_net 5 = .ok (.invokevirtual 27, 3) := by decide +kernel
theorem dL_net_8 : decode cL_net 8 = .ok (.i2l, 1) := by decide +kernel
theorem dL_net_9 : decode cL_net 9 = .ok (.lastore, 1) := by decide +kernel
theorem dL_net_10 : decode cL_net 10 = .ok (.goto 11, 3) := by decide +kernel
theorem dL_net_13 : decode cL_net 13 = .ok (.astore 4, 2) := by decide +kernel
theorem dL_net_15 : decode cL_net 15 = .ok (.iconst 1, 1) := by decide +kernel
theorem dL_net_16 : decode cL_net 16 = .ok (.ireturn, 1) := by decide +kernel
theorem dL_net_17 : decode cL_net 17 = .ok (.astore 4, 2) := by decide +kernel
theorem dL_net_19 : decode cL_net 19 = .ok (.iconst 2, 1) := by decide +kernel
theorem dL_net_20 : decode cL_net 20 = .ok (.ireturn, 1) := by decide +kernel
theorem dL_net_21 : decode cL_net 21 = .ok (.iconst 0, 1) := by decide +kernel
theorem dL_net_22 : decode cL_net 22 = .ok (.ireturn, 1) := by decide +kernel
theorem dL_parent_0 : decode cL_parent 0 = .ok (.aload 4, 2) := by decide +kernel
theorem dL_parent_2 : decode cL_parent 2 = .ok (.iconst 0, 1) := by decide +kernel
theorem dL_parent_3 : decode cL_parent 3 = .ok (.aload_n 0, 1) := by decide +kernel
theorem dL_parent_4 : decode cL_parent 4 = .ok (.iload_n 1, 1) := by decide +kernel
theorem dL_parent_5 : decode cL_parent 5 = .ok (.iload_n 2, 1) := by decide +kernel
theorem dL_parent_6 : decode cL_parent 6 = .ok (.iload_n 3, 1) := by decide +kernel
theorem dL_parent_7 : decode cL_parent 7 = .ok (.invokevirtual 44, 3) := by decide +kernel
theorem dL_parent_10 : decode cL_parent 10 = .ok (.i2l, 1) := by decide +kernel
theorem dL_parent_11 : decode cL_parent 11 = .ok (.lastore, 1) := by decide +kernel
theorem dL_parent_12 : decode cL_parent 12 = .ok (.goto 7, 3) := by decide +kernel
theorem dL_parent_15 : decode cL_parent 15 = .ok (.astore 5, 2) := by decide +kernel
theorem dL_parent_17 : decode cL_parent 17 = .ok (.iconst 1, 1) := by decide +kernel
theorem dL_parent_18 : decode cL_parent 18 = .ok (.ireturn, 1) := by decide +kernel
theorem dL_parent_19 : decode cL_parent 19 = .ok (.iconst 0, 1) := by decide +kernel
theorem dL_parent_20 : decode cL_parent 20 = .ok (.ireturn, 1) := by decide +kernel
theorem dL_place_0 : decode cL_place 0 = .ok (.aload 4, 2) := by decide +kernel
theorem dL_place_2 : decode cL_place 2 = .ok (.iconst 0, 1) := by decide +kernel
theorem dL_place_3 : decode cL_place 3 = .ok (.aload_n 0, 1) := by decide +kernel
theorem dL_place_4 : decode cL_place 4 = .ok (.iload_n 1, 1) := by decide +kernel
theorem dL_place_5 : decode cL_place 5 = .ok (.iload_n 2, 1) := by decide +kernel
theorem dL_place_6 : decode cL_place 6 = .ok (.iload_n 3, 1) := by decide +kernel
theorem dL_place_7 : decode cL_place 7 = .ok (.invokevirtual 33, 3) := by decide +kernel
theorem dL_place_10 : decode cL_place 10 = .ok (.i2l, 1) := by decide +kernel
theorem dL_place_11 : decode cL_place 11 = .ok (.lastore, 1) := by decide +kernel
theorem dL_place_12 : decode cL_place 12 = .ok (.goto 11, 3) := by decide +kernel
theorem dL_place_15 : decode cL_place 15 = .ok (.astore 5, 2) := by decide +kernel
theorem dL_place_17 : decode cL_place 17 = .ok (.iconst 1, 1) := by decide +kernel
theorem dL_place_18 : decode cL_place 18 = .ok (.ireturn, 1) := by decide +kernel
theorem dL_place_19 : decode cL_place 19 = .ok (.astore 5, 2) := by decide +kernel
theorem dL_place_21 : decode cL_place 21 = .ok (.iconst 2, 1) := by decide +kernel
theorem dL_place_22 : decode cL_place 22 = .ok (.ireturn, 1) := by decide +kernel
theorem dL_place_23 : decode cL_place 23 = .ok (.iconst 0, 1) := by decide +kernel
theorem dL_place_24 : decode cL_place 24 = .ok (.ireturn, 1) := by decide +kernel
theorem dL_season_0 : decode cL_season 0 = .ok (.aload 5, 2) := by decide +kernel
theorem dL_season_2 : decode cL_season 2 = .ok (.iconst 0, 1) := by decide +kernel
theorem dL_season_3 : decode cL_season 3 = .ok (.aload_n 0, 1) := by decide +kernel
theorem dL_season_4 : decode cL_season 4 = .ok (.iload_n 1, 1) := by decide +kernel
theorem dL_season_5 : decode cL_season 5 = .ok (.iload_n 2, 1) := by decide +kernel
theorem dL_season_6 : decode cL_season 6 = .ok (.iload_n 3, 1) := by decide +kernel
theorem dL_season_7 : decode cL_season 7 = .ok (.iload 4, 2) := by decide +kernel
theorem dL_season_9 : decode cL_season 9 = .ok (.invokevirtual 86, 3) := by decide +kernel
theorem dL_season_12 : decode cL_season 12 = .ok (.i2l, 1) := by decide +kernel
theorem dL_season_13 : decode cL_season 13 = .ok (.lastore, 1) := by decide +kernel
theorem dL_season_14 : decode cL_season 14 = .ok (.goto 7, 3) := by decide +kernel
theorem dL_season_17 : decode cL_season 17 = .ok (.astore 6, 2) := by decide +kernel
theorem dL_season_19 : decode cL_season 19 = .ok (.iconst 1, 1) := by decide +kernel
theorem dL_season_20 : decode cL_season 20 = .ok (.ireturn, 1) := by decide +kernel
theorem dL_season_21 : decode cL_season 21 = .ok (.iconst 0, 1) := by decide +kernel
theorem dL_season_22 : decode cL_season 22 = .ok (.ireturn, 1) := by decide +kernel
theorem dL_shed_0 : decode cL_shed 0 = .ok (.aload_n 2, 1) := by decide +kernel
theorem dL_shed_1 : decode cL_shed 1 = .ok (.iconst 0, 1) := by decide +kernel
theorem dL_shed_2 : decode cL_shed 2 = .ok (.aload_n 0, 1) := by decide +kernel
theorem dL_shed_3 : decode cL_shed 3 = .ok (.iload_n 1, 1) := by decide +kernel
theorem dL_shed_4 : decode cL_shed 4 = .ok (.invokevirtual 71, 3) := by decide +kernel
theorem dL_shed_7 : decode cL_shed 7 = .ok (.i2l, 1) := by decide +kernel
theorem dL_shed_8 : decode cL_shed 8 = .ok (.lastore, 1) := by decide +kernel
theorem dL_shed_9 : decode cL_shed 9 = .ok (.goto 6, 3) := by decide +kernel
theorem dL_shed_12 : decode cL_shed 12 = .ok (.astore_n 3, 1) := by decide +kernel
theorem dL_shed_13 : decode cL_shed 13 = .ok (.iconst 1, 1) := by decide +kernel
theorem dL_shed_14 : decode cL_shed 14 = .ok (.ireturn, 1) := by decide +kernel
theorem dL_shed_15 : decode cL_shed 15 = .ok (.iconst 0, 1) := by decide +kernel
theorem dL_shed_16 : decode cL_shed 16 = .ok (.ireturn, 1) := by decide +kernel
theorem dL_span_0 : decode cL_span 0 = .ok (.aload 7, 2) := by decide +kernel
theorem dL_span_2 : decode cL_span 2 = .ok (.iconst 0, 1) := by decide +kernel
theorem dL_span_3 : decode cL_span 3 = .ok (.aload_n 0, 1) := by decide +kernel
theorem dL_span_4 : decode cL_span 4 = .ok (.iload_n 1, 1) := by decide +kernel
theorem dL_span_5 : decode cL_span 5 = .ok (.iload_n 2, 1) := by decide +kernel
theorem dL_span_6 : decode cL_span 6 = .ok (.iload_n 3, 1) := by decide +kernel
theorem dL_span_7 : decode cL_span 7 = .ok (.iload 4, 2) := by decide +kernel
theorem dL_span_9 : decode cL_span 9 = .ok (.iload 5, 2) := by decide +kernel
theorem dL_span_11 : decode cL_span 11 = .ok (.iload 6, 2) := by decide +kernel
theorem dL_span_13 : decode cL_span 13 = .ok (.invokevirtual 90, 3) := by decide +kernel
theorem dL_span_16 : decode cL_span 16 = .ok (.i2l, 1) := by decide +kernel
theorem dL_span_17 : decode cL_span 17 = .ok (.lastore, 1) := by decide +kernel
theorem dL_span_18 : decode cL_span 18 = .ok (.goto 11, 3) := by decide +kernel
theorem dL_span_21 : decode cL_span 21 = .ok (.astore 8, 2) := by decide +kernel
theorem dL_span_23 : decode cL_span 23 = .ok (.iconst 1, 1) := by decide +kernel
theorem dL_span_24 : decode cL_span 24 = .ok (.ireturn, 1) := by decide +kernel
theorem dL_span_25 : decode cL_span 25 = .ok (.astore 8, 2) := by decide +kernel
theorem dL_span_27 : decode cL_span 27 = .ok (.iconst 2, 1) := by decide +kernel
theorem dL_span_28 : decode cL_span 28 = .ok (.ireturn, 1) := by decide +kernel
theorem dL_span_29 : decode cL_span 29 = .ok (.iconst 0, 1) := by decide +kernel
theorem dL_span_30 : decode cL_span 30 = .ok (.ireturn, 1) := by decide +kernel
theorem dL_spared_0 : decode cL_spared 0 = .ok (.aload 4, 2) := by decide +kernel
theorem dL_spared_2 : decode cL_spared 2 = .ok (.iconst 0, 1) := by decide +kernel
theorem dL_spared_3 : decode cL_spared 3 = .ok (.aload_n 0, 1) := by decide +kernel
theorem dL_spared_4 : decode cL_spared 4 = .ok (.iload_n 1, 1) := by decide +kernel
theorem dL_spared_5 : decode cL_spared 5 = .ok (.iload_n 2, 1) := by decide +kernel
theorem dL_spared_6 : decode cL_spared 6 = .ok (.iload_n 3, 1) := by decide +kernel
theorem dL_spared_7 : decode cL_spared 7 = .ok (.invokevirtual 50, 3) := by decide +kernel
theorem dL_spared_10 : decode cL_spared 10 = .ok (.i2l, 1) := by decide +kernel
theorem dL_spared_11 : decode cL_spared 11 = .ok (.lastore, 1) := by decide +kernel
theorem dL_spared_12 : decode cL_spared 12 = .ok (.goto 7, 3) := by decide +kernel
theorem dL_spared_15 : decode cL_spared 15 = .ok (.astore 5, 2) := by decide +kernel
theorem dL_spared_17 : decode cL_spared 17 = .ok (.iconst 1, 1) := by decide +kernel
theorem dL_spared_18 : decode cL_spared 18 = .ok (.ireturn, 1) := by decide +kernel
theorem dL_spared_19 : decode cL_spared 19 = .ok (.iconst 0, 1) := by decide +kernel
theorem dL_spared_20 : decode cL_spared 20 = .ok (.ireturn, 1) := by decide +kernel
theorem dL_tight_0 : decode cL_tight 0 = .ok (.aload_n 2, 1) := by decide +kernel
theorem dL_tight_1 : decode cL_tight 1 = .ok (.iconst 0, 1) := by decide +kernel
theorem dL_tight_2 : decode cL_tight 2 = .ok (.aload_n 0, 1) := by decide +kernel
theorem dL_tight_3 : decode cL_tight 3 = .ok (.iload_n 1, 1) := by decide +kernel
theorem dL_tight_4 : decode cL_tight 4 = .ok (.invokevirtual 83, 3) := by decide +kernel
theorem dL_tight_7 : decode cL_tight 7 = .ok (.i2l, 1) := by decide +kernel
theorem dL_tight_8 : decode cL_tight 8 = .ok (.lastore, 1) := by decide +kernel
theorem dL_tight_9 : decode cL_tight 9 = .ok (.goto 6, 3) := by decide +kernel
theorem dL_tight_12 : decode cL_tight 12 = .ok (.astore_n 3, 1) := by decide +kernel
theorem dL_tight_13 : decode cL_tight 13 = .ok (.iconst 1, 1) := by decide +kernel
theorem dL_tight_14 : decode cL_tight 14 = .ok (.ireturn, 1) := by decide +kernel
theorem dL_tight_15 : decode cL_tight 15 = .ok (.iconst 0, 1) := by decide +kernel
theorem dL_tight_16 : decode cL_tight 16 = .ok (.ireturn, 1) := by decide +kernel
theorem dL_told_0 : decode cL_told 0 = .ok (.aload_n 2, 1) := by decide +kernel
theorem dL_told_1 : decode cL_told 1 = .ok (.iconst 0, 1) := by decide +kernel
theorem dL_told_2 : decode cL_told 2 = .ok (.aload_n 0, 1) := by decide +kernel
theorem dL_told_3 : decode cL_told 3 = .ok (.iload_n 1, 1) := by decide +kernel
theorem dL_told_4 : decode cL_told 4 = .ok (.invokevirtual 24, 3) := by decide +kernel
theorem dL_told_7 : decode cL_told 7 = .ok (.i2l, 1) := by decide +kernel
theorem dL_told_8 : decode cL_told 8 = .ok (.lastore, 1) := by decide +kernel
theorem dL_told_9 : decode cL_told 9 = .ok (.goto 6, 3) := by decide +kernel
theorem dL_told_12 : decode cL_told 12 = .ok (.astore_n 3, 1) := by decide +kernel
theorem dL_told_13 : decode cL_told 13 = .ok (.iconst 1, 1) := by decide +kernel
theorem dL_told_14 : decode cL_told 14 = .ok (.ireturn, 1) := by decide +kernel
theorem dL_told_15 : decode cL_told 15 = .ok (.iconst 0, 1) := by decide +kernel
theorem dL_told_16 : decode cL_told 16 = .ok (.ireturn, 1) := by decide +kernel
theorem dL_tree_0 : decode cL_tree 0 = .ok (.aload_n 3, 1) := by decide +kernel
theorem dL_tree_1 : decode cL_tree 1 = .ok (.iconst 0, 1) := by decide +kernel
theorem dL_tree_2 : decode cL_tree 2 = .ok (.aload_n 0, 1) := by decide +kernel
theorem dL_tree_3 : decode cL_tree 3 = .ok (.iload_n 1, 1) := by decide +kernel
theorem dL_tree_4 : decode cL_tree 4 = .ok (.iload_n 2, 1) := by decide +kernel
theorem dL_tree_5 : decode cL_tree 5 = .ok (.invokevirtual 62, 3) := by decide +kernel
theorem dL_tree_8 : decode cL_tree 8 = .ok (.i2l, 1) := by decide +kernel
theorem dL_tree_9 : decode cL_tree 9 = .ok (.lastore, 1) := by decide +kernel
theorem dL_tree_10 : decode cL_tree 10 = .ok (.goto 7, 3) := by decide +kernel
theorem dL_tree_13 : decode cL_tree 13 = .ok (.astore 4, 2) := by decide +kernel
theorem dL_tree_15 : decode cL_tree 15 = .ok (.iconst 1, 1) := by decide +kernel
theorem dL_tree_16 : decode cL_tree 16 = .ok (.ireturn, 1) := by decide +kernel
theorem dL_tree_17 : decode cL_tree 17 = .ok (.iconst 0, 1) := by decide +kernel
theorem dL_tree_18 : decode cL_tree 18 = .ok (.ireturn, 1) := by decide +kernel
theorem dL_work_0 : decode cL_work 0 = .ok (.aload_n 2, 1) := by decide +kernel
theorem dL_work_1 : decode cL_work 1 = .ok (.iconst 0, 1) := by decide +kernel
theorem dL_work_2 : decode cL_work 2 = .ok (.aload_n 0, 1) := by decide +kernel
theorem dL_work_3 : decode cL_work 3 = .ok (.iload_n 1, 1) := by decide +kernel
theorem dL_work_4 : decode cL_work 4 = .ok (.invokevirtual 18, 3) := by decide +kernel
theorem dL_work_7 : decode cL_work 7 = .ok (.i2l, 1) := by decide +kernel
theorem dL_work_8 : decode cL_work 8 = .ok (.lastore, 1) := by decide +kernel
theorem dL_work_9 : decode cL_work 9 = .ok (.goto 6, 3) := by decide +kernel
theorem dL_work_12 : decode cL_work 12 = .ok (.astore_n 3, 1) := by decide +kernel
theorem dL_work_13 : decode cL_work 13 = .ok (.iconst 1, 1) := by decide +kernel
theorem dL_work_14 : decode cL_work 14 = .ok (.ireturn, 1) := by decide +kernel
theorem dL_work_15 : decode cL_work 15 = .ok (.iconst 0, 1) := by decide +kernel
theorem dL_work_16 : decode cL_work 16 = .ok (.ireturn, 1) := by decide +kernel
theorem dL_would_0 : decode cL_would 0 = .ok (.aload 9, 2) := by decide +kernel
theorem dL_would_2 : decode cL_would 2 = .ok (.iconst 0, 1) := by decide +kernel
theorem dL_would_3 : decode cL_would 3 = .ok (.aload_n 0, 1) := by decide +kernel
theorem dL_would_4 : decode cL_would 4 = .ok (.iload_n 1, 1) := by decide +kernel
theorem dL_would_5 : decode cL_would 5 = .ok (.iload_n 2, 1) := by decide +kernel
theorem dL_would_6 : decode cL_would 6 = .ok (.iload_n 3, 1) := by decide +kernel
theorem dL_would_7 : decode cL_would 7 = .ok (.iload 4, 2) := by decide +kernel
theorem dL_would_9 : decode cL_would 9 = .ok (.iload 5, 2) := by decide +kernel
theorem dL_would_11 : decode cL_would 11 = .ok (.iload 6, 2) := by decide +kernel
theorem dL_would_13 : decode cL_would 13 = .ok (.iload 7, 2) := by decide +kernel
theorem dL_would_15 : decode cL_would 15 = .ok (.iload 8, 2) := by decide +kernel
theorem dL_would_17 : decode cL_would 17 = .ok (.invokevirtual 40, 3) := by decide +kernel
theorem dL_would_20 : decode cL_would 20 = .ok (.i2l, 1) := by decide +kernel
theorem dL_would_21 : decode cL_would 21 = .ok (.lastore, 1) := by decide +kernel
theorem dL_would_22 : decode cL_would 22 = .ok (.goto 7, 3) := by decide +kernel
theorem dL_would_25 : decode cL_would 25 = .ok (.astore 10, 2) := by decide +kernel
theorem dL_would_27 : decode cL_would 27 = .ok (.iconst 1, 1) := by decide +kernel
theorem dL_would_28 : decode cL_would 28 = .ok (.ireturn, 1) := by decide +kernel
theorem dL_would_29 : decode cL_would 29 = .ok (.iconst 0, 1) := by decide +kernel
theorem dL_would_30 : decode cL_would 30 = .ok (.ireturn, 1) := by decide +kernel
