theorem dX6_init_0 : decode cX6_init 0 = .ok (.aload_n 0, 1) := by decide +kernel
theorem dX6_init_1 : decode cX6_init 1 = .ok (.invokespecial 3, 3) := by decide +kernel
theorem dX6_init_4 : decode cX6_init 4 = .ok (.aload_n 0, 1) := by decide +kernel
theorem dX6_init_5 : decode cX6_init 5 = .ok (.new 9, 3) := by decide +kernel
theorem dX6_init_8 : decode cX6_init 8 = .ok (.dup, 1) := by decide +kernel
theorem dX6_init_9 : decode cX6_init 9 = .ok (.invokespecial 11, 3) := by decide +kernel
theorem dX6_init_12 : decode cX6_init 12 = .ok (.putfield 12, 3) := by decide +kernel
theorem dX6_init_15 : decode cX6_init 15 = .ok (.aload_n 0, 1) := by decide +kernel
theorem dX6_init_16 : decode cX6_init 16 = .ok (.sipush 660, 3) := by decide +kernel
theorem dX6_init_19 : decode cX6_init 19 = .ok (.newarray .int, 2) := by decide +kernel
theorem dX6_init_21 : decode cX6_init 21 = .ok (.putfield 18, 3) := by decide +kernel
theorem dX6_init_24 : decode cX6_init 24 = .ok (.aload_n 0, 1) := by decide +kernel
theorem dX6_init_25 : decode cX6_init 25 = .ok (.bipush 60, 2) := by decide +kernel
theorem dX6_init_27 : decode cX6_init 27 = .ok (.newarray .int, 2) := by decide +kernel
theorem dX6_init_29 : decode cX6_init 29 = .ok (.putfield 22, 3) := by decide +kernel
theorem dX6_init_32 : decode cX6_init 32 = .ok (.aload_n 0, 1) := by decide +kernel
theorem dX6_init_33 : decode cX6_init 33 = .ok (.bipush 60, 2) := by decide +kernel
theorem dX6_init_35 : decode cX6_init 35 = .ok (.newarray .int, 2) := by decide +kernel
theorem dX6_init_37 : decode cX6_init 37 = .ok (.putfield 25, 3) := by decide +kernel
theorem dX6_init_40 : decode cX6_init 40 = .ok (.aload_n 0, 1) := by decide +kernel
theorem dX6_init_41 : decode cX6_init 41 = .ok (.bipush 60, 2) := by decide +kernel
theorem dX6_init_43 : decode cX6_init 43 = .ok (.newarray .int, 2) := by decide +kernel
theorem dX6_init_45 : decode cX6_init 45 = .ok (.putfield 28, 3) := by decide +kernel
theorem dX6_init_48 : decode cX6_init 48 = .ok (.aload_n 0, 1) := by decide +kernel
theorem dX6_init_49 : decode cX6_init 49 = .ok (.bipush 60, 2) := by decide +kernel
theorem dX6_init_51 : decode cX6_init 51 = .ok (.newarray .int, 2) := by decide +kernel
theorem dX6_init_53 : decode cX6_init 53 = .ok (.putfield 31, 3) := by decide +kernel
theorem dX6_init_56 : decode cX6_init 56 = .ok (.aload_n 0, 1) := by decide +kernel
theorem dX6_init_57 : decode cX6_init 57 = .ok (.bipush 8, 2) := by decide +kernel
theorem dX6_init_59 : decode cX6_init 59 = .ok (.newarray .int, 2) := by decide +kernel
theorem dX6_init_61 : decode cX6_init 61 = .ok (.putfield 34, 3) := by decide +kernel
theorem dX6_init_64 : decode cX6_init 64 = .ok (.aload_n 0, 1) := by decide +kernel
theorem dX6_init_65 : decode cX6_init 65 = .ok (.bipush 8, 2) := by decide +kernel
theorem dX6_init_67 : decode cX6_init 67 = .ok (.newarray .int, 2) := by decide +kernel
theorem dX6_init_69 : decode cX6_init 69 = .ok (.putfield 37, 3) := by decide +kernel
theorem dX6_init_72 : decode cX6_init 72 = .ok (.aload_n 0, 1) := by decide +kernel
theorem dX6_init_73 : decode cX6_init 73 = .ok (.bipush 8, 2) := by decide +kernel
theorem dX6_init_75 : decode cX6_init 75 = .ok (.newarray .int, 2) := by decide +kernel
theorem dX6_init_77 : decode cX6_init 77 = .ok (.putfield 40, 3) := by decide +kernel
theorem dX6_init_80 : decode cX6_init 80 = .ok (.aload_n 0, 1) := by decide +kernel
theorem dX6_init_81 : decode cX6_init 81 = .ok (.bipush 60, 2) := by decide +kernel
theorem dX6_init_83 : decode cX6_init 83 = .ok (.newarray .int, 2) := by decide +kernel
theorem dX6_init_85 : decode cX6_init 85 = .ok (.putfield 43, 3) := by decide +kernel
theorem dX6_init_88 : decode cX6_init 88 = .ok (.aload_n 0, 1) := by decide +kernel
theorem dX6_init_89 : decode cX6_init 89 = .ok (.bipush 60, 2) := by decide +kernel
theorem dX6_init_91 : decode cX6_init 91 = .ok (.newarray .boolean, 2) := by decide +kernel
theorem dX6_init_93 : decode cX6_init 93 = .ok (.putfield 46, 3) := by decide +kernel
theorem dX6_init_96 : decode cX6_init 96 = .ok (.aload_n 0, 1) := by decide +kernel
theorem dX6_init_97 : decode cX6_init 97 = .ok (.iload_n 1, 1) := by decide +kernel
theorem dX6_init_98 : decode cX6_init 98 = .ok (.putfield 50, 3) := by decide +kernel
theorem dX6_init_101 : decode cX6_init 101 = .ok (.return_, 1) := by decide +kernel
theorem dX6_draw_0 : decode cX6_draw 0 = .ok (.aload_n 0, 1) := by decide +kernel
theorem dX6_draw_1 : decode cX6_draw 1 = .ok (.aload_n 1, 1) := by decide +kernel
theorem dX6_draw_2 : decode cX6_draw 2 = .ok (.aload_n 2, 1) := by decide +kernel
theorem dX6_draw_3 : decode cX6_draw 3 = .ok (.invokevirtual 54, 3) := by decide +kernel
theorem dX6_draw_6 : decode cX6_draw 6 = .ok (.iconst 0, 1) := by decide +kernel
theorem dX6_draw_7 : decode cX6_draw 7 = .ok (.istore_n 3, 1) := by decide +kernel
theorem dX6_draw_8 : decode cX6_draw 8 = .ok (.iload_n 3, 1) := by decide +kernel
theorem dX6_draw_9 : decode cX6_draw 9 = .ok (.aload_n 1, 1) := by decide +kernel
theorem dX6_draw_10 : decode cX6_draw 10 = .ok (.getfield 58, 3) := by decide +kernel
theorem dX6_draw_13 : decode cX6_draw 13 = .ok (.if_icmp .ge 16, 3) := by decide +kernel
theorem dX6_draw_16 : decode cX6_draw 16 = .ok (.aload_n 0, 1) := by decide +kernel
theorem dX6_draw_17 : decode cX6_draw 17 = .ok (.aload_n 1, 1) := by decide +kernel
theorem dX6_draw_18 : decode cX6_draw 18 = .ok (.aload_n 2, 1) := by decide +kernel
theorem dX6_draw_19 : decode cX6_draw 19 = .ok (.iload_n 3, 1) := by decide +kernel
theorem dX6_draw_20 : decode cX6_draw 20 = .ok (.invokevirtual 63, 3) := by decide +kernel
theorem dX6_draw_23 : decode cX6_draw 23 = .ok (.iinc 3 1, 3) := by decide +kernel
theorem dX6_draw_26 : decode cX6_draw 26 = .ok (.goto (-18), 3) := by decide +kernel
theorem dX6_draw_29 : decode cX6_draw 29 = .ok (.aload_n 0, 1) := by decide +kernel
theorem dX6_draw_30 : decode cX6_draw 30 = .ok (.aload_n 1, 1) := by decide +kernel
theorem dX6_draw_31 : decode cX6_draw 31 = .ok (.invokevirtual 67, 3) := by decide +kernel
theorem dX6_draw_34 : decode cX6_draw 34 = .ok (.aload_n 0, 1) := by decide +kernel
theorem dX6_draw_35 : decode cX6_draw 35 = .ok (.aload_n 1, 1) := by decide +kernel
theorem dX6_draw_36 : decode cX6_draw 36 = .ok (.invokevirtual 71, 3) := by decide +kernel
theorem dX6_draw_39 : decode cX6_draw 39 = .ok (.aload_n 0, 1) := by decide +kernel
theorem dX6_draw_40 : decode cX6_draw 40 = .ok (.aload_n 1, 1) := by decide +kernel
theorem dX6_draw_41 : decode cX6_draw 41 = .ok (.invokevirtual 74, 3) := by decide +kernel
theorem dX6_draw_44 : decode cX6_draw 44 = .ok (.return_, 1) := by decide +kernel
theorem dX6_isListed_0 : decode cX6_isListed 0 = .ok (.aload_n 0, 1) := by decide +kernel
theorem dX6_isListed_1 : decode cX6_isListed 1 = .ok (.getfield 22, 3) := by decide +kernel
theorem dX6_isListed_4 : decode cX6_isListed 4 = .ok (.iload_n 1, 1) := by decide +kernel
theorem dX6_isListed_5 : decode cX6_isListed 5 = .ok (.iaload, 1) := by decide +kernel
theorem dX6_isListed_6 : decode cX6_isListed 6 = .ok (.iconst 4, 1) := by decide +kernel
theorem dX6_isListed_7 : decode cX6_isListed 7 = .ok (.if_icmp .eq 13, 3) := by decide +kernel
theorem dX6_isListed_10 : decode cX6_isListed 10 = .ok (.aload_n 0, 1) := by decide +kernel
theorem dX6_isListed_11 : decode cX6_isListed 11 = .ok (.getfield 22, 3) := by decide +kernel
theorem dX6_isListed_14 : decode cX6_isListed 14 = .ok (.iload_n 1, 1) := by decide +kernel
theorem dX6_isListed_15 : decode cX6_isListed 15 = .ok (.iaload, 1) := by decide +kernel
theorem dX6_isListed_16 : decode cX6_isListed 16 = .ok (.iconst 5, 1) := by decide +kernel
theorem dX6_isListed_17 : decode cX6_isListed 17 = .ok (.if_icmp .ne 7, 3) := by decide +kernel
theorem dX6_isListed_20 : decode cX6_isListed 20 = .ok (.iconst 1, 1) := by decide +kernel
theorem dX6_isListed_21 : decode cX6_isListed 21 = .ok (.goto 4, 3) := by decide +kernel
theorem dX6_isListed_24 : decode cX6_isListed 24 = .ok (.iconst 0, 1) := by decide +kernel
theorem dX6_isListed_25 : decode cX6_isListed 25 = .ok (.ireturn, 1) := by decide +kernel
theorem dX6_maySend_0 : decode cX6_maySend 0 = .ok (.aload_n 0, 1) := by decide +kernel
theorem dX6_maySend_1 : decode cX6_maySend 1 = .ok (.getfield 22, 3) := by decide +kernel
theorem dX6_maySend_4 : decode cX6_maySend 4 = .ok (.iload_n 1, 1) := by decide +kernel
theorem dX6_maySend_5 : decode cX6_maySend 5 = .ok (.iaload, 1) := by decide +kernel
theorem dX6_maySend_6 : decode cX6_maySend 6 = .ok (.iconst 5, 1) := by decide +kernel
theorem dX6_maySend_7 : decode cX6_maySend 7 = .ok (.if_icmp .eq 21, 3) := by decide +kernel
theorem dX6_maySend_10 : decode cX6_maySend 10 = .ok (.aload_n 0, 1) := by decide +kernel
theorem dX6_maySend_11 : decode cX6_maySend 11 = .ok (.getfield 46, 3) := by decide +kernel
theorem dX6_maySend_14 : decode cX6_maySend 14 = .ok (.iload_n 1, 1) := by decide +kernel
theorem dX6_maySend_15 : decode cX6_maySend 15 = .ok (.baload, 1) := by decide +kernel
theorem dX6_maySend_16 : decode cX6_maySend 16 = .ok (.ifCond .eq 16, 3) := by decide +kernel
theorem dX6_maySend_19 : decode cX6_maySend 19 = .ok (.aload_n 0, 1) := by decide +kernel
theorem dX6_maySend_20 : decode cX6_maySend 20 = .ok (.getfield 22, 3) := by decide +kernel
theorem dX6_maySend_23 : decode cX6_maySend 23 = .ok (.iload_n 1, 1) := by decide +kernel
theorem dX6_maySend_24 : decode cX6_maySend 24 = .ok (.iaload, 1) := by decide +kernel
theorem dX6_maySend_25 : decode cX6_maySend 25 = .ok (.ifCond .eq 7, 3) := by decide +kernel
theorem dX6_maySend_28 : decode cX6_maySend 28 = .ok (.iconst 1, 1) := by decide +kernel
theorem dX6_maySend_29 : decode cX6_maySend 29 = .ok (.goto 4, 3) := by decide +kernel
theorem dX6_maySend_32 : decode cX6_maySend 32 = .ok (.iconst 0, 1) := by decide +kernel
theorem dX6_maySend_33 : decode cX6_maySend 33 = .ok (.istore_n 3, 1) := by decide +kernel
theorem dX6_maySend_34 : decode cX6_maySend 34 = .ok (.iload_n 3, 1) := by decide +kernel
theorem dX6_maySend_35 : decode cX6_maySend 35 = .ok (.ifCond .eq 39, 3) := by decide +kernel
theorem dX6_maySend_38 : decode cX6_maySend 38 = .ok (.aload_n 0, 1) := by decide +kernel
theorem dX6_maySend_39 : decode cX6_maySend 39 = .ok (.getfield 43, 3) := by decide +kernel
theorem dX6_maySend_42 : decode cX6_maySend 42 = .ok (.iload_n 1, 1) := by decide +kernel
theorem dX6_maySend_43 : decode cX6_maySend 43 = .ok (.iaload, 1) := by decide +kernel
theorem dX6_maySend_44 : decode cX6_maySend 44 = .ok (.iconst (-1), 1) := by decide +kernel
theorem dX6_maySend_45 : decode cX6_maySend 45 = .ok (.if_icmp .ne 29, 3) := by decide +kernel
theorem dX6_maySend_48 : decode cX6_maySend 48 = .ok (.aload_n 2, 1) := by decide +kernel
theorem dX6_maySend_49 : decode cX6_maySend 49 = .ok (.aload_n 2, 1) := by decide +kernel
theorem dX6_maySend_50 : decode cX6_maySend 50 = .ok (.iconst 4, 1) := by decide +kernel
theorem dX6_maySend_51 : decode cX6_maySend 51 = .ok (.aload_n 0, 1) := by decide +kernel
theorem dX6_maySend_52 : decode cX6_maySend 52 = .ok (.getfield 18, 3) := by decide +kernel
theorem dX6_maySend_55 : decode cX6_maySend 55 = .ok (.iload_n 1, 1) := by decide +kernel
theorem dX6_maySend_56 : decode cX6_maySend 56 = .ok (.bipush 11, 2) := by decide +kernel
theorem dX6_maySend_58 : decode cX6_maySend 58 = .ok (.imul, 1) := by decide +kernel
theorem dX6_maySend_59 : decode cX6_maySend 59 = .ok (.invokevirtual 77, 3) := by decide +kernel
theorem dX6_maySend_62 : decode cX6_maySend 62 = .ok (.iconst 1, 1) := by decide +kernel
theorem dX6_maySend_63 : decode cX6_maySend 63 = .ok (.invokevirtual 83, 3) := by decide +kernel
theorem dX6_maySend_66 : decode cX6_maySend 66 = .ok (.iconst 1, 1) := by decide +kernel
theorem dX6_maySend_67 : decode cX6_maySend 67 = .ok (.if_icmp .ne 7, 3) := by decide +kernel
theorem dX6_maySend_70 : decode cX6_maySend 70 = .ok (.iconst 1, 1) := by decide +kernel
theorem dX6_maySend_71 : decode cX6_maySend 71 = .ok (.goto 4, 3) := by decide +kernel
theorem dX6_maySend_74 : decode cX6_maySend 74 = .ok (.iconst 0, 1) := by decide +kernel
theorem dX6_maySend_75 : decode cX6_maySend 75 = .ok (.ireturn, 1) := by decide +kernel
theorem dX6_mayBeSent_0 : decode cX6_mayBeSent 0 = .ok (.aload_n 0, 1) := by decide +kernel
theorem dX6_mayBeSent_1 : decode cX6_mayBeSent 1 = .ok (.getfield 22, 3) := by decide +kernel
theorem dX6_mayBeSent_4 : decode cX6_mayBeSent 4 = .ok (.iload_n 1, 1) := by decide +kernel
theorem dX6_mayBeSent_5 : decode cX6_mayBeSent 5 = .ok (.iaload, 1) := by decide +kernel
theorem dX6_mayBeSent_6 : decode cX6_mayBeSent 6 = .ok (.iconst 1, 1) := by decide +kernel
theorem dX6_mayBeSent_7 : decode cX6_mayBeSent 7 = .ok (.if_icmp .eq 13, 3) := by decide +kernel
theorem dX6_mayBeSent_10 : decode cX6_mayBeSent 10 = .ok (.aload_n 0, 1) := by decide +kernel
theorem dX6_mayBeSent_11 : decode cX6_mayBeSent 11 = .ok (.getfield 22, 3) := by decide +kernel
theorem dX6_mayBeSent_14 : decode cX6_mayBeSent 14 = .ok (.iload_n 1, 1) := by decide +kernel
theorem dX6_mayBeSent_15 : decode cX6_mayBeSent 15 = .ok (.iaload, 1) := by decide +kernel
theorem dX6_mayBeSent_16 : decode cX6_mayBeSent 16 = .ok (.iconst 4, 1) := by decide +kernel
theorem dX6_mayBeSent_17 : decode cX6_mayBeSent 17 = .ok (.if_icmp .ne 7, 3) := by decide +kernel
theorem dX6_mayBeSent_20 : decode cX6_mayBeSent 20 = .ok (.iconst 1, 1) := by decide +kernel
theorem dX6_mayBeSent_21 : decode cX6_mayBeSent 21 = .ok (.goto 4, 3) := by decide +kernel
theorem dX6_mayBeSent_24 : decode cX6_mayBeSent 24 = .ok (.iconst 0, 1) := by decide +kernel
theorem dX6_mayBeSent_25 : decode cX6_mayBeSent 25 = .ok (.istore_n 2, 1) := by decide +kernel
theorem dX6_mayBeSent_26 : decode cX6_mayBeSent 26 = .ok (.iload_n 2, 1) := by decide +kernel
theorem dX6_mayBeSent_27 : decode cX6_mayBeSent 27 = .ok (.ifCond .eq 26, 3) := by decide +kernel
theorem dX6_mayBeSent_30 : decode cX6_mayBeSent 30 = .ok (.aload_n 0, 1) := by decide +kernel
theorem dX6_mayBeSent_31 : decode cX6_mayBeSent 31 = .ok (.getfield 46, 3) := by decide +kernel
theorem dX6_mayBeSent_34 : decode cX6_mayBeSent 34 = .ok (.iload_n 1, 1) := by decide +kernel
theorem dX6_mayBeSent_35 : decode cX6_mayBeSent 35 = .ok (.baload, 1) := by decide +kernel
theorem dX6_mayBeSent_36 : decode cX6_mayBeSent 36 = .ok (.ifCond .ne 17, 3) := by decide +kernel
theorem dX6_mayBeSent_39 : decode cX6_mayBeSent 39 = .ok (.aload_n 0, 1) := by decide +kernel
theorem dX6_mayBeSent_40 : decode cX6_mayBeSent 40 = .ok (.getfield 43, 3) := by decide +kernel
theorem dX6_mayBeSent_43 : decode cX6_mayBeSent 43 = .ok (.iload_n 1, 1) := by decide +kernel
theorem dX6_mayBeSent_44 : decode cX6_mayBeSent 44 = .ok (.iaload, 1) := by decide +kernel
theorem dX6_mayBeSent_45 : decode cX6_mayBeSent 45 = .ok (.iconst (-1), 1) := by decide +kernel
theorem dX6_mayBeSent_46 : decode cX6_mayBeSent 46 = .ok (.if_icmp .ne 7, 3) := by decide +kernel
theorem dX6_mayBeSent_49 : decode cX6_mayBeSent 49 = .ok (.iconst 1, 1) := by decide +kernel
theorem dX6_mayBeSent_50 : decode cX6_mayBeSent 50 = .ok (.goto 4, 3) := by decide +kernel
theorem dX6_mayBeSent_53 : decode cX6_mayBeSent 53 = .ok (.iconst 0, 1) := by decide +kernel
theorem dX6_mayBeSent_54 : decode cX6_mayBeSent 54 = .ok (.ireturn, 1) := by decide +kernel
theorem dX6_endOfChain_0 : decode cX6_endOfChain 0 = .ok (.iload_n 1, 1) := by decide +kernel
theorem dX6_endOfChain_1 : decode cX6_endOfChain 1 = .ok (.istore_n 2, 1) := by decide +kernel
theorem dX6_endOfChain_2 : decode cX6_endOfChain 2 = .ok (.iconst 0, 1) := by decide +kernel
theorem dX6_endOfChain_3 : decode cX6_endOfChain 3 = .ok (.istore_n 3, 1) := by decide +kernel
theorem dX6_endOfChain_4 : decode cX6_endOfChain 4 = .ok (.iload_n 3, 1) := by decide +kernel
theorem dX6_endOfChain_5 : decode cX6_endOfChain 5 = .ok (.bipush 60, 2) := by decide +kernel
theorem dX6_endOfChain_7 : decode cX6_endOfChain 7 = .ok (.if_icmp .ge 26, 3) := by decide +kernel
theorem dX6_endOfChain_10 : decode cX6_endOfChain 10 = .ok (.aload_n 0, 1) := by decide +kernel
theorem dX6_endOfChain_11 : decode cX6_endOfChain 11 = .ok (.getfield 43, 3) := by decide +kernel
theorem dX6_endOfChain_14 : decode cX6_endOfChain 14 = .ok (.iload_n 2, 1) := by decide +kernel
theorem dX6_endOfChain_15 : decode cX6_endOfChain 15 = .ok (.iaload, 1) := by decide +kernel
theorem dX6_endOfChain_16 : decode cX6_endOfChain 16 = .ok (.iconst (-1), 1) := by decide +kernel
theorem dX6_endOfChain_17 : decode cX6_endOfChain 17 = .ok (.if_icmp .eq 16, 3) := by decide +kernel
theorem dX6_endOfChain_20 : decode cX6_endOfChain 20 = .ok (.aload_n 0, 1) := by decide +kernel
theorem dX6_endOfChain_21 : decode cX6_endOfChain 21 = .ok (.getfield 43, 3) := by decide +kernel
theorem dX6_endOfChain_24 : decode cX6_endOfChain 24 = .ok (.iload_n 2, 1) := by decide +kernel
theorem dX6_endOfChain_25 : decode cX6_endOfChain 25 = .ok (.iaload, 1) := by decide +kernel
theorem dX6_endOfChain_26 : decode cX6_endOfChain 26 = .ok (.istore_n 2, 1) := by decide +kernel
theorem dX6_endOfChain_27 : decode cX6_endOfChain 27 = .ok (.iinc 3 1, 3) := by decide +kernel
theorem dX6_endOfChain_30 : decode cX6_endOfChain 30 = .ok (.goto (-26), 3) := by decide +kernel
theorem dX6_endOfChain_33 : decode cX6_endOfChain 33 = .ok (.iload_n 2, 1) := by decide +kernel
theorem dX6_endOfChain_34 : decode cX6_endOfChain 34 = .ok (.ireturn, 1) := by decide +kernel
theorem dX6_ask_0 : decode cX6_ask 0 = .ok (.aload_n 0, 1) := by decide +kernel
theorem dX6_ask_1 : decode cX6_ask 1 = .ok (.getfield 18, 3) := by decide +kernel
theorem dX6_ask_4 : decode cX6_ask 4 = .ok (.iconst 0, 1) := by decide +kernel
theorem dX6_ask_5 : decode cX6_ask 5 = .ok (.invokestatic 87, 3) := by decide +kernel
theorem dX6_ask_8 : decode cX6_ask 8 = .ok (.iconst 0, 1) := by decide +kernel
theorem dX6_ask_9 : decode cX6_ask 9 = .ok (.istore_n 3, 1) := by decide +kernel
theorem dX6_ask_10 : decode cX6_ask 10 = .ok (.iload_n 3, 1) := by decide +kernel
theorem dX6_ask_11 : decode cX6_ask 11 = .ok (.aload_n 1, 1) := by decide +kernel
theorem dX6_ask_12 : decode cX6_ask 12 = .ok (.getfield 58, 3) := by decide +kernel
theorem dX6_ask_15 : decode cX6_ask 15 = .ok (.if_icmp .ge 90, 3) := by decide +kernel
theorem dX6_ask_18 : decode cX6_ask 18 = .ok (.iload_n 3, 1) := by decide +kernel
theorem dX6_ask_19 : decode cX6_ask 19 = .ok (.bipush 11, 2) := by decide +kernel
theorem dX6_ask_21 : decode cX6_ask 21 = .ok (.imul, 1) := by decide +kernel
theorem dX6_ask_22 : decode cX6_ask 22 = .ok (.istore 4, 2) := by decide +kernel
theorem dX6_ask_24 : decode cX6_ask 24 = .ok (.aload_n 0, 1) := by decide +kernel
theorem dX6_ask_25 : decode cX6_ask 25 = .ok (.getfield 18, 3) := by decide +kernel
theorem dX6_ask_28 : decode cX6_ask 28 = .ok (.iload 4, 2) := by decide +kernel
theorem dX6_ask_30 : decode cX6_ask 30 = .ok (.bipush 6, 2) := by decide +kernel
theorem dX6_ask_32 : decode cX6_ask 32 = .ok (.iadd, 1) := by decide +kernel
theorem dX6_ask_33 : decode cX6_ask 33 = .ok (.aload_n 1, 1) := by decide +kernel
theorem dX6_ask_34 : decode cX6_ask 34 = .ok (.iload_n 3, 1) := by decide +kernel
theorem dX6_ask_35 : decode cX6_ask 35 = .ok (.aload_n 0, 1) := by decide +kernel
theorem dX6_ask_36 : decode cX6_ask 36 = .ok (.getfield 12, 3) := by decide +kernel
theorem dX6_ask_39 : decode cX6_ask 39 = .ok (.getfield 93, 3) := by decide +kernel
theorem dX6_ask_42 : decode cX6_ask 42 = .ok (.invokevirtual 96, 3) := by decide +kernel
theorem dX6_ask_45 : decode cX6_ask 45 = .ok (.iastore, 1) := by decide +kernel
theorem dX6_ask_46 : decode cX6_ask 46 = .ok (.aload_n 0, 1) := by decide +kernel
theorem dX6_ask_47 : decode cX6_ask 47 = .ok (.getfield 18, 3) := by decide +kernel
theorem dX6_ask_50 : decode cX6_ask 50 = .ok (.iload 4, 2) := by decide +kernel
theorem dX6_ask_52 : decode cX6_ask 52 = .ok (.bipush 8, 2) := by decide +kernel
theorem dX6_ask_54 : decode cX6_ask 54 = .ok (.iadd, 1) := by decide +kernel
theorem dX6_ask_55 : decode cX6_ask 55 = .ok (.aload_n 1, 1) := by decide +kernel
theorem dX6_ask_56 : decode cX6_ask 56 = .ok (.iload_n 3, 1) := by decide +kernel
theorem dX6_ask_57 : decode cX6_ask 57 = .ok (.invokevirtual 99, 3) := by decide +kernel
theorem dX6_ask_60 : decode cX6_ask 60 = .ok (.iastore, 1) := by decide +kernel
theorem dX6_ask_61 : decode cX6_ask 61 = .ok (.aload_n 0, 1) := by decide +kernel
theorem dX6_ask_62 : decode cX6_ask 62 = .ok (.getfield 18, 3) := by decide +kernel
theorem dX6_ask_65 : decode cX6_ask 65 = .ok (.iload 4, 2) := by decide +kernel
theorem dX6_ask_67 : decode cX6_ask 67 = .ok (.bipush 10, 2) := by decide +kernel
theorem dX6_ask_69 : decode cX6_ask 69 = .ok (.iadd, 1) := by decide +kernel
theorem dX6_ask_70 : decode cX6_ask 70 = .ok (.aload_n 1, 1) := by decide +kernel
theorem dX6_ask_71 : decode cX6_ask 71 = .ok (.getfield 103, 3) := by decide +kernel
theorem dX6_ask_74 : decode cX6_ask 74 = .ok (.iload_n 3, 1) := by decide +kernel
theorem dX6_ask_75 : decode cX6_ask 75 = .ok (.iaload, 1) := by decide +kernel
theorem dX6_ask_76 : decode cX6_ask 76 = .ok (.iastore, 1) := by decide +kernel
theorem dX6_ask_77 : decode cX6_ask 77 = .ok (.aload_n 2, 1) := by decide +kernel
theorem dX6_ask_78 : decode cX6_ask 78 = .ok (.getfield 106, 3) := by decide +kernel
theorem dX6_ask_81 : decode cX6_ask 81 = .ok (.ifCond .eq 18, 3) := by decide +kernel
theorem dX6_ask_84 : decode cX6_ask 84 = .ok (.aload_n 0, 1) := by decide +kernel
theorem dX6_ask_85 : decode cX6_ask 85 = .ok (.getfield 18, 3) := by decide +kernel
theorem dX6_ask_88 : decode cX6_ask 88 = .ok (.iload 4, 2) := by decide +kernel
theorem dX6_ask_90 : decode cX6_ask 90 = .ok (.bipush 9, 2) := by decide +kernel
theorem dX6_ask_92 : decode cX6_ask 92 = .ok (.iadd, 1) := by decide +kernel
theorem dX6_ask_93 : decode cX6_ask 93 = .ok (.aload_n 1, 1) := by decide +kernel
theorem dX6_ask_94 : decode cX6_ask 94 = .ok (.iload_n 3, 1) := by decide +kernel
theorem dX6_ask_95 : decode cX6_ask 95 = .ok (.invokevirtual 110, 3) := by decide +kernel
theorem dX6_ask_98 : decode cX6_ask 98 = .ok (.iastore, 1) := by decide +kernel
theorem dX6_ask_99 : decode cX6_ask 99 = .ok (.iinc 3 1, 3) := by decide +kernel
theorem dX6_ask_102 : decode cX6_ask 102 = .ok (.goto (-92), 3) := by decide +kernel
theorem dX6_ask_105 : decode cX6_ask 105 = .ok (.aload_n 0, 1) := by decide +kernel
theorem dX6_ask_106 : decode cX6_ask 106 = .ok (.aload_n 1, 1) := by decide +kernel
theorem dX6_ask_107 : decode cX6_ask 107 = .ok (.invokevirtual 113, 3) := by decide +kernel
theorem dX6_ask_110 : decode cX6_ask 110 = .ok (.aload_n 0, 1) := by decide +kernel
theorem dX6_ask_111 : decode cX6_ask 111 = .ok (.aload_n 1, 1) := by decide +kernel
theorem dX6_ask_112 : decode cX6_ask 112 = .ok (.invokevirtual 116, 3) := by decide +kernel
theorem dX6_ask_115 : decode cX6_ask 115 = .ok (.return_, 1) := by decide +kernel
theorem dX6_askFacts_0 : decode cX6_askFacts 0 = .ok (.aload_n 1, 1) := by decide +kernel
theorem dX6_askFacts_1 : decode cX6_askFacts 1 = .ok (.getfield 119, 3) := by decide +kernel
theorem dX6_askFacts_4 : decode cX6_askFacts 4 = .ok (.astore_n 2, 1) := by decide +kernel
theorem dX6_askFacts_5 : decode cX6_askFacts 5 = .ok (.aload_n 2, 1) := by decide +kernel
theorem dX6_askFacts_6 : decode cX6_askFacts 6 = .ok (.aload_n 1, 1) := by decide +kernel
theorem dX6_askFacts_7 : decode cX6_askFacts 7 = .ok (.getfield 123, 3) := by decide +kernel
theorem dX6_askFacts_10 : decode cX6_askFacts 10 = .ok (.invokevirtual 126, 3) := by decide +kernel
theorem dX6_askFacts_13 : decode cX6_askFacts 13 = .ok (.istore_n 3, 1) := by decide +kernel
theorem dX6_askFacts_14 : decode cX6_askFacts 14 = .ok (.iconst 0, 1) := by decide +kernel
theorem dX6_askFacts_15 : decode cX6_askFacts 15 = .ok (.istore 4, 2) := by decide +kernel
theorem dX6_askFacts_17 : decode cX6_askFacts 17 = .ok (.iload 4, 2) := by decide +kernel
theorem dX6_askFacts_19 : decode cX6_askFacts 19 = .ok (.iload_n 3, 1) := by decide +kernel
theorem dX6_askFacts_20 : decode cX6_askFacts 20 = .ok (.if_icmp .ge 77, 3) := by decide +kernel
theorem dX6_askFacts_23 : decode cX6_askFacts 23 = .ok (.aload_n 2, 1) := by decide +kernel
theorem dX6_askFacts_24 : decode cX6_askFacts 24 = .ok (.iload 4, 2) := by decide +kernel
theorem dX6_askFacts_26 : decode cX6_askFacts 26 = .ok (.iconst 4, 1) := by decide +kernel
theorem dX6_askFacts_27 : decode cX6_askFacts 27 = .ok (.invokevirtual 131, 3) := by decide +kernel
theorem dX6_askFacts_30 : decode cX6_askFacts 30 = .ok (.aload_n 0, 1) := by decide +kernel
theorem dX6_askFacts_31 : decode cX6_askFacts 31 = .ok (.getfield 12, 3) := by decide +kernel
theorem dX6_askFacts_34 : decode cX6_askFacts 34 = .ok (.getfield 93, 3) := by decide +kernel
theorem dX6_askFacts_37 : decode cX6_askFacts 37 = .ok (.if_icmp .gt 54, 3) := by decide +kernel
theorem dX6_askFacts_40 : decode cX6_askFacts 40 = .ok (.aload_n 0, 1) := by decide +kernel
theorem dX6_askFacts_41 : decode cX6_askFacts 41 = .ok (.getfield 12, 3) := by decide +kernel
theorem dX6_askFacts_44 : decode cX6_askFacts 44 = .ok (.getfield 93, 3) := by decide +kernel
theorem dX6_askFacts_47 : decode cX6_askFacts 47 = .ok (.aload_n 2, 1) := by decide +kernel
theorem dX6_askFacts_48 : decode cX6_askFacts 48 = .ok (.iload 4, 2) := by decide +kernel
theorem dX6_askFacts_50 : decode cX6_askFacts 50 = .ok (.iconst 5, 1) := by decide +kernel
theorem dX6_askFacts_51 : decode cX6_askFacts 51 = .ok (.invokevirtual 131, 3) := by decide +kernel
theorem dX6_askFacts_54 : decode cX6_askFacts 54 = .ok (.if_icmp .gt 37, 3) := by decide +kernel
theorem dX6_askFacts_57 : decode cX6_askFacts 57 = .ok (.aload_n 2, 1) := by decide +kernel
theorem dX6_askFacts_58 : decode cX6_askFacts 58 = .ok (.iload 4, 2) := by decide +kernel
theorem dX6_askFacts_60 : decode cX6_askFacts 60 = .ok (.iconst 1, 1) := by decide +kernel
theorem dX6_askFacts_61 : decode cX6_askFacts 61 = .ok (.invokevirtual 131, 3) := by decide +kernel
theorem dX6_askFacts_64 : decode cX6_askFacts 64 = .ok (.bipush 11, 2) := by decide +kernel
theorem dX6_askFacts_66 : decode cX6_askFacts 66 = .ok (.imul, 1) := by decide +kernel
theorem dX6_askFacts_67 : decode cX6_askFacts 67 = .ok (.aload_n 2, 1) := by decide +kernel
theorem dX6_askFacts_68 : decode cX6_askFacts 68 = .ok (.iload 4, 2) := by decide +kernel
theorem dX6_askFacts_70 : decode cX6_askFacts 70 = .ok (.iconst 2, 1) := by decide +kernel
theorem dX6_askFacts_71 : decode cX6_askFacts 71 = .ok (.invokevirtual 131, 3) := by decide +kernel
theorem dX6_askFacts_74 : decode cX6_askFacts 74 = .ok (.iadd, 1) := by decide +kernel
theorem dX6_askFacts_75 : decode cX6_askFacts 75 = .ok (.istore 5, 2) := by decide +kernel
theorem dX6_askFacts_77 : decode cX6_askFacts 77 = .ok (.aload_n 0, 1) := by decide +kernel
theorem dX6_askFacts_78 : decode cX6_askFacts 78 = .ok (.getfield 18, 3) := by decide +kernel
theorem dX6_askFacts_81 : decode cX6_askFacts 81 = .ok (.iload 5, 2) := by decide +kernel
theorem dX6_askFacts_83 : decode cX6_askFacts 83 = .ok (.aload_n 2, 1) := by decide +kernel
theorem dX6_askFacts_84 : decode cX6_askFacts 84 = .ok (.iload 4, 2) := by decide +kernel
theorem dX6_askFacts_86 : decode cX6_askFacts 86 = .ok (.iconst 3, 1) := by decide +kernel
theorem dX6_askFacts_87 : decode cX6_askFacts 87 = .ok (.invokevirtual 131, 3) := by decide +kernel
theorem dX6_askFacts_90 : decode cX6_askFacts 90 = .ok (.iastore, 1) := by decide +kernel
theorem dX6_askFacts_91 : decode cX6_askFacts 91 = .ok (.iinc 4 1, 3) := by decide +kernel
theorem dX6_askFacts_94 : decode cX6_askFacts 94 = .ok (.goto (-77), 3) := by decide +kernel
theorem dX6_askFacts_97 : decode cX6_askFacts 97 = .ok (.return_, 1) := by decide +kernel
theorem dX6_askGrades_0 : decode cX6_askGrades 0 = .ok (.aload_n 1, 1) := by decide +kernel
theorem dX6_askGrades_1 : decode cX6_askGrades 1 = .ok (.getfield 134, 3) := by decide +kernel
theorem dX6_askGrades_4 : decode cX6_askGrades 4 = .ok (.astore_n 2, 1) := by decide +kernel
theorem dX6_askGrades_5 : decode cX6_askGrades 5 = .ok (.aload_n 2, 1) := by decide +kernel
theorem dX6_askGrades_6 : decode cX6_askGrades 6 = .ok (.aload_n 1, 1) := by decide +kernel
theorem dX6_askGrades_7 : decode cX6_askGrades 7 = .ok (.getfield 123, 3) := by decide +kernel
theorem dX6_askGrades_10 : decode cX6_askGrades 10 = .ok (.aload_n 0, 1) := by decide +kernel
theorem dX6_askGrades_11 : decode cX6_askGrades 11 = .ok (.getfield 12, 3) := by decide +kernel
theorem dX6_askGrades_14 : decode cX6_askGrades 14 = .ok (.getfield 93, 3) := by decide +kernel
theorem dX6_askGrades_17 : decode cX6_askGrades 17 = .ok (.invokestatic 137, 3) := by decide +kernel
theorem dX6_askGrades_20 : decode cX6_askGrades 20 = .ok (.invokevirtual 126, 3) := by decide +kernel
theorem dX6_askGrades_23 : decode cX6_askGrades 23 = .ok (.istore_n 3, 1) := by decide +kernel
theorem dX6_askGrades_24 : decode cX6_askGrades 24 = .ok (.iconst 0, 1) := by decide +kernel
theorem dX6_askGrades_25 : decode cX6_askGrades 25 = .ok (.istore 4, 2) := by decide +kernel
theorem dX6_askGrades_27 : decode cX6_askGrades 27 = .ok (.iload 4, 2) := by decide +kernel
theorem dX6_askGrades_29 : decode cX6_askGrades 29 = .ok (.iload_n 3, 1) := by decide +kernel
theorem dX6_askGrades_30 : decode cX6_askGrades 30 = .ok (.if_icmp .ge 34, 3) := by decide +kernel
theorem dX6_askGrades_33 : decode cX6_askGrades 33 = .ok (.aload_n 0, 1) := by decide +kernel
theorem dX6_askGrades_34 : decode cX6_askGrades 34 = .ok (.getfield 18, 3) := by decide +kernel
theorem dX6_askGrades_37 : decode cX6_askGrades 37 = .ok (.aload_n 2, 1) := by decide +kernel
theorem dX6_askGrades_38 : decode cX6_askGrades 38 = .ok (.iload 4, 2) := by decide +kernel
theorem dX6_askGrades_40 : decode cX6_askGrades 40 = .ok (.iconst 1, 1) := by decide +kernel
theorem dX6_askGrades_41 : decode cX6_askGrades 41 = .ok (.invokevirtual 131, 3) := by decide +kernel
theorem dX6_askGrades_44 : decode cX6_askGrades 44 = .ok (.bipush 11, 2) := by decide +kernel
theorem dX6_askGrades_46 : decode cX6_askGrades 46 = .ok (.imul, 1) := by decide +kernel
theorem dX6_askGrades_47 : decode cX6_askGrades 47 = .ok (.bipush 7, 2) := by decide +kernel
theorem dX6_askGrades_49 : decode cX6_askGrades 49 = .ok (.iadd, 1) := by decide +kernel
theorem dX6_askGrades_50 : decode cX6_askGrades 50 = .ok (.aload_n 2, 1) := by decide +kernel
theorem dX6_askGrades_51 : decode cX6_askGrades 51 = .ok (.iload 4, 2) := by decide +kernel
theorem dX6_askGrades_53 : decode cX6_askGrades 53 = .ok (.iconst 3, 1) := by decide +kernel
theorem dX6_askGrades_54 : decode cX6_askGrades 54 = .ok (.invokevirtual 131, 3) := by decide +kernel
theorem dX6_askGrades_57 : decode cX6_askGrades 57 = .ok (.iastore, 1) := by decide +kernel
theorem dX6_askGrades_58 : decode cX6_askGrades 58 = .ok (.iinc 4 1, 3) := by decide +kernel
theorem dX6_askGrades_61 : decode cX6_askGrades 61 = .ok (.goto (-34), 3) := by decide +kernel
theorem dX6_askGrades_64 : decode cX6_askGrades 64 = .ok (.return_, 1) := by decide +kernel
theorem dX6_judge_0 : decode cX6_judge 0 = .ok (.iload_n 3, 1) := by decide +kernel
theorem dX6_judge_1 : decode cX6_judge 1 = .ok (.bipush 11, 2) := by decide +kernel
theorem dX6_judge_3 : decode cX6_judge 3 = .ok (.imul, 1) := by decide +kernel
theorem dX6_judge_4 : decode cX6_judge 4 = .ok (.istore 4, 2) := by decide +kernel
theorem dX6_judge_6 : decode cX6_judge 6 = .ok (.aload_n 0, 1) := by decide +kernel
theorem dX6_judge_7 : decode cX6_judge 7 = .ok (.getfield 25, 3) := by decide +kernel
theorem dX6_judge_10 : decode cX6_judge 10 = .ok (.iload_n 3, 1) := by decide +kernel
theorem dX6_judge_11 : decode cX6_judge 11 = .ok (.iconst (-1), 1) := by decide +kernel
theorem dX6_judge_12 : decode cX6_judge 12 = .ok (.iastore, 1) := by decide +kernel
theorem dX6_judge_13 : decode cX6_judge 13 = .ok (.aload_n 1, 1) := by decide +kernel
theorem dX6_judge_14 : decode cX6_judge 14 = .ok (.getfield 142, 3) := by decide +kernel
theorem dX6_judge_17 : decode cX6_judge 17 = .ok (.iload_n 3, 1) := by decide +kernel
theorem dX6_judge_18 : decode cX6_judge 18 = .ok (.baload, 1) := by decide +kernel
theorem dX6_judge_19 : decode cX6_judge 19 = .ok (.ifCond .ne 11, 3) := by decide +kernel
theorem dX6_judge_22 : decode cX6_judge 22 = .ok (.aload_n 0, 1) := by decide +kernel
theorem dX6_judge_23 : decode cX6_judge 23 = .ok (.getfield 22, 3) := by decide +kernel
theorem dX6_judge_26 : decode cX6_judge 26 = .ok (.iload_n 3, 1) := by decide +kernel
theorem dX6_judge_27 : decode cX6_judge 27 = .ok (.iconst 0, 1) := by decide +kernel
theorem dX6_judge_28 : decode cX6_judge 28 = .ok (.iastore, 1) := by decide +kernel
theorem dX6_judge_29 : decode cX6_judge 29 = .ok (.return_, 1) := by decide +kernel
theorem dX6_judge_30 : decode cX6_judge 30 = .ok (.aload_n 0, 1) := by decide +kernel
theorem dX6_judge_31 : decode cX6_judge 31 = .ok (.getfield 18, 3) := by decide +kernel
theorem dX6_judge_34 : decode cX6_judge 34 = .ok (.iload 4, 2) := by decide +kernel
theorem dX6_judge_36 : decode cX6_judge 36 = .ok (.bipush 6, 2) := by decide +kernel
theorem dX6_judge_38 : decode cX6_judge 38 = .ok (.iadd, 1) := by decide +kernel
theorem dX6_judge_39 : decode cX6_judge 39 = .ok (.iaload, 1) := by decide +kernel
theorem dX6_judge_40 : decode cX6_judge 40 = .ok (.aload_n 2, 1) := by decide +kernel
theorem dX6_judge_41 : decode cX6_judge 41 = .ok (.getfield 145, 3) := by decide +kernel
theorem dX6_judge_44 : decode cX6_judge 44 = .ok (.if_icmp .lt 20, 3) := by decide +kernel
theorem dX6_judge_47 : decode cX6_judge 47 = .ok (.aload_n 0, 1) := by decide +kernel
theorem dX6_judge_48 : decode cX6_judge 48 = .ok (.getfield 18, 3) := by decide +kernel
theorem dX6_judge_51 : decode cX6_judge 51 = .ok (.iload 4, 2) := by decide +kernel
theorem dX6_judge_53 : decode cX6_judge 53 = .ok (.bipush 6, 2) := by decide +kernel
theorem dX6_judge_55 : decode cX6_judge 55 = .ok (.iadd, 1) := by decide +kernel
theorem dX6_judge_56 : decode cX6_judge 56 = .ok (.iaload, 1) := by decide +kernel
theorem dX6_judge_57 : decode cX6_judge 57 = .ok (.aload_n 2, 1) := by decide +kernel
theorem dX6_judge_58 : decode cX6_judge 58 = .ok (.getfield 148, 3) := by decide +kernel
theorem dX6_judge_61 : decode cX6_judge 61 = .ok (.if_icmp .le 11, 3) := by decide +kernel
theorem dX6_judge_64 : decode cX6_judge 64 = .ok (.aload_n 0, 1) := by decide +kernel
theorem dX6_judge_65 : decode cX6_judge 65 = .ok (.getfield 22, 3) := by decide +kernel
theorem dX6_judge_68 : decode cX6_judge 68 = .ok (.iload_n 3, 1) := by decide +kernel
theorem dX6_judge_69 : decode cX6_judge 69 = .ok (.iconst 1, 1) := by decide +kernel
theorem dX6_judge_70 : decode cX6_judge 70 = .ok (.iastore, 1) := by decide +kernel
theorem dX6_judge_71 : decode cX6_judge 71 = .ok (.return_, 1) := by decide +kernel
theorem dX6_judge_72 : decode cX6_judge 72 = .ok (.aload_n 0, 1) := by decide +kernel
theorem dX6_judge_73 : decode cX6_judge 73 = .ok (.getfield 22, 3) := by decide +kernel
theorem dX6_judge_76 : decode cX6_judge 76 = .ok (.iload_n 3, 1) := by decide +kernel
theorem dX6_judge_77 : decode cX6_judge 77 = .ok (.iconst 2, 1) := by decide +kernel
theorem dX6_judge_78 : decode cX6_judge 78 = .ok (.iastore, 1) := by decide +kernel
theorem dX6_judge_79 : decode cX6_judge 79 = .ok (.aload_n 0, 1) := by decide +kernel
theorem dX6_judge_80 : decode cX6_judge 80 = .ok (.getfield 25, 3) := by decide +kernel
theorem dX6_judge_83 : decode cX6_judge 83 = .ok (.iload_n 3, 1) := by decide +kernel
theorem dX6_judge_84 : decode cX6_judge 84 = .ok (.aload_n 2, 1) := by decide +kernel
theorem dX6_judge_85 : decode cX6_judge 85 = .ok (.iconst 1, 1) := by decide +kernel
theorem dX6_judge_86 : decode cX6_judge 86 = .ok (.aload_n 0, 1) := by decide +kernel
theorem dX6_judge_87 : decode cX6_judge 87 = .ok (.getfield 18, 3) := by decide +kernel
theorem dX6_judge_90 : decode cX6_judge 90 = .ok (.iload 4, 2) := by decide +kernel
theorem dX6_judge_92 : decode cX6_judge 92 = .ok (.invokevirtual 77, 3) := by decide +kernel
theorem dX6_judge_95 : decode cX6_judge 95 = .ok (.iastore, 1) := by decide +kernel
theorem dX6_judge_96 : decode cX6_judge 96 = .ok (.aload_n 0, 1) := by decide +kernel
theorem dX6_judge_97 : decode cX6_judge 97 = .ok (.getfield 25, 3) := by decide +kernel
theorem dX6_judge_100 : decode cX6_judge 100 = .ok (.iload_n 3, 1) := by decide +kernel
theorem dX6_judge_101 : decode cX6_judge 101 = .ok (.iaload, 1) := by decide +kernel
theorem dX6_judge_102 : decode cX6_judge 102 = .ok (.iconst (-1), 1) := by decide +kernel
theorem dX6_judge_103 : decode cX6_judge 103 = .ok (.if_icmp .ne 27, 3) := by decide +kernel
theorem dX6_judge_106 : decode cX6_judge 106 = .ok (.aload_n 0, 1) := by decide +kernel
theorem dX6_judge_107 : decode cX6_judge 107 = .ok (.getfield 22, 3) := by decide +kernel
theorem dX6_judge_110 : decode cX6_judge 110 = .ok (.iload_n 3, 1) := by decide +kernel
theorem dX6_judge_111 : decode cX6_judge 111 = .ok (.iconst 3, 1) := by decide +kernel
theorem dX6_judge_112 : decode cX6_judge 112 = .ok (.iastore, 1) := by decide +kernel
theorem dX6_judge_113 : decode cX6_judge 113 = .ok (.aload_n 0, 1) := by decide +kernel
theorem dX6_judge_114 : decode cX6_judge 114 = .ok (.getfield 25, 3) := by decide +kernel
theorem dX6_judge_117 : decode cX6_judge 117 = .ok (.iload_n 3, 1) := by decide +kernel
theorem dX6_judge_118 : decode cX6_judge 118 = .ok (.aload_n 2, 1) := by decide +kernel
theorem dX6_judge_119 : decode cX6_judge 119 = .ok (.iconst 2, 1) := by decide +kernel
theorem dX6_judge_120 : decode cX6_judge 120 = .ok (.aload_n 0, 1) := by decide +kernel
theorem dX6_judge_121 : decode cX6_judge 121 = .ok (.getfield 18, 3) := by decide +kernel
theorem dX6_judge_124 : decode cX6_judge 124 = .ok (.iload 4, 2) := by decide +kernel
theorem dX6_judge_126 : decode cX6_judge 126 = .ok (.invokevirtual 77, 3) := by decide +kernel
theorem dX6_judge_129 : decode cX6_judge 129 = .ok (.iastore, 1) := by decide +kernel
theorem dX6_judge_130 : decode cX6_judge 130 = .ok (.aload_n 0, 1) := by decide +kernel
theorem dX6_judge_131 : decode cX6_judge 131 = .ok (.getfield 25, 3) := by decide +kernel
theorem dX6_judge_134 : decode cX6_judge 134 = .ok (.iload_n 3, 1) := by decide +kernel
theorem dX6_judge_135 : decode cX6_judge 135 = .ok (.iaload, 1) := by decide +kernel
theorem dX6_judge_136 : decode cX6_judge 136 = .ok (.iconst (-1), 1) := by decide +kernel
theorem dX6_judge_137 : decode cX6_judge 137 = .ok (.if_icmp .ne 51, 3) := by decide +kernel
theorem dX6_judge_140 : decode cX6_judge 140 = .ok (.aload_n 0, 1) := by decide +kernel
theorem dX6_judge_141 : decode cX6_judge 141 = .ok (.getfield 22, 3) := by decide +kernel
theorem dX6_judge_144 : decode cX6_judge 144 = .ok (.iload_n 3, 1) := by decide +kernel
theorem dX6_judge_145 : decode cX6_judge 145 = .ok (.iconst 4, 1) := by decide +kernel
theorem dX6_judge_146 : decode cX6_judge 146 = .ok (.iastore, 1) := by decide +kernel
theorem dX6_judge_147 : decode cX6_judge 147 = .ok (.aload_n 0, 1) := by decide +kernel
theorem dX6_judge_148 : decode cX6_judge 148 = .ok (.getfield 25, 3) := by decide +kernel
theorem dX6_judge_151 : decode cX6_judge 151 = .ok (.iload_n 3, 1) := by decide +kernel
theorem dX6_judge_152 : decode cX6_judge 152 = .ok (.aload_n 2, 1) := by decide +kernel
theorem dX6_judge_153 : decode cX6_judge 153 = .ok (.iconst 3, 1) := by decide +kernel
theorem dX6_judge_154 : decode cX6_judge 154 = .ok (.aload_n 0, 1) := by decide +kernel
theorem dX6_judge_155 : decode cX6_judge 155 = .ok (.getfield 18, 3) := by decide +kernel
theorem dX6_judge_158 : decode cX6_judge 158 = .ok (.iload 4, 2) := by decide +kernel
theorem dX6_judge_160 : decode cX6_judge 160 = .ok (.invokevirtual 77, 3) := by decide +kernel
theorem dX6_judge_163 : decode cX6_judge 163 = .ok (.iastore, 1) := by decide +kernel
theorem dX6_judge_164 : decode cX6_judge 164 = .ok (.aload_n 0, 1) := by decide +kernel
theorem dX6_judge_165 : decode cX6_judge 165 = .ok (.getfield 28, 3) := by decide +kernel
theorem dX6_judge_168 : decode cX6_judge 168 = .ok (.iload_n 3, 1) := by decide +kernel
theorem dX6_judge_169 : decode cX6_judge 169 = .ok (.aload_n 0, 1) := by decide +kernel
theorem dX6_judge_170 : decode cX6_judge 170 = .ok (.aload_n 1, 1) := by decide +kernel
theorem dX6_judge_171 : decode cX6_judge 171 = .ok (.iload_n 3, 1) := by decide +kernel
theorem dX6_judge_172 : decode cX6_judge 172 = .ok (.aload_n 2, 1) := by decide +kernel
theorem dX6_judge_173 : decode cX6_judge 173 = .ok (.aload_n 0, 1) := by decide +kernel
theorem dX6_judge_174 : decode cX6_judge 174 = .ok (.getfield 25, 3) := by decide +kernel
theorem dX6_judge_177 : decode cX6_judge 177 = .ok (.iload_n 3, 1) := by decide +kernel
theorem dX6_judge_178 : decode cX6_judge 178 = .ok (.iaload, 1) := by decide +kernel
theorem dX6_judge_179 : decode cX6_judge 179 = .ok (.bipush 9, 2) := by decide +kernel
theorem dX6_judge_181 : decode cX6_judge 181 = .ok (.invokevirtual 83, 3) := by decide +kernel
theorem dX6_judge_184 : decode cX6_judge 184 = .ok (.invokevirtual 151, 3) := by decide +kernel
theorem dX6_judge_187 : decode cX6_judge 187 = .ok (.iastore, 1) := by decide +kernel
theorem dX6_judge_188 : decode cX6_judge 188 = .ok (.return_, 1) := by decide +kernel
theorem dX6_orderOf_0 : decode cX6_orderOf 0 = .ok (.aload_n 0, 1) := by decide +kernel
theorem dX6_orderOf_1 : decode cX6_orderOf 1 = .ok (.getfield 12, 3) := by decide +kernel
theorem dX6_orderOf_4 : decode cX6_orderOf 4 = .ok (.getfield 155, 3) := by decide +kernel
theorem dX6_orderOf_7 : decode cX6_orderOf 7 = .ok (.aload_n 1, 1) := by decide +kernel
theorem dX6_orderOf_8 : decode cX6_orderOf 8 = .ok (.getfield 158, 3) := by decide +kernel
theorem dX6_orderOf_11 : decode cX6_orderOf 11 = .ok (.iload_n 2, 1) := by decide +kernel
theorem dX6_orderOf_12 : decode cX6_orderOf 12 = .ok (.iaload, 1) := by decide +kernel
theorem dX6_orderOf_13 : decode cX6_orderOf 13 = .ok (.bipush 52, 2) := by decide +kernel
theorem dX6_orderOf_15 : decode cX6_orderOf 15 = .ok (.invokestatic 161, 3) := by decide +kernel
theorem dX6_orderOf_18 : decode cX6_orderOf 18 = .ok (.iaload, 1) := by decide +kernel
theorem dX6_orderOf_19 : decode cX6_orderOf 19 = .ok (.istore 4, 2) := by decide +kernel
theorem dX6_orderOf_21 : decode cX6_orderOf 21 = .ok (.aload_n 0, 1) := by decide +kernel
theorem dX6_orderOf_22 : decode cX6_orderOf 22 = .ok (.getfield 12, 3) := by decide +kernel
theorem dX6_orderOf_25 : decode cX6_orderOf 25 = .ok (.getfield 164, 3) := by decide +kernel
theorem dX6_orderOf_28 : decode cX6_orderOf 28 = .ok (.aload_n 1, 1) := by decide +kernel
theorem dX6_orderOf_29 : decode cX6_orderOf 29 = .ok (.getfield 167, 3) := by decide +kernel
theorem dX6_orderOf_32 : decode cX6_orderOf 32 = .ok (.iload_n 2, 1) := by decide +kernel
theorem dX6_orderOf_33 : decode cX6_orderOf 33 = .ok (.iaload, 1) := by decide +kernel
theorem dX6_orderOf_34 : decode cX6_orderOf 34 = .ok (.iaload, 1) := by decide +kernel
theorem dX6_orderOf_35 : decode cX6_orderOf 35 = .ok (.istore 5, 2) := by decide +kernel
theorem dX6_orderOf_37 : decode cX6_orderOf 37 = .ok (.iload_n 3, 1) := by decide +kernel
theorem dX6_orderOf_38 : decode cX6_orderOf 38 = .ok (.bipush 52, 2) := by decide +kernel
theorem dX6_orderOf_40 : decode cX6_orderOf 40 = .ok (.imul, 1) := by decide +kernel
theorem dX6_orderOf_41 : decode cX6_orderOf 41 = .ok (.iload 4, 2) := by decide +kernel
theorem dX6_orderOf_43 : decode cX6_orderOf 43 = .ok (.iadd, 1) := by decide +kernel
theorem dX6_orderOf_44 : decode cX6_orderOf 44 = .ok (.bipush 26, 2) := by decide +kernel
theorem dX6_orderOf_46 : decode cX6_orderOf 46 = .ok (.imul, 1) := by decide +kernel
theorem dX6_orderOf_47 : decode cX6_orderOf 47 = .ok (.iload 5, 2) := by decide +kernel
theorem dX6_orderOf_49 : decode cX6_orderOf 49 = .ok (.iadd, 1) := by decide +kernel
theorem dX6_orderOf_50 : decode cX6_orderOf 50 = .ok (.bipush 60, 2) := by decide +kernel
theorem dX6_orderOf_52 : decode cX6_orderOf 52 = .ok (.imul, 1) := by decide +kernel
theorem dX6_orderOf_53 : decode cX6_orderOf 53 = .ok (.iload_n 2, 1) := by decide +kernel
theorem dX6_orderOf_54 : decode cX6_orderOf 54 = .ok (.iadd, 1) := by decide +kernel
theorem dX6_orderOf_55 : decode cX6_orderOf 55 = .ok (.ireturn, 1) := by decide +kernel
theorem dX6_share_0 : decode cX6_share 0 = .ok (.iconst 0, 1) := by decide +kernel
theorem dX6_share_1 : decode cX6_share 1 = .ok (.istore_n 2, 1) := by decide +kernel
theorem dX6_share_2 : decode cX6_share 2 = .ok (.aload_n 0, 1) := by decide +kernel
theorem dX6_share_3 : decode cX6_share 3 = .ok (.getfield 34, 3) := by decide +kernel
theorem dX6_share_6 : decode cX6_share 6 = .ok (.iconst 0, 1) := by decide +kernel
theorem dX6_share_7 : decode cX6_share 7 = .ok (.invokestatic 87, 3) := by decide +kernel
theorem dX6_share_10 : decode cX6_share 10 = .ok (.iconst 0, 1) := by decide +kernel
theorem dX6_share_11 : decode cX6_share 11 = .ok (.istore_n 3, 1) := by decide +kernel
theorem dX6_share_12 : decode cX6_share 12 = .ok (.iload_n 3, 1) := by decide +kernel
theorem dX6_share_13 : decode cX6_share 13 = .ok (.aload_n 1, 1) := by decide +kernel
theorem dX6_share_14 : decode cX6_share 14 = .ok (.getfield 58, 3) := by decide +kernel
theorem dX6_share_17 : decode cX6_share 17 = .ok (.if_icmp .ge 35, 3) := by decide +kernel
theorem dX6_share_20 : decode cX6_share 20 = .ok (.aload_n 0, 1) := by decide +kernel
theorem dX6_share_21 : decode cX6_share 21 = .ok (.iload_n 3, 1) := by decide +kernel
theorem dX6_share_22 : decode cX6_share 22 = .ok (.invokevirtual 170, 3) := by decide +kernel
theorem dX6_share_25 : decode cX6_share 25 = .ok (.ifCond .eq 21, 3) := by decide +kernel
theorem dX6_share_28 : decode cX6_share 28 = .ok (.aload_n 0, 1) := by decide +kernel
theorem dX6_share_29 : decode cX6_share 29 = .ok (.getfield 34, 3) := by decide +kernel
theorem dX6_share_32 : decode cX6_share 32 = .ok (.aload_n 1, 1) := by decide +kernel
theorem dX6_share_33 : decode cX6_share 33 = .ok (.getfield 103, 3) := by decide +kernel
theorem dX6_share_36 : decode cX6_share 36 = .ok (.iload_n 3, 1) := by decide +kernel
theorem dX6_share_37 : decode cX6_share 37 = .ok (.iaload, 1) := by decide +kernel
theorem dX6_share_38 : decode cX6_share 38 = .ok (.dup2, 1) := by decide +kernel
theorem dX6_share_39 : decode cX6_share 39 = .ok (.iaload, 1) := by decide +kernel
theorem dX6_share_40 : decode cX6_share 40 = .ok (.iconst 1, 1) := by decide +kernel
theorem dX6_share_41 : decode cX6_share 41 = .ok (.iadd, 1) := by decide +kernel
theorem dX6_share_42 : decode cX6_share 42 = .ok (.iastore, 1) := by decide +kernel
theorem dX6_share_43 : decode cX6_share 43 = .ok (.iinc 2 1, 3) := by decide +kernel
theorem dX6_share_46 : decode cX6_share 46 = .ok (.iinc 3 1, 3) := by decide +kernel
theorem dX6_share_49 : decode cX6_share 49 = .ok (.goto (-37), 3) := by decide +kernel
theorem dX6_share_52 : decode cX6_share 52 = .ok (.aload_n 0, 1) := by decide +kernel
theorem dX6_share_53 : decode cX6_share 53 = .ok (.aload_n 0, 1) := by decide +kernel
theorem dX6_share_54 : decode cX6_share 54 = .ok (.getfield 12, 3) := by decide +kernel
theorem dX6_share_57 : decode cX6_share 57 = .ok (.getfield 174, 3) := by decide +kernel
theorem dX6_share_60 : decode cX6_share 60 = .ok (.iload_n 2, 1) := by decide +kernel
theorem dX6_share_61 : decode cX6_share 61 = .ok (.invokestatic 137, 3) := by decide +kernel
theorem dX6_share_64 : decode cX6_share 64 = .ok (.putfield 177, 3) := by decide +kernel
theorem dX6_share_67 : decode cX6_share 67 = .ok (.aload_n 0, 1) := by decide +kernel
theorem dX6_share_68 : decode cX6_share 68 = .ok (.getfield 177, 3) := by decide +kernel
theorem dX6_share_71 : decode cX6_share 71 = .ok (.istore_n 3, 1) := by decide +kernel
theorem dX6_share_72 : decode cX6_share 72 = .ok (.iconst 0, 1) := by decide +kernel
theorem dX6_share_73 : decode cX6_share 73 = .ok (.istore 4, 2) := by decide +kernel
theorem dX6_share_75 : decode cX6_share 75 = .ok (.iload 4, 2) := by decide +kernel
theorem dX6_share_77 : decode cX6_share 77 = .ok (.bipush 8, 2) := by decide +kernel
theorem dX6_share_79 : decode cX6_share 79 = .ok (.if_icmp .ge 77, 3) := by decide +kernel
theorem dX6_share_82 : decode cX6_share 82 = .ok (.aload_n 0, 1) := by decide +kernel
theorem dX6_share_83 : decode cX6_share 83 = .ok (.getfield 37, 3) := by decide +kernel
theorem dX6_share_86 : decode cX6_share 86 = .ok (.iload 4, 2) := by decide +kernel
theorem dX6_share_88 : decode cX6_share 88 = .ok (.iload_n 2, 1) := by decide +kernel
theorem dX6_share_89 : decode cX6_share 89 = .ok (.ifCond .ne 7, 3) := by decide +kernel
theorem dX6_share_92 : decode cX6_share 92 = .ok (.iconst 0, 1) := by decide +kernel
theorem dX6_share_93 : decode cX6_share 93 = .ok (.goto 17, 3) := by decide +kernel
theorem dX6_share_96 : decode cX6_share 96 = .ok (.aload_n 0, 1) := by decide +kernel
theorem dX6_share_97 : decode cX6_share 97 = .ok (.getfield 177, 3) := by decide +kernel
theorem dX6_share_100 : decode cX6_share 100 = .ok (.aload_n 0, 1) := by decide +kernel
theorem dX6_share_101 : decode cX6_share 101 = .ok (.getfield 34, 3) := by decide +kernel
theorem dX6_share_104 : decode cX6_share 104 = .ok (.iload 4, 2) := by decide +kernel
theorem dX6_share_106 : decode cX6_share 106 = .ok (.iaload, 1) := by decide +kernel
theorem dX6_share_107 : decode cX6_share 107 = .ok (.imul, 1) := by decide +kernel
theorem dX6_share_108 : decode cX6_share 108 = .ok (.iload_n 2, 1) := by decide +kernel
theorem dX6_share_109 : decode cX6_share 109 = .ok (.idiv, 1) := by decide +kernel
theorem dX6_share_110 : decode cX6_share 110 = .ok (.iastore, 1) := by decide +kernel
theorem dX6_share_111 : decode cX6_share 111 = .ok (.aload_n 0, 1) := by decide +kernel
theorem dX6_share_112 : decode cX6_share 112 = .ok (.getfield 40, 3) := by decide +kernel
theorem dX6_share_115 : decode cX6_share 115 = .ok (.iload 4, 2) := by decide +kernel
theorem dX6_share_117 : decode cX6_share 117 = .ok (.iload_n 2, 1) := by decide +kernel
theorem dX6_share_118 : decode cX6_share 118 = .ok (.ifCond .ne 7, 3) := by decide +kernel
theorem dX6_share_121 : decode cX6_share 121 = .ok (.iconst 0, 1) := by decide +kernel
theorem dX6_share_122 : decode cX6_share 122 = .ok (.goto 17, 3) := by decide +kernel
theorem dX6_share_125 : decode cX6_share 125 = .ok (.aload_n 0, 1) := by decide +kernel
theorem dX6_share_126 : decode cX6_share 126 = .ok (.getfield 177, 3) := by decide +kernel
theorem dX6_share_129 : decode cX6_share 129 = .ok (.aload_n 0, 1) := by decide +kernel
theorem dX6_share_130 : decode cX6_share 130 = .ok (.getfield 34, 3) := by decide +kernel
theorem dX6_share_133 : decode cX6_share 133 = .ok (.iload 4, 2) := by decide +kernel
theorem dX6_share_135 : decode cX6_share 135 = .ok (.iaload, 1) := by decide +kernel
theorem dX6_share_136 : decode cX6_share 136 = .ok (.imul, 1) := by decide +kernel
theorem dX6_share_137 : decode cX6_share 137 = .ok (.iload_n 2, 1) := by decide +kernel
theorem dX6_share_138 : decode cX6_share 138 = .ok (.irem, 1) := by decide +kernel
theorem dX6_share_139 : decode cX6_share 139 = .ok (.iastore, 1) := by decide +kernel
theorem dX6_share_140 : decode cX6_share 140 = .ok (.iload_n 3, 1) := by decide +kernel
theorem dX6_share_141 : decode cX6_share 141 = .ok (.aload_n 0, 1) := by decide +kernel
theorem dX6_share_142 : decode cX6_share 142 = .ok (.getfield 37, 3) := by decide +kernel
theorem dX6_share_145 : decode cX6_share 145 = .ok (.iload 4, 2) := by decide +kernel
theorem dX6_share_147 : decode cX6_share 147 = .ok (.iaload, 1) := by decide +kernel
theorem dX6_share_148 : decode cX6_share 148 = .ok (.isub, 1) := by decide +kernel
theorem dX6_share_149 : decode cX6_share 149 = .ok (.istore_n 3, 1) := by decide +kernel
theorem dX6_share_150 : decode cX6_share 150 = .ok (.iinc 4 1, 3) := by decide +kernel
theorem dX6_share_153 : decode cX6_share 153 = .ok (.goto (-78), 3) := by decide +kernel
theorem dX6_share_156 : decode cX6_share 156 = .ok (.iconst 0, 1) := by decide +kernel
theorem dX6_share_157 : decode cX6_share 157 = .ok (.istore 4, 2) := by decide +kernel
theorem dX6_share_159 : decode cX6_share 159 = .ok (.iload 4, 2) := by decide +kernel
theorem dX6_share_161 : decode cX6_share 161 = .ok (.iload_n 3, 1) := by decide +kernel
theorem dX6_share_162 : decode cX6_share 162 = .ok (.if_icmp .ge 13, 3) := by decide +kernel
theorem dX6_share_165 : decode cX6_share 165 = .ok (.aload_n 0, 1) := by decide +kernel
theorem dX6_share_166 : decode cX6_share 166 = .ok (.invokevirtual 180, 3) := by decide +kernel
theorem dX6_share_169 : decode cX6_share 169 = .ok (.iinc 4 1, 3) := by decide +kernel
theorem dX6_share_172 : decode cX6_share 172 = .ok (.goto (-13), 3) := by decide +kernel
theorem dX6_share_175 : decode cX6_share 175 = .ok (.return_, 1) := by decide +kernel
theorem dX6_shareOneMore_0 : decode cX6_shareOneMore 0 = .ok (.iconst 0, 1) := by decide +kernel
theorem dX6_shareOneMore_1 : decode cX6_shareOneMore 1 = .ok (.istore_n 1, 1) := by decide +kernel
theorem dX6_shareOneMore_2 : decode cX6_shareOneMore 2 = .ok (.iconst 1, 1) := by decide +kernel
theorem dX6_shareOneMore_3 : decode cX6_shareOneMore 3 = .ok (.istore_n 2, 1) := by decide +kernel
theorem dX6_shareOneMore_4 : decode cX6_shareOneMore 4 = .ok (.iload_n 2, 1) := by decide +kernel
theorem dX6_shareOneMore_5 : decode cX6_shareOneMore 5 = .ok (.bipush 8, 2) := by decide +kernel
theorem dX6_shareOneMore_7 : decode cX6_shareOneMore 7 = .ok (.if_icmp .ge 26, 3) := by decide +kernel
theorem dX6_shareOneMore_10 : decode cX6_shareOneMore 10 = .ok (.aload_n 0, 1) := by decide +kernel
theorem dX6_shareOneMore_11 : decode cX6_shareOneMore 11 = .ok (.getfield 40, 3) := by decide +kernel
theorem dX6_shareOneMore_14 : decode cX6_shareOneMore 14 = .ok (.iload_n 2, 1) := by decide +kernel
theorem dX6_shareOneMore_15 : decode cX6_shareOneMore 15 = .ok (.iaload, 1) := by decide +kernel
theorem dX6_shareOneMore_16 : decode cX6_shareOneMore 16 = .ok (.aload_n 0, 1) := by decide +kernel
theorem dX6_shareOneMore_17 : decode cX6_shareOneMore 17 = .ok (.getfield 40, 3) := by decide +kernel
theorem dX6_shareOneMore_20 : decode cX6_shareOneMore 20 = .ok (.iload_n 1, 1) := by decide +kernel
theorem dX6_shareOneMore_21 : decode cX6_shareOneMore 21 = .ok (.iaload, 1) := by decide +kernel
theorem dX6_shareOneMore_22 : decode cX6_shareOneMore 22 = .ok (.if_icmp .le 5, 3) := by decide +kernel
theorem dX6_shareOneMore_25 : decode cX6_shareOneMore 25 = .ok (.iload_n 2, 1) := by decide +kernel
theorem dX6_shareOneMore_26 : decode cX6_shareOneMore 26 = .ok (.istore_n 1, 1) := by decide +kernel
theorem dX6_shareOneMore_27 : decode cX6_shareOneMore 27 = .ok (.iinc 2 1, 3) := by decide +kernel
theorem dX6_shareOneMore_30 : decode cX6_shareOneMore 30 = .ok (.goto (-26), 3) := by decide +kernel
theorem dX6_shareOneMore_33 : decode cX6_shareOneMore 33 = .ok (.aload_n 0, 1) := by decide +kernel
theorem dX6_shareOneMore_34 : decode cX6_shareOneMore 34 = .ok (.getfield 37, 3) := by decide +kernel
theorem dX6_shareOneMore_37 : decode cX6_shareOneMore 37 = .ok (.iload_n 1, 1) := by decide +kernel
theorem dX6_shareOneMore_38 : decode cX6_shareOneMore 38 = .ok (.dup2, 1) := by decide +kernel
theorem dX6_shareOneMore_39 : decode cX6_shareOneMore 39 = .ok (.iaload, 1) := by decide +kernel
theorem dX6_shareOneMore_40 : decode cX6_shareOneMore 40 = .ok (.iconst 1, 1) := by decide +kernel
theorem dX6_shareOneMore_41 : decode cX6_shareOneMore 41 = .ok (.iadd, 1) := by decide +kernel
theorem dX6_shareOneMore_42 : decode cX6_shareOneMore 42 = .ok (.iastore, 1) := by decide +kernel
theorem dX6_shareOneMore_43 : decode cX6_shareOneMore 43 = .ok (.aload_n 0, 1) := by decide +kernel
theorem dX6_shareOneMore_44 : decode cX6_shareOneMore 44 = .ok (.getfield 40, 3) := by decide +kernel
theorem dX6_shareOneMore_47 : decode cX6_shareOneMore 47 = .ok (.iload_n 1, 1) := by decide +kernel
theorem dX6_shareOneMore_48 : decode cX6_shareOneMore 48 = .ok (.iconst (-1), 1) := by decide +kernel
theorem dX6_shareOneMore_49 : decode cX6_shareOneMore 49 = .ok (.iastore, 1) := by decide +kernel
theorem dX6_shareOneMore_50 : decode cX6_shareOneMore 50 = .ok (.return_, 1) := by decide +kernel
theorem dX6_callUp_0 : decode cX6_callUp 0 = .ok (.iconst 0, 1) := by decide +kernel
theorem dX6_callUp_1 : decode cX6_callUp 1 = .ok (.istore_n 2, 1) := by decide +kernel
theorem dX6_callUp_2 : decode cX6_callUp 2 = .ok (.iload_n 2, 1) := by decide +kernel
theorem dX6_callUp_3 : decode cX6_callUp 3 = .ok (.aload_n 1, 1) := by decide +kernel
theorem dX6_callUp_4 : decode cX6_callUp 4 = .ok (.getfield 58, 3) := by decide +kernel
theorem dX6_callUp_7 : decode cX6_callUp 7 = .ok (.if_icmp .ge 67, 3) := by decide +kernel
theorem dX6_callUp_10 : decode cX6_callUp 10 = .ok (.aload_n 0, 1) := by decide +kernel
theorem dX6_callUp_11 : decode cX6_callUp 11 = .ok (.getfield 31, 3) := by decide +kernel
theorem dX6_callUp_14 : decode cX6_callUp 14 = .ok (.iload_n 2, 1) := by decide +kernel
theorem dX6_callUp_15 : decode cX6_callUp 15 = .ok (.iconst (-1), 1) := by decide +kernel
theorem dX6_callUp_16 : decode cX6_callUp 16 = .ok (.iastore, 1) := by decide +kernel
theorem dX6_callUp_17 : decode cX6_callUp 17 = .ok (.aload_n 0, 1) := by decide +kernel
theorem dX6_callUp_18 : decode cX6_callUp 18 = .ok (.iload_n 2, 1) := by decide +kernel
theorem dX6_callUp_19 : decode cX6_callUp 19 = .ok (.invokevirtual 170, 3) := by decide +kernel
theorem dX6_callUp_22 : decode cX6_callUp 22 = .ok (.ifCond .eq 46, 3) := by decide +kernel
theorem dX6_callUp_25 : decode cX6_callUp 25 = .ok (.aload_n 0, 1) := by decide +kernel
theorem dX6_callUp_26 : decode cX6_callUp 26 = .ok (.getfield 31, 3) := by decide +kernel
theorem dX6_callUp_29 : decode cX6_callUp 29 = .ok (.iload_n 2, 1) := by decide +kernel
theorem dX6_callUp_30 : decode cX6_callUp 30 = .ok (.aload_n 0, 1) := by decide +kernel
theorem dX6_callUp_31 : decode cX6_callUp 31 = .ok (.aload_n 1, 1) := by decide +kernel
theorem dX6_callUp_32 : decode cX6_callUp 32 = .ok (.iload_n 2, 1) := by decide +kernel
theorem dX6_callUp_33 : decode cX6_callUp 33 = .ok (.invokevirtual 183, 3) := by decide +kernel
theorem dX6_callUp_36 : decode cX6_callUp 36 = .ok (.iastore, 1) := by decide +kernel
theorem dX6_callUp_37 : decode cX6_callUp 37 = .ok (.aload_n 0, 1) := by decide +kernel
theorem dX6_callUp_38 : decode cX6_callUp 38 = .ok (.getfield 22, 3) := by decide +kernel
theorem dX6_callUp_41 : decode cX6_callUp 41 = .ok (.iload_n 2, 1) := by decide +kernel
theorem dX6_callUp_42 : decode cX6_callUp 42 = .ok (.aload_n 0, 1) := by decide +kernel
theorem dX6_callUp_43 : decode cX6_callUp 43 = .ok (.getfield 31, 3) := by decide +kernel
theorem dX6_callUp_46 : decode cX6_callUp 46 = .ok (.iload_n 2, 1) := by decide +kernel
theorem dX6_callUp_47 : decode cX6_callUp 47 = .ok (.iaload, 1) := by decide +kernel
theorem dX6_callUp_48 : decode cX6_callUp 48 = .ok (.aload_n 0, 1) := by decide +kernel
theorem dX6_callUp_49 : decode cX6_callUp 49 = .ok (.getfield 37, 3) := by decide +kernel
theorem dX6_callUp_52 : decode cX6_callUp 52 = .ok (.aload_n 1, 1) := by decide +kernel
theorem dX6_callUp_53 : decode cX6_callUp 53 = .ok (.getfield 103, 3) := by decide +kernel
theorem dX6_callUp_56 : decode cX6_callUp 56 = .ok (.iload_n 2, 1) := by decide +kernel
theorem dX6_callUp_57 : decode cX6_callUp 57 = .ok (.iaload, 1) := by decide +kernel
theorem dX6_callUp_58 : decode cX6_callUp 58 = .ok (.iaload, 1) := by decide +kernel
theorem dX6_callUp_59 : decode cX6_callUp 59 = .ok (.if_icmp .ge 7, 3) := by decide +kernel
theorem dX6_callUp_62 : decode cX6_callUp 62 = .ok (.iconst 5, 1) := by decide +kernel
theorem dX6_callUp_63 : decode cX6_callUp 63 = .ok (.goto 4, 3) := by decide +kernel
theorem dX6_callUp_66 : decode cX6_callUp 66 = .ok (.iconst 4, 1) := by decide +kernel
theorem dX6_callUp_67 : decode cX6_callUp 67 = .ok (.iastore, 1) := by decide +kernel
theorem dX6_callUp_68 : decode cX6_callUp 68 = .ok (.iinc 2 1, 3) := by decide +kernel
theorem dX6_callUp_71 : decode cX6_callUp 71 = .ok (.goto (-69), 3) := by decide +kernel
theorem dX6_callUp_74 : decode cX6_callUp 74 = .ok (.return_, 1) := by decide +kernel
theorem dX6_countAhead_0 : decode cX6_countAhead 0 = .ok (.iconst 0, 1) := by decide +kernel
theorem dX6_countAhead_1 : decode cX6_countAhead 1 = .ok (.istore_n 3, 1) := by decide +kernel
theorem dX6_countAhead_2 : decode cX6_countAhead 2 = .ok (.iconst 0, 1) := by decide +kernel
theorem dX6_countAhead_3 : decode cX6_countAhead 3 = .ok (.istore 4, 2) := by decide +kernel
theorem dX6_countAhead_5 : decode cX6_countAhead 5 = .ok (.iload 4, 2) := by decide +kernel
theorem dX6_countAhead_7 : decode cX6_countAhead 7 = .ok (.aload_n 1, 1) := by decide +kernel
theorem dX6_countAhead_8 : decode cX6_countAhead 8 = .ok (.getfield 58, 3) := by decide +kernel
theorem dX6_countAhead_11 : decode cX6_countAhead 11 = .ok (.if_icmp .ge 53, 3) := by decide +kernel
theorem dX6_countAhead_14 : decode cX6_countAhead 14 = .ok (.aload_n 0, 1) := by decide +kernel
theorem dX6_countAhead_15 : decode cX6_countAhead 15 = .ok (.iload 4, 2) := by decide +kernel
theorem dX6_countAhead_17 : decode cX6_countAhead 17 = .ok (.invokevirtual 170, 3) := by decide +kernel
theorem dX6_countAhead_20 : decode cX6_countAhead 20 = .ok (.ifCond .eq 38, 3) := by decide +kernel
theorem dX6_countAhead_23 : decode cX6_countAhead 23 = .ok (.aload_n 1, 1) := by decide +kernel
theorem dX6_countAhead_24 : decode cX6_countAhead 24 = .ok (.getfield 103, 3) := by decide +kernel
theorem dX6_countAhead_27 : decode cX6_countAhead 27 = .ok (.iload 4, 2) := by decide +kernel
theorem dX6_countAhead_29 : decode cX6_countAhead 29 = .ok (.iaload, 1) := by decide +kernel
theorem dX6_countAhead_30 : decode cX6_countAhead 30 = .ok (.aload_n 1, 1) := by decide +kernel
theorem dX6_countAhead_31 : decode cX6_countAhead 31 = .ok (.getfield 103, 3) := by decide +kernel
theorem dX6_countAhead_34 : decode cX6_countAhead 34 = .ok (.iload_n 2, 1) := by decide +kernel
theorem dX6_countAhead_35 : decode cX6_countAhead 35 = .ok (.iaload, 1) := by decide +kernel
theorem dX6_countAhead_36 : decode cX6_countAhead 36 = .ok (.if_icmp .ne 22, 3) := by decide +kernel
theorem dX6_countAhead_39 : decode cX6_countAhead 39 = .ok (.aload_n 0, 1) := by decide +kernel
theorem dX6_countAhead_40 : decode cX6_countAhead 40 = .ok (.getfield 28, 3) := by decide +kernel
theorem dX6_countAhead_43 : decode cX6_countAhead 43 = .ok (.iload 4, 2) := by decide +kernel
theorem dX6_countAhead_45 : decode cX6_countAhead 45 = .ok (.iaload, 1) := by decide +kernel
theorem dX6_countAhead_46 : decode cX6_countAhead 46 = .ok (.aload_n 0, 1) := by decide +kernel
theorem dX6_countAhead_47 : decode cX6_countAhead 47 = .ok (.getfield 28, 3) := by decide +kernel
theorem dX6_countAhead_50 : decode cX6_countAhead 50 = .ok (.iload_n 2, 1) := by decide +kernel
theorem dX6_countAhead_51 : decode cX6_countAhead 51 = .ok (.iaload, 1) := by decide +kernel
theorem dX6_countAhead_52 : decode cX6_countAhead 52 = .ok (.if_icmp .ge 6, 3) := by decide +kernel
theorem dX6_countAhead_55 : decode cX6_countAhead 55 = .ok (.iinc 3 1, 3) := by decide +kernel
theorem dX6_countAhead_58 : decode cX6_countAhead 58 = .ok (.iinc 4 1, 3) := by decide +kernel
theorem dX6_countAhead_61 : decode cX6_countAhead 61 = .ok (.goto (-56), 3) := by decide +kernel
theorem dX6_countAhead_64 : decode cX6_countAhead 64 = .ok (.iload_n 3, 1) := by decide +kernel
theorem dX6_countAhead_65 : decode cX6_countAhead 65 = .ok (.ireturn, 1) := by decide +kernel
theorem dX6_followChains_0 : decode cX6_followChains 0 = .ok (.iconst 0, 1) := by decide +kernel
theorem dX6_followChains_1 : decode cX6_followChains 1 = .ok (.istore_n 2, 1) := by decide +kernel
theorem dX6_followChains_2 : decode cX6_followChains 2 = .ok (.iload_n 2, 1) := by decide +kernel
theorem dX6_followChains_3 : decode cX6_followChains 3 = .ok (.aload_n 1, 1) := by decide +kernel
theorem dX6_followChains_4 : decode cX6_followChains 4 = .ok (.getfield 58, 3) := by decide +kernel
theorem dX6_followChains_7 : decode cX6_followChains 7 = .ok (.if_icmp .ge 23, 3) := by decide +kernel
theorem dX6_followChains_10 : decode cX6_followChains 10 = .ok (.aload_n 0, 1) := by decide +kernel
theorem dX6_followChains_11 : decode cX6_followChains 11 = .ok (.getfield 43, 3) := by decide +kernel
theorem dX6_followChains_14 : decode cX6_followChains 14 = .ok (.iload_n 2, 1) := by decide +kernel
theorem dX6_followChains_15 : decode cX6_followChains 15 = .ok (.iconst (-1), 1) := by decide +kernel
theorem dX6_followChains_16 : decode cX6_followChains 16 = .ok (.iastore, 1) := by decide +kernel
theorem dX6_followChains_17 : decode cX6_followChains 17 = .ok (.aload_n 0, 1) := by decide +kernel
theorem dX6_followChains_18 : decode cX6_followChains 18 = .ok (.getfield 46, 3) := by decide +kernel
theorem dX6_followChains_21 : decode cX6_followChains 21 = .ok (.iload_n 2, 1) := by decide +kernel
theorem dX6_followChains_22 : decode cX6_followChains 22 = .ok (.iconst 0, 1) := by decide +kernel
theorem dX6_followChains_23 : decode cX6_followChains 23 = .ok (.bastore, 1) := by decide +kernel
theorem dX6_followChains_24 : decode cX6_followChains 24 = .ok (.iinc 2 1, 3) := by decide +kernel
theorem dX6_followChains_27 : decode cX6_followChains 27 = .ok (.goto (-25), 3) := by decide +kernel
theorem dX6_followChains_30 : decode cX6_followChains 30 = .ok (.aload_n 1, 1) := by decide +kernel
theorem dX6_followChains_31 : decode cX6_followChains 31 = .ok (.getfield 187, 3) := by decide +kernel
theorem dX6_followChains_34 : decode cX6_followChains 34 = .ok (.astore_n 2, 1) := by decide +kernel
theorem dX6_followChains_35 : decode cX6_followChains 35 = .ok (.aload_n 2, 1) := by decide +kernel
theorem dX6_followChains_36 : decode cX6_followChains 36 = .ok (.aload_n 1, 1) := by decide +kernel
theorem dX6_followChains_37 : decode cX6_followChains 37 = .ok (.getfield 123, 3) := by decide +kernel
theorem dX6_followChains_40 : decode cX6_followChains 40 = .ok (.invokevirtual 126, 3) := by decide +kernel
theorem dX6_followChains_43 : decode cX6_followChains 43 = .ok (.istore_n 3, 1) := by decide +kernel
theorem dX6_followChains_44 : decode cX6_followChains 44 = .ok (.iconst 0, 1) := by decide +kernel
theorem dX6_followChains_45 : decode cX6_followChains 45 = .ok (.istore 4, 2) := by decide +kernel
theorem dX6_followChains_47 : decode cX6_followChains 47 = .ok (.iload 4, 2) := by decide +kernel
theorem dX6_followChains_49 : decode cX6_followChains 49 = .ok (.iload_n 3, 1) := by decide +kernel
theorem dX6_followChains_50 : decode cX6_followChains 50 = .ok (.if_icmp .ge 55, 3) := by decide +kernel
theorem dX6_followChains_53 : decode cX6_followChains 53 = .ok (.aload_n 2, 1) := by decide +kernel
theorem dX6_followChains_54 : decode cX6_followChains 54 = .ok (.iload 4, 2) := by decide +kernel
theorem dX6_followChains_56 : decode cX6_followChains 56 = .ok (.iconst 1, 1) := by decide +kernel
theorem dX6_followChains_57 : decode cX6_followChains 57 = .ok (.invokevirtual 131, 3) := by decide +kernel
theorem dX6_followChains_60 : decode cX6_followChains 60 = .ok (.aload_n 0, 1) := by decide +kernel
theorem dX6_followChains_61 : decode cX6_followChains 61 = .ok (.getfield 50, 3) := by decide +kernel
theorem dX6_followChains_64 : decode cX6_followChains 64 = .ok (.if_icmp .ne 35, 3) := by decide +kernel
theorem dX6_followChains_67 : decode cX6_followChains 67 = .ok (.aload_n 0, 1) := by decide +kernel
theorem dX6_followChains_68 : decode cX6_followChains 68 = .ok (.getfield 43, 3) := by decide +kernel
theorem dX6_followChains_71 : decode cX6_followChains 71 = .ok (.aload_n 2, 1) := by decide +kernel
theorem dX6_followChains_72 : decode cX6_followChains 72 = .ok (.iload 4, 2) := by decide +kernel
theorem dX6_followChains_74 : decode cX6_followChains 74 = .ok (.iconst 2, 1) := by decide +kernel
theorem dX6_followChains_75 : decode cX6_followChains 75 = .ok (.invokevirtual 131, 3) := by decide +kernel
theorem dX6_followChains_78 : decode cX6_followChains 78 = .ok (.aload_n 2, 1) := by decide +kernel
theorem dX6_followChains_79 : decode cX6_followChains 79 = .ok (.iload 4, 2) := by decide +kernel
theorem dX6_followChains_81 : decode cX6_followChains 81 = .ok (.iconst 3, 1) := by decide +kernel
theorem dX6_followChains_82 : decode cX6_followChains 82 = .ok (.invokevirtual 131, 3) := by decide +kernel
theorem dX6_followChains_85 : decode cX6_followChains 85 = .ok (.iastore, 1) := by decide +kernel
theorem dX6_followChains_86 : decode cX6_followChains 86 = .ok (.aload_n 0, 1) := by decide +kernel
theorem dX6_followChains_87 : decode cX6_followChains 87 = .ok (.getfield 46, 3) := by decide +kernel
theorem dX6_followChains_90 : decode cX6_followChains 90 = .ok (.aload_n 2, 1) := by decide +kernel
theorem dX6_followChains_91 : decode cX6_followChains 91 = .ok (.iload 4, 2) := by decide +kernel
theorem dX6_followChains_93 : decode cX6_followChains 93 = .ok (.iconst 3, 1) := by decide +kernel
theorem dX6_followChains_94 : decode cX6_followChains 94 = .ok (.invokevirtual 131, 3) := by decide +kernel
theorem dX6_followChains_97 : decode cX6_followChains 97 = .ok (.iconst 1, 1) := by decide +kernel
theorem dX6_followChains_98 : decode cX6_followChains 98 = .ok (.bastore, 1) := by decide +kernel
theorem dX6_followChains_99 : decode cX6_followChains 99 = .ok (.iinc 4 1, 3) := by decide +kernel
theorem dX6_followChains_102 : decode cX6_followChains 102 = .ok (.goto (-55), 3) := by decide +kernel
theorem dX6_followChains_105 : decode cX6_followChains 105 = .ok (.iconst 0, 1) := by decide +kernel
theorem dX6_followChains_106 : decode cX6_followChains 106 = .ok (.istore 4, 2) := by decide +kernel
theorem dX6_followChains_108 : decode cX6_followChains 108 = .ok (.iload 4, 2) := by decide +kernel
theorem dX6_followChains_110 : decode cX6_followChains 110 = .ok (.aload_n 1, 1) := by decide +kernel
theorem dX6_followChains_111 : decode cX6_followChains 111 = .ok (.getfield 58, 3) := by decide +kernel
theorem dX6_followChains_114 : decode cX6_followChains 114 = .ok (.if_icmp .ge 32, 3) := by decide +kernel
theorem dX6_followChains_117 : decode cX6_followChains 117 = .ok (.aload_n 0, 1) := by decide +kernel
theorem dX6_followChains_118 : decode cX6_followChains 118 = .ok (.getfield 22, 3) := by decide +kernel
theorem dX6_followChains_121 : decode cX6_followChains 121 = .ok (.iload 4, 2) := by decide +kernel
theorem dX6_followChains_123 : decode cX6_followChains 123 = .ok (.iaload, 1) := by decide +kernel
theorem dX6_followChains_124 : decode cX6_followChains 124 = .ok (.iconst 5, 1) := by decide +kernel
theorem dX6_followChains_125 : decode cX6_followChains 125 = .ok (.if_icmp .ne 15, 3) := by decide +kernel
theorem dX6_followChains_128 : decode cX6_followChains 128 = .ok (.aload_n 1, 1) := by decide +kernel
theorem dX6_followChains_129 : decode cX6_followChains 129 = .ok (.getfield 190, 3) := by decide +kernel
theorem dX6_followChains_132 : decode cX6_followChains 132 = .ok (.aload_n 0, 1) := by decide +kernel
theorem dX6_followChains_133 : decode cX6_followChains 133 = .ok (.iload 4, 2) := by decide +kernel
theorem dX6_followChains_135 : decode cX6_followChains 135 = .ok (.invokevirtual 193, 3) := by decide +kernel
theorem dX6_followChains_138 : decode cX6_followChains 138 = .ok (.iconst 1, 1) := by decide +kernel
theorem dX6_followChains_139 : decode cX6_followChains 139 = .ok (.bastore, 1) := by decide +kernel
theorem dX6_followChains_140 : decode cX6_followChains 140 = .ok (.iinc 4 1, 3) := by decide +kernel
theorem dX6_followChains_143 : decode cX6_followChains 143 = .ok (.goto (-35), 3) := by decide +kernel
theorem dX6_followChains_146 : decode cX6_followChains 146 = .ok (.return_, 1) := by decide +kernel
