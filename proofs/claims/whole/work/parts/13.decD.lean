theorem dX10_init_0 : decode cX10_init 0 = .ok (.aload_n 0, 1) := by decide +kernel
theorem dX10_init_1 : decode cX10_init 1 = .ok (.invokespecial 1, 3) := by decide +kernel
theorem dX10_init_4 : decode cX10_init 4 = .ok (.aload_n 0, 1) := by decide +kernel
theorem dX10_init_5 : decode cX10_init 5 = .ok (.new 7, 3) := by decide +kernel
theorem dX10_init_8 : decode cX10_init 8 = .ok (.dup, 1) := by decide +kernel
theorem dX10_init_9 : decode cX10_init 9 = .ok (.invokespecial 9, 3) := by decide +kernel
theorem dX10_init_12 : decode cX10_init 12 = .ok (.putfield 10, 3) := by decide +kernel
theorem dX10_init_15 : decode cX10_init 15 = .ok (.aload_n 0, 1) := by decide +kernel
theorem dX10_init_16 : decode cX10_init 16 = .ok (.new 16, 3) := by decide +kernel
theorem dX10_init_19 : decode cX10_init 19 = .ok (.dup, 1) := by decide +kernel
theorem dX10_init_20 : decode cX10_init 20 = .ok (.invokespecial 18, 3) := by decide +kernel
theorem dX10_init_23 : decode cX10_init 23 = .ok (.putfield 19, 3) := by decide +kernel
theorem dX10_init_26 : decode cX10_init 26 = .ok (.aload_n 0, 1) := by decide +kernel
theorem dX10_init_27 : decode cX10_init 27 = .ok (.new 23, 3) := by decide +kernel
theorem dX10_init_30 : decode cX10_init 30 = .ok (.dup, 1) := by decide +kernel
theorem dX10_init_31 : decode cX10_init 31 = .ok (.invokespecial 25, 3) := by decide +kernel
theorem dX10_init_34 : decode cX10_init 34 = .ok (.putfield 26, 3) := by decide +kernel
theorem dX10_init_37 : decode cX10_init 37 = .ok (.aload_n 0, 1) := by decide +kernel
theorem dX10_init_38 : decode cX10_init 38 = .ok (.new 30, 3) := by decide +kernel
theorem dX10_init_41 : decode cX10_init 41 = .ok (.dup, 1) := by decide +kernel
theorem dX10_init_42 : decode cX10_init 42 = .ok (.invokespecial 32, 3) := by decide +kernel
theorem dX10_init_45 : decode cX10_init 45 = .ok (.putfield 33, 3) := by decide +kernel
theorem dX10_init_48 : decode cX10_init 48 = .ok (.aload_n 0, 1) := by decide +kernel
theorem dX10_init_49 : decode cX10_init 49 = .ok (.bipush 8, 2) := by decide +kernel
theorem dX10_init_51 : decode cX10_init 51 = .ok (.anewarray 30, 3) := by decide +kernel
theorem dX10_init_54 : decode cX10_init 54 = .ok (.putfield 37, 3) := by decide +kernel
theorem dX10_init_57 : decode cX10_init 57 = .ok (.aload_n 0, 1) := by decide +kernel
theorem dX10_init_58 : decode cX10_init 58 = .ok (.iconst 4, 1) := by decide +kernel
theorem dX10_init_59 : decode cX10_init 59 = .ok (.anewarray 41, 3) := by decide +kernel
theorem dX10_init_62 : decode cX10_init 62 = .ok (.putfield 43, 3) := by decide +kernel
theorem dX10_init_65 : decode cX10_init 65 = .ok (.aload_n 0, 1) := by decide +kernel
theorem dX10_init_66 : decode cX10_init 66 = .ok (.new 47, 3) := by decide +kernel
theorem dX10_init_69 : decode cX10_init 69 = .ok (.dup, 1) := by decide +kernel
theorem dX10_init_70 : decode cX10_init 70 = .ok (.invokespecial 49, 3) := by decide +kernel
theorem dX10_init_73 : decode cX10_init 73 = .ok (.putfield 50, 3) := by decide +kernel
theorem dX10_init_76 : decode cX10_init 76 = .ok (.aload_n 0, 1) := by decide +kernel
theorem dX10_init_77 : decode cX10_init 77 = .ok (.bipush 60, 2) := by decide +kernel
theorem dX10_init_79 : decode cX10_init 79 = .ok (.newarray .boolean, 2) := by decide +kernel
theorem dX10_init_81 : decode cX10_init 81 = .ok (.putfield 54, 3) := by decide +kernel
theorem dX10_init_84 : decode cX10_init 84 = .ok (.aload_n 0, 1) := by decide +kernel
theorem dX10_init_85 : decode cX10_init 85 = .ok (.bipush 60, 2) := by decide +kernel
theorem dX10_init_87 : decode cX10_init 87 = .ok (.newarray .int, 2) := by decide +kernel
theorem dX10_init_89 : decode cX10_init 89 = .ok (.putfield 58, 3) := by decide +kernel
theorem dX10_init_92 : decode cX10_init 92 = .ok (.aload_n 0, 1) := by decide +kernel
theorem dX10_init_93 : decode cX10_init 93 = .ok (.iconst (-1), 1) := by decide +kernel
theorem dX10_init_94 : decode cX10_init 94 = .ok (.putfield 62, 3) := by decide +kernel
theorem dX10_init_97 : decode cX10_init 97 = .ok (.iconst 0, 1) := by decide +kernel
theorem dX10_init_98 : decode cX10_init 98 = .ok (.istore_n 1, 1) := by decide +kernel
theorem dX10_init_99 : decode cX10_init 99 = .ok (.iload_n 1, 1) := by decide +kernel
theorem dX10_init_100 : decode cX10_init 100 = .ok (.bipush 8, 2) := by decide +kernel
theorem dX10_init_102 : decode cX10_init 102 = .ok (.if_icmp .ge 22, 3) := by decide +kernel
theorem dX10_init_105 : decode cX10_init 105 = .ok (.aload_n 0, 1) := by decide +kernel
theorem dX10_init_106 : decode cX10_init 106 = .ok (.getfield 37, 3) := by decide +kernel
theorem dX10_init_109 : decode cX10_init 109 = .ok (.iload_n 1, 1) := by decide +kernel
theorem dX10_init_110 : decode cX10_init 110 = .ok (.new 30, 3) := by decide +kernel
theorem dX10_init_113 : decode cX10_init 113 = .ok (.dup, 1) := by decide +kernel
theorem dX10_init_114 : decode cX10_init 114 = .ok (.invokespecial 32, 3) := by decide +kernel
theorem dX10_init_117 : decode cX10_init 117 = .ok (.aastore, 1) := by decide +kernel
theorem dX10_init_118 : decode cX10_init 118 = .ok (.iinc 1 1, 3) := by decide +kernel
theorem dX10_init_121 : decode cX10_init 121 = .ok (.goto (-22), 3) := by decide +kernel
theorem dX10_init_124 : decode cX10_init 124 = .ok (.iconst 0, 1) := by decide +kernel
theorem dX10_init_125 : decode cX10_init 125 = .ok (.istore_n 1, 1) := by decide +kernel
theorem dX10_init_126 : decode cX10_init 126 = .ok (.iload_n 1, 1) := by decide +kernel
theorem dX10_init_127 : decode cX10_init 127 = .ok (.iconst 4, 1) := by decide +kernel
theorem dX10_init_128 : decode cX10_init 128 = .ok (.if_icmp .ge 23, 3) := by decide +kernel
theorem dX10_init_131 : decode cX10_init 131 = .ok (.aload_n 0, 1) := by decide +kernel
theorem dX10_init_132 : decode cX10_init 132 = .ok (.getfield 43, 3) := by decide +kernel
theorem dX10_init_135 : decode cX10_init 135 = .ok (.iload_n 1, 1) := by decide +kernel
theorem dX10_init_136 : decode cX10_init 136 = .ok (.new 41, 3) := by decide +kernel
theorem dX10_init_139 : decode cX10_init 139 = .ok (.dup, 1) := by decide +kernel
theorem dX10_init_140 : decode cX10_init 140 = .ok (.iload_n 1, 1) := by decide +kernel
theorem dX10_init_141 : decode cX10_init 141 = .ok (.invokespecial 66, 3) := by decide +kernel
theorem dX10_init_144 : decode cX10_init 144 = .ok (.aastore, 1) := by decide +kernel
theorem dX10_init_145 : decode cX10_init 145 = .ok (.iinc 1 1, 3) := by decide +kernel
theorem dX10_init_148 : decode cX10_init 148 = .ok (.goto (-22), 3) := by decide +kernel
theorem dX10_init_151 : decode cX10_init 151 = .ok (.return_, 1) := by decide +kernel
theorem dX10_feed_0 : decode cX10_feed 0 = .ok (.aload_n 0, 1) := by decide +kernel
theorem dX10_feed_1 : decode cX10_feed 1 = .ok (.getfield 10, 3) := by decide +kernel
theorem dX10_feed_4 : decode cX10_feed 4 = .ok (.getfield 69, 3) := by decide +kernel
theorem dX10_feed_7 : decode cX10_feed 7 = .ok (.bipush 20, 2) := by decide +kernel
theorem dX10_feed_9 : decode cX10_feed 9 = .ok (.iadd, 1) := by decide +kernel
theorem dX10_feed_10 : decode cX10_feed 10 = .ok (.sipush 340, 3) := by decide +kernel
theorem dX10_feed_13 : decode cX10_feed 13 = .ok (.if_icmp .le 5, 3) := by decide +kernel
theorem dX10_feed_16 : decode cX10_feed 16 = .ok (.iconst (-1), 1) := by decide +kernel
theorem dX10_feed_17 : decode cX10_feed 17 = .ok (.ireturn, 1) := by decide +kernel
theorem dX10_feed_18 : decode cX10_feed 18 = .ok (.aload_n 0, 1) := by decide +kernel
theorem dX10_feed_19 : decode cX10_feed 19 = .ok (.getfield 10, 3) := by decide +kernel
theorem dX10_feed_22 : decode cX10_feed 22 = .ok (.iload_n 1, 1) := by decide +kernel
theorem dX10_feed_23 : decode cX10_feed 23 = .ok (.invokevirtual 72, 3) := by decide +kernel
theorem dX10_feed_26 : decode cX10_feed 26 = .ok (.aload_n 0, 1) := by decide +kernel
theorem dX10_feed_27 : decode cX10_feed 27 = .ok (.getfield 10, 3) := by decide +kernel
theorem dX10_feed_30 : decode cX10_feed 30 = .ok (.iload_n 2, 1) := by decide +kernel
theorem dX10_feed_31 : decode cX10_feed 31 = .ok (.invokevirtual 72, 3) := by decide +kernel
theorem dX10_feed_34 : decode cX10_feed 34 = .ok (.aload_n 0, 1) := by decide +kernel
theorem dX10_feed_35 : decode cX10_feed 35 = .ok (.getfield 10, 3) := by decide +kernel
theorem dX10_feed_38 : decode cX10_feed 38 = .ok (.iload_n 3, 1) := by decide +kernel
theorem dX10_feed_39 : decode cX10_feed 39 = .ok (.invokevirtual 72, 3) := by decide +kernel
theorem dX10_feed_42 : decode cX10_feed 42 = .ok (.aload_n 0, 1) := by decide +kernel
theorem dX10_feed_43 : decode cX10_feed 43 = .ok (.getfield 10, 3) := by decide +kernel
theorem dX10_feed_46 : decode cX10_feed 46 = .ok (.iload 4, 2) := by decide +kernel
theorem dX10_feed_48 : decode cX10_feed 48 = .ok (.invokevirtual 72, 3) := by decide +kernel
theorem dX10_feed_51 : decode cX10_feed 51 = .ok (.aload_n 0, 1) := by decide +kernel
theorem dX10_feed_52 : decode cX10_feed 52 = .ok (.getfield 10, 3) := by decide +kernel
theorem dX10_feed_55 : decode cX10_feed 55 = .ok (.iload 5, 2) := by decide +kernel
theorem dX10_feed_57 : decode cX10_feed 57 = .ok (.invokevirtual 72, 3) := by decide +kernel
theorem dX10_feed_60 : decode cX10_feed 60 = .ok (.aload_n 0, 1) := by decide +kernel
theorem dX10_feed_61 : decode cX10_feed 61 = .ok (.getfield 10, 3) := by decide +kernel
theorem dX10_feed_64 : decode cX10_feed 64 = .ok (.getfield 69, 3) := by decide +kernel
theorem dX10_feed_67 : decode cX10_feed 67 = .ok (.ireturn, 1) := by decide +kernel
theorem dX10_end_0 : decode cX10_end 0 = .ok (.iload_n 1, 1) := by decide +kernel
theorem dX10_end_1 : decode cX10_end 1 = .ok (.ifCond .lt 14, 3) := by decide +kernel
theorem dX10_end_4 : decode cX10_end 4 = .ok (.iload_n 1, 1) := by decide +kernel
theorem dX10_end_5 : decode cX10_end 5 = .ok (.aload_n 0, 1) := by decide +kernel
theorem dX10_end_6 : decode cX10_end 6 = .ok (.getfield 10, 3) := by decide +kernel
theorem dX10_end_9 : decode cX10_end 9 = .ok (.getfield 69, 3) := by decide +kernel
theorem dX10_end_12 : decode cX10_end 12 = .ok (.if_icmp .le 5, 3) := by decide +kernel
theorem dX10_end_15 : decode cX10_end 15 = .ok (.iconst 0, 1) := by decide +kernel
theorem dX10_end_16 : decode cX10_end 16 = .ok (.ireturn, 1) := by decide +kernel
theorem dX10_end_17 : decode cX10_end 17 = .ok (.aload_n 0, 1) := by decide +kernel
theorem dX10_end_18 : decode cX10_end 18 = .ok (.getfield 10, 3) := by decide +kernel
theorem dX10_end_21 : decode cX10_end 21 = .ok (.iload_n 1, 1) := by decide +kernel
theorem dX10_end_22 : decode cX10_end 22 = .ok (.putfield 69, 3) := by decide +kernel
theorem dX10_end_25 : decode cX10_end 25 = .ok (.iconst 1, 1) := by decide +kernel
theorem dX10_end_26 : decode cX10_end 26 = .ok (.ireturn, 1) := by decide +kernel
theorem dX10_next_0 : decode cX10_next 0 = .ok (.iload_n 1, 1) := by decide +kernel
theorem dX10_next_1 : decode cX10_next 1 = .ok (.invokestatic 75, 3) := by decide +kernel
theorem dX10_next_4 : decode cX10_next 4 = .ok (.ifCond .eq 15, 3) := by decide +kernel
theorem dX10_next_7 : decode cX10_next 7 = .ok (.aload_n 0, 1) := by decide +kernel
theorem dX10_next_8 : decode cX10_next 8 = .ok (.getfield 79, 3) := by decide +kernel
theorem dX10_next_11 : decode cX10_next 11 = .ok (.iload_n 1, 1) := by decide +kernel
theorem dX10_next_12 : decode cX10_next 12 = .ok (.iadd, 1) := by decide +kernel
theorem dX10_next_13 : decode cX10_next 13 = .ok (.sipush 3639, 3) := by decide +kernel
theorem dX10_next_16 : decode cX10_next 16 = .ok (.if_icmp .le 5, 3) := by decide +kernel
theorem dX10_next_19 : decode cX10_next 19 = .ok (.iconst (-1), 1) := by decide +kernel
theorem dX10_next_20 : decode cX10_next 20 = .ok (.ireturn, 1) := by decide +kernel
theorem dX10_next_21 : decode cX10_next 21 = .ok (.aload_n 0, 1) := by decide +kernel
theorem dX10_next_22 : decode cX10_next 22 = .ok (.dup, 1) := by decide +kernel
theorem dX10_next_23 : decode cX10_next 23 = .ok (.getfield 79, 3) := by decide +kernel
theorem dX10_next_26 : decode cX10_next 26 = .ok (.iload_n 1, 1) := by decide +kernel
theorem dX10_next_27 : decode cX10_next 27 = .ok (.iadd, 1) := by decide +kernel
theorem dX10_next_28 : decode cX10_next 28 = .ok (.putfield 79, 3) := by decide +kernel
theorem dX10_next_31 : decode cX10_next 31 = .ok (.aload_n 0, 1) := by decide +kernel
theorem dX10_next_32 : decode cX10_next 32 = .ok (.getfield 79, 3) := by decide +kernel
theorem dX10_next_35 : decode cX10_next 35 = .ok (.ireturn, 1) := by decide +kernel
theorem dX10_man_0 : decode cX10_man 0 = .ok (.aload_n 0, 1) := by decide +kernel
theorem dX10_man_1 : decode cX10_man 1 = .ok (.getfield 10, 3) := by decide +kernel
theorem dX10_man_4 : decode cX10_man 4 = .ok (.invokevirtual 82, 3) := by decide +kernel
theorem dX10_man_7 : decode cX10_man 7 = .ok (.istore_n 3, 1) := by decide +kernel
theorem dX10_man_8 : decode cX10_man 8 = .ok (.aload_n 0, 1) := by decide +kernel
theorem dX10_man_9 : decode cX10_man 9 = .ok (.getfield 10, 3) := by decide +kernel
theorem dX10_man_12 : decode cX10_man 12 = .ok (.iconst 0, 1) := by decide +kernel
theorem dX10_man_13 : decode cX10_man 13 = .ok (.invokevirtual 86, 3) := by decide +kernel
theorem dX10_man_16 : decode cX10_man 16 = .ok (.bipush 97, 2) := by decide +kernel
theorem dX10_man_18 : decode cX10_man 18 = .ok (.isub, 1) := by decide +kernel
theorem dX10_man_19 : decode cX10_man 19 = .ok (.istore 4, 2) := by decide +kernel
theorem dX10_man_21 : decode cX10_man 21 = .ok (.aload_n 0, 1) := by decide +kernel
theorem dX10_man_22 : decode cX10_man 22 = .ok (.getfield 10, 3) := by decide +kernel
theorem dX10_man_25 : decode cX10_man 25 = .ok (.iconst 0, 1) := by decide +kernel
theorem dX10_man_26 : decode cX10_man 26 = .ok (.putfield 69, 3) := by decide +kernel
theorem dX10_man_29 : decode cX10_man 29 = .ok (.iload_n 3, 1) := by decide +kernel
theorem dX10_man_30 : decode cX10_man 30 = .ok (.ifCond .eq 29, 3) := by decide +kernel
theorem dX10_man_33 : decode cX10_man 33 = .ok (.iload_n 1, 1) := by decide +kernel
theorem dX10_man_34 : decode cX10_man 34 = .ok (.invokestatic 90, 3) := by decide +kernel
theorem dX10_man_37 : decode cX10_man 37 = .ok (.ifCond .eq 22, 3) := by decide +kernel
theorem dX10_man_40 : decode cX10_man 40 = .ok (.iload_n 2, 1) := by decide +kernel
theorem dX10_man_41 : decode cX10_man 41 = .ok (.invokestatic 93, 3) := by decide +kernel
theorem dX10_man_44 : decode cX10_man 44 = .ok (.ifCond .eq 15, 3) := by decide +kernel
theorem dX10_man_47 : decode cX10_man 47 = .ok (.aload_n 0, 1) := by decide +kernel
theorem dX10_man_48 : decode cX10_man 48 = .ok (.getfield 19, 3) := by decide +kernel
theorem dX10_man_51 : decode cX10_man 51 = .ok (.getfield 96, 3) := by decide +kernel
theorem dX10_man_54 : decode cX10_man 54 = .ok (.bipush 60, 2) := by decide +kernel
theorem dX10_man_56 : decode cX10_man 56 = .ok (.if_icmp .lt 5, 3) := by decide +kernel
theorem dX10_man_59 : decode cX10_man 59 = .ok (.iconst (-1), 1) := by decide +kernel
theorem dX10_man_60 : decode cX10_man 60 = .ok (.ireturn, 1) := by decide +kernel
theorem dX10_man_61 : decode cX10_man 61 = .ok (.aload_n 0, 1) := by decide +kernel
theorem dX10_man_62 : decode cX10_man 62 = .ok (.getfield 19, 3) := by decide +kernel
theorem dX10_man_65 : decode cX10_man 65 = .ok (.iload_n 1, 1) := by decide +kernel
theorem dX10_man_66 : decode cX10_man 66 = .ok (.iload_n 2, 1) := by decide +kernel
theorem dX10_man_67 : decode cX10_man 67 = .ok (.iload 4, 2) := by decide +kernel
theorem dX10_man_69 : decode cX10_man 69 = .ok (.invokevirtual 99, 3) := by decide +kernel
theorem dX10_man_72 : decode cX10_man 72 = .ok (.ireturn, 1) := by decide +kernel
theorem dX10_birth_0 : decode cX10_birth 0 = .ok (.aload_n 0, 1) := by decide +kernel
theorem dX10_birth_1 : decode cX10_birth 1 = .ok (.iload_n 1, 1) := by decide +kernel
theorem dX10_birth_2 : decode cX10_birth 2 = .ok (.invokevirtual 103, 3) := by decide +kernel
theorem dX10_birth_5 : decode cX10_birth 5 = .ok (.ifCond .eq 22, 3) := by decide +kernel
theorem dX10_birth_8 : decode cX10_birth 8 = .ok (.iload_n 2, 1) := by decide +kernel
theorem dX10_birth_9 : decode cX10_birth 9 = .ok (.bipush (-60), 2) := by decide +kernel
theorem dX10_birth_11 : decode cX10_birth 11 = .ok (.if_icmp .lt 16, 3) := by decide +kernel
theorem dX10_birth_14 : decode cX10_birth 14 = .ok (.iload_n 2, 1) := by decide +kernel
theorem dX10_birth_15 : decode cX10_birth 15 = .ok (.bipush 9, 2) := by decide +kernel
theorem dX10_birth_17 : decode cX10_birth 17 = .ok (.if_icmp .gt 10, 3) := by decide +kernel
theorem dX10_birth_20 : decode cX10_birth 20 = .ok (.iload_n 3, 1) := by decide +kernel
theorem dX10_birth_21 : decode cX10_birth 21 = .ok (.invokestatic 106, 3) := by decide +kernel
theorem dX10_birth_24 : decode cX10_birth 24 = .ok (.ifCond .ne 5, 3) := by decide +kernel
theorem dX10_birth_27 : decode cX10_birth 27 = .ok (.iconst 0, 1) := by decide +kernel
theorem dX10_birth_28 : decode cX10_birth 28 = .ok (.ireturn, 1) := by decide +kernel
theorem dX10_birth_29 : decode cX10_birth 29 = .ok (.aload_n 0, 1) := by decide +kernel
theorem dX10_birth_30 : decode cX10_birth 30 = .ok (.getfield 19, 3) := by decide +kernel
theorem dX10_birth_33 : decode cX10_birth 33 = .ok (.getfield 109, 3) := by decide +kernel
theorem dX10_birth_36 : decode cX10_birth 36 = .ok (.aload_n 0, 1) := by decide +kernel
theorem dX10_birth_37 : decode cX10_birth 37 = .ok (.getfield 79, 3) := by decide +kernel
theorem dX10_birth_40 : decode cX10_birth 40 = .ok (.iload_n 1, 1) := by decide +kernel
theorem dX10_birth_41 : decode cX10_birth 41 = .ok (.iload_n 2, 1) := by decide +kernel
theorem dX10_birth_42 : decode cX10_birth 42 = .ok (.bipush 52, 2) := by decide +kernel
theorem dX10_birth_44 : decode cX10_birth 44 = .ok (.imul, 1) := by decide +kernel
theorem dX10_birth_45 : decode cX10_birth 45 = .ok (.iload_n 3, 1) := by decide +kernel
theorem dX10_birth_46 : decode cX10_birth 46 = .ok (.iadd, 1) := by decide +kernel
theorem dX10_birth_47 : decode cX10_birth 47 = .ok (.iconst 0, 1) := by decide +kernel
theorem dX10_birth_48 : decode cX10_birth 48 = .ok (.iconst 0, 1) := by decide +kernel
theorem dX10_birth_49 : decode cX10_birth 49 = .ok (.iconst 0, 1) := by decide +kernel
theorem dX10_birth_50 : decode cX10_birth 50 = .ok (.invokevirtual 113, 3) := by decide +kernel
theorem dX10_birth_53 : decode cX10_birth 53 = .ok (.ireturn, 1) := by decide +kernel
theorem dX10_fact_0 : decode cX10_fact 0 = .ok (.aload_n 0, 1) := by decide +kernel
theorem dX10_fact_1 : decode cX10_fact 1 = .ok (.iload_n 1, 1) := by decide +kernel
theorem dX10_fact_2 : decode cX10_fact 2 = .ok (.invokevirtual 103, 3) := by decide +kernel
theorem dX10_fact_5 : decode cX10_fact 5 = .ok (.ifCond .eq 34, 3) := by decide +kernel
theorem dX10_fact_8 : decode cX10_fact 8 = .ok (.iload_n 2, 1) := by decide +kernel
theorem dX10_fact_9 : decode cX10_fact 9 = .ok (.iload_n 3, 1) := by decide +kernel
theorem dX10_fact_10 : decode cX10_fact 10 = .ok (.invokestatic 119, 3) := by decide +kernel
theorem dX10_fact_13 : decode cX10_fact 13 = .ok (.ifCond .eq 26, 3) := by decide +kernel
theorem dX10_fact_16 : decode cX10_fact 16 = .ok (.iload 4, 2) := by decide +kernel
theorem dX10_fact_18 : decode cX10_fact 18 = .ok (.invokestatic 75, 3) := by decide +kernel
theorem dX10_fact_21 : decode cX10_fact 21 = .ok (.ifCond .eq 18, 3) := by decide +kernel
theorem dX10_fact_24 : decode cX10_fact 24 = .ok (.iload 5, 2) := by decide +kernel
theorem dX10_fact_26 : decode cX10_fact 26 = .ok (.invokestatic 75, 3) := by decide +kernel
theorem dX10_fact_29 : decode cX10_fact 29 = .ok (.ifCond .eq 10, 3) := by decide +kernel
theorem dX10_fact_32 : decode cX10_fact 32 = .ok (.iload 4, 2) := by decide +kernel
theorem dX10_fact_34 : decode cX10_fact 34 = .ok (.iload 5, 2) := by decide +kernel
theorem dX10_fact_36 : decode cX10_fact 36 = .ok (.if_icmp .le 5, 3) := by decide +kernel
theorem dX10_fact_39 : decode cX10_fact 39 = .ok (.iconst 0, 1) := by decide +kernel
theorem dX10_fact_40 : decode cX10_fact 40 = .ok (.ireturn, 1) := by decide +kernel
theorem dX10_fact_41 : decode cX10_fact 41 = .ok (.aload_n 0, 1) := by decide +kernel
theorem dX10_fact_42 : decode cX10_fact 42 = .ok (.getfield 19, 3) := by decide +kernel
theorem dX10_fact_45 : decode cX10_fact 45 = .ok (.getfield 123, 3) := by decide +kernel
theorem dX10_fact_48 : decode cX10_fact 48 = .ok (.aload_n 0, 1) := by decide +kernel
theorem dX10_fact_49 : decode cX10_fact 49 = .ok (.getfield 79, 3) := by decide +kernel
theorem dX10_fact_52 : decode cX10_fact 52 = .ok (.iload_n 1, 1) := by decide +kernel
theorem dX10_fact_53 : decode cX10_fact 53 = .ok (.iload_n 2, 1) := by decide +kernel
theorem dX10_fact_54 : decode cX10_fact 54 = .ok (.iload_n 3, 1) := by decide +kernel
theorem dX10_fact_55 : decode cX10_fact 55 = .ok (.iload 4, 2) := by decide +kernel
theorem dX10_fact_57 : decode cX10_fact 57 = .ok (.iload 5, 2) := by decide +kernel
theorem dX10_fact_59 : decode cX10_fact 59 = .ok (.invokevirtual 113, 3) := by decide +kernel
theorem dX10_fact_62 : decode cX10_fact 62 = .ok (.ireturn, 1) := by decide +kernel
theorem dX10_exam_0 : decode cX10_exam 0 = .ok (.aload_n 0, 1) := by decide +kernel
theorem dX10_exam_1 : decode cX10_exam 1 = .ok (.iload_n 1, 1) := by decide +kernel
theorem dX10_exam_2 : decode cX10_exam 2 = .ok (.invokevirtual 103, 3) := by decide +kernel
theorem dX10_exam_5 : decode cX10_exam 5 = .ok (.ifCond .eq 20, 3) := by decide +kernel
theorem dX10_exam_8 : decode cX10_exam 8 = .ok (.iload_n 2, 1) := by decide +kernel
theorem dX10_exam_9 : decode cX10_exam 9 = .ok (.invokestatic 126, 3) := by decide +kernel
theorem dX10_exam_12 : decode cX10_exam 12 = .ok (.ifCond .eq 13, 3) := by decide +kernel
theorem dX10_exam_15 : decode cX10_exam 15 = .ok (.iload_n 3, 1) := by decide +kernel
theorem dX10_exam_16 : decode cX10_exam 16 = .ok (.ifCond .lt 9, 3) := by decide +kernel
theorem dX10_exam_19 : decode cX10_exam 19 = .ok (.iload_n 3, 1) := by decide +kernel
theorem dX10_exam_20 : decode cX10_exam 20 = .ok (.bipush 9, 2) := by decide +kernel
theorem dX10_exam_22 : decode cX10_exam 22 = .ok (.if_icmp .le 5, 3) := by decide +kernel
theorem dX10_exam_25 : decode cX10_exam 25 = .ok (.iconst 0, 1) := by decide +kernel
theorem dX10_exam_26 : decode cX10_exam 26 = .ok (.ireturn, 1) := by decide +kernel
theorem dX10_exam_27 : decode cX10_exam 27 = .ok (.aload_n 0, 1) := by decide +kernel
theorem dX10_exam_28 : decode cX10_exam 28 = .ok (.getfield 19, 3) := by decide +kernel
theorem dX10_exam_31 : decode cX10_exam 31 = .ok (.getfield 129, 3) := by decide +kernel
theorem dX10_exam_34 : decode cX10_exam 34 = .ok (.aload_n 0, 1) := by decide +kernel
theorem dX10_exam_35 : decode cX10_exam 35 = .ok (.getfield 79, 3) := by decide +kernel
theorem dX10_exam_38 : decode cX10_exam 38 = .ok (.iload_n 1, 1) := by decide +kernel
theorem dX10_exam_39 : decode cX10_exam 39 = .ok (.iload_n 2, 1) := by decide +kernel
theorem dX10_exam_40 : decode cX10_exam 40 = .ok (.iload_n 3, 1) := by decide +kernel
theorem dX10_exam_41 : decode cX10_exam 41 = .ok (.iconst 0, 1) := by decide +kernel
theorem dX10_exam_42 : decode cX10_exam 42 = .ok (.iconst 0, 1) := by decide +kernel
theorem dX10_exam_43 : decode cX10_exam 43 = .ok (.invokevirtual 113, 3) := by decide +kernel
theorem dX10_exam_46 : decode cX10_exam 46 = .ok (.ireturn, 1) := by decide +kernel
theorem dX10_same_0 : decode cX10_same 0 = .ok (.aload_n 0, 1) := by decide +kernel
theorem dX10_same_1 : decode cX10_same 1 = .ok (.iload_n 1, 1) := by decide +kernel
theorem dX10_same_2 : decode cX10_same 2 = .ok (.invokevirtual 103, 3) := by decide +kernel
theorem dX10_same_5 : decode cX10_same 5 = .ok (.ifCond .eq 16, 3) := by decide +kernel
theorem dX10_same_8 : decode cX10_same 8 = .ok (.aload_n 0, 1) := by decide +kernel
theorem dX10_same_9 : decode cX10_same 9 = .ok (.iload_n 2, 1) := by decide +kernel
theorem dX10_same_10 : decode cX10_same 10 = .ok (.invokevirtual 103, 3) := by decide +kernel
theorem dX10_same_13 : decode cX10_same 13 = .ok (.ifCond .eq 8, 3) := by decide +kernel
theorem dX10_same_16 : decode cX10_same 16 = .ok (.iload_n 1, 1) := by decide +kernel
theorem dX10_same_17 : decode cX10_same 17 = .ok (.iload_n 2, 1) := by decide +kernel
theorem dX10_same_18 : decode cX10_same 18 = .ok (.if_icmp .ne 5, 3) := by decide +kernel
theorem dX10_same_21 : decode cX10_same 21 = .ok (.iconst 0, 1) := by decide +kernel
theorem dX10_same_22 : decode cX10_same 22 = .ok (.ireturn, 1) := by decide +kernel
theorem dX10_same_23 : decode cX10_same 23 = .ok (.aload_n 0, 1) := by decide +kernel
theorem dX10_same_24 : decode cX10_same 24 = .ok (.getfield 19, 3) := by decide +kernel
theorem dX10_same_27 : decode cX10_same 27 = .ok (.getfield 132, 3) := by decide +kernel
theorem dX10_same_30 : decode cX10_same 30 = .ok (.aload_n 0, 1) := by decide +kernel
theorem dX10_same_31 : decode cX10_same 31 = .ok (.getfield 79, 3) := by decide +kernel
theorem dX10_same_34 : decode cX10_same 34 = .ok (.iload_n 1, 1) := by decide +kernel
theorem dX10_same_35 : decode cX10_same 35 = .ok (.iload_n 2, 1) := by decide +kernel
theorem dX10_same_36 : decode cX10_same 36 = .ok (.iconst 0, 1) := by decide +kernel
theorem dX10_same_37 : decode cX10_same 37 = .ok (.iconst 0, 1) := by decide +kernel
theorem dX10_same_38 : decode cX10_same 38 = .ok (.iconst 0, 1) := by decide +kernel
theorem dX10_same_39 : decode cX10_same 39 = .ok (.invokevirtual 113, 3) := by decide +kernel
theorem dX10_same_42 : decode cX10_same 42 = .ok (.ireturn, 1) := by decide +kernel
theorem dX10_law_0 : decode cX10_law 0 = .ok (.aload_n 0, 1) := by decide +kernel
theorem dX10_law_1 : decode cX10_law 1 = .ok (.getfield 135, 3) := by decide +kernel
theorem dX10_law_4 : decode cX10_law 4 = .ok (.bipush 8, 2) := by decide +kernel
theorem dX10_law_6 : decode cX10_law 6 = .ok (.if_icmp .ge 18, 3) := by decide +kernel
theorem dX10_law_9 : decode cX10_law 9 = .ok (.iload_n 1, 1) := by decide +kernel
theorem dX10_law_10 : decode cX10_law 10 = .ok (.invokestatic 75, 3) := by decide +kernel
theorem dX10_law_13 : decode cX10_law 13 = .ok (.ifCond .eq 11, 3) := by decide +kernel
theorem dX10_law_16 : decode cX10_law 16 = .ok (.iload_n 1, 1) := by decide +kernel
theorem dX10_law_17 : decode cX10_law 17 = .ok (.aload_n 0, 1) := by decide +kernel
theorem dX10_law_18 : decode cX10_law 18 = .ok (.getfield 79, 3) := by decide +kernel
theorem dX10_law_21 : decode cX10_law 21 = .ok (.if_icmp .ge 15, 3) := by decide +kernel
theorem dX10_law_24 : decode cX10_law 24 = .ok (.aload_n 0, 1) := by decide +kernel
theorem dX10_law_25 : decode cX10_law 25 = .ok (.getfield 10, 3) := by decide +kernel
theorem dX10_law_28 : decode cX10_law 28 = .ok (.iconst 0, 1) := by decide +kernel
theorem dX10_law_29 : decode cX10_law 29 = .ok (.putfield 69, 3) := by decide +kernel
theorem dX10_law_32 : decode cX10_law 32 = .ok (.sipush (-1000), 3) := by decide +kernel
theorem dX10_law_35 : decode cX10_law 35 = .ok (.ireturn, 1) := by decide +kernel
theorem dX10_law_36 : decode cX10_law 36 = .ok (.aload_n 0, 1) := by decide +kernel
theorem dX10_law_37 : decode cX10_law 37 = .ok (.getfield 37, 3) := by decide +kernel
theorem dX10_law_40 : decode cX10_law 40 = .ok (.aload_n 0, 1) := by decide +kernel
theorem dX10_law_41 : decode cX10_law 41 = .ok (.getfield 135, 3) := by decide +kernel
theorem dX10_law_44 : decode cX10_law 44 = .ok (.aaload, 1) := by decide +kernel
theorem dX10_law_45 : decode cX10_law 45 = .ok (.astore_n 2, 1) := by decide +kernel
theorem dX10_law_46 : decode cX10_law 46 = .ok (.aload_n 0, 1) := by decide +kernel
theorem dX10_law_47 : decode cX10_law 47 = .ok (.getfield 26, 3) := by decide +kernel
theorem dX10_law_50 : decode cX10_law 50 = .ok (.aload_n 0, 1) := by decide +kernel
theorem dX10_law_51 : decode cX10_law 51 = .ok (.getfield 10, 3) := by decide +kernel
theorem dX10_law_54 : decode cX10_law 54 = .ok (.aload_n 2, 1) := by decide +kernel
theorem dX10_law_55 : decode cX10_law 55 = .ok (.invokevirtual 138, 3) := by decide +kernel
theorem dX10_law_58 : decode cX10_law 58 = .ok (.istore_n 3, 1) := by decide +kernel
theorem dX10_law_59 : decode cX10_law 59 = .ok (.aload_n 0, 1) := by decide +kernel
theorem dX10_law_60 : decode cX10_law 60 = .ok (.getfield 10, 3) := by decide +kernel
theorem dX10_law_63 : decode cX10_law 63 = .ok (.iconst 0, 1) := by decide +kernel
theorem dX10_law_64 : decode cX10_law 64 = .ok (.putfield 69, 3) := by decide +kernel
theorem dX10_law_67 : decode cX10_law 67 = .ok (.aload_n 0, 1) := by decide +kernel
theorem dX10_law_68 : decode cX10_law 68 = .ok (.aload_n 0, 1) := by decide +kernel
theorem dX10_law_69 : decode cX10_law 69 = .ok (.getfield 26, 3) := by decide +kernel
theorem dX10_law_72 : decode cX10_law 72 = .ok (.getfield 142, 3) := by decide +kernel
theorem dX10_law_75 : decode cX10_law 75 = .ok (.putfield 145, 3) := by decide +kernel
theorem dX10_law_78 : decode cX10_law 78 = .ok (.iload_n 3, 1) := by decide +kernel
theorem dX10_law_79 : decode cX10_law 79 = .ok (.ifCond .ne 13, 3) := by decide +kernel
theorem dX10_law_82 : decode cX10_law 82 = .ok (.iconst (-1), 1) := by decide +kernel
theorem dX10_law_83 : decode cX10_law 83 = .ok (.aload_n 0, 1) := by decide +kernel
theorem dX10_law_84 : decode cX10_law 84 = .ok (.getfield 26, 3) := by decide +kernel
theorem dX10_law_87 : decode cX10_law 87 = .ok (.getfield 148, 3) := by decide +kernel
theorem dX10_law_90 : decode cX10_law 90 = .ok (.isub, 1) := by decide +kernel
theorem dX10_law_91 : decode cX10_law 91 = .ok (.ireturn, 1) := by decide +kernel
theorem dX10_law_92 : decode cX10_law 92 = .ok (.aload_n 2, 1) := by decide +kernel
theorem dX10_law_93 : decode cX10_law 93 = .ok (.aload_n 0, 1) := by decide +kernel
theorem dX10_law_94 : decode cX10_law 94 = .ok (.getfield 79, 3) := by decide +kernel
theorem dX10_law_97 : decode cX10_law 97 = .ok (.putfield 151, 3) := by decide +kernel
theorem dX10_law_100 : decode cX10_law 100 = .ok (.aload_n 2, 1) := by decide +kernel
theorem dX10_law_101 : decode cX10_law 101 = .ok (.iload_n 1, 1) := by decide +kernel
theorem dX10_law_102 : decode cX10_law 102 = .ok (.putfield 154, 3) := by decide +kernel
theorem dX10_law_105 : decode cX10_law 105 = .ok (.aload_n 0, 1) := by decide +kernel
theorem dX10_law_106 : decode cX10_law 106 = .ok (.dup, 1) := by decide +kernel
theorem dX10_law_107 : decode cX10_law 107 = .ok (.getfield 135, 3) := by decide +kernel
theorem dX10_law_110 : decode cX10_law 110 = .ok (.iconst 1, 1) := by decide +kernel
theorem dX10_law_111 : decode cX10_law 111 = .ok (.iadd, 1) := by decide +kernel
theorem dX10_law_112 : decode cX10_law 112 = .ok (.putfield 135, 3) := by decide +kernel
theorem dX10_law_115 : decode cX10_law 115 = .ok (.aload_n 2, 1) := by decide +kernel
theorem dX10_law_116 : decode cX10_law 116 = .ok (.getfield 157, 3) := by decide +kernel
theorem dX10_law_119 : decode cX10_law 119 = .ok (.ireturn, 1) := by decide +kernel
theorem dX10_fault_0 : decode cX10_fault 0 = .ok (.aload_n 0, 1) := by decide +kernel
theorem dX10_fault_1 : decode cX10_fault 1 = .ok (.getfield 145, 3) := by decide +kernel
theorem dX10_fault_4 : decode cX10_fault 4 = .ok (.ireturn, 1) := by decide +kernel
theorem dX10_lot_0 : decode cX10_lot 0 = .ok (.aload_n 0, 1) := by decide +kernel
theorem dX10_lot_1 : decode cX10_lot 1 = .ok (.getfield 160, 3) := by decide +kernel
theorem dX10_lot_4 : decode cX10_lot 4 = .ok (.iconst 4, 1) := by decide +kernel
theorem dX10_lot_5 : decode cX10_lot 5 = .ok (.if_icmp .ge 28, 3) := by decide +kernel
theorem dX10_lot_8 : decode cX10_lot 8 = .ok (.iload_n 1, 1) := by decide +kernel
theorem dX10_lot_9 : decode cX10_lot 9 = .ok (.invokestatic 75, 3) := by decide +kernel
theorem dX10_lot_12 : decode cX10_lot 12 = .ok (.ifCond .eq 21, 3) := by decide +kernel
theorem dX10_lot_15 : decode cX10_lot 15 = .ok (.iload_n 1, 1) := by decide +kernel
theorem dX10_lot_16 : decode cX10_lot 16 = .ok (.aload_n 0, 1) := by decide +kernel
theorem dX10_lot_17 : decode cX10_lot 17 = .ok (.getfield 79, 3) := by decide +kernel
theorem dX10_lot_20 : decode cX10_lot 20 = .ok (.if_icmp .lt 13, 3) := by decide +kernel
theorem dX10_lot_23 : decode cX10_lot 23 = .ok (.iload_n 2, 1) := by decide +kernel
theorem dX10_lot_24 : decode cX10_lot 24 = .ok (.ifCond .lt 9, 3) := by decide +kernel
theorem dX10_lot_27 : decode cX10_lot 27 = .ok (.iload_n 2, 1) := by decide +kernel
theorem dX10_lot_28 : decode cX10_lot 28 = .ok (.bipush 60, 2) := by decide +kernel
theorem dX10_lot_30 : decode cX10_lot 30 = .ok (.if_icmp .le 5, 3) := by decide +kernel
theorem dX10_lot_33 : decode cX10_lot 33 = .ok (.iconst (-1), 1) := by decide +kernel
theorem dX10_lot_34 : decode cX10_lot 34 = .ok (.ireturn, 1) := by decide +kernel
theorem dX10_lot_35 : decode cX10_lot 35 = .ok (.aload_n 0, 1) := by decide +kernel
theorem dX10_lot_36 : decode cX10_lot 36 = .ok (.getfield 160, 3) := by decide +kernel
theorem dX10_lot_39 : decode cX10_lot 39 = .ok (.ifCond .le 26, 3) := by decide +kernel
theorem dX10_lot_42 : decode cX10_lot 42 = .ok (.iload_n 1, 1) := by decide +kernel
theorem dX10_lot_43 : decode cX10_lot 43 = .ok (.aload_n 0, 1) := by decide +kernel
theorem dX10_lot_44 : decode cX10_lot 44 = .ok (.getfield 43, 3) := by decide +kernel
theorem dX10_lot_47 : decode cX10_lot 47 = .ok (.aload_n 0, 1) := by decide +kernel
theorem dX10_lot_48 : decode cX10_lot 48 = .ok (.getfield 160, 3) := by decide +kernel
theorem dX10_lot_51 : decode cX10_lot 51 = .ok (.iconst 1, 1) := by decide +kernel
theorem dX10_lot_52 : decode cX10_lot 52 = .ok (.isub, 1) := by decide +kernel
theorem dX10_lot_53 : decode cX10_lot 53 = .ok (.aaload, 1) := by decide +kernel
theorem dX10_lot_54 : decode cX10_lot 54 = .ok (.getfield 163, 3) := by decide +kernel
theorem dX10_lot_57 : decode cX10_lot 57 = .ok (.getfield 167, 3) := by decide +kernel
theorem dX10_lot_60 : decode cX10_lot 60 = .ok (.if_icmp .ge 5, 3) := by decide +kernel
theorem dX10_lot_63 : decode cX10_lot 63 = .ok (.iconst (-1), 1) := by decide +kernel
theorem dX10_lot_64 : decode cX10_lot 64 = .ok (.ireturn, 1) := by decide +kernel
theorem dX10_lot_65 : decode cX10_lot 65 = .ok (.aload_n 0, 1) := by decide +kernel
theorem dX10_lot_66 : decode cX10_lot 66 = .ok (.getfield 43, 3) := by decide +kernel
theorem dX10_lot_69 : decode cX10_lot 69 = .ok (.aload_n 0, 1) := by decide +kernel
theorem dX10_lot_70 : decode cX10_lot 70 = .ok (.getfield 160, 3) := by decide +kernel
theorem dX10_lot_73 : decode cX10_lot 73 = .ok (.aaload, 1) := by decide +kernel
theorem dX10_lot_74 : decode cX10_lot 74 = .ok (.getfield 163, 3) := by decide +kernel
theorem dX10_lot_77 : decode cX10_lot 77 = .ok (.iload_n 1, 1) := by decide +kernel
theorem dX10_lot_78 : decode cX10_lot 78 = .ok (.putfield 167, 3) := by decide +kernel
theorem dX10_lot_81 : decode cX10_lot 81 = .ok (.aload_n 0, 1) := by decide +kernel
theorem dX10_lot_82 : decode cX10_lot 82 = .ok (.getfield 43, 3) := by decide +kernel
theorem dX10_lot_85 : decode cX10_lot 85 = .ok (.aload_n 0, 1) := by decide +kernel
theorem dX10_lot_86 : decode cX10_lot 86 = .ok (.getfield 160, 3) := by decide +kernel
theorem dX10_lot_89 : decode cX10_lot 89 = .ok (.aaload, 1) := by decide +kernel
theorem dX10_lot_90 : decode cX10_lot 90 = .ok (.getfield 163, 3) := by decide +kernel
theorem dX10_lot_93 : decode cX10_lot 93 = .ok (.iload_n 2, 1) := by decide +kernel
theorem dX10_lot_94 : decode cX10_lot 94 = .ok (.putfield 172, 3) := by decide +kernel
theorem dX10_lot_97 : decode cX10_lot 97 = .ok (.aload_n 0, 1) := by decide +kernel
theorem dX10_lot_98 : decode cX10_lot 98 = .ok (.dup, 1) := by decide +kernel
theorem dX10_lot_99 : decode cX10_lot 99 = .ok (.getfield 160, 3) := by decide +kernel
theorem dX10_lot_102 : decode cX10_lot 102 = .ok (.iconst 1, 1) := by decide +kernel
theorem dX10_lot_103 : decode cX10_lot 103 = .ok (.iadd, 1) := by decide +kernel
theorem dX10_lot_104 : decode cX10_lot 104 = .ok (.putfield 160, 3) := by decide +kernel
theorem dX10_lot_107 : decode cX10_lot 107 = .ok (.aload_n 0, 1) := by decide +kernel
theorem dX10_lot_108 : decode cX10_lot 108 = .ok (.getfield 160, 3) := by decide +kernel
theorem dX10_lot_111 : decode cX10_lot 111 = .ok (.iconst 1, 1) := by decide +kernel
theorem dX10_lot_112 : decode cX10_lot 112 = .ok (.isub, 1) := by decide +kernel
theorem dX10_lot_113 : decode cX10_lot 113 = .ok (.ireturn, 1) := by decide +kernel
theorem dX10_weeks_0 : decode cX10_weeks 0 = .ok (.aload_n 0, 1) := by decide +kernel
theorem dX10_weeks_1 : decode cX10_weeks 1 = .ok (.iload_n 1, 1) := by decide +kernel
theorem dX10_weeks_2 : decode cX10_weeks 2 = .ok (.invokevirtual 175, 3) := by decide +kernel
theorem dX10_weeks_5 : decode cX10_weeks 5 = .ok (.ifCond .eq 26, 3) := by decide +kernel
theorem dX10_weeks_8 : decode cX10_weeks 8 = .ok (.aload_n 0, 1) := by decide +kernel
theorem dX10_weeks_9 : decode cX10_weeks 9 = .ok (.getfield 43, 3) := by decide +kernel
theorem dX10_weeks_12 : decode cX10_weeks 12 = .ok (.iload_n 1, 1) := by decide +kernel
theorem dX10_weeks_13 : decode cX10_weeks 13 = .ok (.aaload, 1) := by decide +kernel
theorem dX10_weeks_14 : decode cX10_weeks 14 = .ok (.getfield 163, 3) := by decide +kernel
theorem dX10_weeks_17 : decode cX10_weeks 17 = .ok (.aload_n 0, 1) := by decide +kernel
theorem dX10_weeks_18 : decode cX10_weeks 18 = .ok (.getfield 10, 3) := by decide +kernel
theorem dX10_weeks_21 : decode cX10_weeks 21 = .ok (.invokevirtual 178, 3) := by decide +kernel
theorem dX10_weeks_24 : decode cX10_weeks 24 = .ok (.ifCond .eq 7, 3) := by decide +kernel
theorem dX10_weeks_27 : decode cX10_weeks 27 = .ok (.iconst 1, 1) := by decide +kernel
theorem dX10_weeks_28 : decode cX10_weeks 28 = .ok (.goto 4, 3) := by decide +kernel
theorem dX10_weeks_31 : decode cX10_weeks 31 = .ok (.iconst 0, 1) := by decide +kernel
theorem dX10_weeks_32 : decode cX10_weeks 32 = .ok (.istore_n 2, 1) := by decide +kernel
theorem dX10_weeks_33 : decode cX10_weeks 33 = .ok (.aload_n 0, 1) := by decide +kernel
theorem dX10_weeks_34 : decode cX10_weeks 34 = .ok (.getfield 10, 3) := by decide +kernel
theorem dX10_weeks_37 : decode cX10_weeks 37 = .ok (.iconst 0, 1) := by decide +kernel
theorem dX10_weeks_38 : decode cX10_weeks 38 = .ok (.putfield 69, 3) := by decide +kernel
theorem dX10_weeks_41 : decode cX10_weeks 41 = .ok (.iload_n 2, 1) := by decide +kernel
theorem dX10_weeks_42 : decode cX10_weeks 42 = .ok (.ireturn, 1) := by decide +kernel
theorem dX10_letters_0 : decode cX10_letters 0 = .ok (.aload_n 0, 1) := by decide +kernel
theorem dX10_letters_1 : decode cX10_letters 1 = .ok (.iload_n 1, 1) := by decide +kernel
theorem dX10_letters_2 : decode cX10_letters 2 = .ok (.invokevirtual 175, 3) := by decide +kernel
theorem dX10_letters_5 : decode cX10_letters 5 = .ok (.ifCond .eq 26, 3) := by decide +kernel
theorem dX10_letters_8 : decode cX10_letters 8 = .ok (.aload_n 0, 1) := by decide +kernel
theorem dX10_letters_9 : decode cX10_letters 9 = .ok (.getfield 43, 3) := by decide +kernel
theorem dX10_letters_12 : decode cX10_letters 12 = .ok (.iload_n 1, 1) := by decide +kernel
theorem dX10_letters_13 : decode cX10_letters 13 = .ok (.aaload, 1) := by decide +kernel
theorem dX10_letters_14 : decode cX10_letters 14 = .ok (.getfield 163, 3) := by decide +kernel
theorem dX10_letters_17 : decode cX10_letters 17 = .ok (.aload_n 0, 1) := by decide +kernel
theorem dX10_letters_18 : decode cX10_letters 18 = .ok (.getfield 10, 3) := by decide +kernel
theorem dX10_letters_21 : decode cX10_letters 21 = .ok (.invokevirtual 182, 3) := by decide +kernel
theorem dX10_letters_24 : decode cX10_letters 24 = .ok (.ifCond .eq 7, 3) := by decide +kernel
theorem dX10_letters_27 : decode cX10_letters 27 = .ok (.iconst 1, 1) := by decide +kernel
theorem dX10_letters_28 : decode cX10_letters 28 = .ok (.goto 4, 3) := by decide +kernel
theorem dX10_letters_31 : decode cX10_letters 31 = .ok (.iconst 0, 1) := by decide +kernel
theorem dX10_letters_32 : decode cX10_letters 32 = .ok (.istore_n 2, 1) := by decide +kernel
theorem dX10_letters_33 : decode cX10_letters 33 = .ok (.aload_n 0, 1) := by decide +kernel
theorem dX10_letters_34 : decode cX10_letters 34 = .ok (.getfield 10, 3) := by decide +kernel
theorem dX10_letters_37 : decode cX10_letters 37 = .ok (.iconst 0, 1) := by decide +kernel
theorem dX10_letters_38 : decode cX10_letters 38 = .ok (.putfield 69, 3) := by decide +kernel
theorem dX10_letters_41 : decode cX10_letters 41 = .ok (.iload_n 2, 1) := by decide +kernel
theorem dX10_letters_42 : decode cX10_letters 42 = .ok (.ireturn, 1) := by decide +kernel
theorem dX10_hands_0 : decode cX10_hands 0 = .ok (.iload_n 1, 1) := by decide +kernel
theorem dX10_hands_1 : decode cX10_hands 1 = .ok (.invokestatic 90, 3) := by decide +kernel
theorem dX10_hands_4 : decode cX10_hands 4 = .ok (.ifCond .eq 20, 3) := by decide +kernel
theorem dX10_hands_7 : decode cX10_hands 7 = .ok (.iload_n 2, 1) := by decide +kernel
theorem dX10_hands_8 : decode cX10_hands 8 = .ok (.invokestatic 185, 3) := by decide +kernel
theorem dX10_hands_11 : decode cX10_hands 11 = .ok (.ifCond .eq 13, 3) := by decide +kernel
theorem dX10_hands_14 : decode cX10_hands 14 = .ok (.iload_n 3, 1) := by decide +kernel
theorem dX10_hands_15 : decode cX10_hands 15 = .ok (.ifCond .lt 9, 3) := by decide +kernel
theorem dX10_hands_18 : decode cX10_hands 18 = .ok (.iload_n 3, 1) := by decide +kernel
theorem dX10_hands_19 : decode cX10_hands 19 = .ok (.bipush 60, 2) := by decide +kernel
theorem dX10_hands_21 : decode cX10_hands 21 = .ok (.if_icmp .le 5, 3) := by decide +kernel
theorem dX10_hands_24 : decode cX10_hands 24 = .ok (.iconst 0, 1) := by decide +kernel
theorem dX10_hands_25 : decode cX10_hands 25 = .ok (.ireturn, 1) := by decide +kernel
theorem dX10_hands_26 : decode cX10_hands 26 = .ok (.aload_n 0, 1) := by decide +kernel
theorem dX10_hands_27 : decode cX10_hands 27 = .ok (.getfield 50, 3) := by decide +kernel
theorem dX10_hands_30 : decode cX10_hands 30 = .ok (.getfield 188, 3) := by decide +kernel
theorem dX10_hands_33 : decode cX10_hands 33 = .ok (.iload_n 1, 1) := by decide +kernel
theorem dX10_hands_34 : decode cX10_hands 34 = .ok (.aaload, 1) := by decide +kernel
theorem dX10_hands_35 : decode cX10_hands 35 = .ok (.iload_n 2, 1) := by decide +kernel
theorem dX10_hands_36 : decode cX10_hands 36 = .ok (.iload_n 3, 1) := by decide +kernel
theorem dX10_hands_37 : decode cX10_hands 37 = .ok (.iastore, 1) := by decide +kernel
theorem dX10_hands_38 : decode cX10_hands 38 = .ok (.iconst 1, 1) := by decide +kernel
theorem dX10_hands_39 : decode cX10_hands 39 = .ok (.ireturn, 1) := by decide +kernel
theorem dX10_who_0 : decode cX10_who 0 = .ok (.aload_n 0, 1) := by decide +kernel
theorem dX10_who_1 : decode cX10_who 1 = .ok (.iload_n 1, 1) := by decide +kernel
theorem dX10_who_2 : decode cX10_who 2 = .ok (.invokevirtual 103, 3) := by decide +kernel
theorem dX10_who_5 : decode cX10_who 5 = .ok (.ifCond .ne 5, 3) := by decide +kernel
theorem dX10_who_8 : decode cX10_who 8 = .ok (.iconst (-1), 1) := by decide +kernel
theorem dX10_who_9 : decode cX10_who 9 = .ok (.ireturn, 1) := by decide +kernel
theorem dX10_who_10 : decode cX10_who 10 = .ok (.aload_n 0, 1) := by decide +kernel
theorem dX10_who_11 : decode cX10_who 11 = .ok (.getfield 19, 3) := by decide +kernel
theorem dX10_who_14 : decode cX10_who 14 = .ok (.iload_n 2, 1) := by decide +kernel
theorem dX10_who_15 : decode cX10_who 15 = .ok (.invokevirtual 192, 3) := by decide +kernel
theorem dX10_who_18 : decode cX10_who 18 = .ok (.aload_n 0, 1) := by decide +kernel
theorem dX10_who_19 : decode cX10_who 19 = .ok (.getfield 19, 3) := by decide +kernel
theorem dX10_who_22 : decode cX10_who 22 = .ok (.getfield 195, 3) := by decide +kernel
theorem dX10_who_25 : decode cX10_who 25 = .ok (.iload_n 1, 1) := by decide +kernel
theorem dX10_who_26 : decode cX10_who 26 = .ok (.iaload, 1) := by decide +kernel
theorem dX10_who_27 : decode cX10_who 27 = .ok (.ireturn, 1) := by decide +kernel
theorem dX10_age_0 : decode cX10_age 0 = .ok (.aload_n 0, 1) := by decide +kernel
theorem dX10_age_1 : decode cX10_age 1 = .ok (.iload_n 1, 1) := by decide +kernel
theorem dX10_age_2 : decode cX10_age 2 = .ok (.invokevirtual 103, 3) := by decide +kernel
theorem dX10_age_5 : decode cX10_age 5 = .ok (.ifCond .eq 10, 3) := by decide +kernel
theorem dX10_age_8 : decode cX10_age 8 = .ok (.iload_n 2, 1) := by decide +kernel
theorem dX10_age_9 : decode cX10_age 9 = .ok (.invokestatic 75, 3) := by decide +kernel
theorem dX10_age_12 : decode cX10_age 12 = .ok (.ifCond .ne 5, 3) := by decide +kernel
theorem dX10_age_15 : decode cX10_age 15 = .ok (.iconst (-1), 1) := by decide +kernel
theorem dX10_age_16 : decode cX10_age 16 = .ok (.ireturn, 1) := by decide +kernel
theorem dX10_age_17 : decode cX10_age 17 = .ok (.aload_n 0, 1) := by decide +kernel
theorem dX10_age_18 : decode cX10_age 18 = .ok (.getfield 19, 3) := by decide +kernel
theorem dX10_age_21 : decode cX10_age 21 = .ok (.iload_n 3, 1) := by decide +kernel
theorem dX10_age_22 : decode cX10_age 22 = .ok (.invokevirtual 192, 3) := by decide +kernel
theorem dX10_age_25 : decode cX10_age 25 = .ok (.aload_n 0, 1) := by decide +kernel
theorem dX10_age_26 : decode cX10_age 26 = .ok (.getfield 19, 3) := by decide +kernel
theorem dX10_age_29 : decode cX10_age 29 = .ok (.getfield 198, 3) := by decide +kernel
theorem dX10_age_32 : decode cX10_age 32 = .ok (.iload_n 1, 1) := by decide +kernel
theorem dX10_age_33 : decode cX10_age 33 = .ok (.baload, 1) := by decide +kernel
theorem dX10_age_34 : decode cX10_age 34 = .ok (.ifCond .eq 15, 3) := by decide +kernel
theorem dX10_age_37 : decode cX10_age 37 = .ok (.aload_n 0, 1) := by decide +kernel
theorem dX10_age_38 : decode cX10_age 38 = .ok (.getfield 19, 3) := by decide +kernel
theorem dX10_age_41 : decode cX10_age 41 = .ok (.iload_n 1, 1) := by decide +kernel
theorem dX10_age_42 : decode cX10_age 42 = .ok (.iload_n 2, 1) := by decide +kernel
theorem dX10_age_43 : decode cX10_age 43 = .ok (.invokevirtual 201, 3) := by decide +kernel
theorem dX10_age_46 : decode cX10_age 46 = .ok (.goto 4, 3) := by decide +kernel
theorem dX10_age_49 : decode cX10_age 49 = .ok (.iconst (-1), 1) := by decide +kernel
theorem dX10_age_50 : decode cX10_age 50 = .ok (.ireturn, 1) := by decide +kernel
theorem dX10_brothers_0 : decode cX10_brothers 0 = .ok (.aload_n 0, 1) := by decide +kernel
theorem dX10_brothers_1 : decode cX10_brothers 1 = .ok (.iload_n 1, 1) := by decide +kernel
theorem dX10_brothers_2 : decode cX10_brothers 2 = .ok (.invokevirtual 103, 3) := by decide +kernel
theorem dX10_brothers_5 : decode cX10_brothers 5 = .ok (.ifCond .ne 5, 3) := by decide +kernel
theorem dX10_brothers_8 : decode cX10_brothers 8 = .ok (.iconst (-1), 1) := by decide +kernel
theorem dX10_brothers_9 : decode cX10_brothers 9 = .ok (.ireturn, 1) := by decide +kernel
theorem dX10_brothers_10 : decode cX10_brothers 10 = .ok (.aload_n 0, 1) := by decide +kernel
theorem dX10_brothers_11 : decode cX10_brothers 11 = .ok (.getfield 19, 3) := by decide +kernel
theorem dX10_brothers_14 : decode cX10_brothers 14 = .ok (.iload_n 2, 1) := by decide +kernel
theorem dX10_brothers_15 : decode cX10_brothers 15 = .ok (.invokevirtual 192, 3) := by decide +kernel
theorem dX10_brothers_18 : decode cX10_brothers 18 = .ok (.aload_n 0, 1) := by decide +kernel
theorem dX10_brothers_19 : decode cX10_brothers 19 = .ok (.getfield 19, 3) := by decide +kernel
theorem dX10_brothers_22 : decode cX10_brothers 22 = .ok (.getfield 205, 3) := by decide +kernel
theorem dX10_brothers_25 : decode cX10_brothers 25 = .ok (.iload_n 1, 1) := by decide +kernel
theorem dX10_brothers_26 : decode cX10_brothers 26 = .ok (.baload, 1) := by decide +kernel
theorem dX10_brothers_27 : decode cX10_brothers 27 = .ok (.ifCond .eq 14, 3) := by decide +kernel
theorem dX10_brothers_30 : decode cX10_brothers 30 = .ok (.aload_n 0, 1) := by decide +kernel
theorem dX10_brothers_31 : decode cX10_brothers 31 = .ok (.getfield 19, 3) := by decide +kernel
theorem dX10_brothers_34 : decode cX10_brothers 34 = .ok (.iload_n 1, 1) := by decide +kernel
theorem dX10_brothers_35 : decode cX10_brothers 35 = .ok (.invokevirtual 208, 3) := by decide +kernel
theorem dX10_brothers_38 : decode cX10_brothers 38 = .ok (.goto 4, 3) := by decide +kernel
theorem dX10_brothers_41 : decode cX10_brothers 41 = .ok (.iconst (-1), 1) := by decide +kernel
theorem dX10_brothers_42 : decode cX10_brothers 42 = .ok (.ireturn, 1) := by decide +kernel
theorem dX10_state_0 : decode cX10_state 0 = .ok (.aload_n 0, 1) := by decide +kernel
theorem dX10_state_1 : decode cX10_state 1 = .ok (.iload_n 1, 1) := by decide +kernel
theorem dX10_state_2 : decode cX10_state 2 = .ok (.invokevirtual 175, 3) := by decide +kernel
theorem dX10_state_5 : decode cX10_state 5 = .ok (.ifCond .eq 11, 3) := by decide +kernel
theorem dX10_state_8 : decode cX10_state 8 = .ok (.aload_n 0, 1) := by decide +kernel
theorem dX10_state_9 : decode cX10_state 9 = .ok (.iload_n 2, 1) := by decide +kernel
theorem dX10_state_10 : decode cX10_state 10 = .ok (.invokevirtual 103, 3) := by decide +kernel
theorem dX10_state_13 : decode cX10_state 13 = .ok (.ifCond .ne 5, 3) := by decide +kernel
theorem dX10_state_16 : decode cX10_state 16 = .ok (.iconst (-1), 1) := by decide +kernel
theorem dX10_state_17 : decode cX10_state 17 = .ok (.ireturn, 1) := by decide +kernel
theorem dX10_state_18 : decode cX10_state 18 = .ok (.aload_n 0, 1) := by decide +kernel
theorem dX10_state_19 : decode cX10_state 19 = .ok (.iload_n 1, 1) := by decide +kernel
theorem dX10_state_20 : decode cX10_state 20 = .ok (.iload_n 3, 1) := by decide +kernel
theorem dX10_state_21 : decode cX10_state 21 = .ok (.invokevirtual 211, 3) := by decide +kernel
theorem dX10_state_24 : decode cX10_state 24 = .ok (.astore 4, 2) := by decide +kernel
theorem dX10_state_26 : decode cX10_state 26 = .ok (.aload_n 0, 1) := by decide +kernel
theorem dX10_state_27 : decode cX10_state 27 = .ok (.aload 4, 2) := by decide +kernel
theorem dX10_state_29 : decode cX10_state 29 = .ok (.getfield 215, 3) := by decide +kernel
theorem dX10_state_32 : decode cX10_state 32 = .ok (.iload_n 2, 1) := by decide +kernel
theorem dX10_state_33 : decode cX10_state 33 = .ok (.iaload, 1) := by decide +kernel
theorem dX10_state_34 : decode cX10_state 34 = .ok (.putfield 62, 3) := by decide +kernel
theorem dX10_state_37 : decode cX10_state 37 = .ok (.aload 4, 2) := by decide +kernel
theorem dX10_state_39 : decode cX10_state 39 = .ok (.getfield 218, 3) := by decide +kernel
theorem dX10_state_42 : decode cX10_state 42 = .ok (.iload_n 2, 1) := by decide +kernel
theorem dX10_state_43 : decode cX10_state 43 = .ok (.iaload, 1) := by decide +kernel
theorem dX10_state_44 : decode cX10_state 44 = .ok (.ireturn, 1) := by decide +kernel
theorem dX10_why_0 : decode cX10_why 0 = .ok (.aload_n 0, 1) := by decide +kernel
theorem dX10_why_1 : decode cX10_why 1 = .ok (.getfield 62, 3) := by decide +kernel
theorem dX10_why_4 : decode cX10_why 4 = .ok (.ireturn, 1) := by decide +kernel
theorem dX10_quota_0 : decode cX10_quota 0 = .ok (.aload_n 0, 1) := by decide +kernel
theorem dX10_quota_1 : decode cX10_quota 1 = .ok (.iload_n 1, 1) := by decide +kernel
theorem dX10_quota_2 : decode cX10_quota 2 = .ok (.invokevirtual 175, 3) := by decide +kernel
theorem dX10_quota_5 : decode cX10_quota 5 = .ok (.ifCond .eq 10, 3) := by decide +kernel
theorem dX10_quota_8 : decode cX10_quota 8 = .ok (.iload_n 2, 1) := by decide +kernel
theorem dX10_quota_9 : decode cX10_quota 9 = .ok (.invokestatic 90, 3) := by decide +kernel
theorem dX10_quota_12 : decode cX10_quota 12 = .ok (.ifCond .ne 5, 3) := by decide +kernel
theorem dX10_quota_15 : decode cX10_quota 15 = .ok (.iconst (-1), 1) := by decide +kernel
theorem dX10_quota_16 : decode cX10_quota 16 = .ok (.ireturn, 1) := by decide +kernel
theorem dX10_quota_17 : decode cX10_quota 17 = .ok (.aload_n 0, 1) := by decide +kernel
theorem dX10_quota_18 : decode cX10_quota 18 = .ok (.iload_n 1, 1) := by decide +kernel
theorem dX10_quota_19 : decode cX10_quota 19 = .ok (.iload_n 3, 1) := by decide +kernel
theorem dX10_quota_20 : decode cX10_quota 20 = .ok (.invokevirtual 211, 3) := by decide +kernel
theorem dX10_quota_23 : decode cX10_quota 23 = .ok (.getfield 221, 3) := by decide +kernel
theorem dX10_quota_26 : decode cX10_quota 26 = .ok (.iload_n 2, 1) := by decide +kernel
theorem dX10_quota_27 : decode cX10_quota 27 = .ok (.iaload, 1) := by decide +kernel
theorem dX10_quota_28 : decode cX10_quota 28 = .ok (.ireturn, 1) := by decide +kernel
theorem dX10_place_0 : decode cX10_place 0 = .ok (.aload_n 0, 1) := by decide +kernel
theorem dX10_place_1 : decode cX10_place 1 = .ok (.iload_n 1, 1) := by decide +kernel
theorem dX10_place_2 : decode cX10_place 2 = .ok (.invokevirtual 175, 3) := by decide +kernel
theorem dX10_place_5 : decode cX10_place 5 = .ok (.ifCond .eq 11, 3) := by decide +kernel
theorem dX10_place_8 : decode cX10_place 8 = .ok (.aload_n 0, 1) := by decide +kernel
theorem dX10_place_9 : decode cX10_place 9 = .ok (.iload_n 2, 1) := by decide +kernel
theorem dX10_place_10 : decode cX10_place 10 = .ok (.invokevirtual 103, 3) := by decide +kernel
theorem dX10_place_13 : decode cX10_place 13 = .ok (.ifCond .ne 5, 3) := by decide +kernel
theorem dX10_place_16 : decode cX10_place 16 = .ok (.iconst (-1), 1) := by decide +kernel
theorem dX10_place_17 : decode cX10_place 17 = .ok (.ireturn, 1) := by decide +kernel
theorem dX10_place_18 : decode cX10_place 18 = .ok (.aload_n 0, 1) := by decide +kernel
theorem dX10_place_19 : decode cX10_place 19 = .ok (.iload_n 1, 1) := by decide +kernel
theorem dX10_place_20 : decode cX10_place 20 = .ok (.iload_n 3, 1) := by decide +kernel
theorem dX10_place_21 : decode cX10_place 21 = .ok (.invokevirtual 211, 3) := by decide +kernel
theorem dX10_place_24 : decode cX10_place 24 = .ok (.astore 4, 2) := by decide +kernel
theorem dX10_place_26 : decode cX10_place 26 = .ok (.aload 4, 2) := by decide +kernel
theorem dX10_place_28 : decode cX10_place 28 = .ok (.iload_n 2, 1) := by decide +kernel
theorem dX10_place_29 : decode cX10_place 29 = .ok (.invokevirtual 224, 3) := by decide +kernel
theorem dX10_place_32 : decode cX10_place 32 = .ok (.ifCond .eq 13, 3) := by decide +kernel
theorem dX10_place_35 : decode cX10_place 35 = .ok (.aload 4, 2) := by decide +kernel
theorem dX10_place_37 : decode cX10_place 37 = .ok (.getfield 227, 3) := by decide +kernel
theorem dX10_place_40 : decode cX10_place 40 = .ok (.iload_n 2, 1) := by decide +kernel
theorem dX10_place_41 : decode cX10_place 41 = .ok (.iaload, 1) := by decide +kernel
theorem dX10_place_42 : decode cX10_place 42 = .ok (.goto 4, 3) := by decide +kernel
theorem dX10_place_45 : decode cX10_place 45 = .ok (.iconst (-1), 1) := by decide +kernel
theorem dX10_place_46 : decode cX10_place 46 = .ok (.ireturn, 1) := by decide +kernel
theorem dX10_called_0 : decode cX10_called 0 = .ok (.aload_n 0, 1) := by decide +kernel
theorem dX10_called_1 : decode cX10_called 1 = .ok (.iload_n 1, 1) := by decide +kernel
theorem dX10_called_2 : decode cX10_called 2 = .ok (.invokevirtual 175, 3) := by decide +kernel
theorem dX10_called_5 : decode cX10_called 5 = .ok (.ifCond .eq 15, 3) := by decide +kernel
theorem dX10_called_8 : decode cX10_called 8 = .ok (.aload_n 0, 1) := by decide +kernel
theorem dX10_called_9 : decode cX10_called 9 = .ok (.iload_n 1, 1) := by decide +kernel
theorem dX10_called_10 : decode cX10_called 10 = .ok (.iload_n 2, 1) := by decide +kernel
theorem dX10_called_11 : decode cX10_called 11 = .ok (.invokevirtual 211, 3) := by decide +kernel
theorem dX10_called_14 : decode cX10_called 14 = .ok (.getfield 229, 3) := by decide +kernel
theorem dX10_called_17 : decode cX10_called 17 = .ok (.goto 4, 3) := by decide +kernel
theorem dX10_called_20 : decode cX10_called 20 = .ok (.iconst (-1), 1) := by decide +kernel
theorem dX10_called_21 : decode cX10_called 21 = .ok (.ireturn, 1) := by decide +kernel
theorem dX10_send_0 : decode cX10_send 0 = .ok (.aload_n 0, 1) := by decide +kernel
theorem dX10_send_1 : decode cX10_send 1 = .ok (.iload_n 1, 1) := by decide +kernel
theorem dX10_send_2 : decode cX10_send 2 = .ok (.invokevirtual 175, 3) := by decide +kernel
theorem dX10_send_5 : decode cX10_send 5 = .ok (.ifCond .eq 38, 3) := by decide +kernel
theorem dX10_send_8 : decode cX10_send 8 = .ok (.aload_n 0, 1) := by decide +kernel
theorem dX10_send_9 : decode cX10_send 9 = .ok (.iload_n 2, 1) := by decide +kernel
theorem dX10_send_10 : decode cX10_send 10 = .ok (.invokevirtual 103, 3) := by decide +kernel
theorem dX10_send_13 : decode cX10_send 13 = .ok (.ifCond .eq 30, 3) := by decide +kernel
theorem dX10_send_16 : decode cX10_send 16 = .ok (.aload_n 0, 1) := by decide +kernel
theorem dX10_send_17 : decode cX10_send 17 = .ok (.iload_n 3, 1) := by decide +kernel
theorem dX10_send_18 : decode cX10_send 18 = .ok (.invokevirtual 103, 3) := by decide +kernel
theorem dX10_send_21 : decode cX10_send 21 = .ok (.ifCond .eq 22, 3) := by decide +kernel
theorem dX10_send_24 : decode cX10_send 24 = .ok (.aload_n 0, 1) := by decide +kernel
theorem dX10_send_25 : decode cX10_send 25 = .ok (.getfield 79, 3) := by decide +kernel
theorem dX10_send_28 : decode cX10_send 28 = .ok (.aload_n 0, 1) := by decide +kernel
theorem dX10_send_29 : decode cX10_send 29 = .ok (.getfield 43, 3) := by decide +kernel
theorem dX10_send_32 : decode cX10_send 32 = .ok (.iload_n 1, 1) := by decide +kernel
theorem dX10_send_33 : decode cX10_send 33 = .ok (.aaload, 1) := by decide +kernel
theorem dX10_send_34 : decode cX10_send 34 = .ok (.getfield 163, 3) := by decide +kernel
theorem dX10_send_37 : decode cX10_send 37 = .ok (.getfield 167, 3) := by decide +kernel
theorem dX10_send_40 : decode cX10_send 40 = .ok (.if_icmp .ge 5, 3) := by decide +kernel
theorem dX10_send_43 : decode cX10_send 43 = .ok (.iconst 0, 1) := by decide +kernel
theorem dX10_send_44 : decode cX10_send 44 = .ok (.ireturn, 1) := by decide +kernel
theorem dX10_send_45 : decode cX10_send 45 = .ok (.aload_n 0, 1) := by decide +kernel
theorem dX10_send_46 : decode cX10_send 46 = .ok (.iload_n 1, 1) := by decide +kernel
theorem dX10_send_47 : decode cX10_send 47 = .ok (.aload_n 0, 1) := by decide +kernel
theorem dX10_send_48 : decode cX10_send 48 = .ok (.getfield 79, 3) := by decide +kernel
theorem dX10_send_51 : decode cX10_send 51 = .ok (.invokevirtual 211, 3) := by decide +kernel
theorem dX10_send_54 : decode cX10_send 54 = .ok (.astore 4, 2) := by decide +kernel
theorem dX10_send_56 : decode cX10_send 56 = .ok (.aload 4, 2) := by decide +kernel
theorem dX10_send_58 : decode cX10_send 58 = .ok (.iload_n 2, 1) := by decide +kernel
theorem dX10_send_59 : decode cX10_send 59 = .ok (.aload_n 0, 1) := by decide +kernel
theorem dX10_send_60 : decode cX10_send 60 = .ok (.iload_n 1, 1) := by decide +kernel
theorem dX10_send_61 : decode cX10_send 61 = .ok (.aload_n 0, 1) := by decide +kernel
theorem dX10_send_62 : decode cX10_send 62 = .ok (.getfield 79, 3) := by decide +kernel
theorem dX10_send_65 : decode cX10_send 65 = .ok (.invokevirtual 232, 3) := by decide +kernel
theorem dX10_send_68 : decode cX10_send 68 = .ok (.invokevirtual 236, 3) := by decide +kernel
theorem dX10_send_71 : decode cX10_send 71 = .ok (.ifCond .eq 12, 3) := by decide +kernel
theorem dX10_send_74 : decode cX10_send 74 = .ok (.aload 4, 2) := by decide +kernel
theorem dX10_send_76 : decode cX10_send 76 = .ok (.iload_n 3, 1) := by decide +kernel
theorem dX10_send_77 : decode cX10_send 77 = .ok (.invokevirtual 240, 3) := by decide +kernel
theorem dX10_send_80 : decode cX10_send 80 = .ok (.ifCond .ne 5, 3) := by decide +kernel
theorem dX10_send_83 : decode cX10_send 83 = .ok (.iconst 0, 1) := by decide +kernel
theorem dX10_send_84 : decode cX10_send 84 = .ok (.ireturn, 1) := by decide +kernel
theorem dX10_send_85 : decode cX10_send 85 = .ok (.aload_n 0, 1) := by decide +kernel
theorem dX10_send_86 : decode cX10_send 86 = .ok (.getfield 19, 3) := by decide +kernel
theorem dX10_send_89 : decode cX10_send 89 = .ok (.getfield 243, 3) := by decide +kernel
theorem dX10_send_92 : decode cX10_send 92 = .ok (.aload_n 0, 1) := by decide +kernel
theorem dX10_send_93 : decode cX10_send 93 = .ok (.getfield 79, 3) := by decide +kernel
theorem dX10_send_96 : decode cX10_send 96 = .ok (.iload_n 1, 1) := by decide +kernel
theorem dX10_send_97 : decode cX10_send 97 = .ok (.iload_n 2, 1) := by decide +kernel
theorem dX10_send_98 : decode cX10_send 98 = .ok (.iload_n 3, 1) := by decide +kernel
theorem dX10_send_99 : decode cX10_send 99 = .ok (.iconst 0, 1) := by decide +kernel
theorem dX10_send_100 : decode cX10_send 100 = .ok (.iconst 0, 1) := by decide +kernel
theorem dX10_send_101 : decode cX10_send 101 = .ok (.invokevirtual 113, 3) := by decide +kernel
theorem dX10_send_104 : decode cX10_send 104 = .ok (.ireturn, 1) := by decide +kernel
theorem dX10_serves_0 : decode cX10_serves 0 = .ok (.aload_n 0, 1) := by decide +kernel
theorem dX10_serves_1 : decode cX10_serves 1 = .ok (.iload_n 1, 1) := by decide +kernel
theorem dX10_serves_2 : decode cX10_serves 2 = .ok (.invokevirtual 175, 3) := by decide +kernel
theorem dX10_serves_5 : decode cX10_serves 5 = .ok (.ifCond .eq 11, 3) := by decide +kernel
theorem dX10_serves_8 : decode cX10_serves 8 = .ok (.aload_n 0, 1) := by decide +kernel
theorem dX10_serves_9 : decode cX10_serves 9 = .ok (.iload_n 2, 1) := by decide +kernel
theorem dX10_serves_10 : decode cX10_serves 10 = .ok (.invokevirtual 103, 3) := by decide +kernel
theorem dX10_serves_13 : decode cX10_serves 13 = .ok (.ifCond .ne 5, 3) := by decide +kernel
theorem dX10_serves_16 : decode cX10_serves 16 = .ok (.iconst (-1), 1) := by decide +kernel
theorem dX10_serves_17 : decode cX10_serves 17 = .ok (.ireturn, 1) := by decide +kernel
theorem dX10_serves_18 : decode cX10_serves 18 = .ok (.aload_n 0, 1) := by decide +kernel
theorem dX10_serves_19 : decode cX10_serves 19 = .ok (.iload_n 1, 1) := by decide +kernel
theorem dX10_serves_20 : decode cX10_serves 20 = .ok (.iload_n 3, 1) := by decide +kernel
theorem dX10_serves_21 : decode cX10_serves 21 = .ok (.invokevirtual 211, 3) := by decide +kernel
theorem dX10_serves_24 : decode cX10_serves 24 = .ok (.astore 4, 2) := by decide +kernel
theorem dX10_serves_26 : decode cX10_serves 26 = .ok (.aload 4, 2) := by decide +kernel
theorem dX10_serves_28 : decode cX10_serves 28 = .ok (.getfield 218, 3) := by decide +kernel
theorem dX10_serves_31 : decode cX10_serves 31 = .ok (.iload_n 2, 1) := by decide +kernel
theorem dX10_serves_32 : decode cX10_serves 32 = .ok (.iaload, 1) := by decide +kernel
theorem dX10_serves_33 : decode cX10_serves 33 = .ok (.iconst 5, 1) := by decide +kernel
theorem dX10_serves_34 : decode cX10_serves 34 = .ok (.if_icmp .ne 12, 3) := by decide +kernel
theorem dX10_serves_37 : decode cX10_serves 37 = .ok (.aload 4, 2) := by decide +kernel
theorem dX10_serves_39 : decode cX10_serves 39 = .ok (.iload_n 2, 1) := by decide +kernel
theorem dX10_serves_40 : decode cX10_serves 40 = .ok (.invokevirtual 246, 3) := by decide +kernel
theorem dX10_serves_43 : decode cX10_serves 43 = .ok (.goto 4, 3) := by decide +kernel
theorem dX10_serves_46 : decode cX10_serves 46 = .ok (.iconst (-1), 1) := by decide +kernel
theorem dX10_serves_47 : decode cX10_serves 47 = .ok (.ireturn, 1) := by decide +kernel
theorem dX10_mended_0 : decode cX10_mended 0 = .ok (.aload_n 0, 1) := by decide +kernel
theorem dX10_mended_1 : decode cX10_mended 1 = .ok (.iload_n 1, 1) := by decide +kernel
theorem dX10_mended_2 : decode cX10_mended 2 = .ok (.invokevirtual 175, 3) := by decide +kernel
theorem dX10_mended_5 : decode cX10_mended 5 = .ok (.ifCond .ne 5, 3) := by decide +kernel
theorem dX10_mended_8 : decode cX10_mended 8 = .ok (.iconst (-1), 1) := by decide +kernel
theorem dX10_mended_9 : decode cX10_mended 9 = .ok (.ireturn, 1) := by decide +kernel
theorem dX10_mended_10 : decode cX10_mended 10 = .ok (.aload_n 0, 1) := by decide +kernel
theorem dX10_mended_11 : decode cX10_mended 11 = .ok (.iload_n 1, 1) := by decide +kernel
theorem dX10_mended_12 : decode cX10_mended 12 = .ok (.iload_n 2, 1) := by decide +kernel
theorem dX10_mended_13 : decode cX10_mended 13 = .ok (.invokevirtual 211, 3) := by decide +kernel
theorem dX10_mended_16 : decode cX10_mended 16 = .ok (.astore 5, 2) := by decide +kernel
theorem dX10_mended_18 : decode cX10_mended 18 = .ok (.iconst 0, 1) := by decide +kernel
theorem dX10_mended_19 : decode cX10_mended 19 = .ok (.istore 6, 2) := by decide +kernel
theorem dX10_mended_21 : decode cX10_mended 21 = .ok (.iload 6, 2) := by decide +kernel
theorem dX10_mended_23 : decode cX10_mended 23 = .ok (.aload_n 0, 1) := by decide +kernel
theorem dX10_mended_24 : decode cX10_mended 24 = .ok (.getfield 19, 3) := by decide +kernel
theorem dX10_mended_27 : decode cX10_mended 27 = .ok (.getfield 96, 3) := by decide +kernel
theorem dX10_mended_30 : decode cX10_mended 30 = .ok (.if_icmp .ge 33, 3) := by decide +kernel
theorem dX10_mended_33 : decode cX10_mended 33 = .ok (.aload_n 0, 1) := by decide +kernel
theorem dX10_mended_34 : decode cX10_mended 34 = .ok (.getfield 54, 3) := by decide +kernel
theorem dX10_mended_37 : decode cX10_mended 37 = .ok (.iload 6, 2) := by decide +kernel
theorem dX10_mended_39 : decode cX10_mended 39 = .ok (.aload 5, 2) := by decide +kernel
theorem dX10_mended_41 : decode cX10_mended 41 = .ok (.getfield 218, 3) := by decide +kernel
theorem dX10_mended_44 : decode cX10_mended 44 = .ok (.iload 6, 2) := by decide +kernel
theorem dX10_mended_46 : decode cX10_mended 46 = .ok (.iaload, 1) := by decide +kernel
theorem dX10_mended_47 : decode cX10_mended 47 = .ok (.iconst 5, 1) := by decide +kernel
theorem dX10_mended_48 : decode cX10_mended 48 = .ok (.if_icmp .ne 7, 3) := by decide +kernel
theorem dX10_mended_51 : decode cX10_mended 51 = .ok (.iconst 1, 1) := by decide +kernel
theorem dX10_mended_52 : decode cX10_mended 52 = .ok (.goto 4, 3) := by decide +kernel
theorem dX10_mended_55 : decode cX10_mended 55 = .ok (.iconst 0, 1) := by decide +kernel
theorem dX10_mended_56 : decode cX10_mended 56 = .ok (.bastore, 1) := by decide +kernel
theorem dX10_mended_57 : decode cX10_mended 57 = .ok (.iinc 6 1, 3) := by decide +kernel
theorem dX10_mended_60 : decode cX10_mended 60 = .ok (.goto (-39), 3) := by decide +kernel
theorem dX10_mended_63 : decode cX10_mended 63 = .ok (.aload_n 0, 1) := by decide +kernel
theorem dX10_mended_64 : decode cX10_mended 64 = .ok (.iload_n 1, 1) := by decide +kernel
theorem dX10_mended_65 : decode cX10_mended 65 = .ok (.iload_n 3, 1) := by decide +kernel
theorem dX10_mended_66 : decode cX10_mended 66 = .ok (.invokevirtual 211, 3) := by decide +kernel
theorem dX10_mended_69 : decode cX10_mended 69 = .ok (.astore 5, 2) := by decide +kernel
theorem dX10_mended_71 : decode cX10_mended 71 = .ok (.aload_n 0, 1) := by decide +kernel
theorem dX10_mended_72 : decode cX10_mended 72 = .ok (.iconst 0, 1) := by decide +kernel
theorem dX10_mended_73 : decode cX10_mended 73 = .ok (.putfield 249, 3) := by decide +kernel
theorem dX10_mended_76 : decode cX10_mended 76 = .ok (.iconst 0, 1) := by decide +kernel
theorem dX10_mended_77 : decode cX10_mended 77 = .ok (.istore 6, 2) := by decide +kernel
theorem dX10_mended_79 : decode cX10_mended 79 = .ok (.iload 6, 2) := by decide +kernel
theorem dX10_mended_81 : decode cX10_mended 81 = .ok (.aload_n 0, 1) := by decide +kernel
theorem dX10_mended_82 : decode cX10_mended 82 = .ok (.getfield 19, 3) := by decide +kernel
theorem dX10_mended_85 : decode cX10_mended 85 = .ok (.getfield 96, 3) := by decide +kernel
theorem dX10_mended_88 : decode cX10_mended 88 = .ok (.if_icmp .ge 68, 3) := by decide +kernel
theorem dX10_mended_91 : decode cX10_mended 91 = .ok (.aload 5, 2) := by decide +kernel
theorem dX10_mended_93 : decode cX10_mended 93 = .ok (.getfield 218, 3) := by decide +kernel
theorem dX10_mended_96 : decode cX10_mended 96 = .ok (.iload 6, 2) := by decide +kernel
theorem dX10_mended_98 : decode cX10_mended 98 = .ok (.iaload, 1) := by decide +kernel
theorem dX10_mended_99 : decode cX10_mended 99 = .ok (.iconst 5, 1) := by decide +kernel
theorem dX10_mended_100 : decode cX10_mended 100 = .ok (.if_icmp .ne 7, 3) := by decide +kernel
theorem dX10_mended_103 : decode cX10_mended 103 = .ok (.iconst 1, 1) := by decide +kernel
theorem dX10_mended_104 : decode cX10_mended 104 = .ok (.goto 4, 3) := by decide +kernel
theorem dX10_mended_107 : decode cX10_mended 107 = .ok (.iconst 0, 1) := by decide +kernel
theorem dX10_mended_108 : decode cX10_mended 108 = .ok (.istore 7, 2) := by decide +kernel
theorem dX10_mended_110 : decode cX10_mended 110 = .ok (.iload 7, 2) := by decide +kernel
theorem dX10_mended_112 : decode cX10_mended 112 = .ok (.aload_n 0, 1) := by decide +kernel
theorem dX10_mended_113 : decode cX10_mended 113 = .ok (.getfield 54, 3) := by decide +kernel
theorem dX10_mended_116 : decode cX10_mended 116 = .ok (.iload 6, 2) := by decide +kernel
theorem dX10_mended_118 : decode cX10_mended 118 = .ok (.baload, 1) := by decide +kernel
theorem dX10_mended_119 : decode cX10_mended 119 = .ok (.if_icmp .eq 31, 3) := by decide +kernel
theorem dX10_mended_122 : decode cX10_mended 122 = .ok (.iload 7, 2) := by decide +kernel
theorem dX10_mended_124 : decode cX10_mended 124 = .ok (.iload 4, 2) := by decide +kernel
theorem dX10_mended_126 : decode cX10_mended 126 = .ok (.if_icmp .eq 24, 3) := by decide +kernel
theorem dX10_mended_129 : decode cX10_mended 129 = .ok (.aload_n 0, 1) := by decide +kernel
theorem dX10_mended_130 : decode cX10_mended 130 = .ok (.getfield 58, 3) := by decide +kernel
theorem dX10_mended_133 : decode cX10_mended 133 = .ok (.aload_n 0, 1) := by decide +kernel
theorem dX10_mended_134 : decode cX10_mended 134 = .ok (.getfield 249, 3) := by decide +kernel
theorem dX10_mended_137 : decode cX10_mended 137 = .ok (.iload 6, 2) := by decide +kernel
theorem dX10_mended_139 : decode cX10_mended 139 = .ok (.iastore, 1) := by decide +kernel
theorem dX10_mended_140 : decode cX10_mended 140 = .ok (.aload_n 0, 1) := by decide +kernel
theorem dX10_mended_141 : decode cX10_mended 141 = .ok (.dup, 1) := by decide +kernel
theorem dX10_mended_142 : decode cX10_mended 142 = .ok (.getfield 249, 3) := by decide +kernel
theorem dX10_mended_145 : decode cX10_mended 145 = .ok (.iconst 1, 1) := by decide +kernel
theorem dX10_mended_146 : decode cX10_mended 146 = .ok (.iadd, 1) := by decide +kernel
theorem dX10_mended_147 : decode cX10_mended 147 = .ok (.putfield 249, 3) := by decide +kernel
theorem dX10_mended_150 : decode cX10_mended 150 = .ok (.iinc 6 1, 3) := by decide +kernel
theorem dX10_mended_153 : decode cX10_mended 153 = .ok (.goto (-74), 3) := by decide +kernel
theorem dX10_mended_156 : decode cX10_mended 156 = .ok (.aload_n 0, 1) := by decide +kernel
theorem dX10_mended_157 : decode cX10_mended 157 = .ok (.getfield 249, 3) := by decide +kernel
theorem dX10_mended_160 : decode cX10_mended 160 = .ok (.ireturn, 1) := by decide +kernel
theorem dX10_mendedAt_0 : decode cX10_mendedAt 0 = .ok (.iload_n 1, 1) := by decide +kernel
theorem dX10_mendedAt_1 : decode cX10_mendedAt 1 = .ok (.ifCond .lt 11, 3) := by decide +kernel
theorem dX10_mendedAt_4 : decode cX10_mendedAt 4 = .ok (.iload_n 1, 1) := by decide +kernel
theorem dX10_mendedAt_5 : decode cX10_mendedAt 5 = .ok (.aload_n 0, 1) := by decide +kernel
theorem dX10_mendedAt_6 : decode cX10_mendedAt 6 = .ok (.getfield 249, 3) := by decide +kernel
theorem dX10_mendedAt_9 : decode cX10_mendedAt 9 = .ok (.if_icmp .lt 7, 3) := by decide +kernel
theorem dX10_mendedAt_12 : decode cX10_mendedAt 12 = .ok (.iconst (-1), 1) := by decide +kernel
theorem dX10_mendedAt_13 : decode cX10_mendedAt 13 = .ok (.goto 9, 3) := by decide +kernel
theorem dX10_mendedAt_16 : decode cX10_mendedAt 16 = .ok (.aload_n 0, 1) := by decide +kernel
theorem dX10_mendedAt_17 : decode cX10_mendedAt 17 = .ok (.getfield 58, 3) := by decide +kernel
theorem dX10_mendedAt_20 : decode cX10_mendedAt 20 = .ok (.iload_n 1, 1) := by decide +kernel
theorem dX10_mendedAt_21 : decode cX10_mendedAt 21 = .ok (.iaload, 1) := by decide +kernel
theorem dX10_mendedAt_22 : decode cX10_mendedAt 22 = .ok (.ireturn, 1) := by decide +kernel
theorem dX10_appeal_0 : decode cX10_appeal 0 = .ok (.aload_n 0, 1) := by decide +kernel
theorem dX10_appeal_1 : decode cX10_appeal 1 = .ok (.iload_n 1, 1) := by decide +kernel
theorem dX10_appeal_2 : decode cX10_appeal 2 = .ok (.invokevirtual 175, 3) := by decide +kernel
theorem dX10_appeal_5 : decode cX10_appeal 5 = .ok (.ifCond .eq 20, 3) := by decide +kernel
theorem dX10_appeal_8 : decode cX10_appeal 8 = .ok (.aload_n 0, 1) := by decide +kernel
theorem dX10_appeal_9 : decode cX10_appeal 9 = .ok (.iload_n 2, 1) := by decide +kernel
theorem dX10_appeal_10 : decode cX10_appeal 10 = .ok (.invokevirtual 103, 3) := by decide +kernel
theorem dX10_appeal_13 : decode cX10_appeal 13 = .ok (.ifCond .eq 12, 3) := by decide +kernel
theorem dX10_appeal_16 : decode cX10_appeal 16 = .ok (.aload_n 0, 1) := by decide +kernel
theorem dX10_appeal_17 : decode cX10_appeal 17 = .ok (.getfield 252, 3) := by decide +kernel
theorem dX10_appeal_20 : decode cX10_appeal 20 = .ok (.bipush 60, 2) := by decide +kernel
theorem dX10_appeal_22 : decode cX10_appeal 22 = .ok (.if_icmp .lt 5, 3) := by decide +kernel
theorem dX10_appeal_25 : decode cX10_appeal 25 = .ok (.iconst (-1), 1) := by decide +kernel
theorem dX10_appeal_26 : decode cX10_appeal 26 = .ok (.ireturn, 1) := by decide +kernel
theorem dX10_appeal_27 : decode cX10_appeal 27 = .ok (.aload_n 0, 1) := by decide +kernel
theorem dX10_appeal_28 : decode cX10_appeal 28 = .ok (.getfield 43, 3) := by decide +kernel
theorem dX10_appeal_31 : decode cX10_appeal 31 = .ok (.iload_n 1, 1) := by decide +kernel
theorem dX10_appeal_32 : decode cX10_appeal 32 = .ok (.aaload, 1) := by decide +kernel
theorem dX10_appeal_33 : decode cX10_appeal 33 = .ok (.getfield 163, 3) := by decide +kernel
theorem dX10_appeal_36 : decode cX10_appeal 36 = .ok (.getfield 167, 3) := by decide +kernel
theorem dX10_appeal_39 : decode cX10_appeal 39 = .ok (.istore_n 3, 1) := by decide +kernel
theorem dX10_appeal_40 : decode cX10_appeal 40 = .ok (.aload_n 0, 1) := by decide +kernel
theorem dX10_appeal_41 : decode cX10_appeal 41 = .ok (.getfield 79, 3) := by decide +kernel
theorem dX10_appeal_44 : decode cX10_appeal 44 = .ok (.iload_n 3, 1) := by decide +kernel
theorem dX10_appeal_45 : decode cX10_appeal 45 = .ok (.if_icmp .lt 24, 3) := by decide +kernel
theorem dX10_appeal_48 : decode cX10_appeal 48 = .ok (.aload_n 0, 1) := by decide +kernel
theorem dX10_appeal_49 : decode cX10_appeal 49 = .ok (.getfield 79, 3) := by decide +kernel
theorem dX10_appeal_52 : decode cX10_appeal 52 = .ok (.iload_n 3, 1) := by decide +kernel
theorem dX10_appeal_53 : decode cX10_appeal 53 = .ok (.isub, 1) := by decide +kernel
theorem dX10_appeal_54 : decode cX10_appeal 54 = .ok (.aload_n 0, 1) := by decide +kernel
theorem dX10_appeal_55 : decode cX10_appeal 55 = .ok (.iload_n 1, 1) := by decide +kernel
theorem dX10_appeal_56 : decode cX10_appeal 56 = .ok (.aload_n 0, 1) := by decide +kernel
theorem dX10_appeal_57 : decode cX10_appeal 57 = .ok (.getfield 79, 3) := by decide +kernel
theorem dX10_appeal_60 : decode cX10_appeal 60 = .ok (.invokevirtual 232, 3) := by decide +kernel
theorem dX10_appeal_63 : decode cX10_appeal 63 = .ok (.getfield 255, 3) := by decide +kernel
theorem dX10_appeal_66 : decode cX10_appeal 66 = .ok (.if_icmp .le 5, 3) := by decide +kernel
theorem dX10_appeal_69 : decode cX10_appeal 69 = .ok (.iconst (-1), 1) := by decide +kernel
theorem dX10_appeal_70 : decode cX10_appeal 70 = .ok (.ireturn, 1) := by decide +kernel
theorem dX10_appeal_71 : decode cX10_appeal 71 = .ok (.aload_n 0, 1) := by decide +kernel
theorem dX10_appeal_72 : decode cX10_appeal 72 = .ok (.iload_n 1, 1) := by decide +kernel
theorem dX10_appeal_73 : decode cX10_appeal 73 = .ok (.iload_n 3, 1) := by decide +kernel
theorem dX10_appeal_74 : decode cX10_appeal 74 = .ok (.invokevirtual 211, 3) := by decide +kernel
theorem dX10_appeal_77 : decode cX10_appeal 77 = .ok (.getfield 218, 3) := by decide +kernel
theorem dX10_appeal_80 : decode cX10_appeal 80 = .ok (.iload_n 2, 1) := by decide +kernel
theorem dX10_appeal_81 : decode cX10_appeal 81 = .ok (.iaload, 1) := by decide +kernel
theorem dX10_appeal_82 : decode cX10_appeal 82 = .ok (.iconst 5, 1) := by decide +kernel
theorem dX10_appeal_83 : decode cX10_appeal 83 = .ok (.if_icmp .ne 7, 3) := by decide +kernel
theorem dX10_appeal_86 : decode cX10_appeal 86 = .ok (.iconst 1, 1) := by decide +kernel
theorem dX10_appeal_87 : decode cX10_appeal 87 = .ok (.goto 4, 3) := by decide +kernel
theorem dX10_appeal_90 : decode cX10_appeal 90 = .ok (.iconst 0, 1) := by decide +kernel
theorem dX10_appeal_91 : decode cX10_appeal 91 = .ok (.istore 4, 2) := by decide +kernel
theorem dX10_appeal_93 : decode cX10_appeal 93 = .ok (.aload_n 0, 1) := by decide +kernel
theorem dX10_appeal_94 : decode cX10_appeal 94 = .ok (.iload_n 1, 1) := by decide +kernel
theorem dX10_appeal_95 : decode cX10_appeal 95 = .ok (.aload_n 0, 1) := by decide +kernel
theorem dX10_appeal_96 : decode cX10_appeal 96 = .ok (.getfield 79, 3) := by decide +kernel
theorem dX10_appeal_99 : decode cX10_appeal 99 = .ok (.invokevirtual 211, 3) := by decide +kernel
theorem dX10_appeal_102 : decode cX10_appeal 102 = .ok (.getfield 218, 3) := by decide +kernel
theorem dX10_appeal_105 : decode cX10_appeal 105 = .ok (.iload_n 2, 1) := by decide +kernel
theorem dX10_appeal_106 : decode cX10_appeal 106 = .ok (.iaload, 1) := by decide +kernel
theorem dX10_appeal_107 : decode cX10_appeal 107 = .ok (.iconst 5, 1) := by decide +kernel
theorem dX10_appeal_108 : decode cX10_appeal 108 = .ok (.if_icmp .ne 7, 3) := by decide +kernel
theorem dX10_appeal_111 : decode cX10_appeal 111 = .ok (.iconst 1, 1) := by decide +kernel
theorem dX10_appeal_112 : decode cX10_appeal 112 = .ok (.goto 4, 3) := by decide +kernel
theorem dX10_appeal_115 : decode cX10_appeal 115 = .ok (.iconst 0, 1) := by decide +kernel
theorem dX10_appeal_116 : decode cX10_appeal 116 = .ok (.istore 5, 2) := by decide +kernel
theorem dX10_appeal_118 : decode cX10_appeal 118 = .ok (.aload_n 0, 1) := by decide +kernel
theorem dX10_appeal_119 : decode cX10_appeal 119 = .ok (.dup, 1) := by decide +kernel
theorem dX10_appeal_120 : decode cX10_appeal 120 = .ok (.getfield 252, 3) := by decide +kernel
theorem dX10_appeal_123 : decode cX10_appeal 123 = .ok (.iconst 1, 1) := by decide +kernel
theorem dX10_appeal_124 : decode cX10_appeal 124 = .ok (.iadd, 1) := by decide +kernel
theorem dX10_appeal_125 : decode cX10_appeal 125 = .ok (.putfield 252, 3) := by decide +kernel
theorem dX10_appeal_128 : decode cX10_appeal 128 = .ok (.iload 4, 2) := by decide +kernel
theorem dX10_appeal_130 : decode cX10_appeal 130 = .ok (.ifCond .eq 8, 3) := by decide +kernel
theorem dX10_appeal_133 : decode cX10_appeal 133 = .ok (.iload 5, 2) := by decide +kernel
theorem dX10_appeal_135 : decode cX10_appeal 135 = .ok (.ifCond .eq 5, 3) := by decide +kernel
theorem dX10_appeal_138 : decode cX10_appeal 138 = .ok (.iconst 0, 1) := by decide +kernel
theorem dX10_appeal_139 : decode cX10_appeal 139 = .ok (.ireturn, 1) := by decide +kernel
theorem dX10_appeal_140 : decode cX10_appeal 140 = .ok (.aload_n 0, 1) := by decide +kernel
theorem dX10_appeal_141 : decode cX10_appeal 141 = .ok (.dup, 1) := by decide +kernel
theorem dX10_appeal_142 : decode cX10_appeal 142 = .ok (.getfield 258, 3) := by decide +kernel
theorem dX10_appeal_145 : decode cX10_appeal 145 = .ok (.iconst 1, 1) := by decide +kernel
theorem dX10_appeal_146 : decode cX10_appeal 146 = .ok (.iadd, 1) := by decide +kernel
theorem dX10_appeal_147 : decode cX10_appeal 147 = .ok (.putfield 258, 3) := by decide +kernel
theorem dX10_appeal_150 : decode cX10_appeal 150 = .ok (.iconst 1, 1) := by decide +kernel
theorem dX10_appeal_151 : decode cX10_appeal 151 = .ok (.ireturn, 1) := by decide +kernel
theorem dX10_mixed_0 : decode cX10_mixed 0 = .ok (.aload_n 0, 1) := by decide +kernel
theorem dX10_mixed_1 : decode cX10_mixed 1 = .ok (.iload_n 1, 1) := by decide +kernel
theorem dX10_mixed_2 : decode cX10_mixed 2 = .ok (.invokevirtual 175, 3) := by decide +kernel
theorem dX10_mixed_5 : decode cX10_mixed 5 = .ok (.ifCond .eq 42, 3) := by decide +kernel
theorem dX10_mixed_8 : decode cX10_mixed 8 = .ok (.iload_n 2, 1) := by decide +kernel
theorem dX10_mixed_9 : decode cX10_mixed 9 = .ok (.ifCond .lt 38, 3) := by decide +kernel
theorem dX10_mixed_12 : decode cX10_mixed 12 = .ok (.iload_n 2, 1) := by decide +kernel
theorem dX10_mixed_13 : decode cX10_mixed 13 = .ok (.bipush 52, 2) := by decide +kernel
theorem dX10_mixed_15 : decode cX10_mixed 15 = .ok (.if_icmp .gt 32, 3) := by decide +kernel
theorem dX10_mixed_18 : decode cX10_mixed 18 = .ok (.iload_n 3, 1) := by decide +kernel
theorem dX10_mixed_19 : decode cX10_mixed 19 = .ok (.invokestatic 106, 3) := by decide +kernel
theorem dX10_mixed_22 : decode cX10_mixed 22 = .ok (.ifCond .eq 25, 3) := by decide +kernel
theorem dX10_mixed_25 : decode cX10_mixed 25 = .ok (.iload 4, 2) := by decide +kernel
theorem dX10_mixed_27 : decode cX10_mixed 27 = .ok (.invokestatic 106, 3) := by decide +kernel
theorem dX10_mixed_30 : decode cX10_mixed 30 = .ok (.ifCond .eq 17, 3) := by decide +kernel
theorem dX10_mixed_33 : decode cX10_mixed 33 = .ok (.iload_n 3, 1) := by decide +kernel
theorem dX10_mixed_34 : decode cX10_mixed 34 = .ok (.iload 4, 2) := by decide +kernel
theorem dX10_mixed_36 : decode cX10_mixed 36 = .ok (.if_icmp .gt 11, 3) := by decide +kernel
theorem dX10_mixed_39 : decode cX10_mixed 39 = .ok (.iload 5, 2) := by decide +kernel
theorem dX10_mixed_41 : decode cX10_mixed 41 = .ok (.invokestatic 261, 3) := by decide +kernel
theorem dX10_mixed_44 : decode cX10_mixed 44 = .ok (.ifCond .ne 11, 3) := by decide +kernel
theorem dX10_mixed_47 : decode cX10_mixed 47 = .ok (.new 264, 3) := by decide +kernel
theorem dX10_mixed_50 : decode cX10_mixed 50 = .ok (.dup, 1) := by decide +kernel
theorem dX10_mixed_51 : decode cX10_mixed 51 = .ok (.invokespecial 266, 3) := by decide +kernel
theorem dX10_mixed_54 : decode cX10_mixed 54 = .ok (.athrow, 1) := by decide +kernel
theorem dX10_mixed_55 : decode cX10_mixed 55 = .ok (.aload_n 0, 1) := by decide +kernel
theorem dX10_mixed_56 : decode cX10_mixed 56 = .ok (.getfield 43, 3) := by decide +kernel
theorem dX10_mixed_59 : decode cX10_mixed 59 = .ok (.iload_n 1, 1) := by decide +kernel
theorem dX10_mixed_60 : decode cX10_mixed 60 = .ok (.aaload, 1) := by decide +kernel
theorem dX10_mixed_61 : decode cX10_mixed 61 = .ok (.getfield 163, 3) := by decide +kernel
theorem dX10_mixed_64 : decode cX10_mixed 64 = .ok (.iload_n 2, 1) := by decide +kernel
theorem dX10_mixed_65 : decode cX10_mixed 65 = .ok (.iload_n 3, 1) := by decide +kernel
theorem dX10_mixed_66 : decode cX10_mixed 66 = .ok (.iload 4, 2) := by decide +kernel
theorem dX10_mixed_68 : decode cX10_mixed 68 = .ok (.invokevirtual 267, 3) := by decide +kernel
theorem dX10_mixed_71 : decode cX10_mixed 71 = .ok (.istore 6, 2) := by decide +kernel
theorem dX10_mixed_73 : decode cX10_mixed 73 = .ok (.iload 5, 2) := by decide +kernel
theorem dX10_mixed_75 : decode cX10_mixed 75 = .ok (.iconst 2, 1) := by decide +kernel
theorem dX10_mixed_76 : decode cX10_mixed 76 = .ok (.if_icmp .ne 9, 3) := by decide +kernel
theorem dX10_mixed_79 : decode cX10_mixed 79 = .ok (.iload 6, 2) := by decide +kernel
theorem dX10_mixed_81 : decode cX10_mixed 81 = .ok (.i2l, 1) := by decide +kernel
theorem dX10_mixed_82 : decode cX10_mixed 82 = .ok (.goto 19, 3) := by decide +kernel
theorem dX10_mixed_85 : decode cX10_mixed 85 = .ok (.bipush 52, 2) := by decide +kernel
theorem dX10_mixed_87 : decode cX10_mixed 87 = .ok (.iload 4, 2) := by decide +kernel
theorem dX10_mixed_89 : decode cX10_mixed 89 = .ok (.iload_n 3, 1) := by decide +kernel
theorem dX10_mixed_90 : decode cX10_mixed 90 = .ok (.isub, 1) := by decide +kernel
theorem dX10_mixed_91 : decode cX10_mixed 91 = .ok (.iconst 1, 1) := by decide +kernel
theorem dX10_mixed_92 : decode cX10_mixed 92 = .ok (.iadd, 1) := by decide +kernel
theorem dX10_mixed_93 : decode cX10_mixed 93 = .ok (.iload_n 2, 1) := by decide +kernel
theorem dX10_mixed_94 : decode cX10_mixed 94 = .ok (.iload 6, 2) := by decide +kernel
theorem dX10_mixed_96 : decode cX10_mixed 96 = .ok (.iload 5, 2) := by decide +kernel
theorem dX10_mixed_98 : decode cX10_mixed 98 = .ok (.invokestatic 270, 3) := by decide +kernel
theorem dX10_mixed_101 : decode cX10_mixed 101 = .ok (.lreturn, 1) := by decide +kernel
theorem dX10_doubt_0 : decode cX10_doubt 0 = .ok (.iload_n 1, 1) := by decide +kernel
theorem dX10_doubt_1 : decode cX10_doubt 1 = .ok (.invokestatic 126, 3) := by decide +kernel
theorem dX10_doubt_4 : decode cX10_doubt 4 = .ok (.ifCond .eq 10, 3) := by decide +kernel
theorem dX10_doubt_7 : decode cX10_doubt 7 = .ok (.iload_n 3, 1) := by decide +kernel
theorem dX10_doubt_8 : decode cX10_doubt 8 = .ok (.invokestatic 261, 3) := by decide +kernel
theorem dX10_doubt_11 : decode cX10_doubt 11 = .ok (.ifCond .ne 11, 3) := by decide +kernel
theorem dX10_doubt_14 : decode cX10_doubt 14 = .ok (.new 264, 3) := by decide +kernel
theorem dX10_doubt_17 : decode cX10_doubt 17 = .ok (.dup, 1) := by decide +kernel
theorem dX10_doubt_18 : decode cX10_doubt 18 = .ok (.invokespecial 266, 3) := by decide +kernel
theorem dX10_doubt_21 : decode cX10_doubt 21 = .ok (.athrow, 1) := by decide +kernel
theorem dX10_doubt_22 : decode cX10_doubt 22 = .ok (.aload_n 0, 1) := by decide +kernel
theorem dX10_doubt_23 : decode cX10_doubt 23 = .ok (.getfield 19, 3) := by decide +kernel
theorem dX10_doubt_26 : decode cX10_doubt 26 = .ok (.getfield 129, 3) := by decide +kernel
theorem dX10_doubt_29 : decode cX10_doubt 29 = .ok (.iload_n 2, 1) := by decide +kernel
theorem dX10_doubt_30 : decode cX10_doubt 30 = .ok (.invokevirtual 274, 3) := by decide +kernel
theorem dX10_doubt_33 : decode cX10_doubt 33 = .ok (.istore 4, 2) := by decide +kernel
theorem dX10_doubt_35 : decode cX10_doubt 35 = .ok (.iconst 0, 1) := by decide +kernel
theorem dX10_doubt_36 : decode cX10_doubt 36 = .ok (.istore 5, 2) := by decide +kernel
theorem dX10_doubt_38 : decode cX10_doubt 38 = .ok (.iconst 0, 1) := by decide +kernel
theorem dX10_doubt_39 : decode cX10_doubt 39 = .ok (.istore 6, 2) := by decide +kernel
theorem dX10_doubt_41 : decode cX10_doubt 41 = .ok (.iconst 0, 1) := by decide +kernel
theorem dX10_doubt_42 : decode cX10_doubt 42 = .ok (.istore 7, 2) := by decide +kernel
theorem dX10_doubt_44 : decode cX10_doubt 44 = .ok (.iconst 0, 1) := by decide +kernel
theorem dX10_doubt_45 : decode cX10_doubt 45 = .ok (.istore 8, 2) := by decide +kernel
theorem dX10_doubt_47 : decode cX10_doubt 47 = .ok (.iload 8, 2) := by decide +kernel
theorem dX10_doubt_49 : decode cX10_doubt 49 = .ok (.iload 4, 2) := by decide +kernel
theorem dX10_doubt_51 : decode cX10_doubt 51 = .ok (.if_icmp .ge 107, 3) := by decide +kernel
theorem dX10_doubt_54 : decode cX10_doubt 54 = .ok (.aload_n 0, 1) := by decide +kernel
theorem dX10_doubt_55 : decode cX10_doubt 55 = .ok (.getfield 19, 3) := by decide +kernel
theorem dX10_doubt_58 : decode cX10_doubt 58 = .ok (.getfield 129, 3) := by decide +kernel
theorem dX10_doubt_61 : decode cX10_doubt 61 = .ok (.iload 8, 2) := by decide +kernel
theorem dX10_doubt_63 : decode cX10_doubt 63 = .ok (.iconst 3, 1) := by decide +kernel
theorem dX10_doubt_64 : decode cX10_doubt 64 = .ok (.invokevirtual 277, 3) := by decide +kernel
theorem dX10_doubt_67 : decode cX10_doubt 67 = .ok (.iconst 4, 1) := by decide +kernel
theorem dX10_doubt_68 : decode cX10_doubt 68 = .ok (.if_icmp .le 7, 3) := by decide +kernel
theorem dX10_doubt_71 : decode cX10_doubt 71 = .ok (.iconst 1, 1) := by decide +kernel
theorem dX10_doubt_72 : decode cX10_doubt 72 = .ok (.goto 4, 3) := by decide +kernel
theorem dX10_doubt_75 : decode cX10_doubt 75 = .ok (.iconst 0, 1) := by decide +kernel
theorem dX10_doubt_76 : decode cX10_doubt 76 = .ok (.istore 9, 2) := by decide +kernel
theorem dX10_doubt_78 : decode cX10_doubt 78 = .ok (.aload_n 0, 1) := by decide +kernel
theorem dX10_doubt_79 : decode cX10_doubt 79 = .ok (.getfield 19, 3) := by decide +kernel
theorem dX10_doubt_82 : decode cX10_doubt 82 = .ok (.getfield 129, 3) := by decide +kernel
theorem dX10_doubt_85 : decode cX10_doubt 85 = .ok (.iload 8, 2) := by decide +kernel
theorem dX10_doubt_87 : decode cX10_doubt 87 = .ok (.iconst 2, 1) := by decide +kernel
theorem dX10_doubt_88 : decode cX10_doubt 88 = .ok (.invokevirtual 277, 3) := by decide +kernel
theorem dX10_doubt_91 : decode cX10_doubt 91 = .ok (.iload_n 1, 1) := by decide +kernel
theorem dX10_doubt_92 : decode cX10_doubt 92 = .ok (.if_icmp .ne 7, 3) := by decide +kernel
theorem dX10_doubt_95 : decode cX10_doubt 95 = .ok (.iconst 1, 1) := by decide +kernel
theorem dX10_doubt_96 : decode cX10_doubt 96 = .ok (.goto 4, 3) := by decide +kernel
theorem dX10_doubt_99 : decode cX10_doubt 99 = .ok (.iconst 0, 1) := by decide +kernel
theorem dX10_doubt_100 : decode cX10_doubt 100 = .ok (.istore 10, 2) := by decide +kernel
theorem dX10_doubt_102 : decode cX10_doubt 102 = .ok (.iload 5, 2) := by decide +kernel
theorem dX10_doubt_104 : decode cX10_doubt 104 = .ok (.iload 9, 2) := by decide +kernel
theorem dX10_doubt_106 : decode cX10_doubt 106 = .ok (.ifCond .eq 7, 3) := by decide +kernel
theorem dX10_doubt_109 : decode cX10_doubt 109 = .ok (.iconst 1, 1) := by decide +kernel
theorem dX10_doubt_110 : decode cX10_doubt 110 = .ok (.goto 4, 3) := by decide +kernel
theorem dX10_doubt_113 : decode cX10_doubt 113 = .ok (.iconst 0, 1) := by decide +kernel
theorem dX10_doubt_114 : decode cX10_doubt 114 = .ok (.iadd, 1) := by decide +kernel
theorem dX10_doubt_115 : decode cX10_doubt 115 = .ok (.istore 5, 2) := by decide +kernel
theorem dX10_doubt_117 : decode cX10_doubt 117 = .ok (.iload 6, 2) := by decide +kernel
theorem dX10_doubt_119 : decode cX10_doubt 119 = .ok (.iload 10, 2) := by decide +kernel
theorem dX10_doubt_121 : decode cX10_doubt 121 = .ok (.ifCond .eq 7, 3) := by decide +kernel
theorem dX10_doubt_124 : decode cX10_doubt 124 = .ok (.iconst 1, 1) := by decide +kernel
theorem dX10_doubt_125 : decode cX10_doubt 125 = .ok (.goto 4, 3) := by decide +kernel
theorem dX10_doubt_128 : decode cX10_doubt 128 = .ok (.iconst 0, 1) := by decide +kernel
theorem dX10_doubt_129 : decode cX10_doubt 129 = .ok (.iadd, 1) := by decide +kernel
theorem dX10_doubt_130 : decode cX10_doubt 130 = .ok (.istore 6, 2) := by decide +kernel
theorem dX10_doubt_132 : decode cX10_doubt 132 = .ok (.iload 7, 2) := by decide +kernel
theorem dX10_doubt_134 : decode cX10_doubt 134 = .ok (.iload 9, 2) := by decide +kernel
theorem dX10_doubt_136 : decode cX10_doubt 136 = .ok (.ifCond .eq 12, 3) := by decide +kernel
theorem dX10_doubt_139 : decode cX10_doubt 139 = .ok (.iload 10, 2) := by decide +kernel
theorem dX10_doubt_141 : decode cX10_doubt 141 = .ok (.ifCond .eq 7, 3) := by decide +kernel
theorem dX10_doubt_144 : decode cX10_doubt 144 = .ok (.iconst 1, 1) := by decide +kernel
theorem dX10_doubt_145 : decode cX10_doubt 145 = .ok (.goto 4, 3) := by decide +kernel
theorem dX10_doubt_148 : decode cX10_doubt 148 = .ok (.iconst 0, 1) := by decide +kernel
theorem dX10_doubt_149 : decode cX10_doubt 149 = .ok (.iadd, 1) := by decide +kernel
theorem dX10_doubt_150 : decode cX10_doubt 150 = .ok (.istore 7, 2) := by decide +kernel
theorem dX10_doubt_152 : decode cX10_doubt 152 = .ok (.iinc 8 1, 3) := by decide +kernel
theorem dX10_doubt_155 : decode cX10_doubt 155 = .ok (.goto (-108), 3) := by decide +kernel
theorem dX10_doubt_158 : decode cX10_doubt 158 = .ok (.iload_n 3, 1) := by decide +kernel
theorem dX10_doubt_159 : decode cX10_doubt 159 = .ok (.iconst 2, 1) := by decide +kernel
theorem dX10_doubt_160 : decode cX10_doubt 160 = .ok (.if_icmp .ne 9, 3) := by decide +kernel
theorem dX10_doubt_163 : decode cX10_doubt 163 = .ok (.iload 7, 2) := by decide +kernel
theorem dX10_doubt_165 : decode cX10_doubt 165 = .ok (.i2l, 1) := by decide +kernel
theorem dX10_doubt_166 : decode cX10_doubt 166 = .ok (.goto 15, 3) := by decide +kernel
theorem dX10_doubt_169 : decode cX10_doubt 169 = .ok (.iload 4, 2) := by decide +kernel
theorem dX10_doubt_171 : decode cX10_doubt 171 = .ok (.iload 5, 2) := by decide +kernel
theorem dX10_doubt_173 : decode cX10_doubt 173 = .ok (.iload 6, 2) := by decide +kernel
theorem dX10_doubt_175 : decode cX10_doubt 175 = .ok (.iload 7, 2) := by decide +kernel
theorem dX10_doubt_177 : decode cX10_doubt 177 = .ok (.iload_n 3, 1) := by decide +kernel
theorem dX10_doubt_178 : decode cX10_doubt 178 = .ok (.invokestatic 270, 3) := by decide +kernel
theorem dX10_doubt_181 : decode cX10_doubt 181 = .ok (.lreturn, 1) := by decide +kernel
theorem dX10_leaves_0 : decode cX10_leaves 0 = .ok (.aload_n 0, 1) := by decide +kernel
theorem dX10_leaves_1 : decode cX10_leaves 1 = .ok (.iload_n 1, 1) := by decide +kernel
theorem dX10_leaves_2 : decode cX10_leaves 2 = .ok (.invokevirtual 175, 3) := by decide +kernel
theorem dX10_leaves_5 : decode cX10_leaves 5 = .ok (.ifCond .eq 17, 3) := by decide +kernel
theorem dX10_leaves_8 : decode cX10_leaves 8 = .ok (.aload_n 0, 1) := by decide +kernel
theorem dX10_leaves_9 : decode cX10_leaves 9 = .ok (.getfield 10, 3) := by decide +kernel
theorem dX10_leaves_12 : decode cX10_leaves 12 = .ok (.invokestatic 280, 3) := by decide +kernel
theorem dX10_leaves_15 : decode cX10_leaves 15 = .ok (.ifCond .eq 7, 3) := by decide +kernel
theorem dX10_leaves_18 : decode cX10_leaves 18 = .ok (.iconst 1, 1) := by decide +kernel
theorem dX10_leaves_19 : decode cX10_leaves 19 = .ok (.goto 4, 3) := by decide +kernel
theorem dX10_leaves_22 : decode cX10_leaves 22 = .ok (.iconst 0, 1) := by decide +kernel
theorem dX10_leaves_23 : decode cX10_leaves 23 = .ok (.istore_n 3, 1) := by decide +kernel
theorem dX10_leaves_24 : decode cX10_leaves 24 = .ok (.iconst (-1), 1) := by decide +kernel
theorem dX10_leaves_25 : decode cX10_leaves 25 = .ok (.istore 4, 2) := by decide +kernel
theorem dX10_leaves_27 : decode cX10_leaves 27 = .ok (.iload_n 3, 1) := by decide +kernel
theorem dX10_leaves_28 : decode cX10_leaves 28 = .ok (.ifCond .eq 34, 3) := by decide +kernel
theorem dX10_leaves_31 : decode cX10_leaves 31 = .ok (.aload_n 0, 1) := by decide +kernel
theorem dX10_leaves_32 : decode cX10_leaves 32 = .ok (.getfield 50, 3) := by decide +kernel
theorem dX10_leaves_35 : decode cX10_leaves 35 = .ok (.aload_n 0, 1) := by decide +kernel
theorem dX10_leaves_36 : decode cX10_leaves 36 = .ok (.getfield 10, 3) := by decide +kernel
theorem dX10_leaves_39 : decode cX10_leaves 39 = .ok (.aload_n 0, 1) := by decide +kernel
theorem dX10_leaves_40 : decode cX10_leaves 40 = .ok (.getfield 19, 3) := by decide +kernel
theorem dX10_leaves_43 : decode cX10_leaves 43 = .ok (.aload_n 0, 1) := by decide +kernel
theorem dX10_leaves_44 : decode cX10_leaves 44 = .ok (.iload_n 1, 1) := by decide +kernel
theorem dX10_leaves_45 : decode cX10_leaves 45 = .ok (.iload_n 2, 1) := by decide +kernel
theorem dX10_leaves_46 : decode cX10_leaves 46 = .ok (.invokevirtual 211, 3) := by decide +kernel
theorem dX10_leaves_49 : decode cX10_leaves 49 = .ok (.invokevirtual 283, 3) := by decide +kernel
theorem dX10_leaves_52 : decode cX10_leaves 52 = .ok (.ifCond .eq 7, 3) := by decide +kernel
theorem dX10_leaves_55 : decode cX10_leaves 55 = .ok (.iconst 1, 1) := by decide +kernel
theorem dX10_leaves_56 : decode cX10_leaves 56 = .ok (.goto 4, 3) := by decide +kernel
theorem dX10_leaves_59 : decode cX10_leaves 59 = .ok (.iconst 0, 1) := by decide +kernel
theorem dX10_leaves_60 : decode cX10_leaves 60 = .ok (.istore 4, 2) := by decide +kernel
theorem dX10_leaves_62 : decode cX10_leaves 62 = .ok (.aload_n 0, 1) := by decide +kernel
theorem dX10_leaves_63 : decode cX10_leaves 63 = .ok (.getfield 10, 3) := by decide +kernel
theorem dX10_leaves_66 : decode cX10_leaves 66 = .ok (.iconst 0, 1) := by decide +kernel
theorem dX10_leaves_67 : decode cX10_leaves 67 = .ok (.putfield 69, 3) := by decide +kernel
theorem dX10_leaves_70 : decode cX10_leaves 70 = .ok (.iload 4, 2) := by decide +kernel
theorem dX10_leaves_72 : decode cX10_leaves 72 = .ok (.ireturn, 1) := by decide +kernel
theorem dX10_gone_0 : decode cX10_gone 0 = .ok (.iload_n 1, 1) := by decide +kernel
theorem dX10_gone_1 : decode cX10_gone 1 = .ok (.invokestatic 90, 3) := by decide +kernel
theorem dX10_gone_4 : decode cX10_gone 4 = .ok (.ifCond .eq 20, 3) := by decide +kernel
theorem dX10_gone_7 : decode cX10_gone 7 = .ok (.iload_n 2, 1) := by decide +kernel
theorem dX10_gone_8 : decode cX10_gone 8 = .ok (.invokestatic 185, 3) := by decide +kernel
theorem dX10_gone_11 : decode cX10_gone 11 = .ok (.ifCond .eq 13, 3) := by decide +kernel
theorem dX10_gone_14 : decode cX10_gone 14 = .ok (.aload_n 0, 1) := by decide +kernel
theorem dX10_gone_15 : decode cX10_gone 15 = .ok (.getfield 50, 3) := by decide +kernel
theorem dX10_gone_18 : decode cX10_gone 18 = .ok (.getfield 287, 3) := by decide +kernel
theorem dX10_gone_21 : decode cX10_gone 21 = .ok (.ifCond .ne 5, 3) := by decide +kernel
theorem dX10_gone_24 : decode cX10_gone 24 = .ok (.iconst (-1), 1) := by decide +kernel
theorem dX10_gone_25 : decode cX10_gone 25 = .ok (.ireturn, 1) := by decide +kernel
theorem dX10_gone_26 : decode cX10_gone 26 = .ok (.aload_n 0, 1) := by decide +kernel
theorem dX10_gone_27 : decode cX10_gone 27 = .ok (.getfield 50, 3) := by decide +kernel
theorem dX10_gone_30 : decode cX10_gone 30 = .ok (.getfield 291, 3) := by decide +kernel
theorem dX10_gone_33 : decode cX10_gone 33 = .ok (.iload_n 1, 1) := by decide +kernel
theorem dX10_gone_34 : decode cX10_gone 34 = .ok (.aaload, 1) := by decide +kernel
theorem dX10_gone_35 : decode cX10_gone 35 = .ok (.iload_n 2, 1) := by decide +kernel
theorem dX10_gone_36 : decode cX10_gone 36 = .ok (.iaload, 1) := by decide +kernel
theorem dX10_gone_37 : decode cX10_gone 37 = .ok (.ireturn, 1) := by decide +kernel
theorem dX10_count_0 : decode cX10_count 0 = .ok (.iload_n 1, 1) := by decide +kernel
theorem dX10_count_1 : decode cX10_count 1 = .ok (.tableswitch 129 0 9 #[55, 60, 68, 73, 78, 89, 100, 111, 116, 121], 55) := by decide +kernel
theorem dX10_count_56 : decode cX10_count 56 = .ok (.aload_n 0, 1) := by decide +kernel
theorem dX10_count_57 : decode cX10_count 57 = .ok (.getfield 79, 3) := by decide +kernel
theorem dX10_count_60 : decode cX10_count 60 = .ok (.ireturn, 1) := by decide +kernel
theorem dX10_count_61 : decode cX10_count 61 = .ok (.aload_n 0, 1) := by decide +kernel
theorem dX10_count_62 : decode cX10_count 62 = .ok (.getfield 19, 3) := by decide +kernel
theorem dX10_count_65 : decode cX10_count 65 = .ok (.getfield 96, 3) := by decide +kernel
theorem dX10_count_68 : decode cX10_count 68 = .ok (.ireturn, 1) := by decide +kernel
theorem dX10_count_69 : decode cX10_count 69 = .ok (.aload_n 0, 1) := by decide +kernel
theorem dX10_count_70 : decode cX10_count 70 = .ok (.getfield 160, 3) := by decide +kernel
theorem dX10_count_73 : decode cX10_count 73 = .ok (.ireturn, 1) := by decide +kernel
theorem dX10_count_74 : decode cX10_count 74 = .ok (.aload_n 0, 1) := by decide +kernel
theorem dX10_count_75 : decode cX10_count 75 = .ok (.getfield 135, 3) := by decide +kernel
theorem dX10_count_78 : decode cX10_count 78 = .ok (.ireturn, 1) := by decide +kernel
theorem dX10_count_79 : decode cX10_count 79 = .ok (.aload_n 0, 1) := by decide +kernel
theorem dX10_count_80 : decode cX10_count 80 = .ok (.getfield 19, 3) := by decide +kernel
theorem dX10_count_83 : decode cX10_count 83 = .ok (.getfield 123, 3) := by decide +kernel
theorem dX10_count_86 : decode cX10_count 86 = .ok (.getfield 294, 3) := by decide +kernel
theorem dX10_count_89 : decode cX10_count 89 = .ok (.ireturn, 1) := by decide +kernel
theorem dX10_count_90 : decode cX10_count 90 = .ok (.aload_n 0, 1) := by decide +kernel
theorem dX10_count_91 : decode cX10_count 91 = .ok (.getfield 19, 3) := by decide +kernel
theorem dX10_count_94 : decode cX10_count 94 = .ok (.getfield 129, 3) := by decide +kernel
theorem dX10_count_97 : decode cX10_count 97 = .ok (.getfield 294, 3) := by decide +kernel
theorem dX10_count_100 : decode cX10_count 100 = .ok (.ireturn, 1) := by decide +kernel
theorem dX10_count_101 : decode cX10_count 101 = .ok (.aload_n 0, 1) := by decide +kernel
theorem dX10_count_102 : decode cX10_count 102 = .ok (.getfield 19, 3) := by decide +kernel
theorem dX10_count_105 : decode cX10_count 105 = .ok (.getfield 243, 3) := by decide +kernel
theorem dX10_count_108 : decode cX10_count 108 = .ok (.getfield 294, 3) := by decide +kernel
theorem dX10_count_111 : decode cX10_count 111 = .ok (.ireturn, 1) := by decide +kernel
theorem dX10_count_112 : decode cX10_count 112 = .ok (.aload_n 0, 1) := by decide +kernel
theorem dX10_count_113 : decode cX10_count 113 = .ok (.getfield 252, 3) := by decide +kernel
theorem dX10_count_116 : decode cX10_count 116 = .ok (.ireturn, 1) := by decide +kernel
theorem dX10_count_117 : decode cX10_count 117 = .ok (.aload_n 0, 1) := by decide +kernel
theorem dX10_count_118 : decode cX10_count 118 = .ok (.getfield 258, 3) := by decide +kernel
theorem dX10_count_121 : decode cX10_count 121 = .ok (.ireturn, 1) := by decide +kernel
theorem dX10_count_122 : decode cX10_count 122 = .ok (.aload_n 0, 1) := by decide +kernel
theorem dX10_count_123 : decode cX10_count 123 = .ok (.getfield 10, 3) := by decide +kernel
theorem dX10_count_126 : decode cX10_count 126 = .ok (.getfield 69, 3) := by decide +kernel
theorem dX10_count_129 : decode cX10_count 129 = .ok (.ireturn, 1) := by decide +kernel
theorem dX10_count_130 : decode cX10_count 130 = .ok (.iconst (-1), 1) := by decide +kernel
theorem dX10_count_131 : decode cX10_count 131 = .ok (.ireturn, 1) := by decide +kernel
theorem dX10_isMan_0 : decode cX10_isMan 0 = .ok (.iload_n 1, 1) := by decide +kernel
theorem dX10_isMan_1 : decode cX10_isMan 1 = .ok (.ifCond .lt 18, 3) := by decide +kernel
theorem dX10_isMan_4 : decode cX10_isMan 4 = .ok (.iload_n 1, 1) := by decide +kernel
theorem dX10_isMan_5 : decode cX10_isMan 5 = .ok (.aload_n 0, 1) := by decide +kernel
theorem dX10_isMan_6 : decode cX10_isMan 6 = .ok (.getfield 19, 3) := by decide +kernel
theorem dX10_isMan_9 : decode cX10_isMan 9 = .ok (.getfield 96, 3) := by decide +kernel
theorem dX10_isMan_12 : decode cX10_isMan 12 = .ok (.if_icmp .ge 7, 3) := by decide +kernel
theorem dX10_isMan_15 : decode cX10_isMan 15 = .ok (.iconst 1, 1) := by decide +kernel
theorem dX10_isMan_16 : decode cX10_isMan 16 = .ok (.goto 4, 3) := by decide +kernel
theorem dX10_isMan_19 : decode cX10_isMan 19 = .ok (.iconst 0, 1) := by decide +kernel
theorem dX10_isMan_20 : decode cX10_isMan 20 = .ok (.ireturn, 1) := by decide +kernel
theorem dX10_isLot_0 : decode cX10_isLot 0 = .ok (.iload_n 1, 1) := by decide +kernel
theorem dX10_isLot_1 : decode cX10_isLot 1 = .ok (.ifCond .lt 15, 3) := by decide +kernel
theorem dX10_isLot_4 : decode cX10_isLot 4 = .ok (.iload_n 1, 1) := by decide +kernel
theorem dX10_isLot_5 : decode cX10_isLot 5 = .ok (.aload_n 0, 1) := by decide +kernel
theorem dX10_isLot_6 : decode cX10_isLot 6 = .ok (.getfield 160, 3) := by decide +kernel
theorem dX10_isLot_9 : decode cX10_isLot 9 = .ok (.if_icmp .ge 7, 3) := by decide +kernel
theorem dX10_isLot_12 : decode cX10_isLot 12 = .ok (.iconst 1, 1) := by decide +kernel
theorem dX10_isLot_13 : decode cX10_isLot 13 = .ok (.goto 4, 3) := by decide +kernel
theorem dX10_isLot_16 : decode cX10_isLot 16 = .ok (.iconst 0, 1) := by decide +kernel
theorem dX10_isLot_17 : decode cX10_isLot 17 = .ok (.ireturn, 1) := by decide +kernel
theorem dX10_isDay_0 : decode cX10_isDay 0 = .ok (.iload_n 0, 1) := by decide +kernel
theorem dX10_isDay_1 : decode cX10_isDay 1 = .ok (.ifCond .lt 14, 3) := by decide +kernel
theorem dX10_isDay_4 : decode cX10_isDay 4 = .ok (.iload_n 0, 1) := by decide +kernel
theorem dX10_isDay_5 : decode cX10_isDay 5 = .ok (.sipush 3639, 3) := by decide +kernel
theorem dX10_isDay_8 : decode cX10_isDay 8 = .ok (.if_icmp .gt 7, 3) := by decide +kernel
theorem dX10_isDay_11 : decode cX10_isDay 11 = .ok (.iconst 1, 1) := by decide +kernel
theorem dX10_isDay_12 : decode cX10_isDay 12 = .ok (.goto 4, 3) := by decide +kernel
theorem dX10_isDay_15 : decode cX10_isDay 15 = .ok (.iconst 0, 1) := by decide +kernel
theorem dX10_isDay_16 : decode cX10_isDay 16 = .ok (.ireturn, 1) := by decide +kernel
theorem dX10_isWeek_0 : decode cX10_isWeek 0 = .ok (.iload_n 0, 1) := by decide +kernel
theorem dX10_isWeek_1 : decode cX10_isWeek 1 = .ok (.ifCond .lt 13, 3) := by decide +kernel
theorem dX10_isWeek_4 : decode cX10_isWeek 4 = .ok (.iload_n 0, 1) := by decide +kernel
theorem dX10_isWeek_5 : decode cX10_isWeek 5 = .ok (.bipush 52, 2) := by decide +kernel
theorem dX10_isWeek_7 : decode cX10_isWeek 7 = .ok (.if_icmp .ge 7, 3) := by decide +kernel
theorem dX10_isWeek_10 : decode cX10_isWeek 10 = .ok (.iconst 1, 1) := by decide +kernel
theorem dX10_isWeek_11 : decode cX10_isWeek 11 = .ok (.goto 4, 3) := by decide +kernel
theorem dX10_isWeek_14 : decode cX10_isWeek 14 = .ok (.iconst 0, 1) := by decide +kernel
theorem dX10_isWeek_15 : decode cX10_isWeek 15 = .ok (.ireturn, 1) := by decide +kernel
theorem dX10_isFieldWeek_0 : decode cX10_isFieldWeek 0 = .ok (.iload_n 0, 1) := by decide +kernel
theorem dX10_isFieldWeek_1 : decode cX10_isFieldWeek 1 = .ok (.ifCond .lt 13, 3) := by decide +kernel
theorem dX10_isFieldWeek_4 : decode cX10_isFieldWeek 4 = .ok (.iload_n 0, 1) := by decide +kernel
theorem dX10_isFieldWeek_5 : decode cX10_isFieldWeek 5 = .ok (.bipush 12, 2) := by decide +kernel
theorem dX10_isFieldWeek_7 : decode cX10_isFieldWeek 7 = .ok (.if_icmp .ge 7, 3) := by decide +kernel
theorem dX10_isFieldWeek_10 : decode cX10_isFieldWeek 10 = .ok (.iconst 1, 1) := by decide +kernel
theorem dX10_isFieldWeek_11 : decode cX10_isFieldWeek 11 = .ok (.goto 4, 3) := by decide +kernel
theorem dX10_isFieldWeek_14 : decode cX10_isFieldWeek 14 = .ok (.iconst 0, 1) := by decide +kernel
theorem dX10_isFieldWeek_15 : decode cX10_isFieldWeek 15 = .ok (.ireturn, 1) := by decide +kernel
theorem dX10_isParish_0 : decode cX10_isParish 0 = .ok (.iload_n 0, 1) := by decide +kernel
theorem dX10_isParish_1 : decode cX10_isParish 1 = .ok (.ifCond .lt 13, 3) := by decide +kernel
theorem dX10_isParish_4 : decode cX10_isParish 4 = .ok (.iload_n 0, 1) := by decide +kernel
theorem dX10_isParish_5 : decode cX10_isParish 5 = .ok (.bipush 8, 2) := by decide +kernel
theorem dX10_isParish_7 : decode cX10_isParish 7 = .ok (.if_icmp .ge 7, 3) := by decide +kernel
theorem dX10_isParish_10 : decode cX10_isParish 10 = .ok (.iconst 1, 1) := by decide +kernel
theorem dX10_isParish_11 : decode cX10_isParish 11 = .ok (.goto 4, 3) := by decide +kernel
theorem dX10_isParish_14 : decode cX10_isParish 14 = .ok (.iconst 0, 1) := by decide +kernel
theorem dX10_isParish_15 : decode cX10_isParish 15 = .ok (.ireturn, 1) := by decide +kernel
theorem dX10_isFather_0 : decode cX10_isFather 0 = .ok (.iload_n 0, 1) := by decide +kernel
theorem dX10_isFather_1 : decode cX10_isFather 1 = .ok (.ifCond .lt 13, 3) := by decide +kernel
theorem dX10_isFather_4 : decode cX10_isFather 4 = .ok (.iload_n 0, 1) := by decide +kernel
theorem dX10_isFather_5 : decode cX10_isFather 5 = .ok (.bipush 60, 2) := by decide +kernel
theorem dX10_isFather_7 : decode cX10_isFather 7 = .ok (.if_icmp .ge 7, 3) := by decide +kernel
theorem dX10_isFather_10 : decode cX10_isFather 10 = .ok (.iconst 1, 1) := by decide +kernel
theorem dX10_isFather_11 : decode cX10_isFather 11 = .ok (.goto 4, 3) := by decide +kernel
theorem dX10_isFather_14 : decode cX10_isFather 14 = .ok (.iconst 0, 1) := by decide +kernel
theorem dX10_isFather_15 : decode cX10_isFather 15 = .ok (.ireturn, 1) := by decide +kernel
theorem dX10_isDoctor_0 : decode cX10_isDoctor 0 = .ok (.iload_n 0, 1) := by decide +kernel
theorem dX10_isDoctor_1 : decode cX10_isDoctor 1 = .ok (.ifCond .lt 13, 3) := by decide +kernel
theorem dX10_isDoctor_4 : decode cX10_isDoctor 4 = .ok (.iload_n 0, 1) := by decide +kernel
theorem dX10_isDoctor_5 : decode cX10_isDoctor 5 = .ok (.bipush 8, 2) := by decide +kernel
theorem dX10_isDoctor_7 : decode cX10_isDoctor 7 = .ok (.if_icmp .ge 7, 3) := by decide +kernel
theorem dX10_isDoctor_10 : decode cX10_isDoctor 10 = .ok (.iconst 1, 1) := by decide +kernel
theorem dX10_isDoctor_11 : decode cX10_isDoctor 11 = .ok (.goto 4, 3) := by decide +kernel
theorem dX10_isDoctor_14 : decode cX10_isDoctor 14 = .ok (.iconst 0, 1) := by decide +kernel
theorem dX10_isDoctor_15 : decode cX10_isDoctor 15 = .ok (.ireturn, 1) := by decide +kernel
theorem dX10_isWhat_0 : decode cX10_isWhat 0 = .ok (.iload_n 0, 1) := by decide +kernel
theorem dX10_isWhat_1 : decode cX10_isWhat 1 = .ok (.ifCond .lt 12, 3) := by decide +kernel
theorem dX10_isWhat_4 : decode cX10_isWhat 4 = .ok (.iload_n 0, 1) := by decide +kernel
theorem dX10_isWhat_5 : decode cX10_isWhat 5 = .ok (.iconst 2, 1) := by decide +kernel
theorem dX10_isWhat_6 : decode cX10_isWhat 6 = .ok (.if_icmp .gt 7, 3) := by decide +kernel
theorem dX10_isWhat_9 : decode cX10_isWhat 9 = .ok (.iconst 1, 1) := by decide +kernel
theorem dX10_isWhat_10 : decode cX10_isWhat 10 = .ok (.goto 4, 3) := by decide +kernel
theorem dX10_isWhat_13 : decode cX10_isWhat 13 = .ok (.iconst 0, 1) := by decide +kernel
theorem dX10_isWhat_14 : decode cX10_isWhat 14 = .ok (.ireturn, 1) := by decide +kernel
theorem dX10_isFactValue_0 : decode cX10_isFactValue 0 = .ok (.iload_n 1, 1) := by decide +kernel
theorem dX10_isFactValue_1 : decode cX10_isFactValue 1 = .ok (.ifCond .ge 5, 3) := by decide +kernel
theorem dX10_isFactValue_4 : decode cX10_isFactValue 4 = .ok (.iconst 0, 1) := by decide +kernel
theorem dX10_isFactValue_5 : decode cX10_isFactValue 5 = .ok (.ireturn, 1) := by decide +kernel
theorem dX10_isFactValue_6 : decode cX10_isFactValue 6 = .ok (.iload_n 0, 1) := by decide +kernel
theorem dX10_isFactValue_7 : decode cX10_isFactValue 7 = .ok (.tableswitch 73 0 5 #[37, 37, 49, 49, 49, 60], 37) := by decide +kernel
theorem dX10_isFactValue_44 : decode cX10_isFactValue 44 = .ok (.iload_n 1, 1) := by decide +kernel
theorem dX10_isFactValue_45 : decode cX10_isFactValue 45 = .ok (.bipush 9, 2) := by decide +kernel
theorem dX10_isFactValue_47 : decode cX10_isFactValue 47 = .ok (.if_icmp .gt 7, 3) := by decide +kernel
theorem dX10_isFactValue_50 : decode cX10_isFactValue 50 = .ok (.iconst 1, 1) := by decide +kernel
theorem dX10_isFactValue_51 : decode cX10_isFactValue 51 = .ok (.goto 4, 3) := by decide +kernel
theorem dX10_isFactValue_54 : decode cX10_isFactValue 54 = .ok (.iconst 0, 1) := by decide +kernel
theorem dX10_isFactValue_55 : decode cX10_isFactValue 55 = .ok (.ireturn, 1) := by decide +kernel
theorem dX10_isFactValue_56 : decode cX10_isFactValue 56 = .ok (.iload_n 1, 1) := by decide +kernel
theorem dX10_isFactValue_57 : decode cX10_isFactValue 57 = .ok (.iconst 1, 1) := by decide +kernel
theorem dX10_isFactValue_58 : decode cX10_isFactValue 58 = .ok (.if_icmp .gt 7, 3) := by decide +kernel
theorem dX10_isFactValue_61 : decode cX10_isFactValue 61 = .ok (.iconst 1, 1) := by decide +kernel
theorem dX10_isFactValue_62 : decode cX10_isFactValue 62 = .ok (.goto 4, 3) := by decide +kernel
theorem dX10_isFactValue_65 : decode cX10_isFactValue 65 = .ok (.iconst 0, 1) := by decide +kernel
theorem dX10_isFactValue_66 : decode cX10_isFactValue 66 = .ok (.ireturn, 1) := by decide +kernel
theorem dX10_isFactValue_67 : decode cX10_isFactValue 67 = .ok (.iload_n 1, 1) := by decide +kernel
theorem dX10_isFactValue_68 : decode cX10_isFactValue 68 = .ok (.sipush 250, 3) := by decide +kernel
theorem dX10_isFactValue_71 : decode cX10_isFactValue 71 = .ok (.if_icmp .gt 7, 3) := by decide +kernel
theorem dX10_isFactValue_74 : decode cX10_isFactValue 74 = .ok (.iconst 1, 1) := by decide +kernel
theorem dX10_isFactValue_75 : decode cX10_isFactValue 75 = .ok (.goto 4, 3) := by decide +kernel
theorem dX10_isFactValue_78 : decode cX10_isFactValue 78 = .ok (.iconst 0, 1) := by decide +kernel
theorem dX10_isFactValue_79 : decode cX10_isFactValue 79 = .ok (.ireturn, 1) := by decide +kernel
theorem dX10_isFactValue_80 : decode cX10_isFactValue 80 = .ok (.iconst 0, 1) := by decide +kernel
theorem dX10_isFactValue_81 : decode cX10_isFactValue 81 = .ok (.ireturn, 1) := by decide +kernel
theorem dX10_lawFor_0 : decode cX10_lawFor 0 = .ok (.aload_n 0, 1) := by decide +kernel
theorem dX10_lawFor_1 : decode cX10_lawFor 1 = .ok (.getfield 33, 3) := by decide +kernel
theorem dX10_lawFor_4 : decode cX10_lawFor 4 = .ok (.astore_n 3, 1) := by decide +kernel
theorem dX10_lawFor_5 : decode cX10_lawFor 5 = .ok (.iconst 0, 1) := by decide +kernel
theorem dX10_lawFor_6 : decode cX10_lawFor 6 = .ok (.istore 4, 2) := by decide +kernel
theorem dX10_lawFor_8 : decode cX10_lawFor 8 = .ok (.iload 4, 2) := by decide +kernel
theorem dX10_lawFor_10 : decode cX10_lawFor 10 = .ok (.aload_n 0, 1) := by decide +kernel
theorem dX10_lawFor_11 : decode cX10_lawFor 11 = .ok (.getfield 135, 3) := by decide +kernel
theorem dX10_lawFor_14 : decode cX10_lawFor 14 = .ok (.if_icmp .ge 62, 3) := by decide +kernel
theorem dX10_lawFor_17 : decode cX10_lawFor 17 = .ok (.aload_n 0, 1) := by decide +kernel
theorem dX10_lawFor_18 : decode cX10_lawFor 18 = .ok (.getfield 37, 3) := by decide +kernel
theorem dX10_lawFor_21 : decode cX10_lawFor 21 = .ok (.iload 4, 2) := by decide +kernel
theorem dX10_lawFor_23 : decode cX10_lawFor 23 = .ok (.aaload, 1) := by decide +kernel
theorem dX10_lawFor_24 : decode cX10_lawFor 24 = .ok (.astore 5, 2) := by decide +kernel
theorem dX10_lawFor_26 : decode cX10_lawFor 26 = .ok (.aload 5, 2) := by decide +kernel
theorem dX10_lawFor_28 : decode cX10_lawFor 28 = .ok (.getfield 151, 3) := by decide +kernel
theorem dX10_lawFor_31 : decode cX10_lawFor 31 = .ok (.iload_n 2, 1) := by decide +kernel
theorem dX10_lawFor_32 : decode cX10_lawFor 32 = .ok (.if_icmp .gt 38, 3) := by decide +kernel
theorem dX10_lawFor_35 : decode cX10_lawFor 35 = .ok (.aload 5, 2) := by decide +kernel
theorem dX10_lawFor_37 : decode cX10_lawFor 37 = .ok (.getfield 154, 3) := by decide +kernel
theorem dX10_lawFor_40 : decode cX10_lawFor 40 = .ok (.aload_n 0, 1) := by decide +kernel
theorem dX10_lawFor_41 : decode cX10_lawFor 41 = .ok (.getfield 43, 3) := by decide +kernel
theorem dX10_lawFor_44 : decode cX10_lawFor 44 = .ok (.iload_n 1, 1) := by decide +kernel
theorem dX10_lawFor_45 : decode cX10_lawFor 45 = .ok (.aaload, 1) := by decide +kernel
theorem dX10_lawFor_46 : decode cX10_lawFor 46 = .ok (.getfield 163, 3) := by decide +kernel
theorem dX10_lawFor_49 : decode cX10_lawFor 49 = .ok (.getfield 167, 3) := by decide +kernel
theorem dX10_lawFor_52 : decode cX10_lawFor 52 = .ok (.if_icmp .gt 18, 3) := by decide +kernel
theorem dX10_lawFor_55 : decode cX10_lawFor 55 = .ok (.aload 5, 2) := by decide +kernel
theorem dX10_lawFor_57 : decode cX10_lawFor 57 = .ok (.getfield 154, 3) := by decide +kernel
theorem dX10_lawFor_60 : decode cX10_lawFor 60 = .ok (.aload_n 3, 1) := by decide +kernel
theorem dX10_lawFor_61 : decode cX10_lawFor 61 = .ok (.getfield 154, 3) := by decide +kernel
theorem dX10_lawFor_64 : decode cX10_lawFor 64 = .ok (.if_icmp .lt 6, 3) := by decide +kernel
theorem dX10_lawFor_67 : decode cX10_lawFor 67 = .ok (.aload 5, 2) := by decide +kernel
theorem dX10_lawFor_69 : decode cX10_lawFor 69 = .ok (.astore_n 3, 1) := by decide +kernel
theorem dX10_lawFor_70 : decode cX10_lawFor 70 = .ok (.iinc 4 1, 3) := by decide +kernel
theorem dX10_lawFor_73 : decode cX10_lawFor 73 = .ok (.goto (-65), 3) := by decide +kernel
theorem dX10_lawFor_76 : decode cX10_lawFor 76 = .ok (.aload_n 3, 1) := by decide +kernel
theorem dX10_lawFor_77 : decode cX10_lawFor 77 = .ok (.areturn, 1) := by decide +kernel
theorem dX10_rollAsOf_0 : decode cX10_rollAsOf 0 = .ok (.aload_n 0, 1) := by decide +kernel
theorem dX10_rollAsOf_1 : decode cX10_rollAsOf 1 = .ok (.getfield 19, 3) := by decide +kernel
theorem dX10_rollAsOf_4 : decode cX10_rollAsOf 4 = .ok (.iload_n 2, 1) := by decide +kernel
theorem dX10_rollAsOf_5 : decode cX10_rollAsOf 5 = .ok (.invokevirtual 192, 3) := by decide +kernel
theorem dX10_rollAsOf_8 : decode cX10_rollAsOf 8 = .ok (.aload_n 0, 1) := by decide +kernel
theorem dX10_rollAsOf_9 : decode cX10_rollAsOf 9 = .ok (.iload_n 1, 1) := by decide +kernel
theorem dX10_rollAsOf_10 : decode cX10_rollAsOf 10 = .ok (.iload_n 2, 1) := by decide +kernel
theorem dX10_rollAsOf_11 : decode cX10_rollAsOf 11 = .ok (.invokevirtual 232, 3) := by decide +kernel
theorem dX10_rollAsOf_14 : decode cX10_rollAsOf 14 = .ok (.getfield 297, 3) := by decide +kernel
theorem dX10_rollAsOf_17 : decode cX10_rollAsOf 17 = .ok (.ifCond .eq 7, 3) := by decide +kernel
theorem dX10_rollAsOf_20 : decode cX10_rollAsOf 20 = .ok (.iconst 0, 1) := by decide +kernel
theorem dX10_rollAsOf_21 : decode cX10_rollAsOf 21 = .ok (.goto 4, 3) := by decide +kernel
theorem dX10_rollAsOf_24 : decode cX10_rollAsOf 24 = .ok (.iload_n 1, 1) := by decide +kernel
theorem dX10_rollAsOf_25 : decode cX10_rollAsOf 25 = .ok (.istore_n 3, 1) := by decide +kernel
theorem dX10_rollAsOf_26 : decode cX10_rollAsOf 26 = .ok (.iload_n 3, 1) := by decide +kernel
theorem dX10_rollAsOf_27 : decode cX10_rollAsOf 27 = .ok (.istore 4, 2) := by decide +kernel
theorem dX10_rollAsOf_29 : decode cX10_rollAsOf 29 = .ok (.iload 4, 2) := by decide +kernel
theorem dX10_rollAsOf_31 : decode cX10_rollAsOf 31 = .ok (.iload_n 1, 1) := by decide +kernel
theorem dX10_rollAsOf_32 : decode cX10_rollAsOf 32 = .ok (.if_icmp .gt 30, 3) := by decide +kernel
theorem dX10_rollAsOf_35 : decode cX10_rollAsOf 35 = .ok (.aload_n 0, 1) := by decide +kernel
theorem dX10_rollAsOf_36 : decode cX10_rollAsOf 36 = .ok (.getfield 43, 3) := by decide +kernel
theorem dX10_rollAsOf_39 : decode cX10_rollAsOf 39 = .ok (.iload 4, 2) := by decide +kernel
theorem dX10_rollAsOf_41 : decode cX10_rollAsOf 41 = .ok (.aaload, 1) := by decide +kernel
theorem dX10_rollAsOf_42 : decode cX10_rollAsOf 42 = .ok (.aload_n 0, 1) := by decide +kernel
theorem dX10_rollAsOf_43 : decode cX10_rollAsOf 43 = .ok (.getfield 19, 3) := by decide +kernel
theorem dX10_rollAsOf_46 : decode cX10_rollAsOf 46 = .ok (.aload_n 0, 1) := by decide +kernel
theorem dX10_rollAsOf_47 : decode cX10_rollAsOf 47 = .ok (.iload 4, 2) := by decide +kernel
theorem dX10_rollAsOf_49 : decode cX10_rollAsOf 49 = .ok (.iload_n 2, 1) := by decide +kernel
theorem dX10_rollAsOf_50 : decode cX10_rollAsOf 50 = .ok (.invokevirtual 232, 3) := by decide +kernel
theorem dX10_rollAsOf_53 : decode cX10_rollAsOf 53 = .ok (.invokevirtual 300, 3) := by decide +kernel
theorem dX10_rollAsOf_56 : decode cX10_rollAsOf 56 = .ok (.iinc 4 1, 3) := by decide +kernel
theorem dX10_rollAsOf_59 : decode cX10_rollAsOf 59 = .ok (.goto (-30), 3) := by decide +kernel
theorem dX10_rollAsOf_62 : decode cX10_rollAsOf 62 = .ok (.aload_n 0, 1) := by decide +kernel
theorem dX10_rollAsOf_63 : decode cX10_rollAsOf 63 = .ok (.getfield 43, 3) := by decide +kernel
theorem dX10_rollAsOf_66 : decode cX10_rollAsOf 66 = .ok (.iload_n 1, 1) := by decide +kernel
theorem dX10_rollAsOf_67 : decode cX10_rollAsOf 67 = .ok (.aaload, 1) := by decide +kernel
theorem dX10_rollAsOf_68 : decode cX10_rollAsOf 68 = .ok (.areturn, 1) := by decide +kernel
theorem dX10_chance_0 : decode cX10_chance 0 = .ok (.lconst 0, 1) := by decide +kernel
theorem dX10_chance_1 : decode cX10_chance 1 = .ok (.lstore 5, 2) := by decide +kernel
theorem dX10_chance_3 : decode cX10_chance 3 = .ok (.iload_n 3, 1) := by decide +kernel
theorem dX10_chance_4 : decode cX10_chance 4 = .ok (.istore 7, 2) := by decide +kernel
theorem dX10_chance_6 : decode cX10_chance 6 = .ok (.iload 7, 2) := by decide +kernel
theorem dX10_chance_8 : decode cX10_chance 8 = .ok (.iload_n 2, 1) := by decide +kernel
theorem dX10_chance_9 : decode cX10_chance 9 = .ok (.if_icmp .gt 37, 3) := by decide +kernel
theorem dX10_chance_12 : decode cX10_chance 12 = .ok (.iload 7, 2) := by decide +kernel
theorem dX10_chance_14 : decode cX10_chance 14 = .ok (.iload_n 1, 1) := by decide +kernel
theorem dX10_chance_15 : decode cX10_chance 15 = .ok (.if_icmp .gt 31, 3) := by decide +kernel
theorem dX10_chance_18 : decode cX10_chance 18 = .ok (.lload 5, 2) := by decide +kernel
theorem dX10_chance_20 : decode cX10_chance 20 = .ok (.iload_n 1, 1) := by decide +kernel
theorem dX10_chance_21 : decode cX10_chance 21 = .ok (.iload 7, 2) := by decide +kernel
theorem dX10_chance_23 : decode cX10_chance 23 = .ok (.invokestatic 304, 3) := by decide +kernel
theorem dX10_chance_26 : decode cX10_chance 26 = .ok (.iload_n 0, 1) := by decide +kernel
theorem dX10_chance_27 : decode cX10_chance 27 = .ok (.iload_n 1, 1) := by decide +kernel
theorem dX10_chance_28 : decode cX10_chance 28 = .ok (.isub, 1) := by decide +kernel
theorem dX10_chance_29 : decode cX10_chance 29 = .ok (.iload_n 2, 1) := by decide +kernel
theorem dX10_chance_30 : decode cX10_chance 30 = .ok (.iload 7, 2) := by decide +kernel
theorem dX10_chance_32 : decode cX10_chance 32 = .ok (.isub, 1) := by decide +kernel
theorem dX10_chance_33 : decode cX10_chance 33 = .ok (.invokestatic 304, 3) := by decide +kernel
theorem dX10_chance_36 : decode cX10_chance 36 = .ok (.lmul, 1) := by decide +kernel
theorem dX10_chance_37 : decode cX10_chance 37 = .ok (.ladd, 1) := by decide +kernel
theorem dX10_chance_38 : decode cX10_chance 38 = .ok (.lstore 5, 2) := by decide +kernel
theorem dX10_chance_40 : decode cX10_chance 40 = .ok (.iinc 7 1, 3) := by decide +kernel
theorem dX10_chance_43 : decode cX10_chance 43 = .ok (.goto (-37), 3) := by decide +kernel
theorem dX10_chance_46 : decode cX10_chance 46 = .ok (.iload_n 0, 1) := by decide +kernel
theorem dX10_chance_47 : decode cX10_chance 47 = .ok (.iload_n 2, 1) := by decide +kernel
theorem dX10_chance_48 : decode cX10_chance 48 = .ok (.invokestatic 304, 3) := by decide +kernel
theorem dX10_chance_51 : decode cX10_chance 51 = .ok (.lstore 7, 2) := by decide +kernel
theorem dX10_chance_53 : decode cX10_chance 53 = .ok (.lload 5, 2) := by decide +kernel
theorem dX10_chance_55 : decode cX10_chance 55 = .ok (.lload 7, 2) := by decide +kernel
theorem dX10_chance_57 : decode cX10_chance 57 = .ok (.invokestatic 308, 3) := by decide +kernel
theorem dX10_chance_60 : decode cX10_chance 60 = .ok (.lstore 9, 2) := by decide +kernel
theorem dX10_chance_62 : decode cX10_chance 62 = .ok (.lload 9, 2) := by decide +kernel
theorem dX10_chance_64 : decode cX10_chance 64 = .ok (.lconst 0, 1) := by decide +kernel
theorem dX10_chance_65 : decode cX10_chance 65 = .ok (.lcmp, 1) := by decide +kernel
theorem dX10_chance_66 : decode cX10_chance 66 = .ok (.ifCond .gt 5, 3) := by decide +kernel
theorem dX10_chance_69 : decode cX10_chance 69 = .ok (.lconst 0, 1) := by decide +kernel
theorem dX10_chance_70 : decode cX10_chance 70 = .ok (.lreturn, 1) := by decide +kernel
theorem dX10_chance_71 : decode cX10_chance 71 = .ok (.iload 4, 2) := by decide +kernel
theorem dX10_chance_73 : decode cX10_chance 73 = .ok (.ifCond .ne 11, 3) := by decide +kernel
theorem dX10_chance_76 : decode cX10_chance 76 = .ok (.lload 5, 2) := by decide +kernel
theorem dX10_chance_78 : decode cX10_chance 78 = .ok (.lload 9, 2) := by decide +kernel
theorem dX10_chance_80 : decode cX10_chance 80 = .ok (.ldiv, 1) := by decide +kernel
theorem dX10_chance_81 : decode cX10_chance 81 = .ok (.goto 8, 3) := by decide +kernel
theorem dX10_chance_84 : decode cX10_chance 84 = .ok (.lload 7, 2) := by decide +kernel
theorem dX10_chance_86 : decode cX10_chance 86 = .ok (.lload 9, 2) := by decide +kernel
theorem dX10_chance_88 : decode cX10_chance 88 = .ok (.ldiv, 1) := by decide +kernel
theorem dX10_chance_89 : decode cX10_chance 89 = .ok (.lreturn, 1) := by decide +kernel
theorem dX10_ways_0 : decode cX10_ways 0 = .ok (.iload_n 1, 1) := by decide +kernel
theorem dX10_ways_1 : decode cX10_ways 1 = .ok (.ifCond .lt 8, 3) := by decide +kernel
theorem dX10_ways_4 : decode cX10_ways 4 = .ok (.iload_n 1, 1) := by decide +kernel
theorem dX10_ways_5 : decode cX10_ways 5 = .ok (.iload_n 0, 1) := by decide +kernel
theorem dX10_ways_6 : decode cX10_ways 6 = .ok (.if_icmp .le 5, 3) := by decide +kernel
theorem dX10_ways_9 : decode cX10_ways 9 = .ok (.lconst 0, 1) := by decide +kernel
theorem dX10_ways_10 : decode cX10_ways 10 = .ok (.lreturn, 1) := by decide +kernel
theorem dX10_ways_11 : decode cX10_ways 11 = .ok (.lconst 1, 1) := by decide +kernel
theorem dX10_ways_12 : decode cX10_ways 12 = .ok (.lstore_n 2, 1) := by decide +kernel
theorem dX10_ways_13 : decode cX10_ways 13 = .ok (.iconst 0, 1) := by decide +kernel
theorem dX10_ways_14 : decode cX10_ways 14 = .ok (.istore 4, 2) := by decide +kernel
theorem dX10_ways_16 : decode cX10_ways 16 = .ok (.iload 4, 2) := by decide +kernel
theorem dX10_ways_18 : decode cX10_ways 18 = .ok (.iload_n 1, 1) := by decide +kernel
theorem dX10_ways_19 : decode cX10_ways 19 = .ok (.if_icmp .ge 23, 3) := by decide +kernel
theorem dX10_ways_22 : decode cX10_ways 22 = .ok (.lload_n 2, 1) := by decide +kernel
theorem dX10_ways_23 : decode cX10_ways 23 = .ok (.iload_n 0, 1) := by decide +kernel
theorem dX10_ways_24 : decode cX10_ways 24 = .ok (.iload 4, 2) := by decide +kernel
theorem dX10_ways_26 : decode cX10_ways 26 = .ok (.isub, 1) := by decide +kernel
theorem dX10_ways_27 : decode cX10_ways 27 = .ok (.i2l, 1) := by decide +kernel
theorem dX10_ways_28 : decode cX10_ways 28 = .ok (.lmul, 1) := by decide +kernel
theorem dX10_ways_29 : decode cX10_ways 29 = .ok (.iload 4, 2) := by decide +kernel
theorem dX10_ways_31 : decode cX10_ways 31 = .ok (.iconst 1, 1) := by decide +kernel
theorem dX10_ways_32 : decode cX10_ways 32 = .ok (.iadd, 1) := by decide +kernel
theorem dX10_ways_33 : decode cX10_ways 33 = .ok (.i2l, 1) := by decide +kernel
theorem dX10_ways_34 : decode cX10_ways 34 = .ok (.ldiv, 1) := by decide +kernel
theorem dX10_ways_35 : decode cX10_ways 35 = .ok (.lstore_n 2, 1) := by decide +kernel
theorem dX10_ways_36 : decode cX10_ways 36 = .ok (.iinc 4 1, 3) := by decide +kernel
theorem dX10_ways_39 : decode cX10_ways 39 = .ok (.goto (-23), 3) := by decide +kernel
theorem dX10_ways_42 : decode cX10_ways 42 = .ok (.lload_n 2, 1) := by decide +kernel
theorem dX10_ways_43 : decode cX10_ways 43 = .ok (.lreturn, 1) := by decide +kernel
theorem dX10_commonDivisor_0 : decode cX10_commonDivisor 0 = .ok (.lload_n 0, 1) := by decide +kernel
theorem dX10_commonDivisor_1 : decode cX10_commonDivisor 1 = .ok (.lstore 4, 2) := by decide +kernel
theorem dX10_commonDivisor_3 : decode cX10_commonDivisor 3 = .ok (.lload_n 2, 1) := by decide +kernel
theorem dX10_commonDivisor_4 : decode cX10_commonDivisor 4 = .ok (.lstore 6, 2) := by decide +kernel
theorem dX10_commonDivisor_6 : decode cX10_commonDivisor 6 = .ok (.iconst 0, 1) := by decide +kernel
theorem dX10_commonDivisor_7 : decode cX10_commonDivisor 7 = .ok (.istore 8, 2) := by decide +kernel
theorem dX10_commonDivisor_9 : decode cX10_commonDivisor 9 = .ok (.iload 8, 2) := by decide +kernel
theorem dX10_commonDivisor_11 : decode cX10_commonDivisor 11 = .ok (.sipush 1000, 3) := by decide +kernel
theorem dX10_commonDivisor_14 : decode cX10_commonDivisor 14 = .ok (.if_icmp .ge 31, 3) := by decide +kernel
theorem dX10_commonDivisor_17 : decode cX10_commonDivisor 17 = .ok (.lload 6, 2) := by decide +kernel
theorem dX10_commonDivisor_19 : decode cX10_commonDivisor 19 = .ok (.lconst 0, 1) := by decide +kernel
theorem dX10_commonDivisor_20 : decode cX10_commonDivisor 20 = .ok (.lcmp, 1) := by decide +kernel
theorem dX10_commonDivisor_21 : decode cX10_commonDivisor 21 = .ok (.ifCond .eq 24, 3) := by decide +kernel
theorem dX10_commonDivisor_24 : decode cX10_commonDivisor 24 = .ok (.lload 4, 2) := by decide +kernel
theorem dX10_commonDivisor_26 : decode cX10_commonDivisor 26 = .ok (.lload 6, 2) := by decide +kernel
theorem dX10_commonDivisor_28 : decode cX10_commonDivisor 28 = .ok (.lrem, 1) := by decide +kernel
theorem dX10_commonDivisor_29 : decode cX10_commonDivisor 29 = .ok (.lstore 9, 2) := by decide +kernel
theorem dX10_commonDivisor_31 : decode cX10_commonDivisor 31 = .ok (.lload 6, 2) := by decide +kernel
theorem dX10_commonDivisor_33 : decode cX10_commonDivisor 33 = .ok (.lstore 4, 2) := by decide +kernel
theorem dX10_commonDivisor_35 : decode cX10_commonDivisor 35 = .ok (.lload 9, 2) := by decide +kernel
theorem dX10_commonDivisor_37 : decode cX10_commonDivisor 37 = .ok (.lstore 6, 2) := by decide +kernel
theorem dX10_commonDivisor_39 : decode cX10_commonDivisor 39 = .ok (.iinc 8 1, 3) := by decide +kernel
theorem dX10_commonDivisor_42 : decode cX10_commonDivisor 42 = .ok (.goto (-33), 3) := by decide +kernel
theorem dX10_commonDivisor_45 : decode cX10_commonDivisor 45 = .ok (.lload 4, 2) := by decide +kernel
theorem dX10_commonDivisor_47 : decode cX10_commonDivisor 47 = .ok (.lreturn, 1) := by decide +kernel
