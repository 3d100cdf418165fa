theorem dX0_init_0 : decode cX0_init 0 = .ok (.aload_n 0, 1) := by decide +kernel
theorem dX0_init_1 : decode cX0_init 1 = .ok (.invokespecial 3, 3) := by decide +kernel
theorem dX0_init_4 : decode cX0_init 4 = .ok (.aload_n 0, 1) := by decide +kernel
theorem dX0_init_5 : decode cX0_init 5 = .ok (.bipush 8, 2) := by decide +kernel
theorem dX0_init_7 : decode cX0_init 7 = .ok (.bipush 12, 2) := by decide +kernel
theorem dX0_init_9 : decode cX0_init 9 = .ok (.multianewarray 9 2, 4) := by decide +kernel
theorem dX0_init_13 : decode cX0_init 13 = .ok (.putfield 11, 3) := by decide +kernel
theorem dX0_init_16 : decode cX0_init 16 = .ok (.aload_n 0, 1) := by decide +kernel
theorem dX0_init_17 : decode cX0_init 17 = .ok (.bipush 8, 2) := by decide +kernel
theorem dX0_init_19 : decode cX0_init 19 = .ok (.bipush 12, 2) := by decide +kernel
theorem dX0_init_21 : decode cX0_init 21 = .ok (.multianewarray 9 2, 4) := by decide +kernel
theorem dX0_init_25 : decode cX0_init 25 = .ok (.putfield 16, 3) := by decide +kernel
theorem dX0_init_28 : decode cX0_init 28 = .ok (.return_, 1) := by decide +kernel
theorem dX0_holdsTold_0 : decode cX0_holdsTold 0 = .ok (.aload_n 0, 1) := by decide +kernel
theorem dX0_holdsTold_1 : decode cX0_holdsTold 1 = .ok (.getfield 19, 3) := by decide +kernel
theorem dX0_holdsTold_4 : decode cX0_holdsTold 4 = .ok (.bipush 12, 2) := by decide +kernel
theorem dX0_holdsTold_6 : decode cX0_holdsTold 6 = .ok (.if_icmp .eq 5, 3) := by decide +kernel
theorem dX0_holdsTold_9 : decode cX0_holdsTold 9 = .ok (.iconst 0, 1) := by decide +kernel
theorem dX0_holdsTold_10 : decode cX0_holdsTold 10 = .ok (.ireturn, 1) := by decide +kernel
theorem dX0_holdsTold_11 : decode cX0_holdsTold 11 = .ok (.iconst 1, 1) := by decide +kernel
theorem dX0_holdsTold_12 : decode cX0_holdsTold 12 = .ok (.istore_n 1, 1) := by decide +kernel
theorem dX0_holdsTold_13 : decode cX0_holdsTold 13 = .ok (.iload_n 1, 1) := by decide +kernel
theorem dX0_holdsTold_14 : decode cX0_holdsTold 14 = .ok (.bipush 12, 2) := by decide +kernel
theorem dX0_holdsTold_16 : decode cX0_holdsTold 16 = .ok (.if_icmp .ge 26, 3) := by decide +kernel
theorem dX0_holdsTold_19 : decode cX0_holdsTold 19 = .ok (.aload_n 0, 1) := by decide +kernel
theorem dX0_holdsTold_20 : decode cX0_holdsTold 20 = .ok (.iload_n 1, 1) := by decide +kernel
theorem dX0_holdsTold_21 : decode cX0_holdsTold 21 = .ok (.invokevirtual 25, 3) := by decide +kernel
theorem dX0_holdsTold_24 : decode cX0_holdsTold 24 = .ok (.aload_n 0, 1) := by decide +kernel
theorem dX0_holdsTold_25 : decode cX0_holdsTold 25 = .ok (.iload_n 1, 1) := by decide +kernel
theorem dX0_holdsTold_26 : decode cX0_holdsTold 26 = .ok (.iconst 1, 1) := by decide +kernel
theorem dX0_holdsTold_27 : decode cX0_holdsTold 27 = .ok (.isub, 1) := by decide +kernel
theorem dX0_holdsTold_28 : decode cX0_holdsTold 28 = .ok (.invokevirtual 25, 3) := by decide +kernel
theorem dX0_holdsTold_31 : decode cX0_holdsTold 31 = .ok (.if_icmp .ge 5, 3) := by decide +kernel
theorem dX0_holdsTold_34 : decode cX0_holdsTold 34 = .ok (.iconst 0, 1) := by decide +kernel
theorem dX0_holdsTold_35 : decode cX0_holdsTold 35 = .ok (.ireturn, 1) := by decide +kernel
theorem dX0_holdsTold_36 : decode cX0_holdsTold 36 = .ok (.iinc 1 1, 3) := by decide +kernel
theorem dX0_holdsTold_39 : decode cX0_holdsTold 39 = .ok (.goto (-26), 3) := by decide +kernel
theorem dX0_holdsTold_42 : decode cX0_holdsTold 42 = .ok (.iconst 1, 1) := by decide +kernel
theorem dX0_holdsTold_43 : decode cX0_holdsTold 43 = .ok (.ireturn, 1) := by decide +kernel
theorem dX0_leave_0 : decode cX0_leave 0 = .ok (.iconst 1, 1) := by decide +kernel
theorem dX0_leave_1 : decode cX0_leave 1 = .ok (.istore 4, 2) := by decide +kernel
theorem dX0_leave_3 : decode cX0_leave 3 = .ok (.iconst 0, 1) := by decide +kernel
theorem dX0_leave_4 : decode cX0_leave 4 = .ok (.istore 5, 2) := by decide +kernel
theorem dX0_leave_6 : decode cX0_leave 6 = .ok (.aload_n 0, 1) := by decide +kernel
theorem dX0_leave_7 : decode cX0_leave 7 = .ok (.iconst 1, 1) := by decide +kernel
theorem dX0_leave_8 : decode cX0_leave 8 = .ok (.putfield 29, 3) := by decide +kernel
theorem dX0_leave_11 : decode cX0_leave 11 = .ok (.iconst 0, 1) := by decide +kernel
theorem dX0_leave_12 : decode cX0_leave 12 = .ok (.istore 6, 2) := by decide +kernel
theorem dX0_leave_14 : decode cX0_leave 14 = .ok (.iload 6, 2) := by decide +kernel
theorem dX0_leave_16 : decode cX0_leave 16 = .ok (.bipush 12, 2) := by decide +kernel
theorem dX0_leave_18 : decode cX0_leave 18 = .ok (.if_icmp .ge 144, 3) := by decide +kernel
theorem dX0_leave_21 : decode cX0_leave 21 = .ok (.iconst 0, 1) := by decide +kernel
theorem dX0_leave_22 : decode cX0_leave 22 = .ok (.istore 7, 2) := by decide +kernel
theorem dX0_leave_24 : decode cX0_leave 24 = .ok (.iload 7, 2) := by decide +kernel
theorem dX0_leave_26 : decode cX0_leave 26 = .ok (.bipush 8, 2) := by decide +kernel
theorem dX0_leave_28 : decode cX0_leave 28 = .ok (.if_icmp .ge 105, 3) := by decide +kernel
theorem dX0_leave_31 : decode cX0_leave 31 = .ok (.iload 6, 2) := by decide +kernel
theorem dX0_leave_33 : decode cX0_leave 33 = .ok (.ifCond .ne 7, 3) := by decide +kernel
theorem dX0_leave_36 : decode cX0_leave 36 = .ok (.iconst 0, 1) := by decide +kernel
theorem dX0_leave_37 : decode cX0_leave 37 = .ok (.goto 15, 3) := by decide +kernel
theorem dX0_leave_40 : decode cX0_leave 40 = .ok (.aload_n 0, 1) := by decide +kernel
theorem dX0_leave_41 : decode cX0_leave 41 = .ok (.getfield 16, 3) := by decide +kernel
theorem dX0_leave_44 : decode cX0_leave 44 = .ok (.iload 7, 2) := by decide +kernel
theorem dX0_leave_46 : decode cX0_leave 46 = .ok (.aaload, 1) := by decide +kernel
theorem dX0_leave_47 : decode cX0_leave 47 = .ok (.iload 6, 2) := by decide +kernel
theorem dX0_leave_49 : decode cX0_leave 49 = .ok (.iconst 1, 1) := by decide +kernel
theorem dX0_leave_50 : decode cX0_leave 50 = .ok (.isub, 1) := by decide +kernel
theorem dX0_leave_51 : decode cX0_leave 51 = .ok (.iaload, 1) := by decide +kernel
theorem dX0_leave_52 : decode cX0_leave 52 = .ok (.istore 8, 2) := by decide +kernel
theorem dX0_leave_54 : decode cX0_leave 54 = .ok (.iconst 0, 1) := by decide +kernel
theorem dX0_leave_55 : decode cX0_leave 55 = .ok (.aload_n 2, 1) := by decide +kernel
theorem dX0_leave_56 : decode cX0_leave 56 = .ok (.getfield 33, 3) := by decide +kernel
theorem dX0_leave_59 : decode cX0_leave 59 = .ok (.iload 7, 2) := by decide +kernel
theorem dX0_leave_61 : decode cX0_leave 61 = .ok (.iaload, 1) := by decide +kernel
theorem dX0_leave_62 : decode cX0_leave 62 = .ok (.aload_n 0, 1) := by decide +kernel
theorem dX0_leave_63 : decode cX0_leave 63 = .ok (.iload 7, 2) := by decide +kernel
theorem dX0_leave_65 : decode cX0_leave 65 = .ok (.iload 6, 2) := by decide +kernel
theorem dX0_leave_67 : decode cX0_leave 67 = .ok (.invokevirtual 39, 3) := by decide +kernel
theorem dX0_leave_70 : decode cX0_leave 70 = .ok (.isub, 1) := by decide +kernel
theorem dX0_leave_71 : decode cX0_leave 71 = .ok (.invokestatic 43, 3) := by decide +kernel
theorem dX0_leave_74 : decode cX0_leave 74 = .ok (.istore 9, 2) := by decide +kernel
theorem dX0_leave_76 : decode cX0_leave 76 = .ok (.iload 9, 2) := by decide +kernel
theorem dX0_leave_78 : decode cX0_leave 78 = .ok (.aload_n 3, 1) := by decide +kernel
theorem dX0_leave_79 : decode cX0_leave 79 = .ok (.getfield 48, 3) := by decide +kernel
theorem dX0_leave_82 : decode cX0_leave 82 = .ok (.iload 7, 2) := by decide +kernel
theorem dX0_leave_84 : decode cX0_leave 84 = .ok (.iaload, 1) := by decide +kernel
theorem dX0_leave_85 : decode cX0_leave 85 = .ok (.invokestatic 53, 3) := by decide +kernel
theorem dX0_leave_88 : decode cX0_leave 88 = .ok (.iload 8, 2) := by decide +kernel
theorem dX0_leave_90 : decode cX0_leave 90 = .ok (.isub, 1) := by decide +kernel
theorem dX0_leave_91 : decode cX0_leave 91 = .ok (.aload_n 1, 1) := by decide +kernel
theorem dX0_leave_92 : decode cX0_leave 92 = .ok (.iload 6, 2) := by decide +kernel
theorem dX0_leave_94 : decode cX0_leave 94 = .ok (.invokevirtual 25, 3) := by decide +kernel
theorem dX0_leave_97 : decode cX0_leave 97 = .ok (.iload 5, 2) := by decide +kernel
theorem dX0_leave_99 : decode cX0_leave 99 = .ok (.isub, 1) := by decide +kernel
theorem dX0_leave_100 : decode cX0_leave 100 = .ok (.invokestatic 53, 3) := by decide +kernel
theorem dX0_leave_103 : decode cX0_leave 103 = .ok (.istore 10, 2) := by decide +kernel
theorem dX0_leave_105 : decode cX0_leave 105 = .ok (.aload_n 0, 1) := by decide +kernel
theorem dX0_leave_106 : decode cX0_leave 106 = .ok (.getfield 16, 3) := by decide +kernel
theorem dX0_leave_109 : decode cX0_leave 109 = .ok (.iload 7, 2) := by decide +kernel
theorem dX0_leave_111 : decode cX0_leave 111 = .ok (.aaload, 1) := by decide +kernel
theorem dX0_leave_112 : decode cX0_leave 112 = .ok (.iload 6, 2) := by decide +kernel
theorem dX0_leave_114 : decode cX0_leave 114 = .ok (.iload 8, 2) := by decide +kernel
theorem dX0_leave_116 : decode cX0_leave 116 = .ok (.iload 10, 2) := by decide +kernel
theorem dX0_leave_118 : decode cX0_leave 118 = .ok (.iadd, 1) := by decide +kernel
theorem dX0_leave_119 : decode cX0_leave 119 = .ok (.iastore, 1) := by decide +kernel
theorem dX0_leave_120 : decode cX0_leave 120 = .ok (.iload 5, 2) := by decide +kernel
theorem dX0_leave_122 : decode cX0_leave 122 = .ok (.iload 10, 2) := by decide +kernel
theorem dX0_leave_124 : decode cX0_leave 124 = .ok (.iadd, 1) := by decide +kernel
theorem dX0_leave_125 : decode cX0_leave 125 = .ok (.istore 5, 2) := by decide +kernel
theorem dX0_leave_127 : decode cX0_leave 127 = .ok (.iinc 7 1, 3) := by decide +kernel
theorem dX0_leave_130 : decode cX0_leave 130 = .ok (.goto (-106), 3) := by decide +kernel
theorem dX0_leave_133 : decode cX0_leave 133 = .ok (.iload 4, 2) := by decide +kernel
theorem dX0_leave_135 : decode cX0_leave 135 = .ok (.ifCond .eq 18, 3) := by decide +kernel
theorem dX0_leave_138 : decode cX0_leave 138 = .ok (.iload 5, 2) := by decide +kernel
theorem dX0_leave_140 : decode cX0_leave 140 = .ok (.aload_n 1, 1) := by decide +kernel
theorem dX0_leave_141 : decode cX0_leave 141 = .ok (.iload 6, 2) := by decide +kernel
theorem dX0_leave_143 : decode cX0_leave 143 = .ok (.invokevirtual 25, 3) := by decide +kernel
theorem dX0_leave_146 : decode cX0_leave 146 = .ok (.if_icmp .ne 7, 3) := by decide +kernel
theorem dX0_leave_149 : decode cX0_leave 149 = .ok (.iconst 1, 1) := by decide +kernel
theorem dX0_leave_150 : decode cX0_leave 150 = .ok (.goto 4, 3) := by decide +kernel
theorem dX0_leave_153 : decode cX0_leave 153 = .ok (.iconst 0, 1) := by decide +kernel
theorem dX0_leave_154 : decode cX0_leave 154 = .ok (.istore 4, 2) := by decide +kernel
theorem dX0_leave_156 : decode cX0_leave 156 = .ok (.iinc 6 1, 3) := by decide +kernel
theorem dX0_leave_159 : decode cX0_leave 159 = .ok (.goto (-145), 3) := by decide +kernel
theorem dX0_leave_162 : decode cX0_leave 162 = .ok (.iload 4, 2) := by decide +kernel
theorem dX0_leave_164 : decode cX0_leave 164 = .ok (.ireturn, 1) := by decide +kernel
theorem dX0_mostHands_0 : decode cX0_mostHands 0 = .ok (.iconst 0, 1) := by decide +kernel
theorem dX0_mostHands_1 : decode cX0_mostHands 1 = .ok (.istore_n 3, 1) := by decide +kernel
theorem dX0_mostHands_2 : decode cX0_mostHands 2 = .ok (.iload_n 2, 1) := by decide +kernel
theorem dX0_mostHands_3 : decode cX0_mostHands 3 = .ok (.istore 4, 2) := by decide +kernel
theorem dX0_mostHands_5 : decode cX0_mostHands 5 = .ok (.iload 4, 2) := by decide +kernel
theorem dX0_mostHands_7 : decode cX0_mostHands 7 = .ok (.bipush 12, 2) := by decide +kernel
theorem dX0_mostHands_9 : decode cX0_mostHands 9 = .ok (.if_icmp .ge 23, 3) := by decide +kernel
theorem dX0_mostHands_12 : decode cX0_mostHands 12 = .ok (.iload_n 3, 1) := by decide +kernel
theorem dX0_mostHands_13 : decode cX0_mostHands 13 = .ok (.aload_n 0, 1) := by decide +kernel
theorem dX0_mostHands_14 : decode cX0_mostHands 14 = .ok (.getfield 11, 3) := by decide +kernel
theorem dX0_mostHands_17 : decode cX0_mostHands 17 = .ok (.iload_n 1, 1) := by decide +kernel
theorem dX0_mostHands_18 : decode cX0_mostHands 18 = .ok (.aaload, 1) := by decide +kernel
theorem dX0_mostHands_19 : decode cX0_mostHands 19 = .ok (.iload 4, 2) := by decide +kernel
theorem dX0_mostHands_21 : decode cX0_mostHands 21 = .ok (.iaload, 1) := by decide +kernel
theorem dX0_mostHands_22 : decode cX0_mostHands 22 = .ok (.invokestatic 43, 3) := by decide +kernel
theorem dX0_mostHands_25 : decode cX0_mostHands 25 = .ok (.istore_n 3, 1) := by decide +kernel
theorem dX0_mostHands_26 : decode cX0_mostHands 26 = .ok (.iinc 4 1, 3) := by decide +kernel
theorem dX0_mostHands_29 : decode cX0_mostHands 29 = .ok (.goto (-24), 3) := by decide +kernel
theorem dX0_mostHands_32 : decode cX0_mostHands 32 = .ok (.iload_n 3, 1) := by decide +kernel
theorem dX0_mostHands_33 : decode cX0_mostHands 33 = .ok (.ireturn, 1) := by decide +kernel
theorem dX1_init_0 : decode cX1_init 0 = .ok (.aload_n 0, 1) := by decide +kernel
theorem dX1_init_1 : decode cX1_init 1 = .ok (.invokespecial 3, 3) := by decide +kernel
theorem dX1_init_4 : decode cX1_init 4 = .ok (.aload_n 0, 1) := by decide +kernel
theorem dX1_init_5 : decode cX1_init 5 = .ok (.iconst (-1), 1) := by decide +kernel
theorem dX1_init_6 : decode cX1_init 6 = .ok (.putfield 9, 3) := by decide +kernel
theorem dX1_init_9 : decode cX1_init 9 = .ok (.aload_n 0, 1) := by decide +kernel
theorem dX1_init_10 : decode cX1_init 10 = .ok (.bipush 20, 2) := by decide +kernel
theorem dX1_init_12 : decode cX1_init 12 = .ok (.putfield 15, 3) := by decide +kernel
theorem dX1_init_15 : decode cX1_init 15 = .ok (.aload_n 0, 1) := by decide +kernel
theorem dX1_init_16 : decode cX1_init 16 = .ok (.bipush 25, 2) := by decide +kernel
theorem dX1_init_18 : decode cX1_init 18 = .ok (.putfield 18, 3) := by decide +kernel
theorem dX1_init_21 : decode cX1_init 21 = .ok (.aload_n 0, 1) := by decide +kernel
theorem dX1_init_22 : decode cX1_init 22 = .ok (.bipush 30, 2) := by decide +kernel
theorem dX1_init_24 : decode cX1_init 24 = .ok (.putfield 21, 3) := by decide +kernel
theorem dX1_init_27 : decode cX1_init 27 = .ok (.aload_n 0, 1) := by decide +kernel
theorem dX1_init_28 : decode cX1_init 28 = .ok (.bipush 20, 2) := by decide +kernel
theorem dX1_init_30 : decode cX1_init 30 = .ok (.newarray .int, 2) := by decide +kernel
theorem dX1_init_32 : decode cX1_init 32 = .ok (.putfield 24, 3) := by decide +kernel
theorem dX1_init_35 : decode cX1_init 35 = .ok (.aload_n 0, 1) := by decide +kernel
theorem dX1_init_36 : decode cX1_init 36 = .ok (.bipush 20, 2) := by decide +kernel
theorem dX1_init_38 : decode cX1_init 38 = .ok (.newarray .int, 2) := by decide +kernel
theorem dX1_init_40 : decode cX1_init 40 = .ok (.putfield 28, 3) := by decide +kernel
theorem dX1_init_43 : decode cX1_init 43 = .ok (.aload_n 0, 1) := by decide +kernel
theorem dX1_init_44 : decode cX1_init 44 = .ok (.bipush 20, 2) := by decide +kernel
theorem dX1_init_46 : decode cX1_init 46 = .ok (.newarray .int, 2) := by decide +kernel
theorem dX1_init_48 : decode cX1_init 48 = .ok (.putfield 31, 3) := by decide +kernel
theorem dX1_init_51 : decode cX1_init 51 = .ok (.aload_n 0, 1) := by decide +kernel
theorem dX1_init_52 : decode cX1_init 52 = .ok (.bipush 20, 2) := by decide +kernel
theorem dX1_init_54 : decode cX1_init 54 = .ok (.newarray .int, 2) := by decide +kernel
theorem dX1_init_56 : decode cX1_init 56 = .ok (.putfield 34, 3) := by decide +kernel
theorem dX1_init_59 : decode cX1_init 59 = .ok (.aload_n 0, 1) := by decide +kernel
theorem dX1_init_60 : decode cX1_init 60 = .ok (.bipush 120, 2) := by decide +kernel
theorem dX1_init_62 : decode cX1_init 62 = .ok (.newarray .int, 2) := by decide +kernel
theorem dX1_init_64 : decode cX1_init 64 = .ok (.putfield 37, 3) := by decide +kernel
theorem dX1_init_67 : decode cX1_init 67 = .ok (.return_, 1) := by decide +kernel
theorem dX1_empty_0 : decode cX1_empty 0 = .ok (.aload_n 0, 1) := by decide +kernel
theorem dX1_empty_1 : decode cX1_empty 1 = .ok (.bipush 20, 2) := by decide +kernel
theorem dX1_empty_3 : decode cX1_empty 3 = .ok (.putfield 15, 3) := by decide +kernel
theorem dX1_empty_6 : decode cX1_empty 6 = .ok (.aload_n 0, 1) := by decide +kernel
theorem dX1_empty_7 : decode cX1_empty 7 = .ok (.bipush 25, 2) := by decide +kernel
theorem dX1_empty_9 : decode cX1_empty 9 = .ok (.putfield 18, 3) := by decide +kernel
theorem dX1_empty_12 : decode cX1_empty 12 = .ok (.aload_n 0, 1) := by decide +kernel
theorem dX1_empty_13 : decode cX1_empty 13 = .ok (.bipush 30, 2) := by decide +kernel
theorem dX1_empty_15 : decode cX1_empty 15 = .ok (.putfield 21, 3) := by decide +kernel
theorem dX1_empty_18 : decode cX1_empty 18 = .ok (.aload_n 0, 1) := by decide +kernel
theorem dX1_empty_19 : decode cX1_empty 19 = .ok (.iconst 0, 1) := by decide +kernel
theorem dX1_empty_20 : decode cX1_empty 20 = .ok (.putfield 40, 3) := by decide +kernel
theorem dX1_empty_23 : decode cX1_empty 23 = .ok (.aload_n 0, 1) := by decide +kernel
theorem dX1_empty_24 : decode cX1_empty 24 = .ok (.iconst 0, 1) := by decide +kernel
theorem dX1_empty_25 : decode cX1_empty 25 = .ok (.putfield 44, 3) := by decide +kernel
theorem dX1_empty_28 : decode cX1_empty 28 = .ok (.aload_n 0, 1) := by decide +kernel
theorem dX1_empty_29 : decode cX1_empty 29 = .ok (.iconst 0, 1) := by decide +kernel
theorem dX1_empty_30 : decode cX1_empty 30 = .ok (.putfield 47, 3) := by decide +kernel
theorem dX1_empty_33 : decode cX1_empty 33 = .ok (.return_, 1) := by decide +kernel
theorem dX1_addLine_0 : decode cX1_addLine 0 = .ok (.aload_n 0, 1) := by decide +kernel
theorem dX1_addLine_1 : decode cX1_addLine 1 = .ok (.getfield 44, 3) := by decide +kernel
theorem dX1_addLine_4 : decode cX1_addLine 4 = .ok (.bipush 20, 2) := by decide +kernel
theorem dX1_addLine_6 : decode cX1_addLine 6 = .ok (.if_icmp .ge 59, 3) := by decide +kernel
theorem dX1_addLine_9 : decode cX1_addLine 9 = .ok (.aload_n 0, 1) := by decide +kernel
theorem dX1_addLine_10 : decode cX1_addLine 10 = .ok (.getfield 24, 3) := by decide +kernel
theorem dX1_addLine_13 : decode cX1_addLine 13 = .ok (.aload_n 0, 1) := by decide +kernel
theorem dX1_addLine_14 : decode cX1_addLine 14 = .ok (.getfield 44, 3) := by decide +kernel
theorem dX1_addLine_17 : decode cX1_addLine 17 = .ok (.iload_n 1, 1) := by decide +kernel
theorem dX1_addLine_18 : decode cX1_addLine 18 = .ok (.iastore, 1) := by decide +kernel
theorem dX1_addLine_19 : decode cX1_addLine 19 = .ok (.aload_n 0, 1) := by decide +kernel
theorem dX1_addLine_20 : decode cX1_addLine 20 = .ok (.getfield 28, 3) := by decide +kernel
theorem dX1_addLine_23 : decode cX1_addLine 23 = .ok (.aload_n 0, 1) := by decide +kernel
theorem dX1_addLine_24 : decode cX1_addLine 24 = .ok (.getfield 44, 3) := by decide +kernel
theorem dX1_addLine_27 : decode cX1_addLine 27 = .ok (.iconst 0, 1) := by decide +kernel
theorem dX1_addLine_28 : decode cX1_addLine 28 = .ok (.iastore, 1) := by decide +kernel
theorem dX1_addLine_29 : decode cX1_addLine 29 = .ok (.aload_n 0, 1) := by decide +kernel
theorem dX1_addLine_30 : decode cX1_addLine 30 = .ok (.getfield 31, 3) := by decide +kernel
theorem dX1_addLine_33 : decode cX1_addLine 33 = .ok (.aload_n 0, 1) := by decide +kernel
theorem dX1_addLine_34 : decode cX1_addLine 34 = .ok (.getfield 44, 3) := by decide +kernel
theorem dX1_addLine_37 : decode cX1_addLine 37 = .ok (.aload_n 0, 1) := by decide +kernel
theorem dX1_addLine_38 : decode cX1_addLine 38 = .ok (.getfield 47, 3) := by decide +kernel
theorem dX1_addLine_41 : decode cX1_addLine 41 = .ok (.iastore, 1) := by decide +kernel
theorem dX1_addLine_42 : decode cX1_addLine 42 = .ok (.aload_n 0, 1) := by decide +kernel
theorem dX1_addLine_43 : decode cX1_addLine 43 = .ok (.getfield 34, 3) := by decide +kernel
theorem dX1_addLine_46 : decode cX1_addLine 46 = .ok (.aload_n 0, 1) := by decide +kernel
theorem dX1_addLine_47 : decode cX1_addLine 47 = .ok (.getfield 44, 3) := by decide +kernel
theorem dX1_addLine_50 : decode cX1_addLine 50 = .ok (.aload_n 0, 1) := by decide +kernel
theorem dX1_addLine_51 : decode cX1_addLine 51 = .ok (.getfield 47, 3) := by decide +kernel
theorem dX1_addLine_54 : decode cX1_addLine 54 = .ok (.iastore, 1) := by decide +kernel
theorem dX1_addLine_55 : decode cX1_addLine 55 = .ok (.aload_n 0, 1) := by decide +kernel
theorem dX1_addLine_56 : decode cX1_addLine 56 = .ok (.dup, 1) := by decide +kernel
theorem dX1_addLine_57 : decode cX1_addLine 57 = .ok (.getfield 44, 3) := by decide +kernel
theorem dX1_addLine_60 : decode cX1_addLine 60 = .ok (.iconst 1, 1) := by decide +kernel
theorem dX1_addLine_61 : decode cX1_addLine 61 = .ok (.iadd, 1) := by decide +kernel
theorem dX1_addLine_62 : decode cX1_addLine 62 = .ok (.putfield 44, 3) := by decide +kernel
theorem dX1_addLine_65 : decode cX1_addLine 65 = .ok (.return_, 1) := by decide +kernel
theorem dX1_setNumber_0 : decode cX1_setNumber 0 = .ok (.aload_n 0, 1) := by decide +kernel
theorem dX1_setNumber_1 : decode cX1_setNumber 1 = .ok (.getfield 44, 3) := by decide +kernel
theorem dX1_setNumber_4 : decode cX1_setNumber 4 = .ok (.ifCond .le 15, 3) := by decide +kernel
theorem dX1_setNumber_7 : decode cX1_setNumber 7 = .ok (.aload_n 0, 1) := by decide +kernel
theorem dX1_setNumber_8 : decode cX1_setNumber 8 = .ok (.getfield 28, 3) := by decide +kernel
theorem dX1_setNumber_11 : decode cX1_setNumber 11 = .ok (.aload_n 0, 1) := by decide +kernel
theorem dX1_setNumber_12 : decode cX1_setNumber 12 = .ok (.getfield 44, 3) := by decide +kernel
theorem dX1_setNumber_15 : decode cX1_setNumber 15 = .ok (.iconst 1, 1) := by decide +kernel
theorem dX1_setNumber_16 : decode cX1_setNumber 16 = .ok (.isub, 1) := by decide +kernel
theorem dX1_setNumber_17 : decode cX1_setNumber 17 = .ok (.iload_n 1, 1) := by decide +kernel
theorem dX1_setNumber_18 : decode cX1_setNumber 18 = .ok (.iastore, 1) := by decide +kernel
theorem dX1_setNumber_19 : decode cX1_setNumber 19 = .ok (.return_, 1) := by decide +kernel
theorem dX1_addStep_0 : decode cX1_addStep 0 = .ok (.aload_n 0, 1) := by decide +kernel
theorem dX1_addStep_1 : decode cX1_addStep 1 = .ok (.getfield 47, 3) := by decide +kernel
theorem dX1_addStep_4 : decode cX1_addStep 4 = .ok (.aload_n 0, 1) := by decide +kernel
theorem dX1_addStep_5 : decode cX1_addStep 5 = .ok (.getfield 37, 3) := by decide +kernel
theorem dX1_addStep_8 : decode cX1_addStep 8 = .ok (.arraylength, 1) := by decide +kernel
theorem dX1_addStep_9 : decode cX1_addStep 9 = .ok (.if_icmp .ge 74, 3) := by decide +kernel
theorem dX1_addStep_12 : decode cX1_addStep 12 = .ok (.aload_n 0, 1) := by decide +kernel
theorem dX1_addStep_13 : decode cX1_addStep 13 = .ok (.getfield 44, 3) := by decide +kernel
theorem dX1_addStep_16 : decode cX1_addStep 16 = .ok (.ifCond .le 67, 3) := by decide +kernel
theorem dX1_addStep_19 : decode cX1_addStep 19 = .ok (.aload_n 0, 1) := by decide +kernel
theorem dX1_addStep_20 : decode cX1_addStep 20 = .ok (.getfield 37, 3) := by decide +kernel
theorem dX1_addStep_23 : decode cX1_addStep 23 = .ok (.aload_n 0, 1) := by decide +kernel
theorem dX1_addStep_24 : decode cX1_addStep 24 = .ok (.getfield 47, 3) := by decide +kernel
theorem dX1_addStep_27 : decode cX1_addStep 27 = .ok (.iload_n 1, 1) := by decide +kernel
theorem dX1_addStep_28 : decode cX1_addStep 28 = .ok (.iastore, 1) := by decide +kernel
theorem dX1_addStep_29 : decode cX1_addStep 29 = .ok (.aload_n 0, 1) := by decide +kernel
theorem dX1_addStep_30 : decode cX1_addStep 30 = .ok (.dup, 1) := by decide +kernel
theorem dX1_addStep_31 : decode cX1_addStep 31 = .ok (.getfield 47, 3) := by decide +kernel
theorem dX1_addStep_34 : decode cX1_addStep 34 = .ok (.iconst 1, 1) := by decide +kernel
theorem dX1_addStep_35 : decode cX1_addStep 35 = .ok (.iadd, 1) := by decide +kernel
theorem dX1_addStep_36 : decode cX1_addStep 36 = .ok (.putfield 47, 3) := by decide +kernel
theorem dX1_addStep_39 : decode cX1_addStep 39 = .ok (.aload_n 0, 1) := by decide +kernel
theorem dX1_addStep_40 : decode cX1_addStep 40 = .ok (.getfield 34, 3) := by decide +kernel
theorem dX1_addStep_43 : decode cX1_addStep 43 = .ok (.aload_n 0, 1) := by decide +kernel
theorem dX1_addStep_44 : decode cX1_addStep 44 = .ok (.getfield 44, 3) := by decide +kernel
theorem dX1_addStep_47 : decode cX1_addStep 47 = .ok (.iconst 1, 1) := by decide +kernel
theorem dX1_addStep_48 : decode cX1_addStep 48 = .ok (.isub, 1) := by decide +kernel
theorem dX1_addStep_49 : decode cX1_addStep 49 = .ok (.aload_n 0, 1) := by decide +kernel
theorem dX1_addStep_50 : decode cX1_addStep 50 = .ok (.getfield 47, 3) := by decide +kernel
theorem dX1_addStep_53 : decode cX1_addStep 53 = .ok (.iastore, 1) := by decide +kernel
theorem dX1_addStep_54 : decode cX1_addStep 54 = .ok (.aload_n 0, 1) := by decide +kernel
theorem dX1_addStep_55 : decode cX1_addStep 55 = .ok (.aload_n 0, 1) := by decide +kernel
theorem dX1_addStep_56 : decode cX1_addStep 56 = .ok (.getfield 40, 3) := by decide +kernel
theorem dX1_addStep_59 : decode cX1_addStep 59 = .ok (.ifCond .ne 16, 3) := by decide +kernel
theorem dX1_addStep_62 : decode cX1_addStep 62 = .ok (.iload_n 1, 1) := by decide +kernel
theorem dX1_addStep_63 : decode cX1_addStep 63 = .ok (.ifCond .lt 16, 3) := by decide +kernel
theorem dX1_addStep_66 : decode cX1_addStep 66 = .ok (.iload_n 1, 1) := by decide +kernel
theorem dX1_addStep_67 : decode cX1_addStep 67 = .ok (.bipush 15, 2) := by decide +kernel
theorem dX1_addStep_69 : decode cX1_addStep 69 = .ok (.iand, 1) := by decide +kernel
theorem dX1_addStep_70 : decode cX1_addStep 70 = .ok (.bipush 9, 2) := by decide +kernel
theorem dX1_addStep_72 : decode cX1_addStep 72 = .ok (.if_icmp .ne 7, 3) := by decide +kernel
theorem dX1_addStep_75 : decode cX1_addStep 75 = .ok (.iconst 1, 1) := by decide +kernel
theorem dX1_addStep_76 : decode cX1_addStep 76 = .ok (.goto 4, 3) := by decide +kernel
theorem dX1_addStep_79 : decode cX1_addStep 79 = .ok (.iconst 0, 1) := by decide +kernel
theorem dX1_addStep_80 : decode cX1_addStep 80 = .ok (.putfield 40, 3) := by decide +kernel
theorem dX1_addStep_83 : decode cX1_addStep 83 = .ok (.return_, 1) := by decide +kernel
theorem dX1_question_0 : decode cX1_question 0 = .ok (.iload_n 2, 1) := by decide +kernel
theorem dX1_question_1 : decode cX1_question 1 = .ok (.bipush 12, 2) := by decide +kernel
theorem dX1_question_3 : decode cX1_question 3 = .ok (.ishl, 1) := by decide +kernel
theorem dX1_question_4 : decode cX1_question 4 = .ok (.iload_n 1, 1) := by decide +kernel
theorem dX1_question_5 : decode cX1_question 5 = .ok (.iconst 4, 1) := by decide +kernel
theorem dX1_question_6 : decode cX1_question 6 = .ok (.ishl, 1) := by decide +kernel
theorem dX1_question_7 : decode cX1_question 7 = .ok (.ior, 1) := by decide +kernel
theorem dX1_question_8 : decode cX1_question 8 = .ok (.iload_n 0, 1) := by decide +kernel
theorem dX1_question_9 : decode cX1_question 9 = .ok (.ior, 1) := by decide +kernel
theorem dX1_question_10 : decode cX1_question 10 = .ok (.ireturn, 1) := by decide +kernel
theorem dX1_hasLine_0 : decode cX1_hasLine 0 = .ok (.iconst 0, 1) := by decide +kernel
theorem dX1_hasLine_1 : decode cX1_hasLine 1 = .ok (.istore_n 2, 1) := by decide +kernel
theorem dX1_hasLine_2 : decode cX1_hasLine 2 = .ok (.iload_n 2, 1) := by decide +kernel
theorem dX1_hasLine_3 : decode cX1_hasLine 3 = .ok (.aload_n 0, 1) := by decide +kernel
theorem dX1_hasLine_4 : decode cX1_hasLine 4 = .ok (.getfield 44, 3) := by decide +kernel
theorem dX1_hasLine_7 : decode cX1_hasLine 7 = .ok (.if_icmp .ge 21, 3) := by decide +kernel
theorem dX1_hasLine_10 : decode cX1_hasLine 10 = .ok (.aload_n 0, 1) := by decide +kernel
theorem dX1_hasLine_11 : decode cX1_hasLine 11 = .ok (.getfield 24, 3) := by decide +kernel
theorem dX1_hasLine_14 : decode cX1_hasLine 14 = .ok (.iload_n 2, 1) := by decide +kernel
theorem dX1_hasLine_15 : decode cX1_hasLine 15 = .ok (.iaload, 1) := by decide +kernel
theorem dX1_hasLine_16 : decode cX1_hasLine 16 = .ok (.iload_n 1, 1) := by decide +kernel
theorem dX1_hasLine_17 : decode cX1_hasLine 17 = .ok (.if_icmp .ne 5, 3) := by decide +kernel
theorem dX1_hasLine_20 : decode cX1_hasLine 20 = .ok (.iconst 1, 1) := by decide +kernel
theorem dX1_hasLine_21 : decode cX1_hasLine 21 = .ok (.ireturn, 1) := by decide +kernel
theorem dX1_hasLine_22 : decode cX1_hasLine 22 = .ok (.iinc 2 1, 3) := by decide +kernel
theorem dX1_hasLine_25 : decode cX1_hasLine 25 = .ok (.goto (-23), 3) := by decide +kernel
theorem dX1_hasLine_28 : decode cX1_hasLine 28 = .ok (.iconst 0, 1) := by decide +kernel
theorem dX1_hasLine_29 : decode cX1_hasLine 29 = .ok (.ireturn, 1) := by decide +kernel
theorem dX1_lineFor_0 : decode cX1_lineFor 0 = .ok (.iconst 0, 1) := by decide +kernel
theorem dX1_lineFor_1 : decode cX1_lineFor 1 = .ok (.istore 4, 2) := by decide +kernel
theorem dX1_lineFor_3 : decode cX1_lineFor 3 = .ok (.iload 4, 2) := by decide +kernel
theorem dX1_lineFor_5 : decode cX1_lineFor 5 = .ok (.aload_n 0, 1) := by decide +kernel
theorem dX1_lineFor_6 : decode cX1_lineFor 6 = .ok (.getfield 44, 3) := by decide +kernel
theorem dX1_lineFor_9 : decode cX1_lineFor 9 = .ok (.if_icmp .ge 34, 3) := by decide +kernel
theorem dX1_lineFor_12 : decode cX1_lineFor 12 = .ok (.aload_n 0, 1) := by decide +kernel
theorem dX1_lineFor_13 : decode cX1_lineFor 13 = .ok (.getfield 24, 3) := by decide +kernel
theorem dX1_lineFor_16 : decode cX1_lineFor 16 = .ok (.iload 4, 2) := by decide +kernel
theorem dX1_lineFor_18 : decode cX1_lineFor 18 = .ok (.iaload, 1) := by decide +kernel
theorem dX1_lineFor_19 : decode cX1_lineFor 19 = .ok (.iload_n 1, 1) := by decide +kernel
theorem dX1_lineFor_20 : decode cX1_lineFor 20 = .ok (.if_icmp .ne 17, 3) := by decide +kernel
theorem dX1_lineFor_23 : decode cX1_lineFor 23 = .ok (.aload_n 0, 1) := by decide +kernel
theorem dX1_lineFor_24 : decode cX1_lineFor 24 = .ok (.iload 4, 2) := by decide +kernel
theorem dX1_lineFor_26 : decode cX1_lineFor 26 = .ok (.aload_n 2, 1) := by decide +kernel
theorem dX1_lineFor_27 : decode cX1_lineFor 27 = .ok (.iload_n 3, 1) := by decide +kernel
theorem dX1_lineFor_28 : decode cX1_lineFor 28 = .ok (.invokevirtual 50, 3) := by decide +kernel
theorem dX1_lineFor_31 : decode cX1_lineFor 31 = .ok (.ifCond .eq 6, 3) := by decide +kernel
theorem dX1_lineFor_34 : decode cX1_lineFor 34 = .ok (.iload 4, 2) := by decide +kernel
theorem dX1_lineFor_36 : decode cX1_lineFor 36 = .ok (.ireturn, 1) := by decide +kernel
theorem dX1_lineFor_37 : decode cX1_lineFor 37 = .ok (.iinc 4 1, 3) := by decide +kernel
theorem dX1_lineFor_40 : decode cX1_lineFor 40 = .ok (.goto (-37), 3) := by decide +kernel
theorem dX1_lineFor_43 : decode cX1_lineFor 43 = .ok (.iconst (-1), 1) := by decide +kernel
theorem dX1_lineFor_44 : decode cX1_lineFor 44 = .ok (.ireturn, 1) := by decide +kernel
theorem dX1_numberOf_0 : decode cX1_numberOf 0 = .ok (.iload_n 1, 1) := by decide +kernel
theorem dX1_numberOf_1 : decode cX1_numberOf 1 = .ok (.ifCond .lt 11, 3) := by decide +kernel
theorem dX1_numberOf_4 : decode cX1_numberOf 4 = .ok (.iload_n 1, 1) := by decide +kernel
theorem dX1_numberOf_5 : decode cX1_numberOf 5 = .ok (.aload_n 0, 1) := by decide +kernel
theorem dX1_numberOf_6 : decode cX1_numberOf 6 = .ok (.getfield 44, 3) := by decide +kernel
theorem dX1_numberOf_9 : decode cX1_numberOf 9 = .ok (.if_icmp .lt 7, 3) := by decide +kernel
theorem dX1_numberOf_12 : decode cX1_numberOf 12 = .ok (.iload_n 2, 1) := by decide +kernel
theorem dX1_numberOf_13 : decode cX1_numberOf 13 = .ok (.goto 9, 3) := by decide +kernel
theorem dX1_numberOf_16 : decode cX1_numberOf 16 = .ok (.aload_n 0, 1) := by decide +kernel
theorem dX1_numberOf_17 : decode cX1_numberOf 17 = .ok (.getfield 28, 3) := by decide +kernel
theorem dX1_numberOf_20 : decode cX1_numberOf 20 = .ok (.iload_n 1, 1) := by decide +kernel
theorem dX1_numberOf_21 : decode cX1_numberOf 21 = .ok (.iaload, 1) := by decide +kernel
theorem dX1_numberOf_22 : decode cX1_numberOf 22 = .ok (.ireturn, 1) := by decide +kernel
theorem dX1_holds_0 : decode cX1_holds 0 = .ok (.lconst 0, 1) := by decide +kernel
theorem dX1_holds_1 : decode cX1_holds 1 = .ok (.lstore 4, 2) := by decide +kernel
theorem dX1_holds_3 : decode cX1_holds 3 = .ok (.aload_n 0, 1) := by decide +kernel
theorem dX1_holds_4 : decode cX1_holds 4 = .ok (.getfield 31, 3) := by decide +kernel
theorem dX1_holds_7 : decode cX1_holds 7 = .ok (.iload_n 1, 1) := by decide +kernel
theorem dX1_holds_8 : decode cX1_holds 8 = .ok (.iaload, 1) := by decide +kernel
theorem dX1_holds_9 : decode cX1_holds 9 = .ok (.istore 6, 2) := by decide +kernel
theorem dX1_holds_11 : decode cX1_holds 11 = .ok (.iload 6, 2) := by decide +kernel
theorem dX1_holds_13 : decode cX1_holds 13 = .ok (.aload_n 0, 1) := by decide +kernel
theorem dX1_holds_14 : decode cX1_holds 14 = .ok (.getfield 34, 3) := by decide +kernel
theorem dX1_holds_17 : decode cX1_holds 17 = .ok (.iload_n 1, 1) := by decide +kernel
theorem dX1_holds_18 : decode cX1_holds 18 = .ok (.iaload, 1) := by decide +kernel
theorem dX1_holds_19 : decode cX1_holds 19 = .ok (.if_icmp .ge 104, 3) := by decide +kernel
theorem dX1_holds_22 : decode cX1_holds 22 = .ok (.aload_n 0, 1) := by decide +kernel
theorem dX1_holds_23 : decode cX1_holds 23 = .ok (.getfield 37, 3) := by decide +kernel
theorem dX1_holds_26 : decode cX1_holds 26 = .ok (.iload 6, 2) := by decide +kernel
theorem dX1_holds_28 : decode cX1_holds 28 = .ok (.iaload, 1) := by decide +kernel
theorem dX1_holds_29 : decode cX1_holds 29 = .ok (.istore 7, 2) := by decide +kernel
theorem dX1_holds_31 : decode cX1_holds 31 = .ok (.lload 4, 2) := by decide +kernel
theorem dX1_holds_33 : decode cX1_holds 33 = .ok (.lconst 1, 1) := by decide +kernel
theorem dX1_holds_34 : decode cX1_holds 34 = .ok (.land, 1) := by decide +kernel
theorem dX1_holds_35 : decode cX1_holds 35 = .ok (.lstore 8, 2) := by decide +kernel
theorem dX1_holds_37 : decode cX1_holds 37 = .ok (.iload 7, 2) := by decide +kernel
theorem dX1_holds_39 : decode cX1_holds 39 = .ok (.bipush (-3), 2) := by decide +kernel
theorem dX1_holds_41 : decode cX1_holds 41 = .ok (.if_icmp .ne 12, 3) := by decide +kernel
theorem dX1_holds_44 : decode cX1_holds 44 = .ok (.lload 4, 2) := by decide +kernel
theorem dX1_holds_46 : decode cX1_holds 46 = .ok (.lconst 1, 1) := by decide +kernel
theorem dX1_holds_47 : decode cX1_holds 47 = .ok (.lxor, 1) := by decide +kernel
theorem dX1_holds_48 : decode cX1_holds 48 = .ok (.lstore 4, 2) := by decide +kernel
theorem dX1_holds_50 : decode cX1_holds 50 = .ok (.goto 67, 3) := by decide +kernel
theorem dX1_holds_53 : decode cX1_holds 53 = .ok (.iload 7, 2) := by decide +kernel
theorem dX1_holds_55 : decode cX1_holds 55 = .ok (.iconst (-1), 1) := by decide +kernel
theorem dX1_holds_56 : decode cX1_holds 56 = .ok (.if_icmp .ne 19, 3) := by decide +kernel
theorem dX1_holds_59 : decode cX1_holds 59 = .ok (.lload 4, 2) := by decide +kernel
theorem dX1_holds_61 : decode cX1_holds 61 = .ok (.iconst 1, 1) := by decide +kernel
theorem dX1_holds_62 : decode cX1_holds 62 = .ok (.lshr, 1) := by decide +kernel
theorem dX1_holds_63 : decode cX1_holds 63 = .ok (.lload 8, 2) := by decide +kernel
theorem dX1_holds_65 : decode cX1_holds 65 = .ok (.ldc2_w 54, 3) := by decide +kernel
theorem dX1_holds_68 : decode cX1_holds 68 = .ok (.lor, 1) := by decide +kernel
theorem dX1_holds_69 : decode cX1_holds 69 = .ok (.land, 1) := by decide +kernel
theorem dX1_holds_70 : decode cX1_holds 70 = .ok (.lstore 4, 2) := by decide +kernel
theorem dX1_holds_72 : decode cX1_holds 72 = .ok (.goto 45, 3) := by decide +kernel
theorem dX1_holds_75 : decode cX1_holds 75 = .ok (.iload 7, 2) := by decide +kernel
theorem dX1_holds_77 : decode cX1_holds 77 = .ok (.bipush (-2), 2) := by decide +kernel
theorem dX1_holds_79 : decode cX1_holds 79 = .ok (.if_icmp .ne 15, 3) := by decide +kernel
theorem dX1_holds_82 : decode cX1_holds 82 = .ok (.lload 4, 2) := by decide +kernel
theorem dX1_holds_84 : decode cX1_holds 84 = .ok (.iconst 1, 1) := by decide +kernel
theorem dX1_holds_85 : decode cX1_holds 85 = .ok (.lshr, 1) := by decide +kernel
theorem dX1_holds_86 : decode cX1_holds 86 = .ok (.lload 8, 2) := by decide +kernel
theorem dX1_holds_88 : decode cX1_holds 88 = .ok (.lor, 1) := by decide +kernel
theorem dX1_holds_89 : decode cX1_holds 89 = .ok (.lstore 4, 2) := by decide +kernel
theorem dX1_holds_91 : decode cX1_holds 91 = .ok (.goto 26, 3) := by decide +kernel
theorem dX1_holds_94 : decode cX1_holds 94 = .ok (.lload 4, 2) := by decide +kernel
theorem dX1_holds_96 : decode cX1_holds 96 = .ok (.iconst 1, 1) := by decide +kernel
theorem dX1_holds_97 : decode cX1_holds 97 = .ok (.lshl, 1) := by decide +kernel
theorem dX1_holds_98 : decode cX1_holds 98 = .ok (.iload 7, 2) := by decide +kernel
theorem dX1_holds_100 : decode cX1_holds 100 = .ok (.aload_n 2, 1) := by decide +kernel
theorem dX1_holds_101 : decode cX1_holds 101 = .ok (.iload_n 3, 1) := by decide +kernel
theorem dX1_holds_102 : decode cX1_holds 102 = .ok (.invokestatic 56, 3) := by decide +kernel
theorem dX1_holds_105 : decode cX1_holds 105 = .ok (.ifCond .eq 7, 3) := by decide +kernel
theorem dX1_holds_108 : decode cX1_holds 108 = .ok (.iconst 1, 1) := by decide +kernel
theorem dX1_holds_109 : decode cX1_holds 109 = .ok (.goto 4, 3) := by decide +kernel
theorem dX1_holds_112 : decode cX1_holds 112 = .ok (.iconst 0, 1) := by decide +kernel
theorem dX1_holds_113 : decode cX1_holds 113 = .ok (.i2l, 1) := by decide +kernel
theorem dX1_holds_114 : decode cX1_holds 114 = .ok (.lor, 1) := by decide +kernel
theorem dX1_holds_115 : decode cX1_holds 115 = .ok (.lstore 4, 2) := by decide +kernel
theorem dX1_holds_117 : decode cX1_holds 117 = .ok (.iinc 6 1, 3) := by decide +kernel
theorem dX1_holds_120 : decode cX1_holds 120 = .ok (.goto (-109), 3) := by decide +kernel
theorem dX1_holds_123 : decode cX1_holds 123 = .ok (.aload_n 0, 1) := by decide +kernel
theorem dX1_holds_124 : decode cX1_holds 124 = .ok (.getfield 31, 3) := by decide +kernel
theorem dX1_holds_127 : decode cX1_holds 127 = .ok (.iload_n 1, 1) := by decide +kernel
theorem dX1_holds_128 : decode cX1_holds 128 = .ok (.iaload, 1) := by decide +kernel
theorem dX1_holds_129 : decode cX1_holds 129 = .ok (.aload_n 0, 1) := by decide +kernel
theorem dX1_holds_130 : decode cX1_holds 130 = .ok (.getfield 34, 3) := by decide +kernel
theorem dX1_holds_133 : decode cX1_holds 133 = .ok (.iload_n 1, 1) := by decide +kernel
theorem dX1_holds_134 : decode cX1_holds 134 = .ok (.iaload, 1) := by decide +kernel
theorem dX1_holds_135 : decode cX1_holds 135 = .ok (.if_icmp .eq 12, 3) := by decide +kernel
theorem dX1_holds_138 : decode cX1_holds 138 = .ok (.lload 4, 2) := by decide +kernel
theorem dX1_holds_140 : decode cX1_holds 140 = .ok (.lconst 1, 1) := by decide +kernel
theorem dX1_holds_141 : decode cX1_holds 141 = .ok (.land, 1) := by decide +kernel
theorem dX1_holds_142 : decode cX1_holds 142 = .ok (.lconst 1, 1) := by decide +kernel
theorem dX1_holds_143 : decode cX1_holds 143 = .ok (.lcmp, 1) := by decide +kernel
theorem dX1_holds_144 : decode cX1_holds 144 = .ok (.ifCond .ne 7, 3) := by decide +kernel
theorem dX1_holds_147 : decode cX1_holds 147 = .ok (.iconst 1, 1) := by decide +kernel
theorem dX1_holds_148 : decode cX1_holds 148 = .ok (.goto 4, 3) := by decide +kernel
theorem dX1_holds_151 : decode cX1_holds 151 = .ok (.iconst 0, 1) := by decide +kernel
theorem dX1_holds_152 : decode cX1_holds 152 = .ok (.ireturn, 1) := by decide +kernel
theorem dX1_answers_0 : decode cX1_answers 0 = .ok (.iload_n 2, 1) := by decide +kernel
theorem dX1_answers_1 : decode cX1_answers 1 = .ok (.iload_n 0, 1) := by decide +kernel
theorem dX1_answers_2 : decode cX1_answers 2 = .ok (.bipush 15, 2) := by decide +kernel
theorem dX1_answers_4 : decode cX1_answers 4 = .ok (.iand, 1) := by decide +kernel
theorem dX1_answers_5 : decode cX1_answers 5 = .ok (.iadd, 1) := by decide +kernel
theorem dX1_answers_6 : decode cX1_answers 6 = .ok (.istore_n 3, 1) := by decide +kernel
theorem dX1_answers_7 : decode cX1_answers 7 = .ok (.iload_n 3, 1) := by decide +kernel
theorem dX1_answers_8 : decode cX1_answers 8 = .ok (.ifCond .lt 9, 3) := by decide +kernel
theorem dX1_answers_11 : decode cX1_answers 11 = .ok (.iload_n 3, 1) := by decide +kernel
theorem dX1_answers_12 : decode cX1_answers 12 = .ok (.aload_n 1, 1) := by decide +kernel
theorem dX1_answers_13 : decode cX1_answers 13 = .ok (.arraylength, 1) := by decide +kernel
theorem dX1_answers_14 : decode cX1_answers 14 = .ok (.if_icmp .lt 5, 3) := by decide +kernel
theorem dX1_answers_17 : decode cX1_answers 17 = .ok (.iconst 0, 1) := by decide +kernel
theorem dX1_answers_18 : decode cX1_answers 18 = .ok (.ireturn, 1) := by decide +kernel
theorem dX1_answers_19 : decode cX1_answers 19 = .ok (.iload_n 0, 1) := by decide +kernel
theorem dX1_answers_20 : decode cX1_answers 20 = .ok (.bipush 12, 2) := by decide +kernel
theorem dX1_answers_22 : decode cX1_answers 22 = .ok (.ishr, 1) := by decide +kernel
theorem dX1_answers_23 : decode cX1_answers 23 = .ok (.istore 4, 2) := by decide +kernel
theorem dX1_answers_25 : decode cX1_answers 25 = .ok (.iload_n 0, 1) := by decide +kernel
theorem dX1_answers_26 : decode cX1_answers 26 = .ok (.iconst 4, 1) := by decide +kernel
theorem dX1_answers_27 : decode cX1_answers 27 = .ok (.ishr, 1) := by decide +kernel
theorem dX1_answers_28 : decode cX1_answers 28 = .ok (.sipush 255, 3) := by decide +kernel
theorem dX1_answers_31 : decode cX1_answers 31 = .ok (.iand, 1) := by decide +kernel
theorem dX1_answers_32 : decode cX1_answers 32 = .ok (.lookupswitch 56 #[(60, 28), (61, 42)], 28) := by decide +kernel
theorem dX1_answers_60 : decode cX1_answers 60 = .ok (.aload_n 1, 1) := by decide +kernel
theorem dX1_answers_61 : decode cX1_answers 61 = .ok (.iload_n 3, 1) := by decide +kernel
theorem dX1_answers_62 : decode cX1_answers 62 = .ok (.iaload, 1) := by decide +kernel
theorem dX1_answers_63 : decode cX1_answers 63 = .ok (.iload 4, 2) := by decide +kernel
theorem dX1_answers_65 : decode cX1_answers 65 = .ok (.if_icmp .ge 7, 3) := by decide +kernel
theorem dX1_answers_68 : decode cX1_answers 68 = .ok (.iconst 1, 1) := by decide +kernel
theorem dX1_answers_69 : decode cX1_answers 69 = .ok (.goto 4, 3) := by decide +kernel
theorem dX1_answers_72 : decode cX1_answers 72 = .ok (.iconst 0, 1) := by decide +kernel
theorem dX1_answers_73 : decode cX1_answers 73 = .ok (.ireturn, 1) := by decide +kernel
theorem dX1_answers_74 : decode cX1_answers 74 = .ok (.aload_n 1, 1) := by decide +kernel
theorem dX1_answers_75 : decode cX1_answers 75 = .ok (.iload_n 3, 1) := by decide +kernel
theorem dX1_answers_76 : decode cX1_answers 76 = .ok (.iaload, 1) := by decide +kernel
theorem dX1_answers_77 : decode cX1_answers 77 = .ok (.iload 4, 2) := by decide +kernel
theorem dX1_answers_79 : decode cX1_answers 79 = .ok (.if_icmp .ne 7, 3) := by decide +kernel
theorem dX1_answers_82 : decode cX1_answers 82 = .ok (.iconst 1, 1) := by decide +kernel
theorem dX1_answers_83 : decode cX1_answers 83 = .ok (.goto 4, 3) := by decide +kernel
theorem dX1_answers_86 : decode cX1_answers 86 = .ok (.iconst 0, 1) := by decide +kernel
theorem dX1_answers_87 : decode cX1_answers 87 = .ok (.ireturn, 1) := by decide +kernel
theorem dX1_answers_88 : decode cX1_answers 88 = .ok (.aload_n 1, 1) := by decide +kernel
theorem dX1_answers_89 : decode cX1_answers 89 = .ok (.iload_n 3, 1) := by decide +kernel
theorem dX1_answers_90 : decode cX1_answers 90 = .ok (.iaload, 1) := by decide +kernel
theorem dX1_answers_91 : decode cX1_answers 91 = .ok (.iload 4, 2) := by decide +kernel
theorem dX1_answers_93 : decode cX1_answers 93 = .ok (.if_icmp .le 7, 3) := by decide +kernel
theorem dX1_answers_96 : decode cX1_answers 96 = .ok (.iconst 1, 1) := by decide +kernel
theorem dX1_answers_97 : decode cX1_answers 97 = .ok (.goto 4, 3) := by decide +kernel
theorem dX1_answers_100 : decode cX1_answers 100 = .ok (.iconst 0, 1) := by decide +kernel
theorem dX1_answers_101 : decode cX1_answers 101 = .ok (.ireturn, 1) := by decide +kernel
theorem dX2_init_0 : decode cX2_init 0 = .ok (.aload_n 0, 1) := by decide +kernel
theorem dX2_init_1 : decode cX2_init 1 = .ok (.invokespecial 1, 3) := by decide +kernel
theorem dX2_init_4 : decode cX2_init 4 = .ok (.aload_n 0, 1) := by decide +kernel
theorem dX2_init_5 : decode cX2_init 5 = .ok (.iload_n 1, 1) := by decide +kernel
theorem dX2_init_6 : decode cX2_init 6 = .ok (.putfield 7, 3) := by decide +kernel
theorem dX2_init_9 : decode cX2_init 9 = .ok (.aload_n 0, 1) := by decide +kernel
theorem dX2_init_10 : decode cX2_init 10 = .ok (.iload_n 1, 1) := by decide +kernel
theorem dX2_init_11 : decode cX2_init 11 = .ok (.bipush 6, 2) := by decide +kernel
theorem dX2_init_13 : decode cX2_init 13 = .ok (.imul, 1) := by decide +kernel
theorem dX2_init_14 : decode cX2_init 14 = .ok (.newarray .int, 2) := by decide +kernel
theorem dX2_init_16 : decode cX2_init 16 = .ok (.putfield 13, 3) := by decide +kernel
theorem dX2_init_19 : decode cX2_init 19 = .ok (.return_, 1) := by decide +kernel
theorem dX2_add_0 : decode cX2_add 0 = .ok (.aload_n 0, 1) := by decide +kernel
theorem dX2_add_1 : decode cX2_add 1 = .ok (.getfield 17, 3) := by decide +kernel
theorem dX2_add_4 : decode cX2_add 4 = .ok (.aload_n 0, 1) := by decide +kernel
theorem dX2_add_5 : decode cX2_add 5 = .ok (.getfield 7, 3) := by decide +kernel
theorem dX2_add_8 : decode cX2_add 8 = .ok (.if_icmp .lt 5, 3) := by decide +kernel
theorem dX2_add_11 : decode cX2_add 11 = .ok (.iconst 0, 1) := by decide +kernel
theorem dX2_add_12 : decode cX2_add 12 = .ok (.ireturn, 1) := by decide +kernel
theorem dX2_add_13 : decode cX2_add 13 = .ok (.aload_n 0, 1) := by decide +kernel
theorem dX2_add_14 : decode cX2_add 14 = .ok (.getfield 17, 3) := by decide +kernel
theorem dX2_add_17 : decode cX2_add 17 = .ok (.bipush 6, 2) := by decide +kernel
theorem dX2_add_19 : decode cX2_add 19 = .ok (.imul, 1) := by decide +kernel
theorem dX2_add_20 : decode cX2_add 20 = .ok (.istore 7, 2) := by decide +kernel
theorem dX2_add_22 : decode cX2_add 22 = .ok (.aload_n 0, 1) := by decide +kernel
theorem dX2_add_23 : decode cX2_add 23 = .ok (.getfield 13, 3) := by decide +kernel
theorem dX2_add_26 : decode cX2_add 26 = .ok (.iload 7, 2) := by decide +kernel
theorem dX2_add_28 : decode cX2_add 28 = .ok (.iload_n 1, 1) := by decide +kernel
theorem dX2_add_29 : decode cX2_add 29 = .ok (.iastore, 1) := by decide +kernel
theorem dX2_add_30 : decode cX2_add 30 = .ok (.aload_n 0, 1) := by decide +kernel
theorem dX2_add_31 : decode cX2_add 31 = .ok (.getfield 13, 3) := by decide +kernel
theorem dX2_add_34 : decode cX2_add 34 = .ok (.iload 7, 2) := by decide +kernel
theorem dX2_add_36 : decode cX2_add 36 = .ok (.iconst 1, 1) := by decide +kernel
theorem dX2_add_37 : decode cX2_add 37 = .ok (.iadd, 1) := by decide +kernel
theorem dX2_add_38 : decode cX2_add 38 = .ok (.iload_n 2, 1) := by decide +kernel
theorem dX2_add_39 : decode cX2_add 39 = .ok (.iastore, 1) := by decide +kernel
theorem dX2_add_40 : decode cX2_add 40 = .ok (.aload_n 0, 1) := by decide +kernel
theorem dX2_add_41 : decode cX2_add 41 = .ok (.getfield 13, 3) := by decide +kernel
theorem dX2_add_44 : decode cX2_add 44 = .ok (.iload 7, 2) := by decide +kernel
theorem dX2_add_46 : decode cX2_add 46 = .ok (.iconst 2, 1) := by decide +kernel
theorem dX2_add_47 : decode cX2_add 47 = .ok (.iadd, 1) := by decide +kernel
theorem dX2_add_48 : decode cX2_add 48 = .ok (.iload_n 3, 1) := by decide +kernel
theorem dX2_add_49 : decode cX2_add 49 = .ok (.iastore, 1) := by decide +kernel
theorem dX2_add_50 : decode cX2_add 50 = .ok (.aload_n 0, 1) := by decide +kernel
theorem dX2_add_51 : decode cX2_add 51 = .ok (.getfield 13, 3) := by decide +kernel
theorem dX2_add_54 : decode cX2_add 54 = .ok (.iload 7, 2) := by decide +kernel
theorem dX2_add_56 : decode cX2_add 56 = .ok (.iconst 3, 1) := by decide +kernel
theorem dX2_add_57 : decode cX2_add 57 = .ok (.iadd, 1) := by decide +kernel
theorem dX2_add_58 : decode cX2_add 58 = .ok (.iload 4, 2) := by decide +kernel
theorem dX2_add_60 : decode cX2_add 60 = .ok (.iastore, 1) := by decide +kernel
theorem dX2_add_61 : decode cX2_add 61 = .ok (.aload_n 0, 1) := by decide +kernel
theorem dX2_add_62 : decode cX2_add 62 = .ok (.getfield 13, 3) := by decide +kernel
theorem dX2_add_65 : decode cX2_add 65 = .ok (.iload 7, 2) := by decide +kernel
theorem dX2_add_67 : decode cX2_add 67 = .ok (.iconst 4, 1) := by decide +kernel
theorem dX2_add_68 : decode cX2_add 68 = .ok (.iadd, 1) := by decide +kernel
theorem dX2_add_69 : decode cX2_add 69 = .ok (.iload 5, 2) := by decide +kernel
theorem dX2_add_71 : decode cX2_add 71 = .ok (.iastore, 1) := by decide +kernel
theorem dX2_add_72 : decode cX2_add 72 = .ok (.aload_n 0, 1) := by decide +kernel
theorem dX2_add_73 : decode cX2_add 73 = .ok (.getfield 13, 3) := by decide +kernel
theorem dX2_add_76 : decode cX2_add 76 = .ok (.iload 7, 2) := by decide +kernel
theorem dX2_add_78 : decode cX2_add 78 = .ok (.iconst 5, 1) := by decide +kernel
theorem dX2_add_79 : decode cX2_add 79 = .ok (.iadd, 1) := by decide +kernel
theorem dX2_add_80 : decode cX2_add 80 = .ok (.iload 6, 2) := by decide +kernel
theorem dX2_add_82 : decode cX2_add 82 = .ok (.iastore, 1) := by decide +kernel
theorem dX2_add_83 : decode cX2_add 83 = .ok (.aload_n 0, 1) := by decide +kernel
theorem dX2_add_84 : decode cX2_add 84 = .ok (.dup, 1) := by decide +kernel
theorem dX2_add_85 : decode cX2_add 85 = .ok (.getfield 17, 3) := by decide +kernel
theorem dX2_add_88 : decode cX2_add 88 = .ok (.iconst 1, 1) := by decide +kernel
theorem dX2_add_89 : decode cX2_add 89 = .ok (.iadd, 1) := by decide +kernel
theorem dX2_add_90 : decode cX2_add 90 = .ok (.putfield 17, 3) := by decide +kernel
theorem dX2_add_93 : decode cX2_add 93 = .ok (.iconst 1, 1) := by decide +kernel
theorem dX2_add_94 : decode cX2_add 94 = .ok (.ireturn, 1) := by decide +kernel
theorem dX2_get_0 : decode cX2_get 0 = .ok (.iload_n 1, 1) := by decide +kernel
theorem dX2_get_1 : decode cX2_get 1 = .ok (.ifCond .lt 21, 3) := by decide +kernel
theorem dX2_get_4 : decode cX2_get 4 = .ok (.iload_n 1, 1) := by decide +kernel
theorem dX2_get_5 : decode cX2_get 5 = .ok (.aload_n 0, 1) := by decide +kernel
theorem dX2_get_6 : decode cX2_get 6 = .ok (.getfield 17, 3) := by decide +kernel
theorem dX2_get_9 : decode cX2_get 9 = .ok (.if_icmp .ge 13, 3) := by decide +kernel
theorem dX2_get_12 : decode cX2_get 12 = .ok (.iload_n 2, 1) := by decide +kernel
theorem dX2_get_13 : decode cX2_get 13 = .ok (.ifCond .lt 9, 3) := by decide +kernel
theorem dX2_get_16 : decode cX2_get 16 = .ok (.iload_n 2, 1) := by decide +kernel
theorem dX2_get_17 : decode cX2_get 17 = .ok (.bipush 6, 2) := by decide +kernel
theorem dX2_get_19 : decode cX2_get 19 = .ok (.if_icmp .lt 5, 3) := by decide +kernel
theorem dX2_get_22 : decode cX2_get 22 = .ok (.iconst 0, 1) := by decide +kernel
theorem dX2_get_23 : decode cX2_get 23 = .ok (.ireturn, 1) := by decide +kernel
theorem dX2_get_24 : decode cX2_get 24 = .ok (.aload_n 0, 1) := by decide +kernel
theorem dX2_get_25 : decode cX2_get 25 = .ok (.getfield 13, 3) := by decide +kernel
theorem dX2_get_28 : decode cX2_get 28 = .ok (.iload_n 1, 1) := by decide +kernel
theorem dX2_get_29 : decode cX2_get 29 = .ok (.bipush 6, 2) := by decide +kernel
theorem dX2_get_31 : decode cX2_get 31 = .ok (.imul, 1) := by decide +kernel
theorem dX2_get_32 : decode cX2_get 32 = .ok (.iload_n 2, 1) := by decide +kernel
theorem dX2_get_33 : decode cX2_get 33 = .ok (.iadd, 1) := by decide +kernel
theorem dX2_get_34 : decode cX2_get 34 = .ok (.iaload, 1) := by decide +kernel
theorem dX2_get_35 : decode cX2_get 35 = .ok (.ireturn, 1) := by decide +kernel
theorem dX2_knownBy_0 : decode cX2_knownBy 0 = .ok (.aload_n 0, 1) := by decide +kernel
theorem dX2_knownBy_1 : decode cX2_knownBy 1 = .ok (.getfield 17, 3) := by decide +kernel
theorem dX2_knownBy_4 : decode cX2_knownBy 4 = .ok (.istore_n 2, 1) := by decide +kernel
theorem dX2_knownBy_5 : decode cX2_knownBy 5 = .ok (.iload_n 2, 1) := by decide +kernel
theorem dX2_knownBy_6 : decode cX2_knownBy 6 = .ok (.ifCond .le 21, 3) := by decide +kernel
theorem dX2_knownBy_9 : decode cX2_knownBy 9 = .ok (.aload_n 0, 1) := by decide +kernel
theorem dX2_knownBy_10 : decode cX2_knownBy 10 = .ok (.iload_n 2, 1) := by decide +kernel
theorem dX2_knownBy_11 : decode cX2_knownBy 11 = .ok (.iconst 1, 1) := by decide +kernel
theorem dX2_knownBy_12 : decode cX2_knownBy 12 = .ok (.isub, 1) := by decide +kernel
theorem dX2_knownBy_13 : decode cX2_knownBy 13 = .ok (.iconst 0, 1) := by decide +kernel
theorem dX2_knownBy_14 : decode cX2_knownBy 14 = .ok (.invokevirtual 20, 3) := by decide +kernel
theorem dX2_knownBy_17 : decode cX2_knownBy 17 = .ok (.iload_n 1, 1) := by decide +kernel
theorem dX2_knownBy_18 : decode cX2_knownBy 18 = .ok (.if_icmp .le 9, 3) := by decide +kernel
theorem dX2_knownBy_21 : decode cX2_knownBy 21 = .ok (.iinc 2 (-1), 3) := by decide +kernel
theorem dX2_knownBy_24 : decode cX2_knownBy 24 = .ok (.goto (-19), 3) := by decide +kernel
theorem dX2_knownBy_27 : decode cX2_knownBy 27 = .ok (.iload_n 2, 1) := by decide +kernel
theorem dX2_knownBy_28 : decode cX2_knownBy 28 = .ok (.ireturn, 1) := by decide +kernel
theorem dX3_init_0 : decode cX3_init 0 = .ok (.aload_n 0, 1) := by decide +kernel
theorem dX3_init_1 : decode cX3_init 1 = .ok (.invokespecial 3, 3) := by decide +kernel
theorem dX3_init_4 : decode cX3_init 4 = .ok (.aload_n 0, 1) := by decide +kernel
theorem dX3_init_5 : decode cX3_init 5 = .ok (.bipush 52, 2) := by decide +kernel
theorem dX3_init_7 : decode cX3_init 7 = .ok (.newarray .int, 2) := by decide +kernel
theorem dX3_init_9 : decode cX3_init 9 = .ok (.putfield 9, 3) := by decide +kernel
theorem dX3_init_12 : decode cX3_init 12 = .ok (.aload_n 0, 1) := by decide +kernel
theorem dX3_init_13 : decode cX3_init 13 = .ok (.bipush 26, 2) := by decide +kernel
theorem dX3_init_15 : decode cX3_init 15 = .ok (.newarray .int, 2) := by decide +kernel
theorem dX3_init_17 : decode cX3_init 17 = .ok (.putfield 15, 3) := by decide +kernel
theorem dX3_init_20 : decode cX3_init 20 = .ok (.iconst 0, 1) := by decide +kernel
theorem dX3_init_21 : decode cX3_init 21 = .ok (.istore_n 1, 1) := by decide +kernel
theorem dX3_init_22 : decode cX3_init 22 = .ok (.iload_n 1, 1) := by decide +kernel
theorem dX3_init_23 : decode cX3_init 23 = .ok (.bipush 52, 2) := by decide +kernel
theorem dX3_init_25 : decode cX3_init 25 = .ok (.if_icmp .ge 16, 3) := by decide +kernel
theorem dX3_init_28 : decode cX3_init 28 = .ok (.aload_n 0, 1) := by decide +kernel
theorem dX3_init_29 : decode cX3_init 29 = .ok (.getfield 9, 3) := by decide +kernel
theorem dX3_init_32 : decode cX3_init 32 = .ok (.iload_n 1, 1) := by decide +kernel
theorem dX3_init_33 : decode cX3_init 33 = .ok (.iload_n 1, 1) := by decide +kernel
theorem dX3_init_34 : decode cX3_init 34 = .ok (.iastore, 1) := by decide +kernel
theorem dX3_init_35 : decode cX3_init 35 = .ok (.iinc 1 1, 3) := by decide +kernel
theorem dX3_init_38 : decode cX3_init 38 = .ok (.goto (-16), 3) := by decide +kernel
theorem dX3_init_41 : decode cX3_init 41 = .ok (.iconst 0, 1) := by decide +kernel
theorem dX3_init_42 : decode cX3_init 42 = .ok (.istore_n 1, 1) := by decide +kernel
theorem dX3_init_43 : decode cX3_init 43 = .ok (.iload_n 1, 1) := by decide +kernel
theorem dX3_init_44 : decode cX3_init 44 = .ok (.bipush 26, 2) := by decide +kernel
theorem dX3_init_46 : decode cX3_init 46 = .ok (.if_icmp .ge 16, 3) := by decide +kernel
theorem dX3_init_49 : decode cX3_init 49 = .ok (.aload_n 0, 1) := by decide +kernel
theorem dX3_init_50 : decode cX3_init 50 = .ok (.getfield 15, 3) := by decide +kernel
theorem dX3_init_53 : decode cX3_init 53 = .ok (.iload_n 1, 1) := by decide +kernel
theorem dX3_init_54 : decode cX3_init 54 = .ok (.iload_n 1, 1) := by decide +kernel
theorem dX3_init_55 : decode cX3_init 55 = .ok (.iastore, 1) := by decide +kernel
theorem dX3_init_56 : decode cX3_init 56 = .ok (.iinc 1 1, 3) := by decide +kernel
theorem dX3_init_59 : decode cX3_init 59 = .ok (.goto (-16), 3) := by decide +kernel
theorem dX3_init_62 : decode cX3_init 62 = .ok (.return_, 1) := by decide +kernel
theorem dX3_takeWeeks_0 : decode cX3_takeWeeks 0 = .ok (.aload_n 0, 1) := by decide +kernel
theorem dX3_takeWeeks_1 : decode cX3_takeWeeks 1 = .ok (.getfield 18, 3) := by decide +kernel
theorem dX3_takeWeeks_4 : decode cX3_takeWeeks 4 = .ok (.ifCond .ne 12, 3) := by decide +kernel
theorem dX3_takeWeeks_7 : decode cX3_takeWeeks 7 = .ok (.aload_n 1, 1) := by decide +kernel
theorem dX3_takeWeeks_8 : decode cX3_takeWeeks 8 = .ok (.bipush 52, 2) := by decide +kernel
theorem dX3_takeWeeks_10 : decode cX3_takeWeeks 10 = .ok (.invokevirtual 22, 3) := by decide +kernel
theorem dX3_takeWeeks_13 : decode cX3_takeWeeks 13 = .ok (.ifCond .ne 5, 3) := by decide +kernel
theorem dX3_takeWeeks_16 : decode cX3_takeWeeks 16 = .ok (.iconst 0, 1) := by decide +kernel
theorem dX3_takeWeeks_17 : decode cX3_takeWeeks 17 = .ok (.ireturn, 1) := by decide +kernel
theorem dX3_takeWeeks_18 : decode cX3_takeWeeks 18 = .ok (.aload_n 1, 1) := by decide +kernel
theorem dX3_takeWeeks_19 : decode cX3_takeWeeks 19 = .ok (.aload_n 0, 1) := by decide +kernel
theorem dX3_takeWeeks_20 : decode cX3_takeWeeks 20 = .ok (.getfield 9, 3) := by decide +kernel
theorem dX3_takeWeeks_23 : decode cX3_takeWeeks 23 = .ok (.invokestatic 28, 3) := by decide +kernel
theorem dX3_takeWeeks_26 : decode cX3_takeWeeks 26 = .ok (.aload_n 0, 1) := by decide +kernel
theorem dX3_takeWeeks_27 : decode cX3_takeWeeks 27 = .ok (.iconst 1, 1) := by decide +kernel
theorem dX3_takeWeeks_28 : decode cX3_takeWeeks 28 = .ok (.putfield 18, 3) := by decide +kernel
theorem dX3_takeWeeks_31 : decode cX3_takeWeeks 31 = .ok (.iconst 1, 1) := by decide +kernel
theorem dX3_takeWeeks_32 : decode cX3_takeWeeks 32 = .ok (.ireturn, 1) := by decide +kernel
theorem dX3_takeLetters_0 : decode cX3_takeLetters 0 = .ok (.aload_n 0, 1) := by decide +kernel
theorem dX3_takeLetters_1 : decode cX3_takeLetters 1 = .ok (.getfield 32, 3) := by decide +kernel
theorem dX3_takeLetters_4 : decode cX3_takeLetters 4 = .ok (.ifCond .ne 12, 3) := by decide +kernel
theorem dX3_takeLetters_7 : decode cX3_takeLetters 7 = .ok (.aload_n 1, 1) := by decide +kernel
theorem dX3_takeLetters_8 : decode cX3_takeLetters 8 = .ok (.bipush 26, 2) := by decide +kernel
theorem dX3_takeLetters_10 : decode cX3_takeLetters 10 = .ok (.invokevirtual 22, 3) := by decide +kernel
theorem dX3_takeLetters_13 : decode cX3_takeLetters 13 = .ok (.ifCond .ne 5, 3) := by decide +kernel
theorem dX3_takeLetters_16 : decode cX3_takeLetters 16 = .ok (.iconst 0, 1) := by decide +kernel
theorem dX3_takeLetters_17 : decode cX3_takeLetters 17 = .ok (.ireturn, 1) := by decide +kernel
theorem dX3_takeLetters_18 : decode cX3_takeLetters 18 = .ok (.aload_n 1, 1) := by decide +kernel
theorem dX3_takeLetters_19 : decode cX3_takeLetters 19 = .ok (.aload_n 0, 1) := by decide +kernel
theorem dX3_takeLetters_20 : decode cX3_takeLetters 20 = .ok (.getfield 15, 3) := by decide +kernel
theorem dX3_takeLetters_23 : decode cX3_takeLetters 23 = .ok (.invokestatic 28, 3) := by decide +kernel
theorem dX3_takeLetters_26 : decode cX3_takeLetters 26 = .ok (.aload_n 0, 1) := by decide +kernel
theorem dX3_takeLetters_27 : decode cX3_takeLetters 27 = .ok (.iconst 1, 1) := by decide +kernel
theorem dX3_takeLetters_28 : decode cX3_takeLetters 28 = .ok (.putfield 32, 3) := by decide +kernel
theorem dX3_takeLetters_31 : decode cX3_takeLetters 31 = .ok (.iconst 1, 1) := by decide +kernel
theorem dX3_takeLetters_32 : decode cX3_takeLetters 32 = .ok (.ireturn, 1) := by decide +kernel
theorem dX3_takePicks_0 : decode cX3_takePicks 0 = .ok (.iconst 0, 1) := by decide +kernel
theorem dX3_takePicks_1 : decode cX3_takePicks 1 = .ok (.istore_n 2, 1) := by decide +kernel
theorem dX3_takePicks_2 : decode cX3_takePicks 2 = .ok (.iload_n 2, 1) := by decide +kernel
theorem dX3_takePicks_3 : decode cX3_takePicks 3 = .ok (.aload_n 1, 1) := by decide +kernel
theorem dX3_takePicks_4 : decode cX3_takePicks 4 = .ok (.arraylength, 1) := by decide +kernel
theorem dX3_takePicks_5 : decode cX3_takePicks 5 = .ok (.if_icmp .ge 29, 3) := by decide +kernel
theorem dX3_takePicks_8 : decode cX3_takePicks 8 = .ok (.aload_n 0, 1) := by decide +kernel
theorem dX3_takePicks_9 : decode cX3_takePicks 9 = .ok (.iload_n 2, 1) := by decide +kernel
theorem dX3_takePicks_10 : decode cX3_takePicks 10 = .ok (.invokevirtual 35, 3) := by decide +kernel
theorem dX3_takePicks_13 : decode cX3_takePicks 13 = .ok (.istore_n 3, 1) := by decide +kernel
theorem dX3_takePicks_14 : decode cX3_takePicks 14 = .ok (.iload_n 3, 1) := by decide +kernel
theorem dX3_takePicks_15 : decode cX3_takePicks 15 = .ok (.ifCond .lt 13, 3) := by decide +kernel
theorem dX3_takePicks_18 : decode cX3_takePicks 18 = .ok (.iload_n 3, 1) := by decide +kernel
theorem dX3_takePicks_19 : decode cX3_takePicks 19 = .ok (.aload_n 1, 1) := by decide +kernel
theorem dX3_takePicks_20 : decode cX3_takePicks 20 = .ok (.arraylength, 1) := by decide +kernel
theorem dX3_takePicks_21 : decode cX3_takePicks 21 = .ok (.if_icmp .ge 7, 3) := by decide +kernel
theorem dX3_takePicks_24 : decode cX3_takePicks 24 = .ok (.aload_n 1, 1) := by decide +kernel
theorem dX3_takePicks_25 : decode cX3_takePicks 25 = .ok (.iload_n 3, 1) := by decide +kernel
theorem dX3_takePicks_26 : decode cX3_takePicks 26 = .ok (.iload_n 2, 1) := by decide +kernel
theorem dX3_takePicks_27 : decode cX3_takePicks 27 = .ok (.iastore, 1) := by decide +kernel
theorem dX3_takePicks_28 : decode cX3_takePicks 28 = .ok (.iinc 2 1, 3) := by decide +kernel
theorem dX3_takePicks_31 : decode cX3_takePicks 31 = .ok (.goto (-29), 3) := by decide +kernel
theorem dX3_takePicks_34 : decode cX3_takePicks 34 = .ok (.return_, 1) := by decide +kernel
theorem dX3_pickedAhead_0 : decode cX3_pickedAhead 0 = .ok (.iconst 0, 1) := by decide +kernel
theorem dX3_pickedAhead_1 : decode cX3_pickedAhead 1 = .ok (.istore 4, 2) := by decide +kernel
theorem dX3_pickedAhead_3 : decode cX3_pickedAhead 3 = .ok (.iload_n 2, 1) := by decide +kernel
theorem dX3_pickedAhead_4 : decode cX3_pickedAhead 4 = .ok (.istore 5, 2) := by decide +kernel
theorem dX3_pickedAhead_6 : decode cX3_pickedAhead 6 = .ok (.iload 5, 2) := by decide +kernel
theorem dX3_pickedAhead_8 : decode cX3_pickedAhead 8 = .ok (.iload_n 3, 1) := by decide +kernel
theorem dX3_pickedAhead_9 : decode cX3_pickedAhead 9 = .ok (.if_icmp .gt 30, 3) := by decide +kernel
theorem dX3_pickedAhead_12 : decode cX3_pickedAhead 12 = .ok (.iload 4, 2) := by decide +kernel
theorem dX3_pickedAhead_14 : decode cX3_pickedAhead 14 = .ok (.aload_n 0, 1) := by decide +kernel
theorem dX3_pickedAhead_15 : decode cX3_pickedAhead 15 = .ok (.getfield 9, 3) := by decide +kernel
theorem dX3_pickedAhead_18 : decode cX3_pickedAhead 18 = .ok (.iload 5, 2) := by decide +kernel
theorem dX3_pickedAhead_20 : decode cX3_pickedAhead 20 = .ok (.iaload, 1) := by decide +kernel
theorem dX3_pickedAhead_21 : decode cX3_pickedAhead 21 = .ok (.iload_n 1, 1) := by decide +kernel
theorem dX3_pickedAhead_22 : decode cX3_pickedAhead 22 = .ok (.if_icmp .ge 7, 3) := by decide +kernel
theorem dX3_pickedAhead_25 : decode cX3_pickedAhead 25 = .ok (.iconst 1, 1) := by decide +kernel
theorem dX3_pickedAhead_26 : decode cX3_pickedAhead 26 = .ok (.goto 4, 3) := by decide +kernel
theorem dX3_pickedAhead_29 : decode cX3_pickedAhead 29 = .ok (.iconst 0, 1) := by decide +kernel
theorem dX3_pickedAhead_30 : decode cX3_pickedAhead 30 = .ok (.iadd, 1) := by decide +kernel
theorem dX3_pickedAhead_31 : decode cX3_pickedAhead 31 = .ok (.istore 4, 2) := by decide +kernel
theorem dX3_pickedAhead_33 : decode cX3_pickedAhead 33 = .ok (.iinc 5 1, 3) := by decide +kernel
theorem dX3_pickedAhead_36 : decode cX3_pickedAhead 36 = .ok (.goto (-30), 3) := by decide +kernel
theorem dX3_pickedAhead_39 : decode cX3_pickedAhead 39 = .ok (.iload 4, 2) := by decide +kernel
theorem dX3_pickedAhead_41 : decode cX3_pickedAhead 41 = .ok (.ireturn, 1) := by decide +kernel
theorem dX7_init_0 : decode cX7_init 0 = .ok (.aload_n 0, 1) := by decide +kernel
theorem dX7_init_1 : decode cX7_init 1 = .ok (.invokespecial 3, 3) := by decide +kernel
theorem dX7_init_4 : decode cX7_init 4 = .ok (.aload_n 0, 1) := by decide +kernel
theorem dX7_init_5 : decode cX7_init 5 = .ok (.sipush 340, 3) := by decide +kernel
theorem dX7_init_8 : decode cX7_init 8 = .ok (.newarray .byte, 2) := by decide +kernel
theorem dX7_init_10 : decode cX7_init 10 = .ok (.putfield 11, 3) := by decide +kernel
theorem dX7_init_13 : decode cX7_init 13 = .ok (.return_, 1) := by decide +kernel
theorem dX7_put_0 : decode cX7_put 0 = .ok (.bipush 24, 2) := by decide +kernel
theorem dX7_put_2 : decode cX7_put 2 = .ok (.istore_n 2, 1) := by decide +kernel
theorem dX7_put_3 : decode cX7_put 3 = .ok (.iload_n 2, 1) := by decide +kernel
theorem dX7_put_4 : decode cX7_put 4 = .ok (.ifCond .lt 42, 3) := by decide +kernel
theorem dX7_put_7 : decode cX7_put 7 = .ok (.aload_n 0, 1) := by decide +kernel
theorem dX7_put_8 : decode cX7_put 8 = .ok (.getfield 15, 3) := by decide +kernel
theorem dX7_put_11 : decode cX7_put 11 = .ok (.sipush 340, 3) := by decide +kernel
theorem dX7_put_14 : decode cX7_put 14 = .ok (.if_icmp .ge 32, 3) := by decide +kernel
theorem dX7_put_17 : decode cX7_put 17 = .ok (.aload_n 0, 1) := by decide +kernel
theorem dX7_put_18 : decode cX7_put 18 = .ok (.getfield 11, 3) := by decide +kernel
theorem dX7_put_21 : decode cX7_put 21 = .ok (.aload_n 0, 1) := by decide +kernel
theorem dX7_put_22 : decode cX7_put 22 = .ok (.getfield 15, 3) := by decide +kernel
theorem dX7_put_25 : decode cX7_put 25 = .ok (.iload_n 1, 1) := by decide +kernel
theorem dX7_put_26 : decode cX7_put 26 = .ok (.iload_n 2, 1) := by decide +kernel
theorem dX7_put_27 : decode cX7_put 27 = .ok (.ishr, 1) := by decide +kernel
theorem dX7_put_28 : decode cX7_put 28 = .ok (.i2b, 1) := by decide +kernel
theorem dX7_put_29 : decode cX7_put 29 = .ok (.bastore, 1) := by decide +kernel
theorem dX7_put_30 : decode cX7_put 30 = .ok (.aload_n 0, 1) := by decide +kernel
theorem dX7_put_31 : decode cX7_put 31 = .ok (.dup, 1) := by decide +kernel
theorem dX7_put_32 : decode cX7_put 32 = .ok (.getfield 15, 3) := by decide +kernel
theorem dX7_put_35 : decode cX7_put 35 = .ok (.iconst 1, 1) := by decide +kernel
theorem dX7_put_36 : decode cX7_put 36 = .ok (.iadd, 1) := by decide +kernel
theorem dX7_put_37 : decode cX7_put 37 = .ok (.putfield 15, 3) := by decide +kernel
theorem dX7_put_40 : decode cX7_put 40 = .ok (.iinc 2 (-8), 3) := by decide +kernel
theorem dX7_put_43 : decode cX7_put 43 = .ok (.goto (-40), 3) := by decide +kernel
theorem dX7_put_46 : decode cX7_put 46 = .ok (.return_, 1) := by decide +kernel
theorem dX7_at_0 : decode cX7_at 0 = .ok (.iload_n 1, 1) := by decide +kernel
theorem dX7_at_1 : decode cX7_at 1 = .ok (.ifCond .lt 11, 3) := by decide +kernel
theorem dX7_at_4 : decode cX7_at 4 = .ok (.iload_n 1, 1) := by decide +kernel
theorem dX7_at_5 : decode cX7_at 5 = .ok (.aload_n 0, 1) := by decide +kernel
theorem dX7_at_6 : decode cX7_at 6 = .ok (.getfield 15, 3) := by decide +kernel
theorem dX7_at_9 : decode cX7_at 9 = .ok (.if_icmp .lt 7, 3) := by decide +kernel
theorem dX7_at_12 : decode cX7_at 12 = .ok (.iconst (-1), 1) := by decide +kernel
theorem dX7_at_13 : decode cX7_at 13 = .ok (.goto 13, 3) := by decide +kernel
theorem dX7_at_16 : decode cX7_at 16 = .ok (.aload_n 0, 1) := by decide +kernel
theorem dX7_at_17 : decode cX7_at 17 = .ok (.getfield 11, 3) := by decide +kernel
theorem dX7_at_20 : decode cX7_at 20 = .ok (.iload_n 1, 1) := by decide +kernel
theorem dX7_at_21 : decode cX7_at 21 = .ok (.baload, 1) := by decide +kernel
theorem dX7_at_22 : decode cX7_at 22 = .ok (.sipush 255, 3) := by decide +kernel
theorem dX7_at_25 : decode cX7_at 25 = .ok (.iand, 1) := by decide +kernel
theorem dX7_at_26 : decode cX7_at 26 = .ok (.ireturn, 1) := by decide +kernel
theorem dX7_isLetter_0 : decode cX7_isLetter 0 = .ok (.aload_n 0, 1) := by decide +kernel
theorem dX7_isLetter_1 : decode cX7_isLetter 1 = .ok (.iload_n 1, 1) := by decide +kernel
theorem dX7_isLetter_2 : decode cX7_isLetter 2 = .ok (.invokevirtual 19, 3) := by decide +kernel
theorem dX7_isLetter_5 : decode cX7_isLetter 5 = .ok (.bipush 97, 2) := by decide +kernel
theorem dX7_isLetter_7 : decode cX7_isLetter 7 = .ok (.if_icmp .lt 17, 3) := by decide +kernel
theorem dX7_isLetter_10 : decode cX7_isLetter 10 = .ok (.aload_n 0, 1) := by decide +kernel
theorem dX7_isLetter_11 : decode cX7_isLetter 11 = .ok (.iload_n 1, 1) := by decide +kernel
theorem dX7_isLetter_12 : decode cX7_isLetter 12 = .ok (.invokevirtual 19, 3) := by decide +kernel
theorem dX7_isLetter_15 : decode cX7_isLetter 15 = .ok (.bipush 122, 2) := by decide +kernel
theorem dX7_isLetter_17 : decode cX7_isLetter 17 = .ok (.if_icmp .gt 7, 3) := by decide +kernel
theorem dX7_isLetter_20 : decode cX7_isLetter 20 = .ok (.iconst 1, 1) := by decide +kernel
theorem dX7_isLetter_21 : decode cX7_isLetter 21 = .ok (.goto 4, 3) := by decide +kernel
theorem dX7_isLetter_24 : decode cX7_isLetter 24 = .ok (.iconst 0, 1) := by decide +kernel
theorem dX7_isLetter_25 : decode cX7_isLetter 25 = .ok (.ireturn, 1) := by decide +kernel
theorem dX7_isDigit_0 : decode cX7_isDigit 0 = .ok (.aload_n 0, 1) := by decide +kernel
theorem dX7_isDigit_1 : decode cX7_isDigit 1 = .ok (.iload_n 1, 1) := by decide +kernel
theorem dX7_isDigit_2 : decode cX7_isDigit 2 = .ok (.invokevirtual 19, 3) := by decide +kernel
theorem dX7_isDigit_5 : decode cX7_isDigit 5 = .ok (.bipush 48, 2) := by decide +kernel
theorem dX7_isDigit_7 : decode cX7_isDigit 7 = .ok (.if_icmp .lt 17, 3) := by decide +kernel
theorem dX7_isDigit_10 : decode cX7_isDigit 10 = .ok (.aload_n 0, 1) := by decide +kernel
theorem dX7_isDigit_11 : decode cX7_isDigit 11 = .ok (.iload_n 1, 1) := by decide +kernel
theorem dX7_isDigit_12 : decode cX7_isDigit 12 = .ok (.invokevirtual 19, 3) := by decide +kernel
theorem dX7_isDigit_15 : decode cX7_isDigit 15 = .ok (.bipush 57, 2) := by decide +kernel
theorem dX7_isDigit_17 : decode cX7_isDigit 17 = .ok (.if_icmp .gt 7, 3) := by decide +kernel
theorem dX7_isDigit_20 : decode cX7_isDigit 20 = .ok (.iconst 1, 1) := by decide +kernel
theorem dX7_isDigit_21 : decode cX7_isDigit 21 = .ok (.goto 4, 3) := by decide +kernel
theorem dX7_isDigit_24 : decode cX7_isDigit 24 = .ok (.iconst 0, 1) := by decide +kernel
theorem dX7_isDigit_25 : decode cX7_isDigit 25 = .ok (.ireturn, 1) := by decide +kernel
theorem dX7_isBlank_0 : decode cX7_isBlank 0 = .ok (.aload_n 0, 1) := by decide +kernel
theorem dX7_isBlank_1 : decode cX7_isBlank 1 = .ok (.iload_n 1, 1) := by decide +kernel
theorem dX7_isBlank_2 : decode cX7_isBlank 2 = .ok (.invokevirtual 19, 3) := by decide +kernel
theorem dX7_isBlank_5 : decode cX7_isBlank 5 = .ok (.bipush 32, 2) := by decide +kernel
theorem dX7_isBlank_7 : decode cX7_isBlank 7 = .ok (.if_icmp .eq 13, 3) := by decide +kernel
theorem dX7_isBlank_10 : decode cX7_isBlank 10 = .ok (.aload_n 0, 1) := by decide +kernel
theorem dX7_isBlank_11 : decode cX7_isBlank 11 = .ok (.iload_n 1, 1) := by decide +kernel
theorem dX7_isBlank_12 : decode cX7_isBlank 12 = .ok (.invokevirtual 19, 3) := by decide +kernel
theorem dX7_isBlank_15 : decode cX7_isBlank 15 = .ok (.bipush 10, 2) := by decide +kernel
theorem dX7_isBlank_17 : decode cX7_isBlank 17 = .ok (.if_icmp .ne 7, 3) := by decide +kernel
theorem dX7_isBlank_20 : decode cX7_isBlank 20 = .ok (.iconst 1, 1) := by decide +kernel
theorem dX7_isBlank_21 : decode cX7_isBlank 21 = .ok (.goto 4, 3) := by decide +kernel
theorem dX7_isBlank_24 : decode cX7_isBlank 24 = .ok (.iconst 0, 1) := by decide +kernel
theorem dX7_isBlank_25 : decode cX7_isBlank 25 = .ok (.ireturn, 1) := by decide +kernel
theorem dX7_holdsName_0 : decode cX7_holdsName 0 = .ok (.aload_n 0, 1) := by decide +kernel
theorem dX7_holdsName_1 : decode cX7_holdsName 1 = .ok (.getfield 15, 3) := by decide +kernel
theorem dX7_holdsName_4 : decode cX7_holdsName 4 = .ok (.iconst 1, 1) := by decide +kernel
theorem dX7_holdsName_5 : decode cX7_holdsName 5 = .ok (.if_icmp .lt 12, 3) := by decide +kernel
theorem dX7_holdsName_8 : decode cX7_holdsName 8 = .ok (.aload_n 0, 1) := by decide +kernel
theorem dX7_holdsName_9 : decode cX7_holdsName 9 = .ok (.getfield 15, 3) := by decide +kernel
theorem dX7_holdsName_12 : decode cX7_holdsName 12 = .ok (.bipush 8, 2) := by decide +kernel
theorem dX7_holdsName_14 : decode cX7_holdsName 14 = .ok (.if_icmp .le 5, 3) := by decide +kernel
theorem dX7_holdsName_17 : decode cX7_holdsName 17 = .ok (.iconst 0, 1) := by decide +kernel
theorem dX7_holdsName_18 : decode cX7_holdsName 18 = .ok (.ireturn, 1) := by decide +kernel
theorem dX7_holdsName_19 : decode cX7_holdsName 19 = .ok (.iconst 0, 1) := by decide +kernel
theorem dX7_holdsName_20 : decode cX7_holdsName 20 = .ok (.istore_n 1, 1) := by decide +kernel
theorem dX7_holdsName_21 : decode cX7_holdsName 21 = .ok (.iload_n 1, 1) := by decide +kernel
theorem dX7_holdsName_22 : decode cX7_holdsName 22 = .ok (.aload_n 0, 1) := by decide +kernel
theorem dX7_holdsName_23 : decode cX7_holdsName 23 = .ok (.getfield 15, 3) := by decide +kernel
theorem dX7_holdsName_26 : decode cX7_holdsName 26 = .ok (.if_icmp .ge 19, 3) := by decide +kernel
theorem dX7_holdsName_29 : decode cX7_holdsName 29 = .ok (.aload_n 0, 1) := by decide +kernel
theorem dX7_holdsName_30 : decode cX7_holdsName 30 = .ok (.iload_n 1, 1) := by decide +kernel
theorem dX7_holdsName_31 : decode cX7_holdsName 31 = .ok (.invokevirtual 23, 3) := by decide +kernel
theorem dX7_holdsName_34 : decode cX7_holdsName 34 = .ok (.ifCond .ne 5, 3) := by decide +kernel
theorem dX7_holdsName_37 : decode cX7_holdsName 37 = .ok (.iconst 0, 1) := by decide +kernel
theorem dX7_holdsName_38 : decode cX7_holdsName 38 = .ok (.ireturn, 1) := by decide +kernel
theorem dX7_holdsName_39 : decode cX7_holdsName 39 = .ok (.iinc 1 1, 3) := by decide +kernel
theorem dX7_holdsName_42 : decode cX7_holdsName 42 = .ok (.goto (-21), 3) := by decide +kernel
theorem dX7_holdsName_45 : decode cX7_holdsName 45 = .ok (.iconst 1, 1) := by decide +kernel
theorem dX7_holdsName_46 : decode cX7_holdsName 46 = .ok (.ireturn, 1) := by decide +kernel
theorem dX7_holdsPicks_0 : decode cX7_holdsPicks 0 = .ok (.aload_n 0, 1) := by decide +kernel
theorem dX7_holdsPicks_1 : decode cX7_holdsPicks 1 = .ok (.getfield 15, 3) := by decide +kernel
theorem dX7_holdsPicks_4 : decode cX7_holdsPicks 4 = .ok (.iload_n 1, 1) := by decide +kernel
theorem dX7_holdsPicks_5 : decode cX7_holdsPicks 5 = .ok (.if_icmp .eq 5, 3) := by decide +kernel
theorem dX7_holdsPicks_8 : decode cX7_holdsPicks 8 = .ok (.iconst 0, 1) := by decide +kernel
theorem dX7_holdsPicks_9 : decode cX7_holdsPicks 9 = .ok (.ireturn, 1) := by decide +kernel
theorem dX7_holdsPicks_10 : decode cX7_holdsPicks 10 = .ok (.lconst 0, 1) := by decide +kernel
theorem dX7_holdsPicks_11 : decode cX7_holdsPicks 11 = .ok (.lstore_n 2, 1) := by decide +kernel
theorem dX7_holdsPicks_12 : decode cX7_holdsPicks 12 = .ok (.iconst 0, 1) := by decide +kernel
theorem dX7_holdsPicks_13 : decode cX7_holdsPicks 13 = .ok (.istore 4, 2) := by decide +kernel
theorem dX7_holdsPicks_15 : decode cX7_holdsPicks 15 = .ok (.iload 4, 2) := by decide +kernel
theorem dX7_holdsPicks_17 : decode cX7_holdsPicks 17 = .ok (.iload_n 1, 1) := by decide +kernel
theorem dX7_holdsPicks_18 : decode cX7_holdsPicks 18 = .ok (.if_icmp .ge 43, 3) := by decide +kernel
theorem dX7_holdsPicks_21 : decode cX7_holdsPicks 21 = .ok (.aload_n 0, 1) := by decide +kernel
theorem dX7_holdsPicks_22 : decode cX7_holdsPicks 22 = .ok (.iload 4, 2) := by decide +kernel
theorem dX7_holdsPicks_24 : decode cX7_holdsPicks 24 = .ok (.invokevirtual 19, 3) := by decide +kernel
theorem dX7_holdsPicks_27 : decode cX7_holdsPicks 27 = .ok (.istore 5, 2) := by decide +kernel
theorem dX7_holdsPicks_29 : decode cX7_holdsPicks 29 = .ok (.iload 5, 2) := by decide +kernel
theorem dX7_holdsPicks_31 : decode cX7_holdsPicks 31 = .ok (.iload_n 1, 1) := by decide +kernel
theorem dX7_holdsPicks_32 : decode cX7_holdsPicks 32 = .ok (.if_icmp .ge 14, 3) := by decide +kernel
theorem dX7_holdsPicks_35 : decode cX7_holdsPicks 35 = .ok (.lload_n 2, 1) := by decide +kernel
theorem dX7_holdsPicks_36 : decode cX7_holdsPicks 36 = .ok (.iload 5, 2) := by decide +kernel
theorem dX7_holdsPicks_38 : decode cX7_holdsPicks 38 = .ok (.lshr, 1) := by decide +kernel
theorem dX7_holdsPicks_39 : decode cX7_holdsPicks 39 = .ok (.lconst 1, 1) := by decide +kernel
theorem dX7_holdsPicks_40 : decode cX7_holdsPicks 40 = .ok (.land, 1) := by decide +kernel
theorem dX7_holdsPicks_41 : decode cX7_holdsPicks 41 = .ok (.lconst 1, 1) := by decide +kernel
theorem dX7_holdsPicks_42 : decode cX7_holdsPicks 42 = .ok (.lcmp, 1) := by decide +kernel
theorem dX7_holdsPicks_43 : decode cX7_holdsPicks 43 = .ok (.ifCond .ne 5, 3) := by decide +kernel
theorem dX7_holdsPicks_46 : decode cX7_holdsPicks 46 = .ok (.iconst 0, 1) := by decide +kernel
theorem dX7_holdsPicks_47 : decode cX7_holdsPicks 47 = .ok (.ireturn, 1) := by decide +kernel
theorem dX7_holdsPicks_48 : decode cX7_holdsPicks 48 = .ok (.lload_n 2, 1) := by decide +kernel
theorem dX7_holdsPicks_49 : decode cX7_holdsPicks 49 = .ok (.lconst 1, 1) := by decide +kernel
theorem dX7_holdsPicks_50 : decode cX7_holdsPicks 50 = .ok (.iload 5, 2) := by decide +kernel
theorem dX7_holdsPicks_52 : decode cX7_holdsPicks 52 = .ok (.lshl, 1) := by decide +kernel
theorem dX7_holdsPicks_53 : decode cX7_holdsPicks 53 = .ok (.lor, 1) := by decide +kernel
theorem dX7_holdsPicks_54 : decode cX7_holdsPicks 54 = .ok (.lstore_n 2, 1) := by decide +kernel
theorem dX7_holdsPicks_55 : decode cX7_holdsPicks 55 = .ok (.iinc 4 1, 3) := by decide +kernel
theorem dX7_holdsPicks_58 : decode cX7_holdsPicks 58 = .ok (.goto (-43), 3) := by decide +kernel
theorem dX7_holdsPicks_61 : decode cX7_holdsPicks 61 = .ok (.iconst 1, 1) := by decide +kernel
theorem dX7_holdsPicks_62 : decode cX7_holdsPicks 62 = .ok (.ireturn, 1) := by decide +kernel
theorem dX7_holdsWord_0 : decode cX7_holdsWord 0 = .ok (.iload_n 3, 1) := by decide +kernel
theorem dX7_holdsWord_1 : decode cX7_holdsWord 1 = .ok (.iload_n 2, 1) := by decide +kernel
theorem dX7_holdsWord_2 : decode cX7_holdsWord 2 = .ok (.isub, 1) := by decide +kernel
theorem dX7_holdsWord_3 : decode cX7_holdsWord 3 = .ok (.aload_n 1, 1) := by decide +kernel
theorem dX7_holdsWord_4 : decode cX7_holdsWord 4 = .ok (.invokevirtual 27, 3) := by decide +kernel
theorem dX7_holdsWord_7 : decode cX7_holdsWord 7 = .ok (.if_icmp .eq 5, 3) := by decide +kernel
theorem dX7_holdsWord_10 : decode cX7_holdsWord 10 = .ok (.iconst 0, 1) := by decide +kernel
theorem dX7_holdsWord_11 : decode cX7_holdsWord 11 = .ok (.ireturn, 1) := by decide +kernel
theorem dX7_holdsWord_12 : decode cX7_holdsWord 12 = .ok (.iconst 0, 1) := by decide +kernel
theorem dX7_holdsWord_13 : decode cX7_holdsWord 13 = .ok (.istore 4, 2) := by decide +kernel
theorem dX7_holdsWord_15 : decode cX7_holdsWord 15 = .ok (.iload 4, 2) := by decide +kernel
theorem dX7_holdsWord_17 : decode cX7_holdsWord 17 = .ok (.aload_n 1, 1) := by decide +kernel
theorem dX7_holdsWord_18 : decode cX7_holdsWord 18 = .ok (.invokevirtual 27, 3) := by decide +kernel
theorem dX7_holdsWord_21 : decode cX7_holdsWord 21 = .ok (.if_icmp .ge 28, 3) := by decide +kernel
theorem dX7_holdsWord_24 : decode cX7_holdsWord 24 = .ok (.aload_n 0, 1) := by decide +kernel
theorem dX7_holdsWord_25 : decode cX7_holdsWord 25 = .ok (.iload_n 2, 1) := by decide +kernel
theorem dX7_holdsWord_26 : decode cX7_holdsWord 26 = .ok (.iload 4, 2) := by decide +kernel
theorem dX7_holdsWord_28 : decode cX7_holdsWord 28 = .ok (.iadd, 1) := by decide +kernel
theorem dX7_holdsWord_29 : decode cX7_holdsWord 29 = .ok (.invokevirtual 19, 3) := by decide +kernel
theorem dX7_holdsWord_32 : decode cX7_holdsWord 32 = .ok (.aload_n 1, 1) := by decide +kernel
theorem dX7_holdsWord_33 : decode cX7_holdsWord 33 = .ok (.iload 4, 2) := by decide +kernel
theorem dX7_holdsWord_35 : decode cX7_holdsWord 35 = .ok (.invokevirtual 32, 3) := by decide +kernel
theorem dX7_holdsWord_38 : decode cX7_holdsWord 38 = .ok (.if_icmp .eq 5, 3) := by decide +kernel
theorem dX7_holdsWord_41 : decode cX7_holdsWord 41 = .ok (.iconst 0, 1) := by decide +kernel
theorem dX7_holdsWord_42 : decode cX7_holdsWord 42 = .ok (.ireturn, 1) := by decide +kernel
theorem dX7_holdsWord_43 : decode cX7_holdsWord 43 = .ok (.iinc 4 1, 3) := by decide +kernel
theorem dX7_holdsWord_46 : decode cX7_holdsWord 46 = .ok (.goto (-31), 3) := by decide +kernel
theorem dX7_holdsWord_49 : decode cX7_holdsWord 49 = .ok (.iconst 1, 1) := by decide +kernel
theorem dX7_holdsWord_50 : decode cX7_holdsWord 50 = .ok (.ireturn, 1) := by decide +kernel
theorem dX9_find_0 : decode cX9_find 0 = .ok (.getstatic 105, 3) := by decide +kernel
theorem dX9_find_3 : decode cX9_find 3 = .ok (.astore_n 3, 1) := by decide +kernel
theorem dX9_find_4 : decode cX9_find 4 = .ok (.aload_n 3, 1) := by decide +kernel
theorem dX9_find_5 : decode cX9_find 5 = .ok (.arraylength, 1) := by decide +kernel
theorem dX9_find_6 : decode cX9_find 6 = .ok (.istore 4, 2) := by decide +kernel
theorem dX9_find_8 : decode cX9_find 8 = .ok (.iconst 0, 1) := by decide +kernel
theorem dX9_find_9 : decode cX9_find 9 = .ok (.istore 5, 2) := by decide +kernel
theorem dX9_find_11 : decode cX9_find 11 = .ok (.iload 5, 2) := by decide +kernel
theorem dX9_find_13 : decode cX9_find 13 = .ok (.iload 4, 2) := by decide +kernel
theorem dX9_find_15 : decode cX9_find 15 = .ok (.if_icmp .ge 32, 3) := by decide +kernel
theorem dX9_find_18 : decode cX9_find 18 = .ok (.aload_n 3, 1) := by decide +kernel
theorem dX9_find_19 : decode cX9_find 19 = .ok (.iload 5, 2) := by decide +kernel
theorem dX9_find_21 : decode cX9_find 21 = .ok (.aaload, 1) := by decide +kernel
theorem dX9_find_22 : decode cX9_find 22 = .ok (.astore 6, 2) := by decide +kernel
theorem dX9_find_24 : decode cX9_find 24 = .ok (.aload_n 0, 1) := by decide +kernel
theorem dX9_find_25 : decode cX9_find 25 = .ok (.aload 6, 2) := by decide +kernel
theorem dX9_find_27 : decode cX9_find 27 = .ok (.getfield 91, 3) := by decide +kernel
theorem dX9_find_30 : decode cX9_find 30 = .ok (.iload_n 1, 1) := by decide +kernel
theorem dX9_find_31 : decode cX9_find 31 = .ok (.iload_n 2, 1) := by decide +kernel
theorem dX9_find_32 : decode cX9_find 32 = .ok (.invokevirtual 108, 3) := by decide +kernel
theorem dX9_find_35 : decode cX9_find 35 = .ok (.ifCond .eq 6, 3) := by decide +kernel
theorem dX9_find_38 : decode cX9_find 38 = .ok (.aload 6, 2) := by decide +kernel
theorem dX9_find_40 : decode cX9_find 40 = .ok (.areturn, 1) := by decide +kernel
theorem dX9_find_41 : decode cX9_find 41 = .ok (.iinc 5 1, 3) := by decide +kernel
theorem dX9_find_44 : decode cX9_find 44 = .ok (.goto (-33), 3) := by decide +kernel
theorem dX9_find_47 : decode cX9_find 47 = .ok (.aconst_null, 1) := by decide +kernel
theorem dX9_find_48 : decode cX9_find 48 = .ok (.areturn, 1) := by decide +kernel
theorem dJ9_floorMod_7cf53_0 : decode cJ9_floorMod_7cf53 0 = .ok (.iload_n 0, 1) := by decide +kernel
theorem dJ9_floorMod_7cf53_1 : decode cJ9_floorMod_7cf53 1 = .ok (.iload_n 1, 1) := by decide +kernel
theorem dJ9_floorMod_7cf53_2 : decode cJ9_floorMod_7cf53 2 = .ok (.irem, 1) := by decide +kernel
theorem dJ9_floorMod_7cf53_3 : decode cJ9_floorMod_7cf53 3 = .ok (.istore_n 2, 1) := by decide +kernel
theorem dJ9_floorMod_7cf53_4 : decode cJ9_floorMod_7cf53 4 = .ok (.iload_n 0, 1) := by decide +kernel
theorem dJ9_floorMod_7cf53_5 : decode cJ9_floorMod_7cf53 5 = .ok (.iload_n 1, 1) := by decide +kernel
theorem dJ9_floorMod_7cf53_6 : decode cJ9_floorMod_7cf53 6 = .ok (.ixor, 1) := by decide +kernel
theorem dJ9_floorMod_7cf53_7 : decode cJ9_floorMod_7cf53 7 = .ok (.ifCond .ge 11, 3) := by decide +kernel
theorem dJ9_floorMod_7cf53_10 : decode cJ9_floorMod_7cf53 10 = .ok (.iload_n 2, 1) := by decide +kernel
theorem dJ9_floorMod_7cf53_11 : decode cJ9_floorMod_7cf53 11 = .ok (.ifCond .eq 7, 3) := by decide +kernel
theorem dJ9_floorMod_7cf53_14 : decode cJ9_floorMod_7cf53 14 = .ok (.iload_n 2, 1) := by decide +kernel
theorem dJ9_floorMod_7cf53_15 : decode cJ9_floorMod_7cf53 15 = .ok (.iload_n 1, 1) := by decide +kernel
theorem dJ9_floorMod_7cf53_16 : decode cJ9_floorMod_7cf53 16 = .ok (.iadd, 1) := by decide +kernel
theorem dJ9_floorMod_7cf53_17 : decode cJ9_floorMod_7cf53 17 = .ok (.ireturn, 1) := by decide +kernel
theorem dJ9_floorMod_7cf53_18 : decode cJ9_floorMod_7cf53 18 = .ok (.iload_n 2, 1) := by decide +kernel
theorem dJ9_floorMod_7cf53_19 : decode cJ9_floorMod_7cf53 19 = .ok (.ireturn, 1) := by decide +kernel
theorem dJ9_max_7cf53_0 : decode cJ9_max_7cf53 0 = .ok (.iload_n 0, 1) := by decide +kernel
theorem dJ9_max_7cf53_1 : decode cJ9_max_7cf53 1 = .ok (.iload_n 1, 1) := by decide +kernel
theorem dJ9_max_7cf53_2 : decode cJ9_max_7cf53 2 = .ok (.if_icmp .lt 7, 3) := by decide +kernel
theorem dJ9_max_7cf53_5 : decode cJ9_max_7cf53 5 = .ok (.iload_n 0, 1) := by decide +kernel
theorem dJ9_max_7cf53_6 : decode cJ9_max_7cf53 6 = .ok (.goto 4, 3) := by decide +kernel
theorem dJ9_max_7cf53_9 : decode cJ9_max_7cf53 9 = .ok (.iload_n 1, 1) := by decide +kernel
theorem dJ9_max_7cf53_10 : decode cJ9_max_7cf53 10 = .ok (.ireturn, 1) := by decide +kernel
theorem dJ9_min_7cf53_0 : decode cJ9_min_7cf53 0 = .ok (.iload_n 0, 1) := by decide +kernel
theorem dJ9_min_7cf53_1 : decode cJ9_min_7cf53 1 = .ok (.iload_n 1, 1) := by decide +kernel
theorem dJ9_min_7cf53_2 : decode cJ9_min_7cf53 2 = .ok (.if_icmp .gt 7, 3) := by decide +kernel
theorem dJ9_min_7cf53_5 : decode cJ9_min_7cf53 5 = .ok (.iload_n 0, 1) := by decide +kernel
theorem dJ9_min_7cf53_6 : decode cJ9_min_7cf53 6 = .ok (.goto 4, 3) := by decide +kernel
theorem dJ9_min_7cf53_9 : decode cJ9_min_7cf53 9 = .ok (.iload_n 1, 1) := by decide +kernel
theorem dJ9_min_7cf53_10 : decode cJ9_min_7cf53 10 = .ok (.ireturn, 1) := by decide +kernel
theorem dJ7_fill_53178_0 : decode cJ7_fill_53178 0 = .ok (.iconst 0, 1) := by decide +kernel
theorem dJ7_fill_53178_1 : decode cJ7_fill_53178 1 = .ok (.istore_n 2, 1) := by decide +kernel
theorem dJ7_fill_53178_2 : decode cJ7_fill_53178 2 = .ok (.aload_n 0, 1) := by decide +kernel
theorem dJ7_fill_53178_3 : decode cJ7_fill_53178 3 = .ok (.arraylength, 1) := by decide +kernel
theorem dJ7_fill_53178_4 : decode cJ7_fill_53178 4 = .ok (.istore_n 3, 1) := by decide +kernel
theorem dJ7_fill_53178_5 : decode cJ7_fill_53178 5 = .ok (.iload_n 2, 1) := by decide +kernel
theorem dJ7_fill_53178_6 : decode cJ7_fill_53178 6 = .ok (.iload_n 3, 1) := by decide +kernel
theorem dJ7_fill_53178_7 : decode cJ7_fill_53178 7 = .ok (.if_icmp .ge 13, 3) := by decide +kernel
theorem dJ7_fill_53178_10 : decode cJ7_fill_53178 10 = .ok (.aload_n 0, 1) := by decide +kernel
theorem dJ7_fill_53178_11 : decode cJ7_fill_53178 11 = .ok (.iload_n 2, 1) := by decide +kernel
theorem dJ7_fill_53178_12 : decode cJ7_fill_53178 12 = .ok (.iload_n 1, 1) := by decide +kernel
theorem dJ7_fill_53178_13 : decode cJ7_fill_53178 13 = .ok (.iastore, 1) := by decide +kernel
theorem dJ7_fill_53178_14 : decode cJ7_fill_53178 14 = .ok (.iinc 2 1, 3) := by decide +kernel
theorem dJ7_fill_53178_17 : decode cJ7_fill_53178 17 = .ok (.goto (-12), 3) := by decide +kernel
theorem dJ7_fill_53178_20 : decode cJ7_fill_53178 20 = .ok (.return_, 1) := by decide +kernel
