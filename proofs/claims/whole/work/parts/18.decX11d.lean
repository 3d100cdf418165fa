theorem dX11_callOf_0 : decode cX11_callOf 0 = .ok (.aload_n 0, 1) := by decide +kernel
theorem dX11_callOf_1 : decode cX11_callOf 1 = .ok (.iload_n 1, 1) := by decide +kernel
theorem dX11_callOf_2 : decode cX11_callOf 2 = .ok (.iload_n 2, 1) := by decide +kernel
theorem dX11_callOf_3 : decode cX11_callOf 3 = .ok (.invokevirtual 484, 3) := by decide +kernel
theorem dX11_callOf_6 : decode cX11_callOf 6 = .ok (.iconst 0, 1) := by decide +kernel
theorem dX11_callOf_7 : decode cX11_callOf 7 = .ok (.istore_n 3, 1) := by decide +kernel
theorem dX11_callOf_8 : decode cX11_callOf 8 = .ok (.iload_n 3, 1) := by decide +kernel
theorem dX11_callOf_9 : decode cX11_callOf 9 = .ok (.bipush 60, 2) := by decide +kernel
theorem dX11_callOf_11 : decode cX11_callOf 11 = .ok (.if_icmp .ge 43, 3) := by decide +kernel
theorem dX11_callOf_14 : decode cX11_callOf 14 = .ok (.aload_n 0, 1) := by decide +kernel
theorem dX11_callOf_15 : decode cX11_callOf 15 = .ok (.getfield 205, 3) := by decide +kernel
theorem dX11_callOf_18 : decode cX11_callOf 18 = .ok (.iload_n 3, 1) := by decide +kernel
theorem dX11_callOf_19 : decode cX11_callOf 19 = .ok (.iload_n 3, 1) := by decide +kernel
theorem dX11_callOf_20 : decode cX11_callOf 20 = .ok (.aload_n 0, 1) := by decide +kernel
theorem dX11_callOf_21 : decode cX11_callOf 21 = .ok (.getfield 244, 3) := by decide +kernel
theorem dX11_callOf_24 : decode cX11_callOf 24 = .ok (.if_icmp .ge 22, 3) := by decide +kernel
theorem dX11_callOf_27 : decode cX11_callOf 27 = .ok (.aload_n 0, 1) := by decide +kernel
theorem dX11_callOf_28 : decode cX11_callOf 28 = .ok (.getfield 159, 3) := by decide +kernel
theorem dX11_callOf_31 : decode cX11_callOf 31 = .ok (.bipush 60, 2) := by decide +kernel
theorem dX11_callOf_33 : decode cX11_callOf 33 = .ok (.iload_n 1, 1) := by decide +kernel
theorem dX11_callOf_34 : decode cX11_callOf 34 = .ok (.imul, 1) := by decide +kernel
theorem dX11_callOf_35 : decode cX11_callOf 35 = .ok (.iload_n 3, 1) := by decide +kernel
theorem dX11_callOf_36 : decode cX11_callOf 36 = .ok (.iadd, 1) := by decide +kernel
theorem dX11_callOf_37 : decode cX11_callOf 37 = .ok (.iaload, 1) := by decide +kernel
theorem dX11_callOf_38 : decode cX11_callOf 38 = .ok (.iconst 5, 1) := by decide +kernel
theorem dX11_callOf_39 : decode cX11_callOf 39 = .ok (.if_icmp .ne 7, 3) := by decide +kernel
theorem dX11_callOf_42 : decode cX11_callOf 42 = .ok (.iconst 1, 1) := by decide +kernel
theorem dX11_callOf_43 : decode cX11_callOf 43 = .ok (.goto 4, 3) := by decide +kernel
theorem dX11_callOf_46 : decode cX11_callOf 46 = .ok (.iconst 0, 1) := by decide +kernel
theorem dX11_callOf_47 : decode cX11_callOf 47 = .ok (.bastore, 1) := by decide +kernel
theorem dX11_callOf_48 : decode cX11_callOf 48 = .ok (.iinc 3 1, 3) := by decide +kernel
theorem dX11_callOf_51 : decode cX11_callOf 51 = .ok (.goto (-43), 3) := by decide +kernel
theorem dX11_callOf_54 : decode cX11_callOf 54 = .ok (.return_, 1) := by decide +kernel
theorem dX11_mended_0 : decode cX11_mended 0 = .ok (.aload_n 0, 1) := by decide +kernel
theorem dX11_mended_1 : decode cX11_mended 1 = .ok (.iconst 0, 1) := by decide +kernel
theorem dX11_mended_2 : decode cX11_mended 2 = .ok (.putfield 221, 3) := by decide +kernel
theorem dX11_mended_5 : decode cX11_mended 5 = .ok (.aload_n 0, 1) := by decide +kernel
theorem dX11_mended_6 : decode cX11_mended 6 = .ok (.iload_n 1, 1) := by decide +kernel
theorem dX11_mended_7 : decode cX11_mended 7 = .ok (.invokevirtual 416, 3) := by decide +kernel
theorem dX11_mended_10 : decode cX11_mended 10 = .ok (.ifCond .ne 5, 3) := by decide +kernel
theorem dX11_mended_13 : decode cX11_mended 13 = .ok (.iconst (-1), 1) := by decide +kernel
theorem dX11_mended_14 : decode cX11_mended 14 = .ok (.ireturn, 1) := by decide +kernel
theorem dX11_mended_15 : decode cX11_mended 15 = .ok (.aload_n 0, 1) := by decide +kernel
theorem dX11_mended_16 : decode cX11_mended 16 = .ok (.iload_n 1, 1) := by decide +kernel
theorem dX11_mended_17 : decode cX11_mended 17 = .ok (.iload 4, 2) := by decide +kernel
theorem dX11_mended_19 : decode cX11_mended 19 = .ok (.ifCond .eq 7, 3) := by decide +kernel
theorem dX11_mended_22 : decode cX11_mended 22 = .ok (.iload_n 3, 1) := by decide +kernel
theorem dX11_mended_23 : decode cX11_mended 23 = .ok (.goto 4, 3) := by decide +kernel
theorem dX11_mended_26 : decode cX11_mended 26 = .ok (.iload_n 2, 1) := by decide +kernel
theorem dX11_mended_27 : decode cX11_mended 27 = .ok (.invokevirtual 490, 3) := by decide +kernel
theorem dX11_mended_30 : decode cX11_mended 30 = .ok (.aload_n 0, 1) := by decide +kernel
theorem dX11_mended_31 : decode cX11_mended 31 = .ok (.iload_n 1, 1) := by decide +kernel
theorem dX11_mended_32 : decode cX11_mended 32 = .ok (.iload 4, 2) := by decide +kernel
theorem dX11_mended_34 : decode cX11_mended 34 = .ok (.ifCond .eq 7, 3) := by decide +kernel
theorem dX11_mended_37 : decode cX11_mended 37 = .ok (.iload_n 2, 1) := by decide +kernel
theorem dX11_mended_38 : decode cX11_mended 38 = .ok (.goto 4, 3) := by decide +kernel
theorem dX11_mended_41 : decode cX11_mended 41 = .ok (.iload_n 3, 1) := by decide +kernel
theorem dX11_mended_42 : decode cX11_mended 42 = .ok (.invokevirtual 484, 3) := by decide +kernel
theorem dX11_mended_45 : decode cX11_mended 45 = .ok (.aload_n 0, 1) := by decide +kernel
theorem dX11_mended_46 : decode cX11_mended 46 = .ok (.iconst 0, 1) := by decide +kernel
theorem dX11_mended_47 : decode cX11_mended 47 = .ok (.putfield 493, 3) := by decide +kernel
theorem dX11_mended_50 : decode cX11_mended 50 = .ok (.iconst 0, 1) := by decide +kernel
theorem dX11_mended_51 : decode cX11_mended 51 = .ok (.istore 5, 2) := by decide +kernel
theorem dX11_mended_53 : decode cX11_mended 53 = .ok (.iload 5, 2) := by decide +kernel
theorem dX11_mended_55 : decode cX11_mended 55 = .ok (.aload_n 0, 1) := by decide +kernel
theorem dX11_mended_56 : decode cX11_mended 56 = .ok (.getfield 244, 3) := by decide +kernel
theorem dX11_mended_59 : decode cX11_mended 59 = .ok (.if_icmp .ge 59, 3) := by decide +kernel
theorem dX11_mended_62 : decode cX11_mended 62 = .ok (.aload_n 0, 1) := by decide +kernel
theorem dX11_mended_63 : decode cX11_mended 63 = .ok (.getfield 159, 3) := by decide +kernel
theorem dX11_mended_66 : decode cX11_mended 66 = .ok (.bipush 60, 2) := by decide +kernel
theorem dX11_mended_68 : decode cX11_mended 68 = .ok (.iload_n 1, 1) := by decide +kernel
theorem dX11_mended_69 : decode cX11_mended 69 = .ok (.imul, 1) := by decide +kernel
theorem dX11_mended_70 : decode cX11_mended 70 = .ok (.iload 5, 2) := by decide +kernel
theorem dX11_mended_72 : decode cX11_mended 72 = .ok (.iadd, 1) := by decide +kernel
theorem dX11_mended_73 : decode cX11_mended 73 = .ok (.iaload, 1) := by decide +kernel
theorem dX11_mended_74 : decode cX11_mended 74 = .ok (.iconst 5, 1) := by decide +kernel
theorem dX11_mended_75 : decode cX11_mended 75 = .ok (.if_icmp .ne 37, 3) := by decide +kernel
theorem dX11_mended_78 : decode cX11_mended 78 = .ok (.aload_n 0, 1) := by decide +kernel
theorem dX11_mended_79 : decode cX11_mended 79 = .ok (.getfield 205, 3) := by decide +kernel
theorem dX11_mended_82 : decode cX11_mended 82 = .ok (.iload 5, 2) := by decide +kernel
theorem dX11_mended_84 : decode cX11_mended 84 = .ok (.baload, 1) := by decide +kernel
theorem dX11_mended_85 : decode cX11_mended 85 = .ok (.ifCond .eq 6, 3) := by decide +kernel
theorem dX11_mended_88 : decode cX11_mended 88 = .ok (.goto 24, 3) := by decide +kernel
theorem dX11_mended_91 : decode cX11_mended 91 = .ok (.aload_n 0, 1) := by decide +kernel
theorem dX11_mended_92 : decode cX11_mended 92 = .ok (.getfield 186, 3) := by decide +kernel
theorem dX11_mended_95 : decode cX11_mended 95 = .ok (.aload_n 0, 1) := by decide +kernel
theorem dX11_mended_96 : decode cX11_mended 96 = .ok (.getfield 493, 3) := by decide +kernel
theorem dX11_mended_99 : decode cX11_mended 99 = .ok (.iload 5, 2) := by decide +kernel
theorem dX11_mended_101 : decode cX11_mended 101 = .ok (.iastore, 1) := by decide +kernel
theorem dX11_mended_102 : decode cX11_mended 102 = .ok (.aload_n 0, 1) := by decide +kernel
theorem dX11_mended_103 : decode cX11_mended 103 = .ok (.dup, 1) := by decide +kernel
theorem dX11_mended_104 : decode cX11_mended 104 = .ok (.getfield 493, 3) := by decide +kernel
theorem dX11_mended_107 : decode cX11_mended 107 = .ok (.iconst 1, 1) := by decide +kernel
theorem dX11_mended_108 : decode cX11_mended 108 = .ok (.iadd, 1) := by decide +kernel
theorem dX11_mended_109 : decode cX11_mended 109 = .ok (.putfield 493, 3) := by decide +kernel
theorem dX11_mended_112 : decode cX11_mended 112 = .ok (.iinc 5 1, 3) := by decide +kernel
theorem dX11_mended_115 : decode cX11_mended 115 = .ok (.goto (-62), 3) := by decide +kernel
theorem dX11_mended_118 : decode cX11_mended 118 = .ok (.aload_n 0, 1) := by decide +kernel
theorem dX11_mended_119 : decode cX11_mended 119 = .ok (.getfield 493, 3) := by decide +kernel
theorem dX11_mended_122 : decode cX11_mended 122 = .ok (.ireturn, 1) := by decide +kernel
theorem dX11_mendedAt_0 : decode cX11_mendedAt 0 = .ok (.aload_n 0, 1) := by decide +kernel
theorem dX11_mendedAt_1 : decode cX11_mendedAt 1 = .ok (.iconst 0, 1) := by decide +kernel
theorem dX11_mendedAt_2 : decode cX11_mendedAt 2 = .ok (.putfield 221, 3) := by decide +kernel
theorem dX11_mendedAt_5 : decode cX11_mendedAt 5 = .ok (.iload_n 1, 1) := by decide +kernel
theorem dX11_mendedAt_6 : decode cX11_mendedAt 6 = .ok (.ifCond .lt 11, 3) := by decide +kernel
theorem dX11_mendedAt_9 : decode cX11_mendedAt 9 = .ok (.iload_n 1, 1) := by decide +kernel
theorem dX11_mendedAt_10 : decode cX11_mendedAt 10 = .ok (.aload_n 0, 1) := by decide +kernel
theorem dX11_mendedAt_11 : decode cX11_mendedAt 11 = .ok (.getfield 493, 3) := by decide +kernel
theorem dX11_mendedAt_14 : decode cX11_mendedAt 14 = .ok (.if_icmp .lt 7, 3) := by decide +kernel
theorem dX11_mendedAt_17 : decode cX11_mendedAt 17 = .ok (.iconst (-1), 1) := by decide +kernel
theorem dX11_mendedAt_18 : decode cX11_mendedAt 18 = .ok (.goto 9, 3) := by decide +kernel
theorem dX11_mendedAt_21 : decode cX11_mendedAt 21 = .ok (.aload_n 0, 1) := by decide +kernel
theorem dX11_mendedAt_22 : decode cX11_mendedAt 22 = .ok (.getfield 186, 3) := by decide +kernel
theorem dX11_mendedAt_25 : decode cX11_mendedAt 25 = .ok (.iload_n 1, 1) := by decide +kernel
theorem dX11_mendedAt_26 : decode cX11_mendedAt 26 = .ok (.iaload, 1) := by decide +kernel
theorem dX11_mendedAt_27 : decode cX11_mendedAt 27 = .ok (.ireturn, 1) := by decide +kernel
theorem dX11_appeal_0 : decode cX11_appeal 0 = .ok (.aload_n 0, 1) := by decide +kernel
theorem dX11_appeal_1 : decode cX11_appeal 1 = .ok (.iconst 0, 1) := by decide +kernel
theorem dX11_appeal_2 : decode cX11_appeal 2 = .ok (.putfield 221, 3) := by decide +kernel
theorem dX11_appeal_5 : decode cX11_appeal 5 = .ok (.aload_n 0, 1) := by decide +kernel
theorem dX11_appeal_6 : decode cX11_appeal 6 = .ok (.iload_n 1, 1) := by decide +kernel
theorem dX11_appeal_7 : decode cX11_appeal 7 = .ok (.invokevirtual 416, 3) := by decide +kernel
theorem dX11_appeal_10 : decode cX11_appeal 10 = .ok (.ifCond .eq 33, 3) := by decide +kernel
theorem dX11_appeal_13 : decode cX11_appeal 13 = .ok (.aload_n 0, 1) := by decide +kernel
theorem dX11_appeal_14 : decode cX11_appeal 14 = .ok (.iload_n 2, 1) := by decide +kernel
theorem dX11_appeal_15 : decode cX11_appeal 15 = .ok (.invokevirtual 254, 3) := by decide +kernel
theorem dX11_appeal_18 : decode cX11_appeal 18 = .ok (.ifCond .eq 25, 3) := by decide +kernel
theorem dX11_appeal_21 : decode cX11_appeal 21 = .ok (.aload_n 0, 1) := by decide +kernel
theorem dX11_appeal_22 : decode cX11_appeal 22 = .ok (.getfield 241, 3) := by decide +kernel
theorem dX11_appeal_25 : decode cX11_appeal 25 = .ok (.aload_n 0, 1) := by decide +kernel
theorem dX11_appeal_26 : decode cX11_appeal 26 = .ok (.getfield 117, 3) := by decide +kernel
theorem dX11_appeal_29 : decode cX11_appeal 29 = .ok (.iload_n 1, 1) := by decide +kernel
theorem dX11_appeal_30 : decode cX11_appeal 30 = .ok (.iaload, 1) := by decide +kernel
theorem dX11_appeal_31 : decode cX11_appeal 31 = .ok (.if_icmp .lt 12, 3) := by decide +kernel
theorem dX11_appeal_34 : decode cX11_appeal 34 = .ok (.aload_n 0, 1) := by decide +kernel
theorem dX11_appeal_35 : decode cX11_appeal 35 = .ok (.getfield 496, 3) := by decide +kernel
theorem dX11_appeal_38 : decode cX11_appeal 38 = .ok (.bipush 60, 2) := by decide +kernel
theorem dX11_appeal_40 : decode cX11_appeal 40 = .ok (.if_icmp .ne 5, 3) := by decide +kernel
theorem dX11_appeal_43 : decode cX11_appeal 43 = .ok (.iconst (-1), 1) := by decide +kernel
theorem dX11_appeal_44 : decode cX11_appeal 44 = .ok (.ireturn, 1) := by decide +kernel
theorem dX11_appeal_45 : decode cX11_appeal 45 = .ok (.aload_n 0, 1) := by decide +kernel
theorem dX11_appeal_46 : decode cX11_appeal 46 = .ok (.aload_n 0, 1) := by decide +kernel
theorem dX11_appeal_47 : decode cX11_appeal 47 = .ok (.getfield 117, 3) := by decide +kernel
theorem dX11_appeal_50 : decode cX11_appeal 50 = .ok (.iload_n 1, 1) := by decide +kernel
theorem dX11_appeal_51 : decode cX11_appeal 51 = .ok (.iaload, 1) := by decide +kernel
theorem dX11_appeal_52 : decode cX11_appeal 52 = .ok (.aload_n 0, 1) := by decide +kernel
theorem dX11_appeal_53 : decode cX11_appeal 53 = .ok (.getfield 241, 3) := by decide +kernel
theorem dX11_appeal_56 : decode cX11_appeal 56 = .ok (.invokevirtual 469, 3) := by decide +kernel
theorem dX11_appeal_59 : decode cX11_appeal 59 = .ok (.istore_n 3, 1) := by decide +kernel
theorem dX11_appeal_60 : decode cX11_appeal 60 = .ok (.aload_n 0, 1) := by decide +kernel
theorem dX11_appeal_61 : decode cX11_appeal 61 = .ok (.getfield 241, 3) := by decide +kernel
theorem dX11_appeal_64 : decode cX11_appeal 64 = .ok (.aload_n 0, 1) := by decide +kernel
theorem dX11_appeal_65 : decode cX11_appeal 65 = .ok (.getfield 117, 3) := by decide +kernel
theorem dX11_appeal_68 : decode cX11_appeal 68 = .ok (.iload_n 1, 1) := by decide +kernel
theorem dX11_appeal_69 : decode cX11_appeal 69 = .ok (.iaload, 1) := by decide +kernel
theorem dX11_appeal_70 : decode cX11_appeal 70 = .ok (.isub, 1) := by decide +kernel
theorem dX11_appeal_71 : decode cX11_appeal 71 = .ok (.iload_n 3, 1) := by decide +kernel
theorem dX11_appeal_72 : decode cX11_appeal 72 = .ok (.ifCond .ge 8, 3) := by decide +kernel
theorem dX11_appeal_75 : decode cX11_appeal 75 = .ok (.bipush 30, 2) := by decide +kernel
theorem dX11_appeal_77 : decode cX11_appeal 77 = .ok (.goto 9, 3) := by decide +kernel
theorem dX11_appeal_80 : decode cX11_appeal 80 = .ok (.aload_n 0, 1) := by decide +kernel
theorem dX11_appeal_81 : decode cX11_appeal 81 = .ok (.getfield 83, 3) := by decide +kernel
theorem dX11_appeal_84 : decode cX11_appeal 84 = .ok (.iload_n 3, 1) := by decide +kernel
theorem dX11_appeal_85 : decode cX11_appeal 85 = .ok (.iaload, 1) := by decide +kernel
theorem dX11_appeal_86 : decode cX11_appeal 86 = .ok (.if_icmp .le 5, 3) := by decide +kernel
theorem dX11_appeal_89 : decode cX11_appeal 89 = .ok (.iconst (-1), 1) := by decide +kernel
theorem dX11_appeal_90 : decode cX11_appeal 90 = .ok (.ireturn, 1) := by decide +kernel
theorem dX11_appeal_91 : decode cX11_appeal 91 = .ok (.aload_n 0, 1) := by decide +kernel
theorem dX11_appeal_92 : decode cX11_appeal 92 = .ok (.iload_n 1, 1) := by decide +kernel
theorem dX11_appeal_93 : decode cX11_appeal 93 = .ok (.aload_n 0, 1) := by decide +kernel
theorem dX11_appeal_94 : decode cX11_appeal 94 = .ok (.getfield 117, 3) := by decide +kernel
theorem dX11_appeal_97 : decode cX11_appeal 97 = .ok (.iload_n 1, 1) := by decide +kernel
theorem dX11_appeal_98 : decode cX11_appeal 98 = .ok (.iaload, 1) := by decide +kernel
theorem dX11_appeal_99 : decode cX11_appeal 99 = .ok (.invokevirtual 490, 3) := by decide +kernel
theorem dX11_appeal_102 : decode cX11_appeal 102 = .ok (.aload_n 0, 1) := by decide +kernel
theorem dX11_appeal_103 : decode cX11_appeal 103 = .ok (.iload_n 1, 1) := by decide +kernel
theorem dX11_appeal_104 : decode cX11_appeal 104 = .ok (.aload_n 0, 1) := by decide +kernel
theorem dX11_appeal_105 : decode cX11_appeal 105 = .ok (.getfield 241, 3) := by decide +kernel
theorem dX11_appeal_108 : decode cX11_appeal 108 = .ok (.invokevirtual 484, 3) := by decide +kernel
theorem dX11_appeal_111 : decode cX11_appeal 111 = .ok (.aload_n 0, 1) := by decide +kernel
theorem dX11_appeal_112 : decode cX11_appeal 112 = .ok (.dup, 1) := by decide +kernel
theorem dX11_appeal_113 : decode cX11_appeal 113 = .ok (.getfield 496, 3) := by decide +kernel
theorem dX11_appeal_116 : decode cX11_appeal 116 = .ok (.iconst 1, 1) := by decide +kernel
theorem dX11_appeal_117 : decode cX11_appeal 117 = .ok (.iadd, 1) := by decide +kernel
theorem dX11_appeal_118 : decode cX11_appeal 118 = .ok (.putfield 496, 3) := by decide +kernel
theorem dX11_appeal_121 : decode cX11_appeal 121 = .ok (.aload_n 0, 1) := by decide +kernel
theorem dX11_appeal_122 : decode cX11_appeal 122 = .ok (.getfield 205, 3) := by decide +kernel
theorem dX11_appeal_125 : decode cX11_appeal 125 = .ok (.iload_n 2, 1) := by decide +kernel
theorem dX11_appeal_126 : decode cX11_appeal 126 = .ok (.baload, 1) := by decide +kernel
theorem dX11_appeal_127 : decode cX11_appeal 127 = .ok (.ifCond .eq 22, 3) := by decide +kernel
theorem dX11_appeal_130 : decode cX11_appeal 130 = .ok (.aload_n 0, 1) := by decide +kernel
theorem dX11_appeal_131 : decode cX11_appeal 131 = .ok (.getfield 159, 3) := by decide +kernel
theorem dX11_appeal_134 : decode cX11_appeal 134 = .ok (.bipush 60, 2) := by decide +kernel
theorem dX11_appeal_136 : decode cX11_appeal 136 = .ok (.iload_n 1, 1) := by decide +kernel
theorem dX11_appeal_137 : decode cX11_appeal 137 = .ok (.imul, 1) := by decide +kernel
theorem dX11_appeal_138 : decode cX11_appeal 138 = .ok (.iload_n 2, 1) := by decide +kernel
theorem dX11_appeal_139 : decode cX11_appeal 139 = .ok (.iadd, 1) := by decide +kernel
theorem dX11_appeal_140 : decode cX11_appeal 140 = .ok (.iaload, 1) := by decide +kernel
theorem dX11_appeal_141 : decode cX11_appeal 141 = .ok (.iconst 5, 1) := by decide +kernel
theorem dX11_appeal_142 : decode cX11_appeal 142 = .ok (.if_icmp .eq 7, 3) := by decide +kernel
theorem dX11_appeal_145 : decode cX11_appeal 145 = .ok (.iconst 1, 1) := by decide +kernel
theorem dX11_appeal_146 : decode cX11_appeal 146 = .ok (.goto 4, 3) := by decide +kernel
theorem dX11_appeal_149 : decode cX11_appeal 149 = .ok (.iconst 0, 1) := by decide +kernel
theorem dX11_appeal_150 : decode cX11_appeal 150 = .ok (.istore 4, 2) := by decide +kernel
theorem dX11_appeal_152 : decode cX11_appeal 152 = .ok (.aload_n 0, 1) := by decide +kernel
theorem dX11_appeal_153 : decode cX11_appeal 153 = .ok (.dup, 1) := by decide +kernel
theorem dX11_appeal_154 : decode cX11_appeal 154 = .ok (.getfield 499, 3) := by decide +kernel
theorem dX11_appeal_157 : decode cX11_appeal 157 = .ok (.iload 4, 2) := by decide +kernel
theorem dX11_appeal_159 : decode cX11_appeal 159 = .ok (.ifCond .eq 7, 3) := by decide +kernel
theorem dX11_appeal_162 : decode cX11_appeal 162 = .ok (.iconst 1, 1) := by decide +kernel
theorem dX11_appeal_163 : decode cX11_appeal 163 = .ok (.goto 4, 3) := by decide +kernel
theorem dX11_appeal_166 : decode cX11_appeal 166 = .ok (.iconst 0, 1) := by decide +kernel
theorem dX11_appeal_167 : decode cX11_appeal 167 = .ok (.iadd, 1) := by decide +kernel
theorem dX11_appeal_168 : decode cX11_appeal 168 = .ok (.putfield 499, 3) := by decide +kernel
theorem dX11_appeal_171 : decode cX11_appeal 171 = .ok (.iload 4, 2) := by decide +kernel
theorem dX11_appeal_173 : decode cX11_appeal 173 = .ok (.ifCond .eq 7, 3) := by decide +kernel
theorem dX11_appeal_176 : decode cX11_appeal 176 = .ok (.iconst 1, 1) := by decide +kernel
theorem dX11_appeal_177 : decode cX11_appeal 177 = .ok (.goto 4, 3) := by decide +kernel
theorem dX11_appeal_180 : decode cX11_appeal 180 = .ok (.iconst 0, 1) := by decide +kernel
theorem dX11_appeal_181 : decode cX11_appeal 181 = .ok (.ireturn, 1) := by decide +kernel
theorem dX11_choose_0 : decode cX11_choose 0 = .ok (.iload_n 1, 1) := by decide +kernel
theorem dX11_choose_1 : decode cX11_choose 1 = .ok (.ifCond .lt 8, 3) := by decide +kernel
theorem dX11_choose_4 : decode cX11_choose 4 = .ok (.iload_n 1, 1) := by decide +kernel
theorem dX11_choose_5 : decode cX11_choose 5 = .ok (.iload_n 0, 1) := by decide +kernel
theorem dX11_choose_6 : decode cX11_choose 6 = .ok (.if_icmp .le 5, 3) := by decide +kernel
theorem dX11_choose_9 : decode cX11_choose 9 = .ok (.lconst 0, 1) := by decide +kernel
theorem dX11_choose_10 : decode cX11_choose 10 = .ok (.lreturn, 1) := by decide +kernel
theorem dX11_choose_11 : decode cX11_choose 11 = .ok (.lconst 1, 1) := by decide +kernel
theorem dX11_choose_12 : decode cX11_choose 12 = .ok (.lstore_n 2, 1) := by decide +kernel
theorem dX11_choose_13 : decode cX11_choose 13 = .ok (.iconst 0, 1) := by decide +kernel
theorem dX11_choose_14 : decode cX11_choose 14 = .ok (.istore 4, 2) := by decide +kernel
theorem dX11_choose_16 : decode cX11_choose 16 = .ok (.iload 4, 2) := by decide +kernel
theorem dX11_choose_18 : decode cX11_choose 18 = .ok (.iload_n 1, 1) := by decide +kernel
theorem dX11_choose_19 : decode cX11_choose 19 = .ok (.if_icmp .ge 23, 3) := by decide +kernel
theorem dX11_choose_22 : decode cX11_choose 22 = .ok (.lload_n 2, 1) := by decide +kernel
theorem dX11_choose_23 : decode cX11_choose 23 = .ok (.iload_n 0, 1) := by decide +kernel
theorem dX11_choose_24 : decode cX11_choose 24 = .ok (.iload 4, 2) := by decide +kernel
theorem dX11_choose_26 : decode cX11_choose 26 = .ok (.isub, 1) := by decide +kernel
theorem dX11_choose_27 : decode cX11_choose 27 = .ok (.i2l, 1) := by decide +kernel
theorem dX11_choose_28 : decode cX11_choose 28 = .ok (.lmul, 1) := by decide +kernel
theorem dX11_choose_29 : decode cX11_choose 29 = .ok (.iload 4, 2) := by decide +kernel
theorem dX11_choose_31 : decode cX11_choose 31 = .ok (.iconst 1, 1) := by decide +kernel
theorem dX11_choose_32 : decode cX11_choose 32 = .ok (.iadd, 1) := by decide +kernel
theorem dX11_choose_33 : decode cX11_choose 33 = .ok (.i2l, 1) := by decide +kernel
theorem dX11_choose_34 : decode cX11_choose 34 = .ok (.ldiv, 1) := by decide +kernel
theorem dX11_choose_35 : decode cX11_choose 35 = .ok (.lstore_n 2, 1) := by decide +kernel
theorem dX11_choose_36 : decode cX11_choose 36 = .ok (.iinc 4 1, 3) := by decide +kernel
theorem dX11_choose_39 : decode cX11_choose 39 = .ok (.goto (-23), 3) := by decide +kernel
theorem dX11_choose_42 : decode cX11_choose 42 = .ok (.lload_n 2, 1) := by decide +kernel
theorem dX11_choose_43 : decode cX11_choose 43 = .ok (.lreturn, 1) := by decide +kernel
theorem dX11_take_0 : decode cX11_take 0 = .ok (.lconst 0, 1) := by decide +kernel
theorem dX11_take_1 : decode cX11_take 1 = .ok (.lstore 5, 2) := by decide +kernel
theorem dX11_take_3 : decode cX11_take 3 = .ok (.iload 4, 2) := by decide +kernel
theorem dX11_take_5 : decode cX11_take 5 = .ok (.istore 7, 2) := by decide +kernel
theorem dX11_take_7 : decode cX11_take 7 = .ok (.iload 7, 2) := by decide +kernel
theorem dX11_take_9 : decode cX11_take 9 = .ok (.iload_n 3, 1) := by decide +kernel
theorem dX11_take_10 : decode cX11_take 10 = .ok (.if_icmp .gt 31, 3) := by decide +kernel
theorem dX11_take_13 : decode cX11_take 13 = .ok (.lload 5, 2) := by decide +kernel
theorem dX11_take_15 : decode cX11_take 15 = .ok (.iload_n 2, 1) := by decide +kernel
theorem dX11_take_16 : decode cX11_take 16 = .ok (.iload 7, 2) := by decide +kernel
theorem dX11_take_18 : decode cX11_take 18 = .ok (.invokestatic 502, 3) := by decide +kernel
theorem dX11_take_21 : decode cX11_take 21 = .ok (.iload_n 1, 1) := by decide +kernel
theorem dX11_take_22 : decode cX11_take 22 = .ok (.iload_n 2, 1) := by decide +kernel
theorem dX11_take_23 : decode cX11_take 23 = .ok (.isub, 1) := by decide +kernel
theorem dX11_take_24 : decode cX11_take 24 = .ok (.iload_n 3, 1) := by decide +kernel
theorem dX11_take_25 : decode cX11_take 25 = .ok (.iload 7, 2) := by decide +kernel
theorem dX11_take_27 : decode cX11_take 27 = .ok (.isub, 1) := by decide +kernel
theorem dX11_take_28 : decode cX11_take 28 = .ok (.invokestatic 502, 3) := by decide +kernel
theorem dX11_take_31 : decode cX11_take 31 = .ok (.lmul, 1) := by decide +kernel
theorem dX11_take_32 : decode cX11_take 32 = .ok (.ladd, 1) := by decide +kernel
theorem dX11_take_33 : decode cX11_take 33 = .ok (.lstore 5, 2) := by decide +kernel
theorem dX11_take_35 : decode cX11_take 35 = .ok (.iinc 7 1, 3) := by decide +kernel
theorem dX11_take_38 : decode cX11_take 38 = .ok (.goto (-31), 3) := by decide +kernel
theorem dX11_take_41 : decode cX11_take 41 = .ok (.iload_n 1, 1) := by decide +kernel
theorem dX11_take_42 : decode cX11_take 42 = .ok (.iload_n 3, 1) := by decide +kernel
theorem dX11_take_43 : decode cX11_take 43 = .ok (.invokestatic 502, 3) := by decide +kernel
theorem dX11_take_46 : decode cX11_take 46 = .ok (.lstore 7, 2) := by decide +kernel
theorem dX11_take_48 : decode cX11_take 48 = .ok (.lload 5, 2) := by decide +kernel
theorem dX11_take_50 : decode cX11_take 50 = .ok (.lstore 9, 2) := by decide +kernel
theorem dX11_take_52 : decode cX11_take 52 = .ok (.lload 7, 2) := by decide +kernel
theorem dX11_take_54 : decode cX11_take 54 = .ok (.lstore 11, 2) := by decide +kernel
theorem dX11_take_56 : decode cX11_take 56 = .ok (.lload 11, 2) := by decide +kernel
theorem dX11_take_58 : decode cX11_take 58 = .ok (.lconst 0, 1) := by decide +kernel
theorem dX11_take_59 : decode cX11_take 59 = .ok (.lcmp, 1) := by decide +kernel
theorem dX11_take_60 : decode cX11_take 60 = .ok (.ifCond .eq 21, 3) := by decide +kernel
theorem dX11_take_63 : decode cX11_take 63 = .ok (.lload 9, 2) := by decide +kernel
theorem dX11_take_65 : decode cX11_take 65 = .ok (.lload 11, 2) := by decide +kernel
theorem dX11_take_67 : decode cX11_take 67 = .ok (.lrem, 1) := by decide +kernel
theorem dX11_take_68 : decode cX11_take 68 = .ok (.lstore 13, 2) := by decide +kernel
theorem dX11_take_70 : decode cX11_take 70 = .ok (.lload 11, 2) := by decide +kernel
theorem dX11_take_72 : decode cX11_take 72 = .ok (.lstore 9, 2) := by decide +kernel
theorem dX11_take_74 : decode cX11_take 74 = .ok (.lload 13, 2) := by decide +kernel
theorem dX11_take_76 : decode cX11_take 76 = .ok (.lstore 11, 2) := by decide +kernel
theorem dX11_take_78 : decode cX11_take 78 = .ok (.goto (-22), 3) := by decide +kernel
theorem dX11_take_81 : decode cX11_take 81 = .ok (.aload_n 0, 1) := by decide +kernel
theorem dX11_take_82 : decode cX11_take 82 = .ok (.getfield 208, 3) := by decide +kernel
theorem dX11_take_85 : decode cX11_take 85 = .ok (.iconst 0, 1) := by decide +kernel
theorem dX11_take_86 : decode cX11_take 86 = .ok (.lload 5, 2) := by decide +kernel
theorem dX11_take_88 : decode cX11_take 88 = .ok (.lload 9, 2) := by decide +kernel
theorem dX11_take_90 : decode cX11_take 90 = .ok (.ldiv, 1) := by decide +kernel
theorem dX11_take_91 : decode cX11_take 91 = .ok (.lastore, 1) := by decide +kernel
theorem dX11_take_92 : decode cX11_take 92 = .ok (.aload_n 0, 1) := by decide +kernel
theorem dX11_take_93 : decode cX11_take 93 = .ok (.getfield 208, 3) := by decide +kernel
theorem dX11_take_96 : decode cX11_take 96 = .ok (.iconst 1, 1) := by decide +kernel
theorem dX11_take_97 : decode cX11_take 97 = .ok (.lload 7, 2) := by decide +kernel
theorem dX11_take_99 : decode cX11_take 99 = .ok (.lload 9, 2) := by decide +kernel
theorem dX11_take_101 : decode cX11_take 101 = .ok (.ldiv, 1) := by decide +kernel
theorem dX11_take_102 : decode cX11_take 102 = .ok (.lastore, 1) := by decide +kernel
theorem dX11_take_103 : decode cX11_take 103 = .ok (.return_, 1) := by decide +kernel
theorem dX11_mixed_0 : decode cX11_mixed 0 = .ok (.aload_n 0, 1) := by decide +kernel
theorem dX11_mixed_1 : decode cX11_mixed 1 = .ok (.aload_n 0, 1) := by decide +kernel
theorem dX11_mixed_2 : decode cX11_mixed 2 = .ok (.iload_n 1, 1) := by decide +kernel
theorem dX11_mixed_3 : decode cX11_mixed 3 = .ok (.invokevirtual 416, 3) := by decide +kernel
theorem dX11_mixed_6 : decode cX11_mixed 6 = .ok (.ifCond .eq 44, 3) := by decide +kernel
theorem dX11_mixed_9 : decode cX11_mixed 9 = .ok (.iload_n 2, 1) := by decide +kernel
theorem dX11_mixed_10 : decode cX11_mixed 10 = .ok (.iconst 0, 1) := by decide +kernel
theorem dX11_mixed_11 : decode cX11_mixed 11 = .ok (.bipush 52, 2) := by decide +kernel
theorem dX11_mixed_13 : decode cX11_mixed 13 = .ok (.invokestatic 237, 3) := by decide +kernel
theorem dX11_mixed_16 : decode cX11_mixed 16 = .ok (.ifCond .eq 34, 3) := by decide +kernel
theorem dX11_mixed_19 : decode cX11_mixed 19 = .ok (.iload_n 3, 1) := by decide +kernel
theorem dX11_mixed_20 : decode cX11_mixed 20 = .ok (.iconst 0, 1) := by decide +kernel
theorem dX11_mixed_21 : decode cX11_mixed 21 = .ok (.bipush 51, 2) := by decide +kernel
theorem dX11_mixed_23 : decode cX11_mixed 23 = .ok (.invokestatic 237, 3) := by decide +kernel
theorem dX11_mixed_26 : decode cX11_mixed 26 = .ok (.ifCond .eq 24, 3) := by decide +kernel
theorem dX11_mixed_29 : decode cX11_mixed 29 = .ok (.iload 4, 2) := by decide +kernel
theorem dX11_mixed_31 : decode cX11_mixed 31 = .ok (.iload_n 3, 1) := by decide +kernel
theorem dX11_mixed_32 : decode cX11_mixed 32 = .ok (.bipush 51, 2) := by decide +kernel
theorem dX11_mixed_34 : decode cX11_mixed 34 = .ok (.invokestatic 237, 3) := by decide +kernel
theorem dX11_mixed_37 : decode cX11_mixed 37 = .ok (.ifCond .eq 13, 3) := by decide +kernel
theorem dX11_mixed_40 : decode cX11_mixed 40 = .ok (.iload 5, 2) := by decide +kernel
theorem dX11_mixed_42 : decode cX11_mixed 42 = .ok (.iconst 0, 1) := by decide +kernel
theorem dX11_mixed_43 : decode cX11_mixed 43 = .ok (.iconst 2, 1) := by decide +kernel
theorem dX11_mixed_44 : decode cX11_mixed 44 = .ok (.invokestatic 237, 3) := by decide +kernel
theorem dX11_mixed_47 : decode cX11_mixed 47 = .ok (.ifCond .ne 7, 3) := by decide +kernel
theorem dX11_mixed_50 : decode cX11_mixed 50 = .ok (.iconst 1, 1) := by decide +kernel
theorem dX11_mixed_51 : decode cX11_mixed 51 = .ok (.goto 4, 3) := by decide +kernel
theorem dX11_mixed_54 : decode cX11_mixed 54 = .ok (.iconst 0, 1) := by decide +kernel
theorem dX11_mixed_55 : decode cX11_mixed 55 = .ok (.invokevirtual 506, 3) := by decide +kernel
theorem dX11_mixed_58 : decode cX11_mixed 58 = .ok (.ifCond .eq 5, 3) := by decide +kernel
theorem dX11_mixed_61 : decode cX11_mixed 61 = .ok (.lconst 0, 1) := by decide +kernel
theorem dX11_mixed_62 : decode cX11_mixed 62 = .ok (.lreturn, 1) := by decide +kernel
theorem dX11_mixed_63 : decode cX11_mixed 63 = .ok (.iconst 0, 1) := by decide +kernel
theorem dX11_mixed_64 : decode cX11_mixed 64 = .ok (.istore 6, 2) := by decide +kernel
theorem dX11_mixed_66 : decode cX11_mixed 66 = .ok (.iconst 0, 1) := by decide +kernel
theorem dX11_mixed_67 : decode cX11_mixed 67 = .ok (.istore 7, 2) := by decide +kernel
theorem dX11_mixed_69 : decode cX11_mixed 69 = .ok (.iload 7, 2) := by decide +kernel
theorem dX11_mixed_71 : decode cX11_mixed 71 = .ok (.iload_n 2, 1) := by decide +kernel
theorem dX11_mixed_72 : decode cX11_mixed 72 = .ok (.if_icmp .ge 40, 3) := by decide +kernel
theorem dX11_mixed_75 : decode cX11_mixed 75 = .ok (.iload 6, 2) := by decide +kernel
theorem dX11_mixed_77 : decode cX11_mixed 77 = .ok (.aload_n 0, 1) := by decide +kernel
theorem dX11_mixed_78 : decode cX11_mixed 78 = .ok (.getfield 123, 3) := by decide +kernel
theorem dX11_mixed_81 : decode cX11_mixed 81 = .ok (.bipush 52, 2) := by decide +kernel
theorem dX11_mixed_83 : decode cX11_mixed 83 = .ok (.iload_n 1, 1) := by decide +kernel
theorem dX11_mixed_84 : decode cX11_mixed 84 = .ok (.imul, 1) := by decide +kernel
theorem dX11_mixed_85 : decode cX11_mixed 85 = .ok (.iload 7, 2) := by decide +kernel
theorem dX11_mixed_87 : decode cX11_mixed 87 = .ok (.iadd, 1) := by decide +kernel
theorem dX11_mixed_88 : decode cX11_mixed 88 = .ok (.iaload, 1) := by decide +kernel
theorem dX11_mixed_89 : decode cX11_mixed 89 = .ok (.iload_n 3, 1) := by decide +kernel
theorem dX11_mixed_90 : decode cX11_mixed 90 = .ok (.iload 4, 2) := by decide +kernel
theorem dX11_mixed_92 : decode cX11_mixed 92 = .ok (.invokestatic 237, 3) := by decide +kernel
theorem dX11_mixed_95 : decode cX11_mixed 95 = .ok (.ifCond .eq 7, 3) := by decide +kernel
theorem dX11_mixed_98 : decode cX11_mixed 98 = .ok (.iconst 1, 1) := by decide +kernel
theorem dX11_mixed_99 : decode cX11_mixed 99 = .ok (.goto 4, 3) := by decide +kernel
theorem dX11_mixed_102 : decode cX11_mixed 102 = .ok (.iconst 0, 1) := by decide +kernel
theorem dX11_mixed_103 : decode cX11_mixed 103 = .ok (.iadd, 1) := by decide +kernel
theorem dX11_mixed_104 : decode cX11_mixed 104 = .ok (.istore 6, 2) := by decide +kernel
theorem dX11_mixed_106 : decode cX11_mixed 106 = .ok (.iinc 7 1, 3) := by decide +kernel
theorem dX11_mixed_109 : decode cX11_mixed 109 = .ok (.goto (-40), 3) := by decide +kernel
theorem dX11_mixed_112 : decode cX11_mixed 112 = .ok (.iload 5, 2) := by decide +kernel
theorem dX11_mixed_114 : decode cX11_mixed 114 = .ok (.iconst 2, 1) := by decide +kernel
theorem dX11_mixed_115 : decode cX11_mixed 115 = .ok (.if_icmp .ne 7, 3) := by decide +kernel
theorem dX11_mixed_118 : decode cX11_mixed 118 = .ok (.iload 6, 2) := by decide +kernel
theorem dX11_mixed_120 : decode cX11_mixed 120 = .ok (.i2l, 1) := by decide +kernel
theorem dX11_mixed_121 : decode cX11_mixed 121 = .ok (.lreturn, 1) := by decide +kernel
theorem dX11_mixed_122 : decode cX11_mixed 122 = .ok (.aload_n 0, 1) := by decide +kernel
theorem dX11_mixed_123 : decode cX11_mixed 123 = .ok (.bipush 52, 2) := by decide +kernel
theorem dX11_mixed_125 : decode cX11_mixed 125 = .ok (.iload 4, 2) := by decide +kernel
theorem dX11_mixed_127 : decode cX11_mixed 127 = .ok (.iload_n 3, 1) := by decide +kernel
theorem dX11_mixed_128 : decode cX11_mixed 128 = .ok (.isub, 1) := by decide +kernel
theorem dX11_mixed_129 : decode cX11_mixed 129 = .ok (.iconst 1, 1) := by decide +kernel
theorem dX11_mixed_130 : decode cX11_mixed 130 = .ok (.iadd, 1) := by decide +kernel
theorem dX11_mixed_131 : decode cX11_mixed 131 = .ok (.iload_n 2, 1) := by decide +kernel
theorem dX11_mixed_132 : decode cX11_mixed 132 = .ok (.iload 6, 2) := by decide +kernel
theorem dX11_mixed_134 : decode cX11_mixed 134 = .ok (.invokevirtual 510, 3) := by decide +kernel
theorem dX11_mixed_137 : decode cX11_mixed 137 = .ok (.aload_n 0, 1) := by decide +kernel
theorem dX11_mixed_138 : decode cX11_mixed 138 = .ok (.getfield 208, 3) := by decide +kernel
theorem dX11_mixed_141 : decode cX11_mixed 141 = .ok (.iload 5, 2) := by decide +kernel
theorem dX11_mixed_143 : decode cX11_mixed 143 = .ok (.laload, 1) := by decide +kernel
theorem dX11_mixed_144 : decode cX11_mixed 144 = .ok (.lreturn, 1) := by decide +kernel
theorem dX11_doubt_0 : decode cX11_doubt 0 = .ok (.aload_n 0, 1) := by decide +kernel
theorem dX11_doubt_1 : decode cX11_doubt 1 = .ok (.iload_n 1, 1) := by decide +kernel
theorem dX11_doubt_2 : decode cX11_doubt 2 = .ok (.iconst 0, 1) := by decide +kernel
theorem dX11_doubt_3 : decode cX11_doubt 3 = .ok (.bipush 7, 2) := by decide +kernel
theorem dX11_doubt_5 : decode cX11_doubt 5 = .ok (.invokestatic 237, 3) := by decide +kernel
theorem dX11_doubt_8 : decode cX11_doubt 8 = .ok (.ifCond .eq 12, 3) := by decide +kernel
theorem dX11_doubt_11 : decode cX11_doubt 11 = .ok (.iload_n 3, 1) := by decide +kernel
theorem dX11_doubt_12 : decode cX11_doubt 12 = .ok (.iconst 0, 1) := by decide +kernel
theorem dX11_doubt_13 : decode cX11_doubt 13 = .ok (.iconst 2, 1) := by decide +kernel
theorem dX11_doubt_14 : decode cX11_doubt 14 = .ok (.invokestatic 237, 3) := by decide +kernel
theorem dX11_doubt_17 : decode cX11_doubt 17 = .ok (.ifCond .ne 7, 3) := by decide +kernel
theorem dX11_doubt_20 : decode cX11_doubt 20 = .ok (.iconst 1, 1) := by decide +kernel
theorem dX11_doubt_21 : decode cX11_doubt 21 = .ok (.goto 4, 3) := by decide +kernel
theorem dX11_doubt_24 : decode cX11_doubt 24 = .ok (.iconst 0, 1) := by decide +kernel
theorem dX11_doubt_25 : decode cX11_doubt 25 = .ok (.invokevirtual 506, 3) := by decide +kernel
theorem dX11_doubt_28 : decode cX11_doubt 28 = .ok (.ifCond .eq 5, 3) := by decide +kernel
theorem dX11_doubt_31 : decode cX11_doubt 31 = .ok (.lconst 0, 1) := by decide +kernel
theorem dX11_doubt_32 : decode cX11_doubt 32 = .ok (.lreturn, 1) := by decide +kernel
theorem dX11_doubt_33 : decode cX11_doubt 33 = .ok (.iconst 0, 1) := by decide +kernel
theorem dX11_doubt_34 : decode cX11_doubt 34 = .ok (.istore 4, 2) := by decide +kernel
theorem dX11_doubt_36 : decode cX11_doubt 36 = .ok (.iconst 0, 1) := by decide +kernel
theorem dX11_doubt_37 : decode cX11_doubt 37 = .ok (.istore 5, 2) := by decide +kernel
theorem dX11_doubt_39 : decode cX11_doubt 39 = .ok (.iconst 0, 1) := by decide +kernel
theorem dX11_doubt_40 : decode cX11_doubt 40 = .ok (.istore 6, 2) := by decide +kernel
theorem dX11_doubt_42 : decode cX11_doubt 42 = .ok (.iconst 0, 1) := by decide +kernel
theorem dX11_doubt_43 : decode cX11_doubt 43 = .ok (.istore 7, 2) := by decide +kernel
theorem dX11_doubt_45 : decode cX11_doubt 45 = .ok (.iconst 0, 1) := by decide +kernel
theorem dX11_doubt_46 : decode cX11_doubt 46 = .ok (.istore 8, 2) := by decide +kernel
theorem dX11_doubt_48 : decode cX11_doubt 48 = .ok (.iload 8, 2) := by decide +kernel
theorem dX11_doubt_50 : decode cX11_doubt 50 = .ok (.aload_n 0, 1) := by decide +kernel
theorem dX11_doubt_51 : decode cX11_doubt 51 = .ok (.getfield 263, 3) := by decide +kernel
theorem dX11_doubt_54 : decode cX11_doubt 54 = .ok (.if_icmp .ge 106, 3) := by decide +kernel
theorem dX11_doubt_57 : decode cX11_doubt 57 = .ok (.aload_n 0, 1) := by decide +kernel
theorem dX11_doubt_58 : decode cX11_doubt 58 = .ok (.getfield 59, 3) := by decide +kernel
theorem dX11_doubt_61 : decode cX11_doubt 61 = .ok (.iload 8, 2) := by decide +kernel
theorem dX11_doubt_63 : decode cX11_doubt 63 = .ok (.iaload, 1) := by decide +kernel
theorem dX11_doubt_64 : decode cX11_doubt 64 = .ok (.iload_n 2, 1) := by decide +kernel
theorem dX11_doubt_65 : decode cX11_doubt 65 = .ok (.if_icmp .le 6, 3) := by decide +kernel
theorem dX11_doubt_68 : decode cX11_doubt 68 = .ok (.goto 86, 3) := by decide +kernel
theorem dX11_doubt_71 : decode cX11_doubt 71 = .ok (.aload_n 0, 1) := by decide +kernel
theorem dX11_doubt_72 : decode cX11_doubt 72 = .ok (.getfield 56, 3) := by decide +kernel
theorem dX11_doubt_75 : decode cX11_doubt 75 = .ok (.iload 8, 2) := by decide +kernel
theorem dX11_doubt_77 : decode cX11_doubt 77 = .ok (.iaload, 1) := by decide +kernel
theorem dX11_doubt_78 : decode cX11_doubt 78 = .ok (.iconst 4, 1) := by decide +kernel
theorem dX11_doubt_79 : decode cX11_doubt 79 = .ok (.if_icmp .le 7, 3) := by decide +kernel
theorem dX11_doubt_82 : decode cX11_doubt 82 = .ok (.iconst 1, 1) := by decide +kernel
theorem dX11_doubt_83 : decode cX11_doubt 83 = .ok (.goto 4, 3) := by decide +kernel
theorem dX11_doubt_86 : decode cX11_doubt 86 = .ok (.iconst 0, 1) := by decide +kernel
theorem dX11_doubt_87 : decode cX11_doubt 87 = .ok (.istore 9, 2) := by decide +kernel
theorem dX11_doubt_89 : decode cX11_doubt 89 = .ok (.iinc 4 1, 3) := by decide +kernel
theorem dX11_doubt_92 : decode cX11_doubt 92 = .ok (.iload 5, 2) := by decide +kernel
theorem dX11_doubt_94 : decode cX11_doubt 94 = .ok (.iload 9, 2) := by decide +kernel
theorem dX11_doubt_96 : decode cX11_doubt 96 = .ok (.ifCond .eq 7, 3) := by decide +kernel
theorem dX11_doubt_99 : decode cX11_doubt 99 = .ok (.iconst 1, 1) := by decide +kernel
theorem dX11_doubt_100 : decode cX11_doubt 100 = .ok (.goto 4, 3) := by decide +kernel
theorem dX11_doubt_103 : decode cX11_doubt 103 = .ok (.iconst 0, 1) := by decide +kernel
theorem dX11_doubt_104 : decode cX11_doubt 104 = .ok (.iadd, 1) := by decide +kernel
theorem dX11_doubt_105 : decode cX11_doubt 105 = .ok (.istore 5, 2) := by decide +kernel
theorem dX11_doubt_107 : decode cX11_doubt 107 = .ok (.iload 6, 2) := by decide +kernel
theorem dX11_doubt_109 : decode cX11_doubt 109 = .ok (.aload_n 0, 1) := by decide +kernel
theorem dX11_doubt_110 : decode cX11_doubt 110 = .ok (.getfield 53, 3) := by decide +kernel
theorem dX11_doubt_113 : decode cX11_doubt 113 = .ok (.iload 8, 2) := by decide +kernel
theorem dX11_doubt_115 : decode cX11_doubt 115 = .ok (.iaload, 1) := by decide +kernel
theorem dX11_doubt_116 : decode cX11_doubt 116 = .ok (.iload_n 1, 1) := by decide +kernel
theorem dX11_doubt_117 : decode cX11_doubt 117 = .ok (.if_icmp .ne 7, 3) := by decide +kernel
theorem dX11_doubt_120 : decode cX11_doubt 120 = .ok (.iconst 1, 1) := by decide +kernel
theorem dX11_doubt_121 : decode cX11_doubt 121 = .ok (.goto 4, 3) := by decide +kernel
theorem dX11_doubt_124 : decode cX11_doubt 124 = .ok (.iconst 0, 1) := by decide +kernel
theorem dX11_doubt_125 : decode cX11_doubt 125 = .ok (.iadd, 1) := by decide +kernel
theorem dX11_doubt_126 : decode cX11_doubt 126 = .ok (.istore 6, 2) := by decide +kernel
theorem dX11_doubt_128 : decode cX11_doubt 128 = .ok (.iload 7, 2) := by decide +kernel
theorem dX11_doubt_130 : decode cX11_doubt 130 = .ok (.aload_n 0, 1) := by decide +kernel
theorem dX11_doubt_131 : decode cX11_doubt 131 = .ok (.getfield 53, 3) := by decide +kernel
theorem dX11_doubt_134 : decode cX11_doubt 134 = .ok (.iload 8, 2) := by decide +kernel
theorem dX11_doubt_136 : decode cX11_doubt 136 = .ok (.iaload, 1) := by decide +kernel
theorem dX11_doubt_137 : decode cX11_doubt 137 = .ok (.iload_n 1, 1) := by decide +kernel
theorem dX11_doubt_138 : decode cX11_doubt 138 = .ok (.if_icmp .ne 12, 3) := by decide +kernel
theorem dX11_doubt_141 : decode cX11_doubt 141 = .ok (.iload 9, 2) := by decide +kernel
theorem dX11_doubt_143 : decode cX11_doubt 143 = .ok (.ifCond .eq 7, 3) := by decide +kernel
theorem dX11_doubt_146 : decode cX11_doubt 146 = .ok (.iconst 1, 1) := by decide +kernel
theorem dX11_doubt_147 : decode cX11_doubt 147 = .ok (.goto 4, 3) := by decide +kernel
theorem dX11_doubt_150 : decode cX11_doubt 150 = .ok (.iconst 0, 1) := by decide +kernel
theorem dX11_doubt_151 : decode cX11_doubt 151 = .ok (.iadd, 1) := by decide +kernel
theorem dX11_doubt_152 : decode cX11_doubt 152 = .ok (.istore 7, 2) := by decide +kernel
theorem dX11_doubt_154 : decode cX11_doubt 154 = .ok (.iinc 8 1, 3) := by decide +kernel
theorem dX11_doubt_157 : decode cX11_doubt 157 = .ok (.goto (-109), 3) := by decide +kernel
theorem dX11_doubt_160 : decode cX11_doubt 160 = .ok (.iload_n 3, 1) := by decide +kernel
theorem dX11_doubt_161 : decode cX11_doubt 161 = .ok (.iconst 2, 1) := by decide +kernel
theorem dX11_doubt_162 : decode cX11_doubt 162 = .ok (.if_icmp .ne 7, 3) := by decide +kernel
theorem dX11_doubt_165 : decode cX11_doubt 165 = .ok (.iload 7, 2) := by decide +kernel
theorem dX11_doubt_167 : decode cX11_doubt 167 = .ok (.i2l, 1) := by decide +kernel
theorem dX11_doubt_168 : decode cX11_doubt 168 = .ok (.lreturn, 1) := by decide +kernel
theorem dX11_doubt_169 : decode cX11_doubt 169 = .ok (.aload_n 0, 1) := by decide +kernel
theorem dX11_doubt_170 : decode cX11_doubt 170 = .ok (.iload 4, 2) := by decide +kernel
theorem dX11_doubt_172 : decode cX11_doubt 172 = .ok (.iload 5, 2) := by decide +kernel
theorem dX11_doubt_174 : decode cX11_doubt 174 = .ok (.iload 6, 2) := by decide +kernel
theorem dX11_doubt_176 : decode cX11_doubt 176 = .ok (.iload 7, 2) := by decide +kernel
theorem dX11_doubt_178 : decode cX11_doubt 178 = .ok (.invokevirtual 510, 3) := by decide +kernel
theorem dX11_doubt_181 : decode cX11_doubt 181 = .ok (.aload_n 0, 1) := by decide +kernel
theorem dX11_doubt_182 : decode cX11_doubt 182 = .ok (.getfield 208, 3) := by decide +kernel
theorem dX11_doubt_185 : decode cX11_doubt 185 = .ok (.iload_n 3, 1) := by decide +kernel
theorem dX11_doubt_186 : decode cX11_doubt 186 = .ok (.laload, 1) := by decide +kernel
theorem dX11_doubt_187 : decode cX11_doubt 187 = .ok (.lreturn, 1) := by decide +kernel
theorem dX11_hands_0 : decode cX11_hands 0 = .ok (.aload_n 0, 1) := by decide +kernel
theorem dX11_hands_1 : decode cX11_hands 1 = .ok (.iconst 0, 1) := by decide +kernel
theorem dX11_hands_2 : decode cX11_hands 2 = .ok (.putfield 221, 3) := by decide +kernel
theorem dX11_hands_5 : decode cX11_hands 5 = .ok (.iload_n 1, 1) := by decide +kernel
theorem dX11_hands_6 : decode cX11_hands 6 = .ok (.iconst 0, 1) := by decide +kernel
theorem dX11_hands_7 : decode cX11_hands 7 = .ok (.bipush 7, 2) := by decide +kernel
theorem dX11_hands_9 : decode cX11_hands 9 = .ok (.invokestatic 237, 3) := by decide +kernel
theorem dX11_hands_12 : decode cX11_hands 12 = .ok (.ifCond .eq 23, 3) := by decide +kernel
theorem dX11_hands_15 : decode cX11_hands 15 = .ok (.iload_n 2, 1) := by decide +kernel
theorem dX11_hands_16 : decode cX11_hands 16 = .ok (.iconst 0, 1) := by decide +kernel
theorem dX11_hands_17 : decode cX11_hands 17 = .ok (.bipush 11, 2) := by decide +kernel
theorem dX11_hands_19 : decode cX11_hands 19 = .ok (.invokestatic 237, 3) := by decide +kernel
theorem dX11_hands_22 : decode cX11_hands 22 = .ok (.ifCond .eq 13, 3) := by decide +kernel
theorem dX11_hands_25 : decode cX11_hands 25 = .ok (.iload_n 3, 1) := by decide +kernel
theorem dX11_hands_26 : decode cX11_hands 26 = .ok (.iconst 0, 1) := by decide +kernel
theorem dX11_hands_27 : decode cX11_hands 27 = .ok (.bipush 60, 2) := by decide +kernel
theorem dX11_hands_29 : decode cX11_hands 29 = .ok (.invokestatic 237, 3) := by decide +kernel
theorem dX11_hands_32 : decode cX11_hands 32 = .ok (.ifCond .ne 5, 3) := by decide +kernel
theorem dX11_hands_35 : decode cX11_hands 35 = .ok (.iconst 0, 1) := by decide +kernel
theorem dX11_hands_36 : decode cX11_hands 36 = .ok (.ireturn, 1) := by decide +kernel
theorem dX11_hands_37 : decode cX11_hands 37 = .ok (.aload_n 0, 1) := by decide +kernel
theorem dX11_hands_38 : decode cX11_hands 38 = .ok (.getfield 212, 3) := by decide +kernel
theorem dX11_hands_41 : decode cX11_hands 41 = .ok (.bipush 12, 2) := by decide +kernel
theorem dX11_hands_43 : decode cX11_hands 43 = .ok (.iload_n 1, 1) := by decide +kernel
theorem dX11_hands_44 : decode cX11_hands 44 = .ok (.imul, 1) := by decide +kernel
theorem dX11_hands_45 : decode cX11_hands 45 = .ok (.iload_n 2, 1) := by decide +kernel
theorem dX11_hands_46 : decode cX11_hands 46 = .ok (.iadd, 1) := by decide +kernel
theorem dX11_hands_47 : decode cX11_hands 47 = .ok (.iload_n 3, 1) := by decide +kernel
theorem dX11_hands_48 : decode cX11_hands 48 = .ok (.iastore, 1) := by decide +kernel
theorem dX11_hands_49 : decode cX11_hands 49 = .ok (.iconst 1, 1) := by decide +kernel
theorem dX11_hands_50 : decode cX11_hands 50 = .ok (.ireturn, 1) := by decide +kernel
theorem dX11_mayGo_0 : decode cX11_mayGo 0 = .ok (.iconst 0, 1) := by decide +kernel
theorem dX11_mayGo_1 : decode cX11_mayGo 1 = .ok (.istore 4, 2) := by decide +kernel
theorem dX11_mayGo_3 : decode cX11_mayGo 3 = .ok (.iconst 0, 1) := by decide +kernel
theorem dX11_mayGo_4 : decode cX11_mayGo 4 = .ok (.istore 5, 2) := by decide +kernel
theorem dX11_mayGo_6 : decode cX11_mayGo 6 = .ok (.iconst 0, 1) := by decide +kernel
theorem dX11_mayGo_7 : decode cX11_mayGo 7 = .ok (.istore 6, 2) := by decide +kernel
theorem dX11_mayGo_9 : decode cX11_mayGo 9 = .ok (.iload 6, 2) := by decide +kernel
theorem dX11_mayGo_11 : decode cX11_mayGo 11 = .ok (.aload_n 0, 1) := by decide +kernel
theorem dX11_mayGo_12 : decode cX11_mayGo 12 = .ok (.getfield 244, 3) := by decide +kernel
theorem dX11_mayGo_15 : decode cX11_mayGo 15 = .ok (.if_icmp .ge 77, 3) := by decide +kernel
theorem dX11_mayGo_18 : decode cX11_mayGo 18 = .ok (.iload 4, 2) := by decide +kernel
theorem dX11_mayGo_20 : decode cX11_mayGo 20 = .ok (.aload_n 0, 1) := by decide +kernel
theorem dX11_mayGo_21 : decode cX11_mayGo 21 = .ok (.getfield 147, 3) := by decide +kernel
theorem dX11_mayGo_24 : decode cX11_mayGo 24 = .ok (.iload 6, 2) := by decide +kernel
theorem dX11_mayGo_26 : decode cX11_mayGo 26 = .ok (.baload, 1) := by decide +kernel
theorem dX11_mayGo_27 : decode cX11_mayGo 27 = .ok (.ifCond .eq 18, 3) := by decide +kernel
theorem dX11_mayGo_30 : decode cX11_mayGo 30 = .ok (.aload_n 0, 1) := by decide +kernel
theorem dX11_mayGo_31 : decode cX11_mayGo 31 = .ok (.getfield 17, 3) := by decide +kernel
theorem dX11_mayGo_34 : decode cX11_mayGo 34 = .ok (.iload 6, 2) := by decide +kernel
theorem dX11_mayGo_36 : decode cX11_mayGo 36 = .ok (.iaload, 1) := by decide +kernel
theorem dX11_mayGo_37 : decode cX11_mayGo 37 = .ok (.iload_n 2, 1) := by decide +kernel
theorem dX11_mayGo_38 : decode cX11_mayGo 38 = .ok (.if_icmp .ne 7, 3) := by decide +kernel
theorem dX11_mayGo_41 : decode cX11_mayGo 41 = .ok (.iconst 1, 1) := by decide +kernel
theorem dX11_mayGo_42 : decode cX11_mayGo 42 = .ok (.goto 4, 3) := by decide +kernel
theorem dX11_mayGo_45 : decode cX11_mayGo 45 = .ok (.iconst 0, 1) := by decide +kernel
theorem dX11_mayGo_46 : decode cX11_mayGo 46 = .ok (.iadd, 1) := by decide +kernel
theorem dX11_mayGo_47 : decode cX11_mayGo 47 = .ok (.istore 4, 2) := by decide +kernel
theorem dX11_mayGo_49 : decode cX11_mayGo 49 = .ok (.iload 5, 2) := by decide +kernel
theorem dX11_mayGo_51 : decode cX11_mayGo 51 = .ok (.aload_n 0, 1) := by decide +kernel
theorem dX11_mayGo_52 : decode cX11_mayGo 52 = .ok (.getfield 159, 3) := by decide +kernel
theorem dX11_mayGo_55 : decode cX11_mayGo 55 = .ok (.bipush 60, 2) := by decide +kernel
theorem dX11_mayGo_57 : decode cX11_mayGo 57 = .ok (.iload_n 1, 1) := by decide +kernel
theorem dX11_mayGo_58 : decode cX11_mayGo 58 = .ok (.imul, 1) := by decide +kernel
theorem dX11_mayGo_59 : decode cX11_mayGo 59 = .ok (.iload 6, 2) := by decide +kernel
theorem dX11_mayGo_61 : decode cX11_mayGo 61 = .ok (.iadd, 1) := by decide +kernel
theorem dX11_mayGo_62 : decode cX11_mayGo 62 = .ok (.iaload, 1) := by decide +kernel
theorem dX11_mayGo_63 : decode cX11_mayGo 63 = .ok (.iconst 5, 1) := by decide +kernel
theorem dX11_mayGo_64 : decode cX11_mayGo 64 = .ok (.if_icmp .ne 18, 3) := by decide +kernel
theorem dX11_mayGo_67 : decode cX11_mayGo 67 = .ok (.aload_n 0, 1) := by decide +kernel
theorem dX11_mayGo_68 : decode cX11_mayGo 68 = .ok (.getfield 17, 3) := by decide +kernel
theorem dX11_mayGo_71 : decode cX11_mayGo 71 = .ok (.iload 6, 2) := by decide +kernel
theorem dX11_mayGo_73 : decode cX11_mayGo 73 = .ok (.iaload, 1) := by decide +kernel
theorem dX11_mayGo_74 : decode cX11_mayGo 74 = .ok (.iload_n 2, 1) := by decide +kernel
theorem dX11_mayGo_75 : decode cX11_mayGo 75 = .ok (.if_icmp .ne 7, 3) := by decide +kernel
theorem dX11_mayGo_78 : decode cX11_mayGo 78 = .ok (.iconst 1, 1) := by decide +kernel
theorem dX11_mayGo_79 : decode cX11_mayGo 79 = .ok (.goto 4, 3) := by decide +kernel
theorem dX11_mayGo_82 : decode cX11_mayGo 82 = .ok (.iconst 0, 1) := by decide +kernel
theorem dX11_mayGo_83 : decode cX11_mayGo 83 = .ok (.iadd, 1) := by decide +kernel
theorem dX11_mayGo_84 : decode cX11_mayGo 84 = .ok (.istore 5, 2) := by decide +kernel
theorem dX11_mayGo_86 : decode cX11_mayGo 86 = .ok (.iinc 6 1, 3) := by decide +kernel
theorem dX11_mayGo_89 : decode cX11_mayGo 89 = .ok (.goto (-80), 3) := by decide +kernel
theorem dX11_mayGo_92 : decode cX11_mayGo 92 = .ok (.iload 5, 2) := by decide +kernel
theorem dX11_mayGo_94 : decode cX11_mayGo 94 = .ok (.istore 6, 2) := by decide +kernel
theorem dX11_mayGo_96 : decode cX11_mayGo 96 = .ok (.iload_n 3, 1) := by decide +kernel
theorem dX11_mayGo_97 : decode cX11_mayGo 97 = .ok (.istore 7, 2) := by decide +kernel
theorem dX11_mayGo_99 : decode cX11_mayGo 99 = .ok (.iload 7, 2) := by decide +kernel
theorem dX11_mayGo_101 : decode cX11_mayGo 101 = .ok (.bipush 12, 2) := by decide +kernel
theorem dX11_mayGo_103 : decode cX11_mayGo 103 = .ok (.if_icmp .ge 51, 3) := by decide +kernel
theorem dX11_mayGo_106 : decode cX11_mayGo 106 = .ok (.iload 4, 2) := by decide +kernel
theorem dX11_mayGo_108 : decode cX11_mayGo 108 = .ok (.aload_n 0, 1) := by decide +kernel
theorem dX11_mayGo_109 : decode cX11_mayGo 109 = .ok (.getfield 212, 3) := by decide +kernel
theorem dX11_mayGo_112 : decode cX11_mayGo 112 = .ok (.bipush 12, 2) := by decide +kernel
theorem dX11_mayGo_114 : decode cX11_mayGo 114 = .ok (.iload_n 2, 1) := by decide +kernel
theorem dX11_mayGo_115 : decode cX11_mayGo 115 = .ok (.imul, 1) := by decide +kernel
theorem dX11_mayGo_116 : decode cX11_mayGo 116 = .ok (.iload 7, 2) := by decide +kernel
theorem dX11_mayGo_118 : decode cX11_mayGo 118 = .ok (.iadd, 1) := by decide +kernel
theorem dX11_mayGo_119 : decode cX11_mayGo 119 = .ok (.iaload, 1) := by decide +kernel
theorem dX11_mayGo_120 : decode cX11_mayGo 120 = .ok (.isub, 1) := by decide +kernel
theorem dX11_mayGo_121 : decode cX11_mayGo 121 = .ok (.iload 6, 2) := by decide +kernel
theorem dX11_mayGo_123 : decode cX11_mayGo 123 = .ok (.if_icmp .ge 21, 3) := by decide +kernel
theorem dX11_mayGo_126 : decode cX11_mayGo 126 = .ok (.iload 4, 2) := by decide +kernel
theorem dX11_mayGo_128 : decode cX11_mayGo 128 = .ok (.aload_n 0, 1) := by decide +kernel
theorem dX11_mayGo_129 : decode cX11_mayGo 129 = .ok (.getfield 212, 3) := by decide +kernel
theorem dX11_mayGo_132 : decode cX11_mayGo 132 = .ok (.bipush 12, 2) := by decide +kernel
theorem dX11_mayGo_134 : decode cX11_mayGo 134 = .ok (.iload_n 2, 1) := by decide +kernel
theorem dX11_mayGo_135 : decode cX11_mayGo 135 = .ok (.imul, 1) := by decide +kernel
theorem dX11_mayGo_136 : decode cX11_mayGo 136 = .ok (.iload 7, 2) := by decide +kernel
theorem dX11_mayGo_138 : decode cX11_mayGo 138 = .ok (.iadd, 1) := by decide +kernel
theorem dX11_mayGo_139 : decode cX11_mayGo 139 = .ok (.iaload, 1) := by decide +kernel
theorem dX11_mayGo_140 : decode cX11_mayGo 140 = .ok (.isub, 1) := by decide +kernel
theorem dX11_mayGo_141 : decode cX11_mayGo 141 = .ok (.goto 5, 3) := by decide +kernel
theorem dX11_mayGo_144 : decode cX11_mayGo 144 = .ok (.iload 6, 2) := by decide +kernel
theorem dX11_mayGo_146 : decode cX11_mayGo 146 = .ok (.istore 6, 2) := by decide +kernel
theorem dX11_mayGo_148 : decode cX11_mayGo 148 = .ok (.iinc 7 1, 3) := by decide +kernel
theorem dX11_mayGo_151 : decode cX11_mayGo 151 = .ok (.goto (-52), 3) := by decide +kernel
theorem dX11_mayGo_154 : decode cX11_mayGo 154 = .ok (.iload 6, 2) := by decide +kernel
theorem dX11_mayGo_156 : decode cX11_mayGo 156 = .ok (.ifCond .ge 7, 3) := by decide +kernel
theorem dX11_mayGo_159 : decode cX11_mayGo 159 = .ok (.iconst 0, 1) := by decide +kernel
theorem dX11_mayGo_160 : decode cX11_mayGo 160 = .ok (.goto 5, 3) := by decide +kernel
theorem dX11_mayGo_163 : decode cX11_mayGo 163 = .ok (.iload 6, 2) := by decide +kernel
theorem dX11_mayGo_165 : decode cX11_mayGo 165 = .ok (.ireturn, 1) := by decide +kernel
theorem dX11_leaves_0 : decode cX11_leaves 0 = .ok (.aload_n 0, 1) := by decide +kernel
theorem dX11_leaves_1 : decode cX11_leaves 1 = .ok (.iconst 0, 1) := by decide +kernel
theorem dX11_leaves_2 : decode cX11_leaves 2 = .ok (.putfield 221, 3) := by decide +kernel
theorem dX11_leaves_5 : decode cX11_leaves 5 = .ok (.aload_n 0, 1) := by decide +kernel
theorem dX11_leaves_6 : decode cX11_leaves 6 = .ok (.invokevirtual 247, 3) := by decide +kernel
theorem dX11_leaves_9 : decode cX11_leaves 9 = .ok (.aload_n 0, 1) := by decide +kernel
theorem dX11_leaves_10 : decode cX11_leaves 10 = .ok (.iload_n 1, 1) := by decide +kernel
theorem dX11_leaves_11 : decode cX11_leaves 11 = .ok (.invokevirtual 416, 3) := by decide +kernel
theorem dX11_leaves_14 : decode cX11_leaves 14 = .ok (.ifCond .eq 12, 3) := by decide +kernel
theorem dX11_leaves_17 : decode cX11_leaves 17 = .ok (.aload_n 0, 1) := by decide +kernel
theorem dX11_leaves_18 : decode cX11_leaves 18 = .ok (.getfield 231, 3) := by decide +kernel
theorem dX11_leaves_21 : decode cX11_leaves 21 = .ok (.bipush 12, 2) := by decide +kernel
theorem dX11_leaves_23 : decode cX11_leaves 23 = .ok (.if_icmp .eq 5, 3) := by decide +kernel
theorem dX11_leaves_26 : decode cX11_leaves 26 = .ok (.iconst (-1), 1) := by decide +kernel
theorem dX11_leaves_27 : decode cX11_leaves 27 = .ok (.ireturn, 1) := by decide +kernel
theorem dX11_leaves_28 : decode cX11_leaves 28 = .ok (.iconst 0, 1) := by decide +kernel
theorem dX11_leaves_29 : decode cX11_leaves 29 = .ok (.istore_n 3, 1) := by decide +kernel
theorem dX11_leaves_30 : decode cX11_leaves 30 = .ok (.iload_n 3, 1) := by decide +kernel
theorem dX11_leaves_31 : decode cX11_leaves 31 = .ok (.bipush 12, 2) := by decide +kernel
theorem dX11_leaves_33 : decode cX11_leaves 33 = .ok (.if_icmp .ge 48, 3) := by decide +kernel
theorem dX11_leaves_36 : decode cX11_leaves 36 = .ok (.aload_n 0, 1) := by decide +kernel
theorem dX11_leaves_37 : decode cX11_leaves 37 = .ok (.getfield 218, 3) := by decide +kernel
theorem dX11_leaves_40 : decode cX11_leaves 40 = .ok (.iload_n 3, 1) := by decide +kernel
theorem dX11_leaves_41 : decode cX11_leaves 41 = .ok (.aload_n 0, 1) := by decide +kernel
theorem dX11_leaves_42 : decode cX11_leaves 42 = .ok (.getfield 7, 3) := by decide +kernel
theorem dX11_leaves_45 : decode cX11_leaves 45 = .ok (.iload_n 3, 1) := by decide +kernel
theorem dX11_leaves_46 : decode cX11_leaves 46 = .ok (.baload, 1) := by decide +kernel
theorem dX11_leaves_47 : decode cX11_leaves 47 = .ok (.sipush 255, 3) := by decide +kernel
theorem dX11_leaves_50 : decode cX11_leaves 50 = .ok (.iand, 1) := by decide +kernel
theorem dX11_leaves_51 : decode cX11_leaves 51 = .ok (.iastore, 1) := by decide +kernel
theorem dX11_leaves_52 : decode cX11_leaves 52 = .ok (.iload_n 3, 1) := by decide +kernel
theorem dX11_leaves_53 : decode cX11_leaves 53 = .ok (.ifCond .le 22, 3) := by decide +kernel
theorem dX11_leaves_56 : decode cX11_leaves 56 = .ok (.aload_n 0, 1) := by decide +kernel
theorem dX11_leaves_57 : decode cX11_leaves 57 = .ok (.getfield 218, 3) := by decide +kernel
theorem dX11_leaves_60 : decode cX11_leaves 60 = .ok (.iload_n 3, 1) := by decide +kernel
theorem dX11_leaves_61 : decode cX11_leaves 61 = .ok (.iaload, 1) := by decide +kernel
theorem dX11_leaves_62 : decode cX11_leaves 62 = .ok (.aload_n 0, 1) := by decide +kernel
theorem dX11_leaves_63 : decode cX11_leaves 63 = .ok (.getfield 218, 3) := by decide +kernel
theorem dX11_leaves_66 : decode cX11_leaves 66 = .ok (.iload_n 3, 1) := by decide +kernel
theorem dX11_leaves_67 : decode cX11_leaves 67 = .ok (.iconst 1, 1) := by decide +kernel
theorem dX11_leaves_68 : decode cX11_leaves 68 = .ok (.isub, 1) := by decide +kernel
theorem dX11_leaves_69 : decode cX11_leaves 69 = .ok (.iaload, 1) := by decide +kernel
theorem dX11_leaves_70 : decode cX11_leaves 70 = .ok (.if_icmp .ge 5, 3) := by decide +kernel
theorem dX11_leaves_73 : decode cX11_leaves 73 = .ok (.iconst (-1), 1) := by decide +kernel
theorem dX11_leaves_74 : decode cX11_leaves 74 = .ok (.ireturn, 1) := by decide +kernel
theorem dX11_leaves_75 : decode cX11_leaves 75 = .ok (.iinc 3 1, 3) := by decide +kernel
theorem dX11_leaves_78 : decode cX11_leaves 78 = .ok (.goto (-48), 3) := by decide +kernel
theorem dX11_leaves_81 : decode cX11_leaves 81 = .ok (.aload_n 0, 1) := by decide +kernel
theorem dX11_leaves_82 : decode cX11_leaves 82 = .ok (.iload_n 1, 1) := by decide +kernel
theorem dX11_leaves_83 : decode cX11_leaves 83 = .ok (.iload_n 2, 1) := by decide +kernel
theorem dX11_leaves_84 : decode cX11_leaves 84 = .ok (.invokevirtual 484, 3) := by decide +kernel
theorem dX11_leaves_87 : decode cX11_leaves 87 = .ok (.iconst 1, 1) := by decide +kernel
theorem dX11_leaves_88 : decode cX11_leaves 88 = .ok (.istore_n 3, 1) := by decide +kernel
theorem dX11_leaves_89 : decode cX11_leaves 89 = .ok (.iconst 0, 1) := by decide +kernel
theorem dX11_leaves_90 : decode cX11_leaves 90 = .ok (.istore 4, 2) := by decide +kernel
theorem dX11_leaves_92 : decode cX11_leaves 92 = .ok (.iload 4, 2) := by decide +kernel
theorem dX11_leaves_94 : decode cX11_leaves 94 = .ok (.bipush 12, 2) := by decide +kernel
theorem dX11_leaves_96 : decode cX11_leaves 96 = .ok (.if_icmp .ge 211, 3) := by decide +kernel
theorem dX11_leaves_99 : decode cX11_leaves 99 = .ok (.iconst 0, 1) := by decide +kernel
theorem dX11_leaves_100 : decode cX11_leaves 100 = .ok (.istore 5, 2) := by decide +kernel
theorem dX11_leaves_102 : decode cX11_leaves 102 = .ok (.iconst 0, 1) := by decide +kernel
theorem dX11_leaves_103 : decode cX11_leaves 103 = .ok (.istore 6, 2) := by decide +kernel
theorem dX11_leaves_105 : decode cX11_leaves 105 = .ok (.iload 6, 2) := by decide +kernel
theorem dX11_leaves_107 : decode cX11_leaves 107 = .ok (.bipush 8, 2) := by decide +kernel
theorem dX11_leaves_109 : decode cX11_leaves 109 = .ok (.if_icmp .ge 64, 3) := by decide +kernel
theorem dX11_leaves_112 : decode cX11_leaves 112 = .ok (.aload_n 0, 1) := by decide +kernel
theorem dX11_leaves_113 : decode cX11_leaves 113 = .ok (.getfield 215, 3) := by decide +kernel
theorem dX11_leaves_116 : decode cX11_leaves 116 = .ok (.bipush 12, 2) := by decide +kernel
theorem dX11_leaves_118 : decode cX11_leaves 118 = .ok (.iload 6, 2) := by decide +kernel
theorem dX11_leaves_120 : decode cX11_leaves 120 = .ok (.imul, 1) := by decide +kernel
theorem dX11_leaves_121 : decode cX11_leaves 121 = .ok (.iload 4, 2) := by decide +kernel
theorem dX11_leaves_123 : decode cX11_leaves 123 = .ok (.iadd, 1) := by decide +kernel
theorem dX11_leaves_124 : decode cX11_leaves 124 = .ok (.iload 4, 2) := by decide +kernel
theorem dX11_leaves_126 : decode cX11_leaves 126 = .ok (.ifCond .ne 7, 3) := by decide +kernel
theorem dX11_leaves_129 : decode cX11_leaves 129 = .ok (.iconst 0, 1) := by decide +kernel
theorem dX11_leaves_130 : decode cX11_leaves 130 = .ok (.goto 18, 3) := by decide +kernel
theorem dX11_leaves_133 : decode cX11_leaves 133 = .ok (.aload_n 0, 1) := by decide +kernel
theorem dX11_leaves_134 : decode cX11_leaves 134 = .ok (.getfield 215, 3) := by decide +kernel
theorem dX11_leaves_137 : decode cX11_leaves 137 = .ok (.bipush 12, 2) := by decide +kernel
theorem dX11_leaves_139 : decode cX11_leaves 139 = .ok (.iload 6, 2) := by decide +kernel
theorem dX11_leaves_141 : decode cX11_leaves 141 = .ok (.imul, 1) := by decide +kernel
theorem dX11_leaves_142 : decode cX11_leaves 142 = .ok (.iload 4, 2) := by decide +kernel
theorem dX11_leaves_144 : decode cX11_leaves 144 = .ok (.iadd, 1) := by decide +kernel
theorem dX11_leaves_145 : decode cX11_leaves 145 = .ok (.iconst 1, 1) := by decide +kernel
theorem dX11_leaves_146 : decode cX11_leaves 146 = .ok (.isub, 1) := by decide +kernel
theorem dX11_leaves_147 : decode cX11_leaves 147 = .ok (.iaload, 1) := by decide +kernel
theorem dX11_leaves_148 : decode cX11_leaves 148 = .ok (.iastore, 1) := by decide +kernel
theorem dX11_leaves_149 : decode cX11_leaves 149 = .ok (.iload 5, 2) := by decide +kernel
theorem dX11_leaves_151 : decode cX11_leaves 151 = .ok (.aload_n 0, 1) := by decide +kernel
theorem dX11_leaves_152 : decode cX11_leaves 152 = .ok (.getfield 215, 3) := by decide +kernel
theorem dX11_leaves_155 : decode cX11_leaves 155 = .ok (.bipush 12, 2) := by decide +kernel
theorem dX11_leaves_157 : decode cX11_leaves 157 = .ok (.iload 6, 2) := by decide +kernel
theorem dX11_leaves_159 : decode cX11_leaves 159 = .ok (.imul, 1) := by decide +kernel
theorem dX11_leaves_160 : decode cX11_leaves 160 = .ok (.iload 4, 2) := by decide +kernel
theorem dX11_leaves_162 : decode cX11_leaves 162 = .ok (.iadd, 1) := by decide +kernel
theorem dX11_leaves_163 : decode cX11_leaves 163 = .ok (.iaload, 1) := by decide +kernel
theorem dX11_leaves_164 : decode cX11_leaves 164 = .ok (.iadd, 1) := by decide +kernel
theorem dX11_leaves_165 : decode cX11_leaves 165 = .ok (.istore 5, 2) := by decide +kernel
theorem dX11_leaves_167 : decode cX11_leaves 167 = .ok (.iinc 6 1, 3) := by decide +kernel
theorem dX11_leaves_170 : decode cX11_leaves 170 = .ok (.goto (-65), 3) := by decide +kernel
theorem dX11_leaves_173 : decode cX11_leaves 173 = .ok (.iconst 0, 1) := by decide +kernel
theorem dX11_leaves_174 : decode cX11_leaves 174 = .ok (.istore 6, 2) := by decide +kernel
theorem dX11_leaves_176 : decode cX11_leaves 176 = .ok (.iload 6, 2) := by decide +kernel
theorem dX11_leaves_178 : decode cX11_leaves 178 = .ok (.bipush 8, 2) := by decide +kernel
theorem dX11_leaves_180 : decode cX11_leaves 180 = .ok (.if_icmp .ge 99, 3) := by decide +kernel
theorem dX11_leaves_183 : decode cX11_leaves 183 = .ok (.aload_n 0, 1) := by decide +kernel
theorem dX11_leaves_184 : decode cX11_leaves 184 = .ok (.iload_n 1, 1) := by decide +kernel
theorem dX11_leaves_185 : decode cX11_leaves 185 = .ok (.iload 6, 2) := by decide +kernel
theorem dX11_leaves_187 : decode cX11_leaves 187 = .ok (.iload 4, 2) := by decide +kernel
theorem dX11_leaves_189 : decode cX11_leaves 189 = .ok (.invokevirtual 514, 3) := by decide +kernel
theorem dX11_leaves_192 : decode cX11_leaves 192 = .ok (.aload_n 0, 1) := by decide +kernel
theorem dX11_leaves_193 : decode cX11_leaves 193 = .ok (.getfield 215, 3) := by decide +kernel
theorem dX11_leaves_196 : decode cX11_leaves 196 = .ok (.bipush 12, 2) := by decide +kernel
theorem dX11_leaves_198 : decode cX11_leaves 198 = .ok (.iload 6, 2) := by decide +kernel
theorem dX11_leaves_200 : decode cX11_leaves 200 = .ok (.imul, 1) := by decide +kernel
theorem dX11_leaves_201 : decode cX11_leaves 201 = .ok (.iload 4, 2) := by decide +kernel
theorem dX11_leaves_203 : decode cX11_leaves 203 = .ok (.iadd, 1) := by decide +kernel
theorem dX11_leaves_204 : decode cX11_leaves 204 = .ok (.iaload, 1) := by decide +kernel
theorem dX11_leaves_205 : decode cX11_leaves 205 = .ok (.isub, 1) := by decide +kernel
theorem dX11_leaves_206 : decode cX11_leaves 206 = .ok (.istore 7, 2) := by decide +kernel
theorem dX11_leaves_208 : decode cX11_leaves 208 = .ok (.iload 7, 2) := by decide +kernel
theorem dX11_leaves_210 : decode cX11_leaves 210 = .ok (.aload_n 0, 1) := by decide +kernel
theorem dX11_leaves_211 : decode cX11_leaves 211 = .ok (.getfield 218, 3) := by decide +kernel
theorem dX11_leaves_214 : decode cX11_leaves 214 = .ok (.iload 4, 2) := by decide +kernel
theorem dX11_leaves_216 : decode cX11_leaves 216 = .ok (.iaload, 1) := by decide +kernel
theorem dX11_leaves_217 : decode cX11_leaves 217 = .ok (.iload 5, 2) := by decide +kernel
theorem dX11_leaves_219 : decode cX11_leaves 219 = .ok (.isub, 1) := by decide +kernel
theorem dX11_leaves_220 : decode cX11_leaves 220 = .ok (.if_icmp .ge 8, 3) := by decide +kernel
theorem dX11_leaves_223 : decode cX11_leaves 223 = .ok (.iload 7, 2) := by decide +kernel
theorem dX11_leaves_225 : decode cX11_leaves 225 = .ok (.goto 13, 3) := by decide +kernel
theorem dX11_leaves_228 : decode cX11_leaves 228 = .ok (.aload_n 0, 1) := by decide +kernel
theorem dX11_leaves_229 : decode cX11_leaves 229 = .ok (.getfield 218, 3) := by decide +kernel
theorem dX11_leaves_232 : decode cX11_leaves 232 = .ok (.iload 4, 2) := by decide +kernel
theorem dX11_leaves_234 : decode cX11_leaves 234 = .ok (.iaload, 1) := by decide +kernel
theorem dX11_leaves_235 : decode cX11_leaves 235 = .ok (.iload 5, 2) := by decide +kernel
theorem dX11_leaves_237 : decode cX11_leaves 237 = .ok (.isub, 1) := by decide +kernel
theorem dX11_leaves_238 : decode cX11_leaves 238 = .ok (.istore 7, 2) := by decide +kernel
theorem dX11_leaves_240 : decode cX11_leaves 240 = .ok (.iload 7, 2) := by decide +kernel
theorem dX11_leaves_242 : decode cX11_leaves 242 = .ok (.ifCond .gt 6, 3) := by decide +kernel
theorem dX11_leaves_245 : decode cX11_leaves 245 = .ok (.goto 28, 3) := by decide +kernel
theorem dX11_leaves_248 : decode cX11_leaves 248 = .ok (.aload_n 0, 1) := by decide +kernel
theorem dX11_leaves_249 : decode cX11_leaves 249 = .ok (.getfield 215, 3) := by decide +kernel
theorem dX11_leaves_252 : decode cX11_leaves 252 = .ok (.bipush 12, 2) := by decide +kernel
theorem dX11_leaves_254 : decode cX11_leaves 254 = .ok (.iload 6, 2) := by decide +kernel
theorem dX11_leaves_256 : decode cX11_leaves 256 = .ok (.imul, 1) := by decide +kernel
theorem dX11_leaves_257 : decode cX11_leaves 257 = .ok (.iload 4, 2) := by decide +kernel
theorem dX11_leaves_259 : decode cX11_leaves 259 = .ok (.iadd, 1) := by decide +kernel
theorem dX11_leaves_260 : decode cX11_leaves 260 = .ok (.dup2, 1) := by decide +kernel
theorem dX11_leaves_261 : decode cX11_leaves 261 = .ok (.iaload, 1) := by decide +kernel
theorem dX11_leaves_262 : decode cX11_leaves 262 = .ok (.iload 7, 2) := by decide +kernel
theorem dX11_leaves_264 : decode cX11_leaves 264 = .ok (.iadd, 1) := by decide +kernel
theorem dX11_leaves_265 : decode cX11_leaves 265 = .ok (.iastore, 1) := by decide +kernel
theorem dX11_leaves_266 : decode cX11_leaves 266 = .ok (.iload 5, 2) := by decide +kernel
theorem dX11_leaves_268 : decode cX11_leaves 268 = .ok (.iload 7, 2) := by decide +kernel
theorem dX11_leaves_270 : decode cX11_leaves 270 = .ok (.iadd, 1) := by decide +kernel
theorem dX11_leaves_271 : decode cX11_leaves 271 = .ok (.istore 5, 2) := by decide +kernel
theorem dX11_leaves_273 : decode cX11_leaves 273 = .ok (.iinc 6 1, 3) := by decide +kernel
theorem dX11_leaves_276 : decode cX11_leaves 276 = .ok (.goto (-100), 3) := by decide +kernel
theorem dX11_leaves_279 : decode cX11_leaves 279 = .ok (.iload_n 3, 1) := by decide +kernel
theorem dX11_leaves_280 : decode cX11_leaves 280 = .ok (.ifCond .eq 19, 3) := by decide +kernel
theorem dX11_leaves_283 : decode cX11_leaves 283 = .ok (.iload 5, 2) := by decide +kernel
theorem dX11_leaves_285 : decode cX11_leaves 285 = .ok (.aload_n 0, 1) := by decide +kernel
theorem dX11_leaves_286 : decode cX11_leaves 286 = .ok (.getfield 218, 3) := by decide +kernel
theorem dX11_leaves_289 : decode cX11_leaves 289 = .ok (.iload 4, 2) := by decide +kernel
theorem dX11_leaves_291 : decode cX11_leaves 291 = .ok (.iaload, 1) := by decide +kernel
theorem dX11_leaves_292 : decode cX11_leaves 292 = .ok (.if_icmp .ne 7, 3) := by decide +kernel
theorem dX11_leaves_295 : decode cX11_leaves 295 = .ok (.iconst 1, 1) := by decide +kernel
theorem dX11_leaves_296 : decode cX11_leaves 296 = .ok (.goto 4, 3) := by decide +kernel
theorem dX11_leaves_299 : decode cX11_leaves 299 = .ok (.iconst 0, 1) := by decide +kernel
theorem dX11_leaves_300 : decode cX11_leaves 300 = .ok (.istore_n 3, 1) := by decide +kernel
theorem dX11_leaves_301 : decode cX11_leaves 301 = .ok (.iinc 4 1, 3) := by decide +kernel
theorem dX11_leaves_304 : decode cX11_leaves 304 = .ok (.goto (-212), 3) := by decide +kernel
theorem dX11_leaves_307 : decode cX11_leaves 307 = .ok (.aload_n 0, 1) := by decide +kernel
theorem dX11_leaves_308 : decode cX11_leaves 308 = .ok (.iconst 1, 1) := by decide +kernel
theorem dX11_leaves_309 : decode cX11_leaves 309 = .ok (.putfield 517, 3) := by decide +kernel
theorem dX11_leaves_312 : decode cX11_leaves 312 = .ok (.iload_n 3, 1) := by decide +kernel
theorem dX11_leaves_313 : decode cX11_leaves 313 = .ok (.ifCond .eq 7, 3) := by decide +kernel
theorem dX11_leaves_316 : decode cX11_leaves 316 = .ok (.iconst 1, 1) := by decide +kernel
theorem dX11_leaves_317 : decode cX11_leaves 317 = .ok (.goto 4, 3) := by decide +kernel
theorem dX11_leaves_320 : decode cX11_leaves 320 = .ok (.iconst 0, 1) := by decide +kernel
theorem dX11_leaves_321 : decode cX11_leaves 321 = .ok (.ireturn, 1) := by decide +kernel
theorem dX11_gone_0 : decode cX11_gone 0 = .ok (.aload_n 0, 1) := by decide +kernel
theorem dX11_gone_1 : decode cX11_gone 1 = .ok (.iconst 0, 1) := by decide +kernel
theorem dX11_gone_2 : decode cX11_gone 2 = .ok (.putfield 221, 3) := by decide +kernel
theorem dX11_gone_5 : decode cX11_gone 5 = .ok (.aload_n 0, 1) := by decide +kernel
theorem dX11_gone_6 : decode cX11_gone 6 = .ok (.getfield 517, 3) := by decide +kernel
theorem dX11_gone_9 : decode cX11_gone 9 = .ok (.ifCond .eq 37, 3) := by decide +kernel
theorem dX11_gone_12 : decode cX11_gone 12 = .ok (.iload_n 1, 1) := by decide +kernel
theorem dX11_gone_13 : decode cX11_gone 13 = .ok (.iconst 0, 1) := by decide +kernel
theorem dX11_gone_14 : decode cX11_gone 14 = .ok (.bipush 7, 2) := by decide +kernel
theorem dX11_gone_16 : decode cX11_gone 16 = .ok (.invokestatic 237, 3) := by decide +kernel
theorem dX11_gone_19 : decode cX11_gone 19 = .ok (.ifCond .eq 27, 3) := by decide +kernel
theorem dX11_gone_22 : decode cX11_gone 22 = .ok (.iload_n 2, 1) := by decide +kernel
theorem dX11_gone_23 : decode cX11_gone 23 = .ok (.iconst 0, 1) := by decide +kernel
theorem dX11_gone_24 : decode cX11_gone 24 = .ok (.bipush 11, 2) := by decide +kernel
theorem dX11_gone_26 : decode cX11_gone 26 = .ok (.invokestatic 237, 3) := by decide +kernel
theorem dX11_gone_29 : decode cX11_gone 29 = .ok (.ifCond .eq 17, 3) := by decide +kernel
theorem dX11_gone_32 : decode cX11_gone 32 = .ok (.aload_n 0, 1) := by decide +kernel
theorem dX11_gone_33 : decode cX11_gone 33 = .ok (.getfield 215, 3) := by decide +kernel
theorem dX11_gone_36 : decode cX11_gone 36 = .ok (.bipush 12, 2) := by decide +kernel
theorem dX11_gone_38 : decode cX11_gone 38 = .ok (.iload_n 1, 1) := by decide +kernel
theorem dX11_gone_39 : decode cX11_gone 39 = .ok (.imul, 1) := by decide +kernel
theorem dX11_gone_40 : decode cX11_gone 40 = .ok (.iload_n 2, 1) := by decide +kernel
theorem dX11_gone_41 : decode cX11_gone 41 = .ok (.iadd, 1) := by decide +kernel
theorem dX11_gone_42 : decode cX11_gone 42 = .ok (.iaload, 1) := by decide +kernel
theorem dX11_gone_43 : decode cX11_gone 43 = .ok (.goto 4, 3) := by decide +kernel
theorem dX11_gone_46 : decode cX11_gone 46 = .ok (.iconst (-1), 1) := by decide +kernel
theorem dX11_gone_47 : decode cX11_gone 47 = .ok (.ireturn, 1) := by decide +kernel
theorem dX11_count_0 : decode cX11_count 0 = .ok (.aload_n 0, 1) := by decide +kernel
theorem dX11_count_1 : decode cX11_count 1 = .ok (.iconst 0, 1) := by decide +kernel
theorem dX11_count_2 : decode cX11_count 2 = .ok (.putfield 221, 3) := by decide +kernel
theorem dX11_count_5 : decode cX11_count 5 = .ok (.iload_n 1, 1) := by decide +kernel
theorem dX11_count_6 : decode cX11_count 6 = .ok (.tableswitch 104 0 9 #[54, 59, 64, 69, 74, 79, 84, 89, 94, 99], 54) := by decide +kernel
theorem dX11_count_60 : decode cX11_count 60 = .ok (.aload_n 0, 1) := by decide +kernel
theorem dX11_count_61 : decode cX11_count 61 = .ok (.getfield 241, 3) := by decide +kernel
theorem dX11_count_64 : decode cX11_count 64 = .ok (.ireturn, 1) := by decide +kernel
theorem dX11_count_65 : decode cX11_count 65 = .ok (.aload_n 0, 1) := by decide +kernel
theorem dX11_count_66 : decode cX11_count 66 = .ok (.getfield 244, 3) := by decide +kernel
theorem dX11_count_69 : decode cX11_count 69 = .ok (.ireturn, 1) := by decide +kernel
theorem dX11_count_70 : decode cX11_count 70 = .ok (.aload_n 0, 1) := by decide +kernel
theorem dX11_count_71 : decode cX11_count 71 = .ok (.getfield 413, 3) := by decide +kernel
theorem dX11_count_74 : decode cX11_count 74 = .ok (.ireturn, 1) := by decide +kernel
theorem dX11_count_75 : decode cX11_count 75 = .ok (.aload_n 0, 1) := by decide +kernel
theorem dX11_count_76 : decode cX11_count 76 = .ok (.getfield 401, 3) := by decide +kernel
theorem dX11_count_79 : decode cX11_count 79 = .ok (.ireturn, 1) := by decide +kernel
theorem dX11_count_80 : decode cX11_count 80 = .ok (.aload_n 0, 1) := by decide +kernel
theorem dX11_count_81 : decode cX11_count 81 = .ok (.getfield 260, 3) := by decide +kernel
theorem dX11_count_84 : decode cX11_count 84 = .ok (.ireturn, 1) := by decide +kernel
theorem dX11_count_85 : decode cX11_count 85 = .ok (.aload_n 0, 1) := by decide +kernel
theorem dX11_count_86 : decode cX11_count 86 = .ok (.getfield 263, 3) := by decide +kernel
theorem dX11_count_89 : decode cX11_count 89 = .ok (.ireturn, 1) := by decide +kernel
theorem dX11_count_90 : decode cX11_count 90 = .ok (.aload_n 0, 1) := by decide +kernel
theorem dX11_count_91 : decode cX11_count 91 = .ok (.getfield 459, 3) := by decide +kernel
theorem dX11_count_94 : decode cX11_count 94 = .ok (.ireturn, 1) := by decide +kernel
theorem dX11_count_95 : decode cX11_count 95 = .ok (.aload_n 0, 1) := by decide +kernel
theorem dX11_count_96 : decode cX11_count 96 = .ok (.getfield 496, 3) := by decide +kernel
theorem dX11_count_99 : decode cX11_count 99 = .ok (.ireturn, 1) := by decide +kernel
theorem dX11_count_100 : decode cX11_count 100 = .ok (.aload_n 0, 1) := by decide +kernel
theorem dX11_count_101 : decode cX11_count 101 = .ok (.getfield 499, 3) := by decide +kernel
theorem dX11_count_104 : decode cX11_count 104 = .ok (.ireturn, 1) := by decide +kernel
theorem dX11_count_105 : decode cX11_count 105 = .ok (.aload_n 0, 1) := by decide +kernel
theorem dX11_count_106 : decode cX11_count 106 = .ok (.getfield 224, 3) := by decide +kernel
theorem dX11_count_109 : decode cX11_count 109 = .ok (.ireturn, 1) := by decide +kernel
theorem dX11_count_110 : decode cX11_count 110 = .ok (.iconst (-1), 1) := by decide +kernel
theorem dX11_count_111 : decode cX11_count 111 = .ok (.ireturn, 1) := by decide +kernel
