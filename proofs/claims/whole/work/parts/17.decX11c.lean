theorem dX11_numberOf_0 : decode cX11_numberOf 0 = .ok (.iload_n 1, 1) := by decide +kernel
theorem dX11_numberOf_1 : decode cX11_numberOf 1 = .ok (.tableswitch 109 4 10 #[43, 55, 65, 77, 89, 96, 102], 43) := by decide +kernel
theorem dX11_numberOf_44 : decode cX11_numberOf 44 = .ok (.aload_n 0, 1) := by decide +kernel
theorem dX11_numberOf_45 : decode cX11_numberOf 45 = .ok (.iload_n 2, 1) := by decide +kernel
theorem dX11_numberOf_46 : decode cX11_numberOf 46 = .ok (.aload_n 0, 1) := by decide +kernel
theorem dX11_numberOf_47 : decode cX11_numberOf 47 = .ok (.getfield 117, 3) := by decide +kernel
theorem dX11_numberOf_50 : decode cX11_numberOf 50 = .ok (.iload_n 3, 1) := by decide +kernel
theorem dX11_numberOf_51 : decode cX11_numberOf 51 = .ok (.iaload, 1) := by decide +kernel
theorem dX11_numberOf_52 : decode cX11_numberOf 52 = .ok (.invokevirtual 425, 3) := by decide +kernel
theorem dX11_numberOf_55 : decode cX11_numberOf 55 = .ok (.ireturn, 1) := by decide +kernel
theorem dX11_numberOf_56 : decode cX11_numberOf 56 = .ok (.aload_n 0, 1) := by decide +kernel
theorem dX11_numberOf_57 : decode cX11_numberOf 57 = .ok (.getfield 153, 3) := by decide +kernel
theorem dX11_numberOf_60 : decode cX11_numberOf 60 = .ok (.bipush 6, 2) := by decide +kernel
theorem dX11_numberOf_62 : decode cX11_numberOf 62 = .ok (.iload_n 2, 1) := by decide +kernel
theorem dX11_numberOf_63 : decode cX11_numberOf 63 = .ok (.imul, 1) := by decide +kernel
theorem dX11_numberOf_64 : decode cX11_numberOf 64 = .ok (.iaload, 1) := by decide +kernel
theorem dX11_numberOf_65 : decode cX11_numberOf 65 = .ok (.ireturn, 1) := by decide +kernel
theorem dX11_numberOf_66 : decode cX11_numberOf 66 = .ok (.aload_n 0, 1) := by decide +kernel
theorem dX11_numberOf_67 : decode cX11_numberOf 67 = .ok (.getfield 153, 3) := by decide +kernel
theorem dX11_numberOf_70 : decode cX11_numberOf 70 = .ok (.bipush 6, 2) := by decide +kernel
theorem dX11_numberOf_72 : decode cX11_numberOf 72 = .ok (.iload_n 2, 1) := by decide +kernel
theorem dX11_numberOf_73 : decode cX11_numberOf 73 = .ok (.imul, 1) := by decide +kernel
theorem dX11_numberOf_74 : decode cX11_numberOf 74 = .ok (.iconst 1, 1) := by decide +kernel
theorem dX11_numberOf_75 : decode cX11_numberOf 75 = .ok (.iadd, 1) := by decide +kernel
theorem dX11_numberOf_76 : decode cX11_numberOf 76 = .ok (.iaload, 1) := by decide +kernel
theorem dX11_numberOf_77 : decode cX11_numberOf 77 = .ok (.ireturn, 1) := by decide +kernel
theorem dX11_numberOf_78 : decode cX11_numberOf 78 = .ok (.aload_n 0, 1) := by decide +kernel
theorem dX11_numberOf_79 : decode cX11_numberOf 79 = .ok (.getfield 153, 3) := by decide +kernel
theorem dX11_numberOf_82 : decode cX11_numberOf 82 = .ok (.bipush 6, 2) := by decide +kernel
theorem dX11_numberOf_84 : decode cX11_numberOf 84 = .ok (.iload_n 2, 1) := by decide +kernel
theorem dX11_numberOf_85 : decode cX11_numberOf 85 = .ok (.imul, 1) := by decide +kernel
theorem dX11_numberOf_86 : decode cX11_numberOf 86 = .ok (.iconst 5, 1) := by decide +kernel
theorem dX11_numberOf_87 : decode cX11_numberOf 87 = .ok (.iadd, 1) := by decide +kernel
theorem dX11_numberOf_88 : decode cX11_numberOf 88 = .ok (.iaload, 1) := by decide +kernel
theorem dX11_numberOf_89 : decode cX11_numberOf 89 = .ok (.ireturn, 1) := by decide +kernel
theorem dX11_numberOf_90 : decode cX11_numberOf 90 = .ok (.aload_n 0, 1) := by decide +kernel
theorem dX11_numberOf_91 : decode cX11_numberOf 91 = .ok (.getfield 156, 3) := by decide +kernel
theorem dX11_numberOf_94 : decode cX11_numberOf 94 = .ok (.iload_n 2, 1) := by decide +kernel
theorem dX11_numberOf_95 : decode cX11_numberOf 95 = .ok (.iaload, 1) := by decide +kernel
theorem dX11_numberOf_96 : decode cX11_numberOf 96 = .ok (.ireturn, 1) := by decide +kernel
theorem dX11_numberOf_97 : decode cX11_numberOf 97 = .ok (.aload_n 0, 1) := by decide +kernel
theorem dX11_numberOf_98 : decode cX11_numberOf 98 = .ok (.iload_n 2, 1) := by decide +kernel
theorem dX11_numberOf_99 : decode cX11_numberOf 99 = .ok (.invokevirtual 432, 3) := by decide +kernel
theorem dX11_numberOf_102 : decode cX11_numberOf 102 = .ok (.ireturn, 1) := by decide +kernel
theorem dX11_numberOf_103 : decode cX11_numberOf 103 = .ok (.aload_n 0, 1) := by decide +kernel
theorem dX11_numberOf_104 : decode cX11_numberOf 104 = .ok (.iload_n 2, 1) := by decide +kernel
theorem dX11_numberOf_105 : decode cX11_numberOf 105 = .ok (.iload_n 3, 1) := by decide +kernel
theorem dX11_numberOf_106 : decode cX11_numberOf 106 = .ok (.invokevirtual 435, 3) := by decide +kernel
theorem dX11_numberOf_109 : decode cX11_numberOf 109 = .ok (.ireturn, 1) := by decide +kernel
theorem dX11_numberOf_110 : decode cX11_numberOf 110 = .ok (.aload_n 0, 1) := by decide +kernel
theorem dX11_numberOf_111 : decode cX11_numberOf 111 = .ok (.getfield 17, 3) := by decide +kernel
theorem dX11_numberOf_114 : decode cX11_numberOf 114 = .ok (.iload_n 2, 1) := by decide +kernel
theorem dX11_numberOf_115 : decode cX11_numberOf 115 = .ok (.iaload, 1) := by decide +kernel
theorem dX11_numberOf_116 : decode cX11_numberOf 116 = .ok (.ireturn, 1) := by decide +kernel
theorem dX11_isSo_0 : decode cX11_isSo 0 = .ok (.iconst 0, 1) := by decide +kernel
theorem dX11_isSo_1 : decode cX11_isSo 1 = .ok (.istore 5, 2) := by decide +kernel
theorem dX11_isSo_3 : decode cX11_isSo 3 = .ok (.sipush 130, 3) := by decide +kernel
theorem dX11_isSo_6 : decode cX11_isSo 6 = .ok (.iload_n 1, 1) := by decide +kernel
theorem dX11_isSo_7 : decode cX11_isSo 7 = .ok (.imul, 1) := by decide +kernel
theorem dX11_isSo_8 : decode cX11_isSo 8 = .ok (.aload_n 0, 1) := by decide +kernel
theorem dX11_isSo_9 : decode cX11_isSo 9 = .ok (.getfield 95, 3) := by decide +kernel
theorem dX11_isSo_12 : decode cX11_isSo 12 = .ok (.iload_n 2, 1) := by decide +kernel
theorem dX11_isSo_13 : decode cX11_isSo 13 = .ok (.iaload, 1) := by decide +kernel
theorem dX11_isSo_14 : decode cX11_isSo 14 = .ok (.iadd, 1) := by decide +kernel
theorem dX11_isSo_15 : decode cX11_isSo 15 = .ok (.istore 6, 2) := by decide +kernel
theorem dX11_isSo_17 : decode cX11_isSo 17 = .ok (.iload 6, 2) := by decide +kernel
theorem dX11_isSo_19 : decode cX11_isSo 19 = .ok (.sipush 130, 3) := by decide +kernel
theorem dX11_isSo_22 : decode cX11_isSo 22 = .ok (.iload_n 1, 1) := by decide +kernel
theorem dX11_isSo_23 : decode cX11_isSo 23 = .ok (.imul, 1) := by decide +kernel
theorem dX11_isSo_24 : decode cX11_isSo 24 = .ok (.aload_n 0, 1) := by decide +kernel
theorem dX11_isSo_25 : decode cX11_isSo 25 = .ok (.getfield 98, 3) := by decide +kernel
theorem dX11_isSo_28 : decode cX11_isSo 28 = .ok (.iload_n 2, 1) := by decide +kernel
theorem dX11_isSo_29 : decode cX11_isSo 29 = .ok (.iaload, 1) := by decide +kernel
theorem dX11_isSo_30 : decode cX11_isSo 30 = .ok (.iadd, 1) := by decide +kernel
theorem dX11_isSo_31 : decode cX11_isSo 31 = .ok (.if_icmp .ge 313, 3) := by decide +kernel
theorem dX11_isSo_34 : decode cX11_isSo 34 = .ok (.aload_n 0, 1) := by decide +kernel
theorem dX11_isSo_35 : decode cX11_isSo 35 = .ok (.getfield 105, 3) := by decide +kernel
theorem dX11_isSo_38 : decode cX11_isSo 38 = .ok (.iload 6, 2) := by decide +kernel
theorem dX11_isSo_40 : decode cX11_isSo 40 = .ok (.iaload, 1) := by decide +kernel
theorem dX11_isSo_41 : decode cX11_isSo 41 = .ok (.istore 7, 2) := by decide +kernel
theorem dX11_isSo_43 : decode cX11_isSo 43 = .ok (.iload 7, 2) := by decide +kernel
theorem dX11_isSo_45 : decode cX11_isSo 45 = .ok (.bipush 20, 2) := by decide +kernel
theorem dX11_isSo_47 : decode cX11_isSo 47 = .ok (.if_icmp .ne 32, 3) := by decide +kernel
theorem dX11_isSo_50 : decode cX11_isSo 50 = .ok (.aload_n 0, 1) := by decide +kernel
theorem dX11_isSo_51 : decode cX11_isSo 51 = .ok (.getfield 195, 3) := by decide +kernel
theorem dX11_isSo_54 : decode cX11_isSo 54 = .ok (.iload 5, 2) := by decide +kernel
theorem dX11_isSo_56 : decode cX11_isSo 56 = .ok (.iconst 1, 1) := by decide +kernel
theorem dX11_isSo_57 : decode cX11_isSo 57 = .ok (.isub, 1) := by decide +kernel
theorem dX11_isSo_58 : decode cX11_isSo 58 = .ok (.aload_n 0, 1) := by decide +kernel
theorem dX11_isSo_59 : decode cX11_isSo 59 = .ok (.getfield 195, 3) := by decide +kernel
theorem dX11_isSo_62 : decode cX11_isSo 62 = .ok (.iload 5, 2) := by decide +kernel
theorem dX11_isSo_64 : decode cX11_isSo 64 = .ok (.iconst 1, 1) := by decide +kernel
theorem dX11_isSo_65 : decode cX11_isSo 65 = .ok (.isub, 1) := by decide +kernel
theorem dX11_isSo_66 : decode cX11_isSo 66 = .ok (.baload, 1) := by decide +kernel
theorem dX11_isSo_67 : decode cX11_isSo 67 = .ok (.ifCond .ne 7, 3) := by decide +kernel
theorem dX11_isSo_70 : decode cX11_isSo 70 = .ok (.iconst 1, 1) := by decide +kernel
theorem dX11_isSo_71 : decode cX11_isSo 71 = .ok (.goto 4, 3) := by decide +kernel
theorem dX11_isSo_74 : decode cX11_isSo 74 = .ok (.iconst 0, 1) := by decide +kernel
theorem dX11_isSo_75 : decode cX11_isSo 75 = .ok (.bastore, 1) := by decide +kernel
theorem dX11_isSo_76 : decode cX11_isSo 76 = .ok (.goto 262, 3) := by decide +kernel
theorem dX11_isSo_79 : decode cX11_isSo 79 = .ok (.iload 7, 2) := by decide +kernel
theorem dX11_isSo_81 : decode cX11_isSo 81 = .ok (.bipush 21, 2) := by decide +kernel
theorem dX11_isSo_83 : decode cX11_isSo 83 = .ok (.if_icmp .eq 10, 3) := by decide +kernel
theorem dX11_isSo_86 : decode cX11_isSo 86 = .ok (.iload 7, 2) := by decide +kernel
theorem dX11_isSo_88 : decode cX11_isSo 88 = .ok (.bipush 22, 2) := by decide +kernel
theorem dX11_isSo_90 : decode cX11_isSo 90 = .ok (.if_icmp .ne 82, 3) := by decide +kernel
theorem dX11_isSo_93 : decode cX11_isSo 93 = .ok (.iinc 5 (-1), 3) := by decide +kernel
theorem dX11_isSo_96 : decode cX11_isSo 96 = .ok (.aload_n 0, 1) := by decide +kernel
theorem dX11_isSo_97 : decode cX11_isSo 97 = .ok (.getfield 195, 3) := by decide +kernel
theorem dX11_isSo_100 : decode cX11_isSo 100 = .ok (.iload 5, 2) := by decide +kernel
theorem dX11_isSo_102 : decode cX11_isSo 102 = .ok (.iconst 1, 1) := by decide +kernel
theorem dX11_isSo_103 : decode cX11_isSo 103 = .ok (.isub, 1) := by decide +kernel
theorem dX11_isSo_104 : decode cX11_isSo 104 = .ok (.iload 7, 2) := by decide +kernel
theorem dX11_isSo_106 : decode cX11_isSo 106 = .ok (.bipush 21, 2) := by decide +kernel
theorem dX11_isSo_108 : decode cX11_isSo 108 = .ok (.if_icmp .ne 33, 3) := by decide +kernel
theorem dX11_isSo_111 : decode cX11_isSo 111 = .ok (.aload_n 0, 1) := by decide +kernel
theorem dX11_isSo_112 : decode cX11_isSo 112 = .ok (.getfield 195, 3) := by decide +kernel
theorem dX11_isSo_115 : decode cX11_isSo 115 = .ok (.iload 5, 2) := by decide +kernel
theorem dX11_isSo_117 : decode cX11_isSo 117 = .ok (.iconst 1, 1) := by decide +kernel
theorem dX11_isSo_118 : decode cX11_isSo 118 = .ok (.isub, 1) := by decide +kernel
theorem dX11_isSo_119 : decode cX11_isSo 119 = .ok (.baload, 1) := by decide +kernel
theorem dX11_isSo_120 : decode cX11_isSo 120 = .ok (.ifCond .eq 17, 3) := by decide +kernel
theorem dX11_isSo_123 : decode cX11_isSo 123 = .ok (.aload_n 0, 1) := by decide +kernel
theorem dX11_isSo_124 : decode cX11_isSo 124 = .ok (.getfield 195, 3) := by decide +kernel
theorem dX11_isSo_127 : decode cX11_isSo 127 = .ok (.iload 5, 2) := by decide +kernel
theorem dX11_isSo_129 : decode cX11_isSo 129 = .ok (.baload, 1) := by decide +kernel
theorem dX11_isSo_130 : decode cX11_isSo 130 = .ok (.ifCond .eq 7, 3) := by decide +kernel
theorem dX11_isSo_133 : decode cX11_isSo 133 = .ok (.iconst 1, 1) := by decide +kernel
theorem dX11_isSo_134 : decode cX11_isSo 134 = .ok (.goto 34, 3) := by decide +kernel
theorem dX11_isSo_137 : decode cX11_isSo 137 = .ok (.iconst 0, 1) := by decide +kernel
theorem dX11_isSo_138 : decode cX11_isSo 138 = .ok (.goto 30, 3) := by decide +kernel
theorem dX11_isSo_141 : decode cX11_isSo 141 = .ok (.aload_n 0, 1) := by decide +kernel
theorem dX11_isSo_142 : decode cX11_isSo 142 = .ok (.getfield 195, 3) := by decide +kernel
theorem dX11_isSo_145 : decode cX11_isSo 145 = .ok (.iload 5, 2) := by decide +kernel
theorem dX11_isSo_147 : decode cX11_isSo 147 = .ok (.iconst 1, 1) := by decide +kernel
theorem dX11_isSo_148 : decode cX11_isSo 148 = .ok (.isub, 1) := by decide +kernel
theorem dX11_isSo_149 : decode cX11_isSo 149 = .ok (.baload, 1) := by decide +kernel
theorem dX11_isSo_150 : decode cX11_isSo 150 = .ok (.ifCond .ne 13, 3) := by decide +kernel
theorem dX11_isSo_153 : decode cX11_isSo 153 = .ok (.aload_n 0, 1) := by decide +kernel
theorem dX11_isSo_154 : decode cX11_isSo 154 = .ok (.getfield 195, 3) := by decide +kernel
theorem dX11_isSo_157 : decode cX11_isSo 157 = .ok (.iload 5, 2) := by decide +kernel
theorem dX11_isSo_159 : decode cX11_isSo 159 = .ok (.baload, 1) := by decide +kernel
theorem dX11_isSo_160 : decode cX11_isSo 160 = .ok (.ifCond .eq 7, 3) := by decide +kernel
theorem dX11_isSo_163 : decode cX11_isSo 163 = .ok (.iconst 1, 1) := by decide +kernel
theorem dX11_isSo_164 : decode cX11_isSo 164 = .ok (.goto 4, 3) := by decide +kernel
theorem dX11_isSo_167 : decode cX11_isSo 167 = .ok (.iconst 0, 1) := by decide +kernel
theorem dX11_isSo_168 : decode cX11_isSo 168 = .ok (.bastore, 1) := by decide +kernel
theorem dX11_isSo_169 : decode cX11_isSo 169 = .ok (.goto 169, 3) := by decide +kernel
theorem dX11_isSo_172 : decode cX11_isSo 172 = .ok (.iload 7, 2) := by decide +kernel
theorem dX11_isSo_174 : decode cX11_isSo 174 = .ok (.iconst 4, 1) := by decide +kernel
theorem dX11_isSo_175 : decode cX11_isSo 175 = .ok (.if_icmp .ge 61, 3) := by decide +kernel
theorem dX11_isSo_178 : decode cX11_isSo 178 = .ok (.aload_n 0, 1) := by decide +kernel
theorem dX11_isSo_179 : decode cX11_isSo 179 = .ok (.getfield 195, 3) := by decide +kernel
theorem dX11_isSo_182 : decode cX11_isSo 182 = .ok (.iload 5, 2) := by decide +kernel
theorem dX11_isSo_184 : decode cX11_isSo 184 = .ok (.iload 7, 2) := by decide +kernel
theorem dX11_isSo_186 : decode cX11_isSo 186 = .ok (.iconst 3, 1) := by decide +kernel
theorem dX11_isSo_187 : decode cX11_isSo 187 = .ok (.if_icmp .ne 19, 3) := by decide +kernel
theorem dX11_isSo_190 : decode cX11_isSo 190 = .ok (.aload_n 0, 1) := by decide +kernel
theorem dX11_isSo_191 : decode cX11_isSo 191 = .ok (.iload_n 3, 1) := by decide +kernel
theorem dX11_isSo_192 : decode cX11_isSo 192 = .ok (.invokevirtual 432, 3) := by decide +kernel
theorem dX11_isSo_195 : decode cX11_isSo 195 = .ok (.ifCond .ne 7, 3) := by decide +kernel
theorem dX11_isSo_198 : decode cX11_isSo 198 = .ok (.iconst 1, 1) := by decide +kernel
theorem dX11_isSo_199 : decode cX11_isSo 199 = .ok (.goto 30, 3) := by decide +kernel
theorem dX11_isSo_202 : decode cX11_isSo 202 = .ok (.iconst 0, 1) := by decide +kernel
theorem dX11_isSo_203 : decode cX11_isSo 203 = .ok (.goto 26, 3) := by decide +kernel
theorem dX11_isSo_206 : decode cX11_isSo 206 = .ok (.aload_n 0, 1) := by decide +kernel
theorem dX11_isSo_207 : decode cX11_isSo 207 = .ok (.getfield 153, 3) := by decide +kernel
theorem dX11_isSo_210 : decode cX11_isSo 210 = .ok (.bipush 6, 2) := by decide +kernel
theorem dX11_isSo_212 : decode cX11_isSo 212 = .ok (.iload_n 3, 1) := by decide +kernel
theorem dX11_isSo_213 : decode cX11_isSo 213 = .ok (.imul, 1) := by decide +kernel
theorem dX11_isSo_214 : decode cX11_isSo 214 = .ok (.iconst 2, 1) := by decide +kernel
theorem dX11_isSo_215 : decode cX11_isSo 215 = .ok (.iadd, 1) := by decide +kernel
theorem dX11_isSo_216 : decode cX11_isSo 216 = .ok (.iload 7, 2) := by decide +kernel
theorem dX11_isSo_218 : decode cX11_isSo 218 = .ok (.iadd, 1) := by decide +kernel
theorem dX11_isSo_219 : decode cX11_isSo 219 = .ok (.iaload, 1) := by decide +kernel
theorem dX11_isSo_220 : decode cX11_isSo 220 = .ok (.iconst 1, 1) := by decide +kernel
theorem dX11_isSo_221 : decode cX11_isSo 221 = .ok (.if_icmp .ne 7, 3) := by decide +kernel
theorem dX11_isSo_224 : decode cX11_isSo 224 = .ok (.iconst 1, 1) := by decide +kernel
theorem dX11_isSo_225 : decode cX11_isSo 225 = .ok (.goto 4, 3) := by decide +kernel
theorem dX11_isSo_228 : decode cX11_isSo 228 = .ok (.iconst 0, 1) := by decide +kernel
theorem dX11_isSo_229 : decode cX11_isSo 229 = .ok (.bastore, 1) := by decide +kernel
theorem dX11_isSo_230 : decode cX11_isSo 230 = .ok (.iinc 5 1, 3) := by decide +kernel
theorem dX11_isSo_233 : decode cX11_isSo 233 = .ok (.goto 105, 3) := by decide +kernel
theorem dX11_isSo_236 : decode cX11_isSo 236 = .ok (.aload_n 0, 1) := by decide +kernel
theorem dX11_isSo_237 : decode cX11_isSo 237 = .ok (.iload 7, 2) := by decide +kernel
theorem dX11_isSo_239 : decode cX11_isSo 239 = .ok (.iload_n 3, 1) := by decide +kernel
theorem dX11_isSo_240 : decode cX11_isSo 240 = .ok (.iload 4, 2) := by decide +kernel
theorem dX11_isSo_242 : decode cX11_isSo 242 = .ok (.invokevirtual 438, 3) := by decide +kernel
theorem dX11_isSo_245 : decode cX11_isSo 245 = .ok (.istore 8, 2) := by decide +kernel
theorem dX11_isSo_247 : decode cX11_isSo 247 = .ok (.aload_n 0, 1) := by decide +kernel
theorem dX11_isSo_248 : decode cX11_isSo 248 = .ok (.getfield 195, 3) := by decide +kernel
theorem dX11_isSo_251 : decode cX11_isSo 251 = .ok (.iload 5, 2) := by decide +kernel
theorem dX11_isSo_253 : decode cX11_isSo 253 = .ok (.aload_n 0, 1) := by decide +kernel
theorem dX11_isSo_254 : decode cX11_isSo 254 = .ok (.getfield 108, 3) := by decide +kernel
theorem dX11_isSo_257 : decode cX11_isSo 257 = .ok (.iload 6, 2) := by decide +kernel
theorem dX11_isSo_259 : decode cX11_isSo 259 = .ok (.iaload, 1) := by decide +kernel
theorem dX11_isSo_260 : decode cX11_isSo 260 = .ok (.bipush 60, 2) := by decide +kernel
theorem dX11_isSo_262 : decode cX11_isSo 262 = .ok (.if_icmp .ne 23, 3) := by decide +kernel
theorem dX11_isSo_265 : decode cX11_isSo 265 = .ok (.iload 8, 2) := by decide +kernel
theorem dX11_isSo_267 : decode cX11_isSo 267 = .ok (.aload_n 0, 1) := by decide +kernel
theorem dX11_isSo_268 : decode cX11_isSo 268 = .ok (.getfield 111, 3) := by decide +kernel
theorem dX11_isSo_271 : decode cX11_isSo 271 = .ok (.iload 6, 2) := by decide +kernel
theorem dX11_isSo_273 : decode cX11_isSo 273 = .ok (.iaload, 1) := by decide +kernel
theorem dX11_isSo_274 : decode cX11_isSo 274 = .ok (.if_icmp .ge 7, 3) := by decide +kernel
theorem dX11_isSo_277 : decode cX11_isSo 277 = .ok (.iconst 1, 1) := by decide +kernel
theorem dX11_isSo_278 : decode cX11_isSo 278 = .ok (.goto 56, 3) := by decide +kernel
theorem dX11_isSo_281 : decode cX11_isSo 281 = .ok (.iconst 0, 1) := by decide +kernel
theorem dX11_isSo_282 : decode cX11_isSo 282 = .ok (.goto 52, 3) := by decide +kernel
theorem dX11_isSo_285 : decode cX11_isSo 285 = .ok (.aload_n 0, 1) := by decide +kernel
theorem dX11_isSo_286 : decode cX11_isSo 286 = .ok (.getfield 108, 3) := by decide +kernel
theorem dX11_isSo_289 : decode cX11_isSo 289 = .ok (.iload 6, 2) := by decide +kernel
theorem dX11_isSo_291 : decode cX11_isSo 291 = .ok (.iaload, 1) := by decide +kernel
theorem dX11_isSo_292 : decode cX11_isSo 292 = .ok (.bipush 61, 2) := by decide +kernel
theorem dX11_isSo_294 : decode cX11_isSo 294 = .ok (.if_icmp .ne 23, 3) := by decide +kernel
theorem dX11_isSo_297 : decode cX11_isSo 297 = .ok (.iload 8, 2) := by decide +kernel
theorem dX11_isSo_299 : decode cX11_isSo 299 = .ok (.aload_n 0, 1) := by decide +kernel
theorem dX11_isSo_300 : decode cX11_isSo 300 = .ok (.getfield 111, 3) := by decide +kernel
theorem dX11_isSo_303 : decode cX11_isSo 303 = .ok (.iload 6, 2) := by decide +kernel
theorem dX11_isSo_305 : decode cX11_isSo 305 = .ok (.iaload, 1) := by decide +kernel
theorem dX11_isSo_306 : decode cX11_isSo 306 = .ok (.if_icmp .ne 7, 3) := by decide +kernel
theorem dX11_isSo_309 : decode cX11_isSo 309 = .ok (.iconst 1, 1) := by decide +kernel
theorem dX11_isSo_310 : decode cX11_isSo 310 = .ok (.goto 24, 3) := by decide +kernel
theorem dX11_isSo_313 : decode cX11_isSo 313 = .ok (.iconst 0, 1) := by decide +kernel
theorem dX11_isSo_314 : decode cX11_isSo 314 = .ok (.goto 20, 3) := by decide +kernel
theorem dX11_isSo_317 : decode cX11_isSo 317 = .ok (.iload 8, 2) := by decide +kernel
theorem dX11_isSo_319 : decode cX11_isSo 319 = .ok (.aload_n 0, 1) := by decide +kernel
theorem dX11_isSo_320 : decode cX11_isSo 320 = .ok (.getfield 111, 3) := by decide +kernel
theorem dX11_isSo_323 : decode cX11_isSo 323 = .ok (.iload 6, 2) := by decide +kernel
theorem dX11_isSo_325 : decode cX11_isSo 325 = .ok (.iaload, 1) := by decide +kernel
theorem dX11_isSo_326 : decode cX11_isSo 326 = .ok (.if_icmp .le 7, 3) := by decide +kernel
theorem dX11_isSo_329 : decode cX11_isSo 329 = .ok (.iconst 1, 1) := by decide +kernel
theorem dX11_isSo_330 : decode cX11_isSo 330 = .ok (.goto 4, 3) := by decide +kernel
theorem dX11_isSo_333 : decode cX11_isSo 333 = .ok (.iconst 0, 1) := by decide +kernel
theorem dX11_isSo_334 : decode cX11_isSo 334 = .ok (.bastore, 1) := by decide +kernel
theorem dX11_isSo_335 : decode cX11_isSo 335 = .ok (.iinc 5 1, 3) := by decide +kernel
theorem dX11_isSo_338 : decode cX11_isSo 338 = .ok (.iinc 6 1, 3) := by decide +kernel
theorem dX11_isSo_341 : decode cX11_isSo 341 = .ok (.goto (-324), 3) := by decide +kernel
theorem dX11_isSo_344 : decode cX11_isSo 344 = .ok (.iload 5, 2) := by decide +kernel
theorem dX11_isSo_346 : decode cX11_isSo 346 = .ok (.ifCond .eq 12, 3) := by decide +kernel
theorem dX11_isSo_349 : decode cX11_isSo 349 = .ok (.aload_n 0, 1) := by decide +kernel
theorem dX11_isSo_350 : decode cX11_isSo 350 = .ok (.getfield 195, 3) := by decide +kernel
theorem dX11_isSo_353 : decode cX11_isSo 353 = .ok (.iconst 0, 1) := by decide +kernel
theorem dX11_isSo_354 : decode cX11_isSo 354 = .ok (.baload, 1) := by decide +kernel
theorem dX11_isSo_355 : decode cX11_isSo 355 = .ok (.ifCond .eq 7, 3) := by decide +kernel
theorem dX11_isSo_358 : decode cX11_isSo 358 = .ok (.iconst 1, 1) := by decide +kernel
theorem dX11_isSo_359 : decode cX11_isSo 359 = .ok (.goto 4, 3) := by decide +kernel
theorem dX11_isSo_362 : decode cX11_isSo 362 = .ok (.iconst 0, 1) := by decide +kernel
theorem dX11_isSo_363 : decode cX11_isSo 363 = .ok (.ireturn, 1) := by decide +kernel
theorem dX11_lineOf_0 : decode cX11_lineOf 0 = .ok (.iload_n 1, 1) := by decide +kernel
theorem dX11_lineOf_1 : decode cX11_lineOf 1 = .ok (.ifCond .ge 5, 3) := by decide +kernel
theorem dX11_lineOf_4 : decode cX11_lineOf 4 = .ok (.iconst (-1), 1) := by decide +kernel
theorem dX11_lineOf_5 : decode cX11_lineOf 5 = .ok (.ireturn, 1) := by decide +kernel
theorem dX11_lineOf_6 : decode cX11_lineOf 6 = .ok (.bipush 20, 2) := by decide +kernel
theorem dX11_lineOf_8 : decode cX11_lineOf 8 = .ok (.iload_n 1, 1) := by decide +kernel
theorem dX11_lineOf_9 : decode cX11_lineOf 9 = .ok (.imul, 1) := by decide +kernel
theorem dX11_lineOf_10 : decode cX11_lineOf 10 = .ok (.istore 5, 2) := by decide +kernel
theorem dX11_lineOf_12 : decode cX11_lineOf 12 = .ok (.iload 5, 2) := by decide +kernel
theorem dX11_lineOf_14 : decode cX11_lineOf 14 = .ok (.bipush 20, 2) := by decide +kernel
theorem dX11_lineOf_16 : decode cX11_lineOf 16 = .ok (.iload_n 1, 1) := by decide +kernel
theorem dX11_lineOf_17 : decode cX11_lineOf 17 = .ok (.imul, 1) := by decide +kernel
theorem dX11_lineOf_18 : decode cX11_lineOf 18 = .ok (.aload_n 0, 1) := by decide +kernel
theorem dX11_lineOf_19 : decode cX11_lineOf 19 = .ok (.getfield 86, 3) := by decide +kernel
theorem dX11_lineOf_22 : decode cX11_lineOf 22 = .ok (.iload_n 1, 1) := by decide +kernel
theorem dX11_lineOf_23 : decode cX11_lineOf 23 = .ok (.iaload, 1) := by decide +kernel
theorem dX11_lineOf_24 : decode cX11_lineOf 24 = .ok (.iadd, 1) := by decide +kernel
theorem dX11_lineOf_25 : decode cX11_lineOf 25 = .ok (.if_icmp .ge 36, 3) := by decide +kernel
theorem dX11_lineOf_28 : decode cX11_lineOf 28 = .ok (.aload_n 0, 1) := by decide +kernel
theorem dX11_lineOf_29 : decode cX11_lineOf 29 = .ok (.getfield 89, 3) := by decide +kernel
theorem dX11_lineOf_32 : decode cX11_lineOf 32 = .ok (.iload 5, 2) := by decide +kernel
theorem dX11_lineOf_34 : decode cX11_lineOf 34 = .ok (.iaload, 1) := by decide +kernel
theorem dX11_lineOf_35 : decode cX11_lineOf 35 = .ok (.iload_n 2, 1) := by decide +kernel
theorem dX11_lineOf_36 : decode cX11_lineOf 36 = .ok (.if_icmp .ne 19, 3) := by decide +kernel
theorem dX11_lineOf_39 : decode cX11_lineOf 39 = .ok (.aload_n 0, 1) := by decide +kernel
theorem dX11_lineOf_40 : decode cX11_lineOf 40 = .ok (.iload_n 1, 1) := by decide +kernel
theorem dX11_lineOf_41 : decode cX11_lineOf 41 = .ok (.iload 5, 2) := by decide +kernel
theorem dX11_lineOf_43 : decode cX11_lineOf 43 = .ok (.iload_n 3, 1) := by decide +kernel
theorem dX11_lineOf_44 : decode cX11_lineOf 44 = .ok (.iload 4, 2) := by decide +kernel
theorem dX11_lineOf_46 : decode cX11_lineOf 46 = .ok (.invokevirtual 442, 3) := by decide +kernel
theorem dX11_lineOf_49 : decode cX11_lineOf 49 = .ok (.ifCond .eq 6, 3) := by decide +kernel
theorem dX11_lineOf_52 : decode cX11_lineOf 52 = .ok (.iload 5, 2) := by decide +kernel
theorem dX11_lineOf_54 : decode cX11_lineOf 54 = .ok (.ireturn, 1) := by decide +kernel
theorem dX11_lineOf_55 : decode cX11_lineOf 55 = .ok (.iinc 5 1, 3) := by decide +kernel
theorem dX11_lineOf_58 : decode cX11_lineOf 58 = .ok (.goto (-46), 3) := by decide +kernel
theorem dX11_lineOf_61 : decode cX11_lineOf 61 = .ok (.iconst (-1), 1) := by decide +kernel
theorem dX11_lineOf_62 : decode cX11_lineOf 62 = .ok (.ireturn, 1) := by decide +kernel
theorem dX11_judge_0 : decode cX11_judge 0 = .ok (.bipush 60, 2) := by decide +kernel
theorem dX11_judge_2 : decode cX11_judge 2 = .ok (.iload_n 1, 1) := by decide +kernel
theorem dX11_judge_3 : decode cX11_judge 3 = .ok (.imul, 1) := by decide +kernel
theorem dX11_judge_4 : decode cX11_judge 4 = .ok (.iload_n 3, 1) := by decide +kernel
theorem dX11_judge_5 : decode cX11_judge 5 = .ok (.iadd, 1) := by decide +kernel
theorem dX11_judge_6 : decode cX11_judge 6 = .ok (.istore 4, 2) := by decide +kernel
theorem dX11_judge_8 : decode cX11_judge 8 = .ok (.aload_n 0, 1) := by decide +kernel
theorem dX11_judge_9 : decode cX11_judge 9 = .ok (.getfield 159, 3) := by decide +kernel
theorem dX11_judge_12 : decode cX11_judge 12 = .ok (.iload 4, 2) := by decide +kernel
theorem dX11_judge_14 : decode cX11_judge 14 = .ok (.iconst 0, 1) := by decide +kernel
theorem dX11_judge_15 : decode cX11_judge 15 = .ok (.iastore, 1) := by decide +kernel
theorem dX11_judge_16 : decode cX11_judge 16 = .ok (.aload_n 0, 1) := by decide +kernel
theorem dX11_judge_17 : decode cX11_judge 17 = .ok (.getfield 162, 3) := by decide +kernel
theorem dX11_judge_20 : decode cX11_judge 20 = .ok (.iload 4, 2) := by decide +kernel
theorem dX11_judge_22 : decode cX11_judge 22 = .ok (.iconst (-1), 1) := by decide +kernel
theorem dX11_judge_23 : decode cX11_judge 23 = .ok (.iastore, 1) := by decide +kernel
theorem dX11_judge_24 : decode cX11_judge 24 = .ok (.aload_n 0, 1) := by decide +kernel
theorem dX11_judge_25 : decode cX11_judge 25 = .ok (.getfield 165, 3) := by decide +kernel
theorem dX11_judge_28 : decode cX11_judge 28 = .ok (.iload 4, 2) := by decide +kernel
theorem dX11_judge_30 : decode cX11_judge 30 = .ok (.bipush 9, 2) := by decide +kernel
theorem dX11_judge_32 : decode cX11_judge 32 = .ok (.iastore, 1) := by decide +kernel
theorem dX11_judge_33 : decode cX11_judge 33 = .ok (.aload_n 0, 1) := by decide +kernel
theorem dX11_judge_34 : decode cX11_judge 34 = .ok (.getfield 147, 3) := by decide +kernel
theorem dX11_judge_37 : decode cX11_judge 37 = .ok (.iload_n 3, 1) := by decide +kernel
theorem dX11_judge_38 : decode cX11_judge 38 = .ok (.baload, 1) := by decide +kernel
theorem dX11_judge_39 : decode cX11_judge 39 = .ok (.ifCond .ne 4, 3) := by decide +kernel
theorem dX11_judge_42 : decode cX11_judge 42 = .ok (.return_, 1) := by decide +kernel
theorem dX11_judge_43 : decode cX11_judge 43 = .ok (.aload_n 0, 1) := by decide +kernel
theorem dX11_judge_44 : decode cX11_judge 44 = .ok (.iload_n 3, 1) := by decide +kernel
theorem dX11_judge_45 : decode cX11_judge 45 = .ok (.aload_n 0, 1) := by decide +kernel
theorem dX11_judge_46 : decode cX11_judge 46 = .ok (.getfield 117, 3) := by decide +kernel
theorem dX11_judge_49 : decode cX11_judge 49 = .ok (.iload_n 1, 1) := by decide +kernel
theorem dX11_judge_50 : decode cX11_judge 50 = .ok (.iaload, 1) := by decide +kernel
theorem dX11_judge_51 : decode cX11_judge 51 = .ok (.invokevirtual 425, 3) := by decide +kernel
theorem dX11_judge_54 : decode cX11_judge 54 = .ok (.istore 5, 2) := by decide +kernel
theorem dX11_judge_56 : decode cX11_judge 56 = .ok (.iload 5, 2) := by decide +kernel
theorem dX11_judge_58 : decode cX11_judge 58 = .ok (.iload_n 2, 1) := by decide +kernel
theorem dX11_judge_59 : decode cX11_judge 59 = .ok (.ifCond .ge 8, 3) := by decide +kernel
theorem dX11_judge_62 : decode cX11_judge 62 = .ok (.bipush 20, 2) := by decide +kernel
theorem dX11_judge_64 : decode cX11_judge 64 = .ok (.goto 9, 3) := by decide +kernel
theorem dX11_judge_67 : decode cX11_judge 67 = .ok (.aload_n 0, 1) := by decide +kernel
theorem dX11_judge_68 : decode cX11_judge 68 = .ok (.getfield 77, 3) := by decide +kernel
theorem dX11_judge_71 : decode cX11_judge 71 = .ok (.iload_n 2, 1) := by decide +kernel
theorem dX11_judge_72 : decode cX11_judge 72 = .ok (.iaload, 1) := by decide +kernel
theorem dX11_judge_73 : decode cX11_judge 73 = .ok (.iload_n 2, 1) := by decide +kernel
theorem dX11_judge_74 : decode cX11_judge 74 = .ok (.ifCond .ge 8, 3) := by decide +kernel
theorem dX11_judge_77 : decode cX11_judge 77 = .ok (.bipush 25, 2) := by decide +kernel
theorem dX11_judge_79 : decode cX11_judge 79 = .ok (.goto 9, 3) := by decide +kernel
theorem dX11_judge_82 : decode cX11_judge 82 = .ok (.aload_n 0, 1) := by decide +kernel
theorem dX11_judge_83 : decode cX11_judge 83 = .ok (.getfield 80, 3) := by decide +kernel
theorem dX11_judge_86 : decode cX11_judge 86 = .ok (.iload_n 2, 1) := by decide +kernel
theorem dX11_judge_87 : decode cX11_judge 87 = .ok (.iaload, 1) := by decide +kernel
theorem dX11_judge_88 : decode cX11_judge 88 = .ok (.invokestatic 237, 3) := by decide +kernel
theorem dX11_judge_91 : decode cX11_judge 91 = .ok (.ifCond .ne 12, 3) := by decide +kernel
theorem dX11_judge_94 : decode cX11_judge 94 = .ok (.aload_n 0, 1) := by decide +kernel
theorem dX11_judge_95 : decode cX11_judge 95 = .ok (.getfield 159, 3) := by decide +kernel
theorem dX11_judge_98 : decode cX11_judge 98 = .ok (.iload 4, 2) := by decide +kernel
theorem dX11_judge_100 : decode cX11_judge 100 = .ok (.iconst 1, 1) := by decide +kernel
theorem dX11_judge_101 : decode cX11_judge 101 = .ok (.iastore, 1) := by decide +kernel
theorem dX11_judge_102 : decode cX11_judge 102 = .ok (.return_, 1) := by decide +kernel
theorem dX11_judge_103 : decode cX11_judge 103 = .ok (.iconst 1, 1) := by decide +kernel
theorem dX11_judge_104 : decode cX11_judge 104 = .ok (.istore 6, 2) := by decide +kernel
theorem dX11_judge_106 : decode cX11_judge 106 = .ok (.iload 6, 2) := by decide +kernel
theorem dX11_judge_108 : decode cX11_judge 108 = .ok (.iconst 2, 1) := by decide +kernel
theorem dX11_judge_109 : decode cX11_judge 109 = .ok (.if_icmp .gt 52, 3) := by decide +kernel
theorem dX11_judge_112 : decode cX11_judge 112 = .ok (.aload_n 0, 1) := by decide +kernel
theorem dX11_judge_113 : decode cX11_judge 113 = .ok (.iload_n 2, 1) := by decide +kernel
theorem dX11_judge_114 : decode cX11_judge 114 = .ok (.iload 6, 2) := by decide +kernel
theorem dX11_judge_116 : decode cX11_judge 116 = .ok (.iload_n 3, 1) := by decide +kernel
theorem dX11_judge_117 : decode cX11_judge 117 = .ok (.iload_n 1, 1) := by decide +kernel
theorem dX11_judge_118 : decode cX11_judge 118 = .ok (.invokevirtual 446, 3) := by decide +kernel
theorem dX11_judge_121 : decode cX11_judge 121 = .ok (.istore 7, 2) := by decide +kernel
theorem dX11_judge_123 : decode cX11_judge 123 = .ok (.iload 7, 2) := by decide +kernel
theorem dX11_judge_125 : decode cX11_judge 125 = .ok (.ifCond .ge 6, 3) := by decide +kernel
theorem dX11_judge_128 : decode cX11_judge 128 = .ok (.goto 27, 3) := by decide +kernel
theorem dX11_judge_131 : decode cX11_judge 131 = .ok (.aload_n 0, 1) := by decide +kernel
theorem dX11_judge_132 : decode cX11_judge 132 = .ok (.getfield 159, 3) := by decide +kernel
theorem dX11_judge_135 : decode cX11_judge 135 = .ok (.iload 4, 2) := by decide +kernel
theorem dX11_judge_137 : decode cX11_judge 137 = .ok (.iload 6, 2) := by decide +kernel
theorem dX11_judge_139 : decode cX11_judge 139 = .ok (.iconst 1, 1) := by decide +kernel
theorem dX11_judge_140 : decode cX11_judge 140 = .ok (.iadd, 1) := by decide +kernel
theorem dX11_judge_141 : decode cX11_judge 141 = .ok (.iastore, 1) := by decide +kernel
theorem dX11_judge_142 : decode cX11_judge 142 = .ok (.aload_n 0, 1) := by decide +kernel
theorem dX11_judge_143 : decode cX11_judge 143 = .ok (.getfield 162, 3) := by decide +kernel
theorem dX11_judge_146 : decode cX11_judge 146 = .ok (.iload 4, 2) := by decide +kernel
theorem dX11_judge_148 : decode cX11_judge 148 = .ok (.iload 7, 2) := by decide +kernel
theorem dX11_judge_150 : decode cX11_judge 150 = .ok (.bipush 20, 2) := by decide +kernel
theorem dX11_judge_152 : decode cX11_judge 152 = .ok (.irem, 1) := by decide +kernel
theorem dX11_judge_153 : decode cX11_judge 153 = .ok (.iastore, 1) := by decide +kernel
theorem dX11_judge_154 : decode cX11_judge 154 = .ok (.return_, 1) := by decide +kernel
theorem dX11_judge_155 : decode cX11_judge 155 = .ok (.iinc 6 1, 3) := by decide +kernel
theorem dX11_judge_158 : decode cX11_judge 158 = .ok (.goto (-52), 3) := by decide +kernel
theorem dX11_judge_161 : decode cX11_judge 161 = .ok (.aload_n 0, 1) := by decide +kernel
theorem dX11_judge_162 : decode cX11_judge 162 = .ok (.getfield 159, 3) := by decide +kernel
theorem dX11_judge_165 : decode cX11_judge 165 = .ok (.iload 4, 2) := by decide +kernel
theorem dX11_judge_167 : decode cX11_judge 167 = .ok (.iconst 4, 1) := by decide +kernel
theorem dX11_judge_168 : decode cX11_judge 168 = .ok (.iastore, 1) := by decide +kernel
theorem dX11_judge_169 : decode cX11_judge 169 = .ok (.aload_n 0, 1) := by decide +kernel
theorem dX11_judge_170 : decode cX11_judge 170 = .ok (.iload_n 2, 1) := by decide +kernel
theorem dX11_judge_171 : decode cX11_judge 171 = .ok (.iconst 3, 1) := by decide +kernel
theorem dX11_judge_172 : decode cX11_judge 172 = .ok (.iload_n 3, 1) := by decide +kernel
theorem dX11_judge_173 : decode cX11_judge 173 = .ok (.iload_n 1, 1) := by decide +kernel
theorem dX11_judge_174 : decode cX11_judge 174 = .ok (.invokevirtual 446, 3) := by decide +kernel
theorem dX11_judge_177 : decode cX11_judge 177 = .ok (.istore 6, 2) := by decide +kernel
theorem dX11_judge_179 : decode cX11_judge 179 = .ok (.iload 6, 2) := by decide +kernel
theorem dX11_judge_181 : decode cX11_judge 181 = .ok (.ifCond .ge 4, 3) := by decide +kernel
theorem dX11_judge_184 : decode cX11_judge 184 = .ok (.return_, 1) := by decide +kernel
theorem dX11_judge_185 : decode cX11_judge 185 = .ok (.aload_n 0, 1) := by decide +kernel
theorem dX11_judge_186 : decode cX11_judge 186 = .ok (.getfield 162, 3) := by decide +kernel
theorem dX11_judge_189 : decode cX11_judge 189 = .ok (.iload 4, 2) := by decide +kernel
theorem dX11_judge_191 : decode cX11_judge 191 = .ok (.iload 6, 2) := by decide +kernel
theorem dX11_judge_193 : decode cX11_judge 193 = .ok (.bipush 20, 2) := by decide +kernel
theorem dX11_judge_195 : decode cX11_judge 195 = .ok (.irem, 1) := by decide +kernel
theorem dX11_judge_196 : decode cX11_judge 196 = .ok (.iastore, 1) := by decide +kernel
theorem dX11_judge_197 : decode cX11_judge 197 = .ok (.aload_n 0, 1) := by decide +kernel
theorem dX11_judge_198 : decode cX11_judge 198 = .ok (.getfield 165, 3) := by decide +kernel
theorem dX11_judge_201 : decode cX11_judge 201 = .ok (.iload 4, 2) := by decide +kernel
theorem dX11_judge_203 : decode cX11_judge 203 = .ok (.aload_n 0, 1) := by decide +kernel
theorem dX11_judge_204 : decode cX11_judge 204 = .ok (.getfield 92, 3) := by decide +kernel
theorem dX11_judge_207 : decode cX11_judge 207 = .ok (.iload 6, 2) := by decide +kernel
theorem dX11_judge_209 : decode cX11_judge 209 = .ok (.iaload, 1) := by decide +kernel
theorem dX11_judge_210 : decode cX11_judge 210 = .ok (.iastore, 1) := by decide +kernel
theorem dX11_judge_211 : decode cX11_judge 211 = .ok (.return_, 1) := by decide +kernel
theorem dX11_isListed_0 : decode cX11_isListed 0 = .ok (.aload_n 0, 1) := by decide +kernel
theorem dX11_isListed_1 : decode cX11_isListed 1 = .ok (.getfield 159, 3) := by decide +kernel
theorem dX11_isListed_4 : decode cX11_isListed 4 = .ok (.bipush 60, 2) := by decide +kernel
theorem dX11_isListed_6 : decode cX11_isListed 6 = .ok (.iload_n 1, 1) := by decide +kernel
theorem dX11_isListed_7 : decode cX11_isListed 7 = .ok (.imul, 1) := by decide +kernel
theorem dX11_isListed_8 : decode cX11_isListed 8 = .ok (.iload_n 2, 1) := by decide +kernel
theorem dX11_isListed_9 : decode cX11_isListed 9 = .ok (.iadd, 1) := by decide +kernel
theorem dX11_isListed_10 : decode cX11_isListed 10 = .ok (.iaload, 1) := by decide +kernel
theorem dX11_isListed_11 : decode cX11_isListed 11 = .ok (.iconst 4, 1) := by decide +kernel
theorem dX11_isListed_12 : decode cX11_isListed 12 = .ok (.if_icmp .lt 7, 3) := by decide +kernel
theorem dX11_isListed_15 : decode cX11_isListed 15 = .ok (.iconst 1, 1) := by decide +kernel
theorem dX11_isListed_16 : decode cX11_isListed 16 = .ok (.goto 4, 3) := by decide +kernel
theorem dX11_isListed_19 : decode cX11_isListed 19 = .ok (.iconst 0, 1) := by decide +kernel
theorem dX11_isListed_20 : decode cX11_isListed 20 = .ok (.ireturn, 1) := by decide +kernel
theorem dX11_isAhead_0 : decode cX11_isAhead 0 = .ok (.aload_n 0, 1) := by decide +kernel
theorem dX11_isAhead_1 : decode cX11_isAhead 1 = .ok (.getfield 165, 3) := by decide +kernel
theorem dX11_isAhead_4 : decode cX11_isAhead 4 = .ok (.bipush 60, 2) := by decide +kernel
theorem dX11_isAhead_6 : decode cX11_isAhead 6 = .ok (.iload_n 1, 1) := by decide +kernel
theorem dX11_isAhead_7 : decode cX11_isAhead 7 = .ok (.imul, 1) := by decide +kernel
theorem dX11_isAhead_8 : decode cX11_isAhead 8 = .ok (.iload_n 2, 1) := by decide +kernel
theorem dX11_isAhead_9 : decode cX11_isAhead 9 = .ok (.iadd, 1) := by decide +kernel
theorem dX11_isAhead_10 : decode cX11_isAhead 10 = .ok (.iaload, 1) := by decide +kernel
theorem dX11_isAhead_11 : decode cX11_isAhead 11 = .ok (.aload_n 0, 1) := by decide +kernel
theorem dX11_isAhead_12 : decode cX11_isAhead 12 = .ok (.getfield 165, 3) := by decide +kernel
theorem dX11_isAhead_15 : decode cX11_isAhead 15 = .ok (.bipush 60, 2) := by decide +kernel
theorem dX11_isAhead_17 : decode cX11_isAhead 17 = .ok (.iload_n 1, 1) := by decide +kernel
theorem dX11_isAhead_18 : decode cX11_isAhead 18 = .ok (.imul, 1) := by decide +kernel
theorem dX11_isAhead_19 : decode cX11_isAhead 19 = .ok (.iload_n 3, 1) := by decide +kernel
theorem dX11_isAhead_20 : decode cX11_isAhead 20 = .ok (.iadd, 1) := by decide +kernel
theorem dX11_isAhead_21 : decode cX11_isAhead 21 = .ok (.iaload, 1) := by decide +kernel
theorem dX11_isAhead_22 : decode cX11_isAhead 22 = .ok (.isub, 1) := by decide +kernel
theorem dX11_isAhead_23 : decode cX11_isAhead 23 = .ok (.istore 4, 2) := by decide +kernel
theorem dX11_isAhead_25 : decode cX11_isAhead 25 = .ok (.iload 4, 2) := by decide +kernel
theorem dX11_isAhead_27 : decode cX11_isAhead 27 = .ok (.ifCond .ne 36, 3) := by decide +kernel
theorem dX11_isAhead_30 : decode cX11_isAhead 30 = .ok (.aload_n 0, 1) := by decide +kernel
theorem dX11_isAhead_31 : decode cX11_isAhead 31 = .ok (.getfield 126, 3) := by decide +kernel
theorem dX11_isAhead_34 : decode cX11_isAhead 34 = .ok (.bipush 52, 2) := by decide +kernel
theorem dX11_isAhead_36 : decode cX11_isAhead 36 = .ok (.iload_n 1, 1) := by decide +kernel
theorem dX11_isAhead_37 : decode cX11_isAhead 37 = .ok (.imul, 1) := by decide +kernel
theorem dX11_isAhead_38 : decode cX11_isAhead 38 = .ok (.aload_n 0, 1) := by decide +kernel
theorem dX11_isAhead_39 : decode cX11_isAhead 39 = .ok (.iload_n 2, 1) := by decide +kernel
theorem dX11_isAhead_40 : decode cX11_isAhead 40 = .ok (.invokevirtual 450, 3) := by decide +kernel
theorem dX11_isAhead_43 : decode cX11_isAhead 43 = .ok (.iadd, 1) := by decide +kernel
theorem dX11_isAhead_44 : decode cX11_isAhead 44 = .ok (.iaload, 1) := by decide +kernel
theorem dX11_isAhead_45 : decode cX11_isAhead 45 = .ok (.aload_n 0, 1) := by decide +kernel
theorem dX11_isAhead_46 : decode cX11_isAhead 46 = .ok (.getfield 126, 3) := by decide +kernel
theorem dX11_isAhead_49 : decode cX11_isAhead 49 = .ok (.bipush 52, 2) := by decide +kernel
theorem dX11_isAhead_51 : decode cX11_isAhead 51 = .ok (.iload_n 1, 1) := by decide +kernel
theorem dX11_isAhead_52 : decode cX11_isAhead 52 = .ok (.imul, 1) := by decide +kernel
theorem dX11_isAhead_53 : decode cX11_isAhead 53 = .ok (.aload_n 0, 1) := by decide +kernel
theorem dX11_isAhead_54 : decode cX11_isAhead 54 = .ok (.iload_n 3, 1) := by decide +kernel
theorem dX11_isAhead_55 : decode cX11_isAhead 55 = .ok (.invokevirtual 450, 3) := by decide +kernel
theorem dX11_isAhead_58 : decode cX11_isAhead 58 = .ok (.iadd, 1) := by decide +kernel
theorem dX11_isAhead_59 : decode cX11_isAhead 59 = .ok (.iaload, 1) := by decide +kernel
theorem dX11_isAhead_60 : decode cX11_isAhead 60 = .ok (.isub, 1) := by decide +kernel
theorem dX11_isAhead_61 : decode cX11_isAhead 61 = .ok (.istore 4, 2) := by decide +kernel
theorem dX11_isAhead_63 : decode cX11_isAhead 63 = .ok (.iload 4, 2) := by decide +kernel
theorem dX11_isAhead_65 : decode cX11_isAhead 65 = .ok (.ifCond .ne 38, 3) := by decide +kernel
theorem dX11_isAhead_68 : decode cX11_isAhead 68 = .ok (.aload_n 0, 1) := by decide +kernel
theorem dX11_isAhead_69 : decode cX11_isAhead 69 = .ok (.getfield 129, 3) := by decide +kernel
theorem dX11_isAhead_72 : decode cX11_isAhead 72 = .ok (.bipush 26, 2) := by decide +kernel
theorem dX11_isAhead_74 : decode cX11_isAhead 74 = .ok (.iload_n 1, 1) := by decide +kernel
theorem dX11_isAhead_75 : decode cX11_isAhead 75 = .ok (.imul, 1) := by decide +kernel
theorem dX11_isAhead_76 : decode cX11_isAhead 76 = .ok (.aload_n 0, 1) := by decide +kernel
theorem dX11_isAhead_77 : decode cX11_isAhead 77 = .ok (.getfield 13, 3) := by decide +kernel
theorem dX11_isAhead_80 : decode cX11_isAhead 80 = .ok (.iload_n 2, 1) := by decide +kernel
theorem dX11_isAhead_81 : decode cX11_isAhead 81 = .ok (.iaload, 1) := by decide +kernel
theorem dX11_isAhead_82 : decode cX11_isAhead 82 = .ok (.iadd, 1) := by decide +kernel
theorem dX11_isAhead_83 : decode cX11_isAhead 83 = .ok (.iaload, 1) := by decide +kernel
theorem dX11_isAhead_84 : decode cX11_isAhead 84 = .ok (.aload_n 0, 1) := by decide +kernel
theorem dX11_isAhead_85 : decode cX11_isAhead 85 = .ok (.getfield 129, 3) := by decide +kernel
theorem dX11_isAhead_88 : decode cX11_isAhead 88 = .ok (.bipush 26, 2) := by decide +kernel
theorem dX11_isAhead_90 : decode cX11_isAhead 90 = .ok (.iload_n 1, 1) := by decide +kernel
theorem dX11_isAhead_91 : decode cX11_isAhead 91 = .ok (.imul, 1) := by decide +kernel
theorem dX11_isAhead_92 : decode cX11_isAhead 92 = .ok (.aload_n 0, 1) := by decide +kernel
theorem dX11_isAhead_93 : decode cX11_isAhead 93 = .ok (.getfield 13, 3) := by decide +kernel
theorem dX11_isAhead_96 : decode cX11_isAhead 96 = .ok (.iload_n 3, 1) := by decide +kernel
theorem dX11_isAhead_97 : decode cX11_isAhead 97 = .ok (.iaload, 1) := by decide +kernel
theorem dX11_isAhead_98 : decode cX11_isAhead 98 = .ok (.iadd, 1) := by decide +kernel
theorem dX11_isAhead_99 : decode cX11_isAhead 99 = .ok (.iaload, 1) := by decide +kernel
theorem dX11_isAhead_100 : decode cX11_isAhead 100 = .ok (.isub, 1) := by decide +kernel
theorem dX11_isAhead_101 : decode cX11_isAhead 101 = .ok (.istore 4, 2) := by decide +kernel
theorem dX11_isAhead_103 : decode cX11_isAhead 103 = .ok (.iload 4, 2) := by decide +kernel
theorem dX11_isAhead_105 : decode cX11_isAhead 105 = .ok (.ifCond .ne 16, 3) := by decide +kernel
theorem dX11_isAhead_108 : decode cX11_isAhead 108 = .ok (.iload_n 2, 1) := by decide +kernel
theorem dX11_isAhead_109 : decode cX11_isAhead 109 = .ok (.iload_n 3, 1) := by decide +kernel
theorem dX11_isAhead_110 : decode cX11_isAhead 110 = .ok (.if_icmp .ge 7, 3) := by decide +kernel
theorem dX11_isAhead_113 : decode cX11_isAhead 113 = .ok (.iconst 1, 1) := by decide +kernel
theorem dX11_isAhead_114 : decode cX11_isAhead 114 = .ok (.goto 17, 3) := by decide +kernel
theorem dX11_isAhead_117 : decode cX11_isAhead 117 = .ok (.iconst 0, 1) := by decide +kernel
theorem dX11_isAhead_118 : decode cX11_isAhead 118 = .ok (.goto 13, 3) := by decide +kernel
theorem dX11_isAhead_121 : decode cX11_isAhead 121 = .ok (.iload 4, 2) := by decide +kernel
theorem dX11_isAhead_123 : decode cX11_isAhead 123 = .ok (.ifCond .ge 7, 3) := by decide +kernel
theorem dX11_isAhead_126 : decode cX11_isAhead 126 = .ok (.iconst 1, 1) := by decide +kernel
theorem dX11_isAhead_127 : decode cX11_isAhead 127 = .ok (.goto 4, 3) := by decide +kernel
theorem dX11_isAhead_130 : decode cX11_isAhead 130 = .ok (.iconst 0, 1) := by decide +kernel
theorem dX11_isAhead_131 : decode cX11_isAhead 131 = .ok (.ireturn, 1) := by decide +kernel
theorem dX11_weekOf_0 : decode cX11_weekOf 0 = .ok (.aload_n 0, 1) := by decide +kernel
theorem dX11_weekOf_1 : decode cX11_weekOf 1 = .ok (.getfield 144, 3) := by decide +kernel
theorem dX11_weekOf_4 : decode cX11_weekOf 4 = .ok (.iload_n 1, 1) := by decide +kernel
theorem dX11_weekOf_5 : decode cX11_weekOf 5 = .ok (.iaload, 1) := by decide +kernel
theorem dX11_weekOf_6 : decode cX11_weekOf 6 = .ok (.bipush 52, 2) := by decide +kernel
theorem dX11_weekOf_8 : decode cX11_weekOf 8 = .ok (.irem, 1) := by decide +kernel
theorem dX11_weekOf_9 : decode cX11_weekOf 9 = .ok (.bipush 52, 2) := by decide +kernel
theorem dX11_weekOf_11 : decode cX11_weekOf 11 = .ok (.iadd, 1) := by decide +kernel
theorem dX11_weekOf_12 : decode cX11_weekOf 12 = .ok (.bipush 52, 2) := by decide +kernel
theorem dX11_weekOf_14 : decode cX11_weekOf 14 = .ok (.irem, 1) := by decide +kernel
theorem dX11_weekOf_15 : decode cX11_weekOf 15 = .ok (.ireturn, 1) := by decide +kernel
theorem dX11_placeOf_0 : decode cX11_placeOf 0 = .ok (.iconst 0, 1) := by decide +kernel
theorem dX11_placeOf_1 : decode cX11_placeOf 1 = .ok (.istore_n 3, 1) := by decide +kernel
theorem dX11_placeOf_2 : decode cX11_placeOf 2 = .ok (.iconst 0, 1) := by decide +kernel
theorem dX11_placeOf_3 : decode cX11_placeOf 3 = .ok (.istore 4, 2) := by decide +kernel
theorem dX11_placeOf_5 : decode cX11_placeOf 5 = .ok (.iload 4, 2) := by decide +kernel
theorem dX11_placeOf_7 : decode cX11_placeOf 7 = .ok (.aload_n 0, 1) := by decide +kernel
theorem dX11_placeOf_8 : decode cX11_placeOf 8 = .ok (.getfield 244, 3) := by decide +kernel
theorem dX11_placeOf_11 : decode cX11_placeOf 11 = .ok (.if_icmp .ge 60, 3) := by decide +kernel
theorem dX11_placeOf_14 : decode cX11_placeOf 14 = .ok (.iload_n 3, 1) := by decide +kernel
theorem dX11_placeOf_15 : decode cX11_placeOf 15 = .ok (.iload 4, 2) := by decide +kernel
theorem dX11_placeOf_17 : decode cX11_placeOf 17 = .ok (.iload_n 2, 1) := by decide +kernel
theorem dX11_placeOf_18 : decode cX11_placeOf 18 = .ok (.if_icmp .eq 44, 3) := by decide +kernel
theorem dX11_placeOf_21 : decode cX11_placeOf 21 = .ok (.aload_n 0, 1) := by decide +kernel
theorem dX11_placeOf_22 : decode cX11_placeOf 22 = .ok (.iload_n 1, 1) := by decide +kernel
theorem dX11_placeOf_23 : decode cX11_placeOf 23 = .ok (.iload 4, 2) := by decide +kernel
theorem dX11_placeOf_25 : decode cX11_placeOf 25 = .ok (.invokevirtual 453, 3) := by decide +kernel
theorem dX11_placeOf_28 : decode cX11_placeOf 28 = .ok (.ifCond .eq 34, 3) := by decide +kernel
theorem dX11_placeOf_31 : decode cX11_placeOf 31 = .ok (.aload_n 0, 1) := by decide +kernel
theorem dX11_placeOf_32 : decode cX11_placeOf 32 = .ok (.getfield 17, 3) := by decide +kernel
theorem dX11_placeOf_35 : decode cX11_placeOf 35 = .ok (.iload 4, 2) := by decide +kernel
theorem dX11_placeOf_37 : decode cX11_placeOf 37 = .ok (.iaload, 1) := by decide +kernel
theorem dX11_placeOf_38 : decode cX11_placeOf 38 = .ok (.aload_n 0, 1) := by decide +kernel
theorem dX11_placeOf_39 : decode cX11_placeOf 39 = .ok (.getfield 17, 3) := by decide +kernel
theorem dX11_placeOf_42 : decode cX11_placeOf 42 = .ok (.iload_n 2, 1) := by decide +kernel
theorem dX11_placeOf_43 : decode cX11_placeOf 43 = .ok (.iaload, 1) := by decide +kernel
theorem dX11_placeOf_44 : decode cX11_placeOf 44 = .ok (.if_icmp .ne 18, 3) := by decide +kernel
theorem dX11_placeOf_47 : decode cX11_placeOf 47 = .ok (.aload_n 0, 1) := by decide +kernel
theorem dX11_placeOf_48 : decode cX11_placeOf 48 = .ok (.iload_n 1, 1) := by decide +kernel
theorem dX11_placeOf_49 : decode cX11_placeOf 49 = .ok (.iload 4, 2) := by decide +kernel
theorem dX11_placeOf_51 : decode cX11_placeOf 51 = .ok (.iload_n 2, 1) := by decide +kernel
theorem dX11_placeOf_52 : decode cX11_placeOf 52 = .ok (.invokevirtual 456, 3) := by decide +kernel
theorem dX11_placeOf_55 : decode cX11_placeOf 55 = .ok (.ifCond .eq 7, 3) := by decide +kernel
theorem dX11_placeOf_58 : decode cX11_placeOf 58 = .ok (.iconst 1, 1) := by decide +kernel
theorem dX11_placeOf_59 : decode cX11_placeOf 59 = .ok (.goto 4, 3) := by decide +kernel
theorem dX11_placeOf_62 : decode cX11_placeOf 62 = .ok (.iconst 0, 1) := by decide +kernel
theorem dX11_placeOf_63 : decode cX11_placeOf 63 = .ok (.iadd, 1) := by decide +kernel
theorem dX11_placeOf_64 : decode cX11_placeOf 64 = .ok (.istore_n 3, 1) := by decide +kernel
theorem dX11_placeOf_65 : decode cX11_placeOf 65 = .ok (.iinc 4 1, 3) := by decide +kernel
theorem dX11_placeOf_68 : decode cX11_placeOf 68 = .ok (.goto (-63), 3) := by decide +kernel
theorem dX11_placeOf_71 : decode cX11_placeOf 71 = .ok (.iload_n 3, 1) := by decide +kernel
theorem dX11_placeOf_72 : decode cX11_placeOf 72 = .ok (.ireturn, 1) := by decide +kernel
theorem dX11_share_0 : decode cX11_share 0 = .ok (.iconst 0, 1) := by decide +kernel
theorem dX11_share_1 : decode cX11_share 1 = .ok (.istore_n 2, 1) := by decide +kernel
theorem dX11_share_2 : decode cX11_share 2 = .ok (.iconst 0, 1) := by decide +kernel
theorem dX11_share_3 : decode cX11_share 3 = .ok (.istore_n 3, 1) := by decide +kernel
theorem dX11_share_4 : decode cX11_share 4 = .ok (.iload_n 3, 1) := by decide +kernel
theorem dX11_share_5 : decode cX11_share 5 = .ok (.aload_n 0, 1) := by decide +kernel
theorem dX11_share_6 : decode cX11_share 6 = .ok (.getfield 244, 3) := by decide +kernel
theorem dX11_share_9 : decode cX11_share 9 = .ok (.if_icmp .ge 26, 3) := by decide +kernel
theorem dX11_share_12 : decode cX11_share 12 = .ok (.iload_n 2, 1) := by decide +kernel
theorem dX11_share_13 : decode cX11_share 13 = .ok (.aload_n 0, 1) := by decide +kernel
theorem dX11_share_14 : decode cX11_share 14 = .ok (.iload_n 1, 1) := by decide +kernel
theorem dX11_share_15 : decode cX11_share 15 = .ok (.iload_n 3, 1) := by decide +kernel
theorem dX11_share_16 : decode cX11_share 16 = .ok (.invokevirtual 453, 3) := by decide +kernel
theorem dX11_share_19 : decode cX11_share 19 = .ok (.ifCond .eq 7, 3) := by decide +kernel
theorem dX11_share_22 : decode cX11_share 22 = .ok (.iconst 1, 1) := by decide +kernel
theorem dX11_share_23 : decode cX11_share 23 = .ok (.goto 4, 3) := by decide +kernel
theorem dX11_share_26 : decode cX11_share 26 = .ok (.iconst 0, 1) := by decide +kernel
theorem dX11_share_27 : decode cX11_share 27 = .ok (.iadd, 1) := by decide +kernel
theorem dX11_share_28 : decode cX11_share 28 = .ok (.istore_n 2, 1) := by decide +kernel
theorem dX11_share_29 : decode cX11_share 29 = .ok (.iinc 3 1, 3) := by decide +kernel
theorem dX11_share_32 : decode cX11_share 32 = .ok (.goto (-28), 3) := by decide +kernel
theorem dX11_share_35 : decode cX11_share 35 = .ok (.aload_n 0, 1) := by decide +kernel
theorem dX11_share_36 : decode cX11_share 36 = .ok (.getfield 120, 3) := by decide +kernel
theorem dX11_share_39 : decode cX11_share 39 = .ok (.iload_n 1, 1) := by decide +kernel
theorem dX11_share_40 : decode cX11_share 40 = .ok (.iaload, 1) := by decide +kernel
theorem dX11_share_41 : decode cX11_share 41 = .ok (.iload_n 2, 1) := by decide +kernel
theorem dX11_share_42 : decode cX11_share 42 = .ok (.if_icmp .ge 12, 3) := by decide +kernel
theorem dX11_share_45 : decode cX11_share 45 = .ok (.aload_n 0, 1) := by decide +kernel
theorem dX11_share_46 : decode cX11_share 46 = .ok (.getfield 120, 3) := by decide +kernel
theorem dX11_share_49 : decode cX11_share 49 = .ok (.iload_n 1, 1) := by decide +kernel
theorem dX11_share_50 : decode cX11_share 50 = .ok (.iaload, 1) := by decide +kernel
theorem dX11_share_51 : decode cX11_share 51 = .ok (.goto 4, 3) := by decide +kernel
theorem dX11_share_54 : decode cX11_share 54 = .ok (.iload_n 2, 1) := by decide +kernel
theorem dX11_share_55 : decode cX11_share 55 = .ok (.istore_n 3, 1) := by decide +kernel
theorem dX11_share_56 : decode cX11_share 56 = .ok (.iload_n 3, 1) := by decide +kernel
theorem dX11_share_57 : decode cX11_share 57 = .ok (.istore 4, 2) := by decide +kernel
theorem dX11_share_59 : decode cX11_share 59 = .ok (.iconst 0, 1) := by decide +kernel
theorem dX11_share_60 : decode cX11_share 60 = .ok (.istore 5, 2) := by decide +kernel
theorem dX11_share_62 : decode cX11_share 62 = .ok (.iload 5, 2) := by decide +kernel
theorem dX11_share_64 : decode cX11_share 64 = .ok (.bipush 8, 2) := by decide +kernel
theorem dX11_share_66 : decode cX11_share 66 = .ok (.if_icmp .ge 126, 3) := by decide +kernel
theorem dX11_share_69 : decode cX11_share 69 = .ok (.iconst 0, 1) := by decide +kernel
theorem dX11_share_70 : decode cX11_share 70 = .ok (.istore 6, 2) := by decide +kernel
theorem dX11_share_72 : decode cX11_share 72 = .ok (.iconst 0, 1) := by decide +kernel
theorem dX11_share_73 : decode cX11_share 73 = .ok (.istore 7, 2) := by decide +kernel
theorem dX11_share_75 : decode cX11_share 75 = .ok (.iload 7, 2) := by decide +kernel
theorem dX11_share_77 : decode cX11_share 77 = .ok (.aload_n 0, 1) := by decide +kernel
theorem dX11_share_78 : decode cX11_share 78 = .ok (.getfield 244, 3) := by decide +kernel
theorem dX11_share_81 : decode cX11_share 81 = .ok (.if_icmp .ge 41, 3) := by decide +kernel
theorem dX11_share_84 : decode cX11_share 84 = .ok (.iload 6, 2) := by decide +kernel
theorem dX11_share_86 : decode cX11_share 86 = .ok (.aload_n 0, 1) := by decide +kernel
theorem dX11_share_87 : decode cX11_share 87 = .ok (.iload_n 1, 1) := by decide +kernel
theorem dX11_share_88 : decode cX11_share 88 = .ok (.iload 7, 2) := by decide +kernel
theorem dX11_share_90 : decode cX11_share 90 = .ok (.invokevirtual 453, 3) := by decide +kernel
theorem dX11_share_93 : decode cX11_share 93 = .ok (.ifCond .eq 19, 3) := by decide +kernel
theorem dX11_share_96 : decode cX11_share 96 = .ok (.aload_n 0, 1) := by decide +kernel
theorem dX11_share_97 : decode cX11_share 97 = .ok (.getfield 17, 3) := by decide +kernel
theorem dX11_share_100 : decode cX11_share 100 = .ok (.iload 7, 2) := by decide +kernel
theorem dX11_share_102 : decode cX11_share 102 = .ok (.iaload, 1) := by decide +kernel
theorem dX11_share_103 : decode cX11_share 103 = .ok (.iload 5, 2) := by decide +kernel
theorem dX11_share_105 : decode cX11_share 105 = .ok (.if_icmp .ne 7, 3) := by decide +kernel
theorem dX11_share_108 : decode cX11_share 108 = .ok (.iconst 1, 1) := by decide +kernel
theorem dX11_share_109 : decode cX11_share 109 = .ok (.goto 4, 3) := by decide +kernel
theorem dX11_share_112 : decode cX11_share 112 = .ok (.iconst 0, 1) := by decide +kernel
theorem dX11_share_113 : decode cX11_share 113 = .ok (.iadd, 1) := by decide +kernel
theorem dX11_share_114 : decode cX11_share 114 = .ok (.istore 6, 2) := by decide +kernel
theorem dX11_share_116 : decode cX11_share 116 = .ok (.iinc 7 1, 3) := by decide +kernel
theorem dX11_share_119 : decode cX11_share 119 = .ok (.goto (-44), 3) := by decide +kernel
theorem dX11_share_122 : decode cX11_share 122 = .ok (.aload_n 0, 1) := by decide +kernel
theorem dX11_share_123 : decode cX11_share 123 = .ok (.getfield 171, 3) := by decide +kernel
theorem dX11_share_126 : decode cX11_share 126 = .ok (.bipush 8, 2) := by decide +kernel
theorem dX11_share_128 : decode cX11_share 128 = .ok (.iload_n 1, 1) := by decide +kernel
theorem dX11_share_129 : decode cX11_share 129 = .ok (.imul, 1) := by decide +kernel
theorem dX11_share_130 : decode cX11_share 130 = .ok (.iload 5, 2) := by decide +kernel
theorem dX11_share_132 : decode cX11_share 132 = .ok (.iadd, 1) := by decide +kernel
theorem dX11_share_133 : decode cX11_share 133 = .ok (.iload_n 2, 1) := by decide +kernel
theorem dX11_share_134 : decode cX11_share 134 = .ok (.ifCond .ne 7, 3) := by decide +kernel
theorem dX11_share_137 : decode cX11_share 137 = .ok (.iconst 0, 1) := by decide +kernel
theorem dX11_share_138 : decode cX11_share 138 = .ok (.goto 9, 3) := by decide +kernel
theorem dX11_share_141 : decode cX11_share 141 = .ok (.iload_n 3, 1) := by decide +kernel
theorem dX11_share_142 : decode cX11_share 142 = .ok (.iload 6, 2) := by decide +kernel
theorem dX11_share_144 : decode cX11_share 144 = .ok (.imul, 1) := by decide +kernel
theorem dX11_share_145 : decode cX11_share 145 = .ok (.iload_n 2, 1) := by decide +kernel
theorem dX11_share_146 : decode cX11_share 146 = .ok (.idiv, 1) := by decide +kernel
theorem dX11_share_147 : decode cX11_share 147 = .ok (.iastore, 1) := by decide +kernel
theorem dX11_share_148 : decode cX11_share 148 = .ok (.aload_n 0, 1) := by decide +kernel
theorem dX11_share_149 : decode cX11_share 149 = .ok (.getfield 198, 3) := by decide +kernel
theorem dX11_share_152 : decode cX11_share 152 = .ok (.iload 5, 2) := by decide +kernel
theorem dX11_share_154 : decode cX11_share 154 = .ok (.iload_n 2, 1) := by decide +kernel
theorem dX11_share_155 : decode cX11_share 155 = .ok (.ifCond .ne 7, 3) := by decide +kernel
theorem dX11_share_158 : decode cX11_share 158 = .ok (.iconst 0, 1) := by decide +kernel
theorem dX11_share_159 : decode cX11_share 159 = .ok (.goto 9, 3) := by decide +kernel
theorem dX11_share_162 : decode cX11_share 162 = .ok (.iload_n 3, 1) := by decide +kernel
theorem dX11_share_163 : decode cX11_share 163 = .ok (.iload 6, 2) := by decide +kernel
theorem dX11_share_165 : decode cX11_share 165 = .ok (.imul, 1) := by decide +kernel
theorem dX11_share_166 : decode cX11_share 166 = .ok (.iload_n 2, 1) := by decide +kernel
theorem dX11_share_167 : decode cX11_share 167 = .ok (.irem, 1) := by decide +kernel
theorem dX11_share_168 : decode cX11_share 168 = .ok (.iastore, 1) := by decide +kernel
theorem dX11_share_169 : decode cX11_share 169 = .ok (.iload 4, 2) := by decide +kernel
theorem dX11_share_171 : decode cX11_share 171 = .ok (.aload_n 0, 1) := by decide +kernel
theorem dX11_share_172 : decode cX11_share 172 = .ok (.getfield 171, 3) := by decide +kernel
theorem dX11_share_175 : decode cX11_share 175 = .ok (.bipush 8, 2) := by decide +kernel
theorem dX11_share_177 : decode cX11_share 177 = .ok (.iload_n 1, 1) := by decide +kernel
theorem dX11_share_178 : decode cX11_share 178 = .ok (.imul, 1) := by decide +kernel
theorem dX11_share_179 : decode cX11_share 179 = .ok (.iload 5, 2) := by decide +kernel
theorem dX11_share_181 : decode cX11_share 181 = .ok (.iadd, 1) := by decide +kernel
theorem dX11_share_182 : decode cX11_share 182 = .ok (.iaload, 1) := by decide +kernel
theorem dX11_share_183 : decode cX11_share 183 = .ok (.isub, 1) := by decide +kernel
theorem dX11_share_184 : decode cX11_share 184 = .ok (.istore 4, 2) := by decide +kernel
theorem dX11_share_186 : decode cX11_share 186 = .ok (.iinc 5 1, 3) := by decide +kernel
theorem dX11_share_189 : decode cX11_share 189 = .ok (.goto (-127), 3) := by decide +kernel
theorem dX11_share_192 : decode cX11_share 192 = .ok (.iload 4, 2) := by decide +kernel
theorem dX11_share_194 : decode cX11_share 194 = .ok (.ifCond .le 78, 3) := by decide +kernel
theorem dX11_share_197 : decode cX11_share 197 = .ok (.iconst 0, 1) := by decide +kernel
theorem dX11_share_198 : decode cX11_share 198 = .ok (.istore 5, 2) := by decide +kernel
theorem dX11_share_200 : decode cX11_share 200 = .ok (.iconst 1, 1) := by decide +kernel
theorem dX11_share_201 : decode cX11_share 201 = .ok (.istore 6, 2) := by decide +kernel
theorem dX11_share_203 : decode cX11_share 203 = .ok (.iload 6, 2) := by decide +kernel
theorem dX11_share_205 : decode cX11_share 205 = .ok (.bipush 8, 2) := by decide +kernel
theorem dX11_share_207 : decode cX11_share 207 = .ok (.if_icmp .ge 35, 3) := by decide +kernel
theorem dX11_share_210 : decode cX11_share 210 = .ok (.aload_n 0, 1) := by decide +kernel
theorem dX11_share_211 : decode cX11_share 211 = .ok (.getfield 198, 3) := by decide +kernel
theorem dX11_share_214 : decode cX11_share 214 = .ok (.iload 6, 2) := by decide +kernel
theorem dX11_share_216 : decode cX11_share 216 = .ok (.iaload, 1) := by decide +kernel
theorem dX11_share_217 : decode cX11_share 217 = .ok (.aload_n 0, 1) := by decide +kernel
theorem dX11_share_218 : decode cX11_share 218 = .ok (.getfield 198, 3) := by decide +kernel
theorem dX11_share_221 : decode cX11_share 221 = .ok (.iload 5, 2) := by decide +kernel
theorem dX11_share_223 : decode cX11_share 223 = .ok (.iaload, 1) := by decide +kernel
theorem dX11_share_224 : decode cX11_share 224 = .ok (.if_icmp .le 8, 3) := by decide +kernel
theorem dX11_share_227 : decode cX11_share 227 = .ok (.iload 6, 2) := by decide +kernel
theorem dX11_share_229 : decode cX11_share 229 = .ok (.goto 5, 3) := by decide +kernel
theorem dX11_share_232 : decode cX11_share 232 = .ok (.iload 5, 2) := by decide +kernel
theorem dX11_share_234 : decode cX11_share 234 = .ok (.istore 5, 2) := by decide +kernel
theorem dX11_share_236 : decode cX11_share 236 = .ok (.iinc 6 1, 3) := by decide +kernel
theorem dX11_share_239 : decode cX11_share 239 = .ok (.goto (-36), 3) := by decide +kernel
theorem dX11_share_242 : decode cX11_share 242 = .ok (.aload_n 0, 1) := by decide +kernel
theorem dX11_share_243 : decode cX11_share 243 = .ok (.getfield 171, 3) := by decide +kernel
theorem dX11_share_246 : decode cX11_share 246 = .ok (.bipush 8, 2) := by decide +kernel
theorem dX11_share_248 : decode cX11_share 248 = .ok (.iload_n 1, 1) := by decide +kernel
theorem dX11_share_249 : decode cX11_share 249 = .ok (.imul, 1) := by decide +kernel
theorem dX11_share_250 : decode cX11_share 250 = .ok (.iload 5, 2) := by decide +kernel
theorem dX11_share_252 : decode cX11_share 252 = .ok (.iadd, 1) := by decide +kernel
theorem dX11_share_253 : decode cX11_share 253 = .ok (.dup2, 1) := by decide +kernel
theorem dX11_share_254 : decode cX11_share 254 = .ok (.iaload, 1) := by decide +kernel
theorem dX11_share_255 : decode cX11_share 255 = .ok (.iconst 1, 1) := by decide +kernel
theorem dX11_share_256 : decode cX11_share 256 = .ok (.iadd, 1) := by decide +kernel
theorem dX11_share_257 : decode cX11_share 257 = .ok (.iastore, 1) := by decide +kernel
theorem dX11_share_258 : decode cX11_share 258 = .ok (.aload_n 0, 1) := by decide +kernel
theorem dX11_share_259 : decode cX11_share 259 = .ok (.getfield 198, 3) := by decide +kernel
theorem dX11_share_262 : decode cX11_share 262 = .ok (.iload 5, 2) := by decide +kernel
theorem dX11_share_264 : decode cX11_share 264 = .ok (.iconst (-1), 1) := by decide +kernel
theorem dX11_share_265 : decode cX11_share 265 = .ok (.iastore, 1) := by decide +kernel
theorem dX11_share_266 : decode cX11_share 266 = .ok (.iinc 4 (-1), 3) := by decide +kernel
theorem dX11_share_269 : decode cX11_share 269 = .ok (.goto (-77), 3) := by decide +kernel
theorem dX11_share_272 : decode cX11_share 272 = .ok (.return_, 1) := by decide +kernel
theorem dX11_sentBy_0 : decode cX11_sentBy 0 = .ok (.iconst 0, 1) := by decide +kernel
theorem dX11_sentBy_1 : decode cX11_sentBy 1 = .ok (.istore 4, 2) := by decide +kernel
theorem dX11_sentBy_3 : decode cX11_sentBy 3 = .ok (.iload 4, 2) := by decide +kernel
theorem dX11_sentBy_5 : decode cX11_sentBy 5 = .ok (.aload_n 0, 1) := by decide +kernel
theorem dX11_sentBy_6 : decode cX11_sentBy 6 = .ok (.getfield 459, 3) := by decide +kernel
theorem dX11_sentBy_9 : decode cX11_sentBy 9 = .ok (.if_icmp .ge 50, 3) := by decide +kernel
theorem dX11_sentBy_12 : decode cX11_sentBy 12 = .ok (.aload_n 0, 1) := by decide +kernel
theorem dX11_sentBy_13 : decode cX11_sentBy 13 = .ok (.getfield 174, 3) := by decide +kernel
theorem dX11_sentBy_16 : decode cX11_sentBy 16 = .ok (.iload 4, 2) := by decide +kernel
theorem dX11_sentBy_18 : decode cX11_sentBy 18 = .ok (.iaload, 1) := by decide +kernel
theorem dX11_sentBy_19 : decode cX11_sentBy 19 = .ok (.iload_n 1, 1) := by decide +kernel
theorem dX11_sentBy_20 : decode cX11_sentBy 20 = .ok (.if_icmp .ne 33, 3) := by decide +kernel
theorem dX11_sentBy_23 : decode cX11_sentBy 23 = .ok (.aload_n 0, 1) := by decide +kernel
theorem dX11_sentBy_24 : decode cX11_sentBy 24 = .ok (.getfield 177, 3) := by decide +kernel
theorem dX11_sentBy_27 : decode cX11_sentBy 27 = .ok (.iload 4, 2) := by decide +kernel
theorem dX11_sentBy_29 : decode cX11_sentBy 29 = .ok (.iaload, 1) := by decide +kernel
theorem dX11_sentBy_30 : decode cX11_sentBy 30 = .ok (.iload_n 2, 1) := by decide +kernel
theorem dX11_sentBy_31 : decode cX11_sentBy 31 = .ok (.if_icmp .ne 22, 3) := by decide +kernel
theorem dX11_sentBy_34 : decode cX11_sentBy 34 = .ok (.aload_n 0, 1) := by decide +kernel
theorem dX11_sentBy_35 : decode cX11_sentBy 35 = .ok (.getfield 183, 3) := by decide +kernel
theorem dX11_sentBy_38 : decode cX11_sentBy 38 = .ok (.iload 4, 2) := by decide +kernel
theorem dX11_sentBy_40 : decode cX11_sentBy 40 = .ok (.iaload, 1) := by decide +kernel
theorem dX11_sentBy_41 : decode cX11_sentBy 41 = .ok (.iload_n 3, 1) := by decide +kernel
theorem dX11_sentBy_42 : decode cX11_sentBy 42 = .ok (.if_icmp .gt 11, 3) := by decide +kernel
theorem dX11_sentBy_45 : decode cX11_sentBy 45 = .ok (.aload_n 0, 1) := by decide +kernel
theorem dX11_sentBy_46 : decode cX11_sentBy 46 = .ok (.getfield 180, 3) := by decide +kernel
theorem dX11_sentBy_49 : decode cX11_sentBy 49 = .ok (.iload 4, 2) := by decide +kernel
theorem dX11_sentBy_51 : decode cX11_sentBy 51 = .ok (.iaload, 1) := by decide +kernel
theorem dX11_sentBy_52 : decode cX11_sentBy 52 = .ok (.ireturn, 1) := by decide +kernel
theorem dX11_sentBy_53 : decode cX11_sentBy 53 = .ok (.iinc 4 1, 3) := by decide +kernel
theorem dX11_sentBy_56 : decode cX11_sentBy 56 = .ok (.goto (-53), 3) := by decide +kernel
theorem dX11_sentBy_59 : decode cX11_sentBy 59 = .ok (.iconst (-1), 1) := by decide +kernel
theorem dX11_sentBy_60 : decode cX11_sentBy 60 = .ok (.ireturn, 1) := by decide +kernel
theorem dX11_chain_0 : decode cX11_chain 0 = .ok (.iconst 0, 1) := by decide +kernel
theorem dX11_chain_1 : decode cX11_chain 1 = .ok (.istore_n 3, 1) := by decide +kernel
theorem dX11_chain_2 : decode cX11_chain 2 = .ok (.iload_n 3, 1) := by decide +kernel
theorem dX11_chain_3 : decode cX11_chain 3 = .ok (.bipush 60, 2) := by decide +kernel
theorem dX11_chain_5 : decode cX11_chain 5 = .ok (.if_icmp .ge 33, 3) := by decide +kernel
theorem dX11_chain_8 : decode cX11_chain 8 = .ok (.aload_n 0, 1) := by decide +kernel
theorem dX11_chain_9 : decode cX11_chain 9 = .ok (.getfield 192, 3) := by decide +kernel
theorem dX11_chain_12 : decode cX11_chain 12 = .ok (.bipush 60, 2) := by decide +kernel
theorem dX11_chain_14 : decode cX11_chain 14 = .ok (.iload_n 1, 1) := by decide +kernel
theorem dX11_chain_15 : decode cX11_chain 15 = .ok (.imul, 1) := by decide +kernel
theorem dX11_chain_16 : decode cX11_chain 16 = .ok (.iload_n 3, 1) := by decide +kernel
theorem dX11_chain_17 : decode cX11_chain 17 = .ok (.iadd, 1) := by decide +kernel
theorem dX11_chain_18 : decode cX11_chain 18 = .ok (.iconst 0, 1) := by decide +kernel
theorem dX11_chain_19 : decode cX11_chain 19 = .ok (.bastore, 1) := by decide +kernel
theorem dX11_chain_20 : decode cX11_chain 20 = .ok (.aload_n 0, 1) := by decide +kernel
theorem dX11_chain_21 : decode cX11_chain 21 = .ok (.getfield 189, 3) := by decide +kernel
theorem dX11_chain_24 : decode cX11_chain 24 = .ok (.bipush 60, 2) := by decide +kernel
theorem dX11_chain_26 : decode cX11_chain 26 = .ok (.iload_n 1, 1) := by decide +kernel
theorem dX11_chain_27 : decode cX11_chain 27 = .ok (.imul, 1) := by decide +kernel
theorem dX11_chain_28 : decode cX11_chain 28 = .ok (.iload_n 3, 1) := by decide +kernel
theorem dX11_chain_29 : decode cX11_chain 29 = .ok (.iadd, 1) := by decide +kernel
theorem dX11_chain_30 : decode cX11_chain 30 = .ok (.iconst (-1), 1) := by decide +kernel
theorem dX11_chain_31 : decode cX11_chain 31 = .ok (.iastore, 1) := by decide +kernel
theorem dX11_chain_32 : decode cX11_chain 32 = .ok (.iinc 3 1, 3) := by decide +kernel
theorem dX11_chain_35 : decode cX11_chain 35 = .ok (.goto (-33), 3) := by decide +kernel
theorem dX11_chain_38 : decode cX11_chain 38 = .ok (.iconst 0, 1) := by decide +kernel
theorem dX11_chain_39 : decode cX11_chain 39 = .ok (.istore_n 3, 1) := by decide +kernel
theorem dX11_chain_40 : decode cX11_chain 40 = .ok (.iload_n 3, 1) := by decide +kernel
theorem dX11_chain_41 : decode cX11_chain 41 = .ok (.aload_n 0, 1) := by decide +kernel
theorem dX11_chain_42 : decode cX11_chain 42 = .ok (.getfield 244, 3) := by decide +kernel
theorem dX11_chain_45 : decode cX11_chain 45 = .ok (.if_icmp .ge 87, 3) := by decide +kernel
theorem dX11_chain_48 : decode cX11_chain 48 = .ok (.aload_n 0, 1) := by decide +kernel
theorem dX11_chain_49 : decode cX11_chain 49 = .ok (.getfield 159, 3) := by decide +kernel
theorem dX11_chain_52 : decode cX11_chain 52 = .ok (.bipush 60, 2) := by decide +kernel
theorem dX11_chain_54 : decode cX11_chain 54 = .ok (.iload_n 1, 1) := by decide +kernel
theorem dX11_chain_55 : decode cX11_chain 55 = .ok (.imul, 1) := by decide +kernel
theorem dX11_chain_56 : decode cX11_chain 56 = .ok (.iload_n 3, 1) := by decide +kernel
theorem dX11_chain_57 : decode cX11_chain 57 = .ok (.iadd, 1) := by decide +kernel
theorem dX11_chain_58 : decode cX11_chain 58 = .ok (.iaload, 1) := by decide +kernel
theorem dX11_chain_59 : decode cX11_chain 59 = .ok (.iconst 5, 1) := by decide +kernel
theorem dX11_chain_60 : decode cX11_chain 60 = .ok (.if_icmp .eq 6, 3) := by decide +kernel
theorem dX11_chain_63 : decode cX11_chain 63 = .ok (.goto 63, 3) := by decide +kernel
theorem dX11_chain_66 : decode cX11_chain 66 = .ok (.iload_n 3, 1) := by decide +kernel
theorem dX11_chain_67 : decode cX11_chain 67 = .ok (.istore 4, 2) := by decide +kernel
theorem dX11_chain_69 : decode cX11_chain 69 = .ok (.aload_n 0, 1) := by decide +kernel
theorem dX11_chain_70 : decode cX11_chain 70 = .ok (.iload_n 1, 1) := by decide +kernel
theorem dX11_chain_71 : decode cX11_chain 71 = .ok (.iload_n 3, 1) := by decide +kernel
theorem dX11_chain_72 : decode cX11_chain 72 = .ok (.iload_n 2, 1) := by decide +kernel
theorem dX11_chain_73 : decode cX11_chain 73 = .ok (.invokevirtual 462, 3) := by decide +kernel
theorem dX11_chain_76 : decode cX11_chain 76 = .ok (.istore 5, 2) := by decide +kernel
theorem dX11_chain_78 : decode cX11_chain 78 = .ok (.iload 5, 2) := by decide +kernel
theorem dX11_chain_80 : decode cX11_chain 80 = .ok (.ifCond .lt 20, 3) := by decide +kernel
theorem dX11_chain_83 : decode cX11_chain 83 = .ok (.iload 5, 2) := by decide +kernel
theorem dX11_chain_85 : decode cX11_chain 85 = .ok (.istore 4, 2) := by decide +kernel
theorem dX11_chain_87 : decode cX11_chain 87 = .ok (.aload_n 0, 1) := by decide +kernel
theorem dX11_chain_88 : decode cX11_chain 88 = .ok (.iload_n 1, 1) := by decide +kernel
theorem dX11_chain_89 : decode cX11_chain 89 = .ok (.iload 4, 2) := by decide +kernel
theorem dX11_chain_91 : decode cX11_chain 91 = .ok (.iload_n 2, 1) := by decide +kernel
theorem dX11_chain_92 : decode cX11_chain 92 = .ok (.invokevirtual 462, 3) := by decide +kernel
theorem dX11_chain_95 : decode cX11_chain 95 = .ok (.istore 5, 2) := by decide +kernel
theorem dX11_chain_97 : decode cX11_chain 97 = .ok (.goto (-19), 3) := by decide +kernel
theorem dX11_chain_100 : decode cX11_chain 100 = .ok (.aload_n 0, 1) := by decide +kernel
theorem dX11_chain_101 : decode cX11_chain 101 = .ok (.getfield 189, 3) := by decide +kernel
theorem dX11_chain_104 : decode cX11_chain 104 = .ok (.bipush 60, 2) := by decide +kernel
theorem dX11_chain_106 : decode cX11_chain 106 = .ok (.iload_n 1, 1) := by decide +kernel
theorem dX11_chain_107 : decode cX11_chain 107 = .ok (.imul, 1) := by decide +kernel
theorem dX11_chain_108 : decode cX11_chain 108 = .ok (.iload_n 3, 1) := by decide +kernel
theorem dX11_chain_109 : decode cX11_chain 109 = .ok (.iadd, 1) := by decide +kernel
theorem dX11_chain_110 : decode cX11_chain 110 = .ok (.iload 4, 2) := by decide +kernel
theorem dX11_chain_112 : decode cX11_chain 112 = .ok (.iastore, 1) := by decide +kernel
theorem dX11_chain_113 : decode cX11_chain 113 = .ok (.aload_n 0, 1) := by decide +kernel
theorem dX11_chain_114 : decode cX11_chain 114 = .ok (.getfield 192, 3) := by decide +kernel
theorem dX11_chain_117 : decode cX11_chain 117 = .ok (.bipush 60, 2) := by decide +kernel
theorem dX11_chain_119 : decode cX11_chain 119 = .ok (.iload_n 1, 1) := by decide +kernel
theorem dX11_chain_120 : decode cX11_chain 120 = .ok (.imul, 1) := by decide +kernel
theorem dX11_chain_121 : decode cX11_chain 121 = .ok (.iload 4, 2) := by decide +kernel
theorem dX11_chain_123 : decode cX11_chain 123 = .ok (.iadd, 1) := by decide +kernel
theorem dX11_chain_124 : decode cX11_chain 124 = .ok (.iconst 1, 1) := by decide +kernel
theorem dX11_chain_125 : decode cX11_chain 125 = .ok (.bastore, 1) := by decide +kernel
theorem dX11_chain_126 : decode cX11_chain 126 = .ok (.iinc 3 1, 3) := by decide +kernel
theorem dX11_chain_129 : decode cX11_chain 129 = .ok (.goto (-89), 3) := by decide +kernel
theorem dX11_chain_132 : decode cX11_chain 132 = .ok (.return_, 1) := by decide +kernel
theorem dX11_roll_0 : decode cX11_roll 0 = .ok (.aload_n 0, 1) := by decide +kernel
theorem dX11_roll_1 : decode cX11_roll 1 = .ok (.iload_n 2, 1) := by decide +kernel
theorem dX11_roll_2 : decode cX11_roll 2 = .ok (.invokevirtual 422, 3) := by decide +kernel
theorem dX11_roll_5 : decode cX11_roll 5 = .ok (.iconst 0, 1) := by decide +kernel
theorem dX11_roll_6 : decode cX11_roll 6 = .ok (.istore_n 3, 1) := by decide +kernel
theorem dX11_roll_7 : decode cX11_roll 7 = .ok (.iload_n 3, 1) := by decide +kernel
theorem dX11_roll_8 : decode cX11_roll 8 = .ok (.iload_n 1, 1) := by decide +kernel
theorem dX11_roll_9 : decode cX11_roll 9 = .ok (.if_icmp .gt 185, 3) := by decide +kernel
theorem dX11_roll_12 : decode cX11_roll 12 = .ok (.aload_n 0, 1) := by decide +kernel
theorem dX11_roll_13 : decode cX11_roll 13 = .ok (.aload_n 0, 1) := by decide +kernel
theorem dX11_roll_14 : decode cX11_roll 14 = .ok (.getfield 117, 3) := by decide +kernel
theorem dX11_roll_17 : decode cX11_roll 17 = .ok (.iload_n 3, 1) := by decide +kernel
theorem dX11_roll_18 : decode cX11_roll 18 = .ok (.iaload, 1) := by decide +kernel
theorem dX11_roll_19 : decode cX11_roll 19 = .ok (.iload_n 2, 1) := by decide +kernel
theorem dX11_roll_20 : decode cX11_roll 20 = .ok (.invokevirtual 465, 3) := by decide +kernel
theorem dX11_roll_23 : decode cX11_roll 23 = .ok (.aload_n 0, 1) := by decide +kernel
theorem dX11_roll_24 : decode cX11_roll 24 = .ok (.aload_n 0, 1) := by decide +kernel
theorem dX11_roll_25 : decode cX11_roll 25 = .ok (.getfield 117, 3) := by decide +kernel
theorem dX11_roll_28 : decode cX11_roll 28 = .ok (.iload_n 3, 1) := by decide +kernel
theorem dX11_roll_29 : decode cX11_roll 29 = .ok (.iaload, 1) := by decide +kernel
theorem dX11_roll_30 : decode cX11_roll 30 = .ok (.iload_n 2, 1) := by decide +kernel
theorem dX11_roll_31 : decode cX11_roll 31 = .ok (.invokevirtual 469, 3) := by decide +kernel
theorem dX11_roll_34 : decode cX11_roll 34 = .ok (.istore 4, 2) := by decide +kernel
theorem dX11_roll_36 : decode cX11_roll 36 = .ok (.iconst 0, 1) := by decide +kernel
theorem dX11_roll_37 : decode cX11_roll 37 = .ok (.istore 5, 2) := by decide +kernel
theorem dX11_roll_39 : decode cX11_roll 39 = .ok (.iload 5, 2) := by decide +kernel
theorem dX11_roll_41 : decode cX11_roll 41 = .ok (.aload_n 0, 1) := by decide +kernel
theorem dX11_roll_42 : decode cX11_roll 42 = .ok (.getfield 244, 3) := by decide +kernel
theorem dX11_roll_45 : decode cX11_roll 45 = .ok (.if_icmp .ge 18, 3) := by decide +kernel
theorem dX11_roll_48 : decode cX11_roll 48 = .ok (.aload_n 0, 1) := by decide +kernel
theorem dX11_roll_49 : decode cX11_roll 49 = .ok (.iload_n 3, 1) := by decide +kernel
theorem dX11_roll_50 : decode cX11_roll 50 = .ok (.iload 4, 2) := by decide +kernel
theorem dX11_roll_52 : decode cX11_roll 52 = .ok (.iload 5, 2) := by decide +kernel
theorem dX11_roll_54 : decode cX11_roll 54 = .ok (.invokevirtual 472, 3) := by decide +kernel
theorem dX11_roll_57 : decode cX11_roll 57 = .ok (.iinc 5 1, 3) := by decide +kernel
theorem dX11_roll_60 : decode cX11_roll 60 = .ok (.goto (-21), 3) := by decide +kernel
theorem dX11_roll_63 : decode cX11_roll 63 = .ok (.aload_n 0, 1) := by decide +kernel
theorem dX11_roll_64 : decode cX11_roll 64 = .ok (.iload_n 3, 1) := by decide +kernel
theorem dX11_roll_65 : decode cX11_roll 65 = .ok (.invokevirtual 475, 3) := by decide +kernel
theorem dX11_roll_68 : decode cX11_roll 68 = .ok (.iconst 0, 1) := by decide +kernel
theorem dX11_roll_69 : decode cX11_roll 69 = .ok (.istore 5, 2) := by decide +kernel
theorem dX11_roll_71 : decode cX11_roll 71 = .ok (.iload 5, 2) := by decide +kernel
theorem dX11_roll_73 : decode cX11_roll 73 = .ok (.aload_n 0, 1) := by decide +kernel
theorem dX11_roll_74 : decode cX11_roll 74 = .ok (.getfield 244, 3) := by decide +kernel
theorem dX11_roll_77 : decode cX11_roll 77 = .ok (.if_icmp .ge 37, 3) := by decide +kernel
theorem dX11_roll_80 : decode cX11_roll 80 = .ok (.aload_n 0, 1) := by decide +kernel
theorem dX11_roll_81 : decode cX11_roll 81 = .ok (.getfield 168, 3) := by decide +kernel
theorem dX11_roll_84 : decode cX11_roll 84 = .ok (.iload 5, 2) := by decide +kernel
theorem dX11_roll_86 : decode cX11_roll 86 = .ok (.aload_n 0, 1) := by decide +kernel
theorem dX11_roll_87 : decode cX11_roll 87 = .ok (.iload_n 3, 1) := by decide +kernel
theorem dX11_roll_88 : decode cX11_roll 88 = .ok (.iload 5, 2) := by decide +kernel
theorem dX11_roll_90 : decode cX11_roll 90 = .ok (.invokevirtual 453, 3) := by decide +kernel
theorem dX11_roll_93 : decode cX11_roll 93 = .ok (.ifCond .eq 13, 3) := by decide +kernel
theorem dX11_roll_96 : decode cX11_roll 96 = .ok (.aload_n 0, 1) := by decide +kernel
theorem dX11_roll_97 : decode cX11_roll 97 = .ok (.iload_n 3, 1) := by decide +kernel
theorem dX11_roll_98 : decode cX11_roll 98 = .ok (.iload 5, 2) := by decide +kernel
theorem dX11_roll_100 : decode cX11_roll 100 = .ok (.invokevirtual 478, 3) := by decide +kernel
theorem dX11_roll_103 : decode cX11_roll 103 = .ok (.goto 4, 3) := by decide +kernel
theorem dX11_roll_106 : decode cX11_roll 106 = .ok (.iconst (-1), 1) := by decide +kernel
theorem dX11_roll_107 : decode cX11_roll 107 = .ok (.iastore, 1) := by decide +kernel
theorem dX11_roll_108 : decode cX11_roll 108 = .ok (.iinc 5 1, 3) := by decide +kernel
theorem dX11_roll_111 : decode cX11_roll 111 = .ok (.goto (-40), 3) := by decide +kernel
theorem dX11_roll_114 : decode cX11_roll 114 = .ok (.iconst 0, 1) := by decide +kernel
theorem dX11_roll_115 : decode cX11_roll 115 = .ok (.istore 5, 2) := by decide +kernel
theorem dX11_roll_117 : decode cX11_roll 117 = .ok (.iload 5, 2) := by decide +kernel
theorem dX11_roll_119 : decode cX11_roll 119 = .ok (.aload_n 0, 1) := by decide +kernel
theorem dX11_roll_120 : decode cX11_roll 120 = .ok (.getfield 244, 3) := by decide +kernel
theorem dX11_roll_123 : decode cX11_roll 123 = .ok (.if_icmp .ge 59, 3) := by decide +kernel
theorem dX11_roll_126 : decode cX11_roll 126 = .ok (.aload_n 0, 1) := by decide +kernel
theorem dX11_roll_127 : decode cX11_roll 127 = .ok (.getfield 168, 3) := by decide +kernel
theorem dX11_roll_130 : decode cX11_roll 130 = .ok (.iload 5, 2) := by decide +kernel
theorem dX11_roll_132 : decode cX11_roll 132 = .ok (.iaload, 1) := by decide +kernel
theorem dX11_roll_133 : decode cX11_roll 133 = .ok (.ifCond .lt 43, 3) := by decide +kernel
theorem dX11_roll_136 : decode cX11_roll 136 = .ok (.aload_n 0, 1) := by decide +kernel
theorem dX11_roll_137 : decode cX11_roll 137 = .ok (.getfield 168, 3) := by decide +kernel
theorem dX11_roll_140 : decode cX11_roll 140 = .ok (.iload 5, 2) := by decide +kernel
theorem dX11_roll_142 : decode cX11_roll 142 = .ok (.iaload, 1) := by decide +kernel
theorem dX11_roll_143 : decode cX11_roll 143 = .ok (.aload_n 0, 1) := by decide +kernel
theorem dX11_roll_144 : decode cX11_roll 144 = .ok (.getfield 171, 3) := by decide +kernel
theorem dX11_roll_147 : decode cX11_roll 147 = .ok (.bipush 8, 2) := by decide +kernel
theorem dX11_roll_149 : decode cX11_roll 149 = .ok (.iload_n 3, 1) := by decide +kernel
theorem dX11_roll_150 : decode cX11_roll 150 = .ok (.imul, 1) := by decide +kernel
theorem dX11_roll_151 : decode cX11_roll 151 = .ok (.aload_n 0, 1) := by decide +kernel
theorem dX11_roll_152 : decode cX11_roll 152 = .ok (.getfield 17, 3) := by decide +kernel
theorem dX11_roll_155 : decode cX11_roll 155 = .ok (.iload 5, 2) := by decide +kernel
theorem dX11_roll_157 : decode cX11_roll 157 = .ok (.iaload, 1) := by decide +kernel
theorem dX11_roll_158 : decode cX11_roll 158 = .ok (.iadd, 1) := by decide +kernel
theorem dX11_roll_159 : decode cX11_roll 159 = .ok (.iaload, 1) := by decide +kernel
theorem dX11_roll_160 : decode cX11_roll 160 = .ok (.if_icmp .ge 16, 3) := by decide +kernel
theorem dX11_roll_163 : decode cX11_roll 163 = .ok (.aload_n 0, 1) := by decide +kernel
theorem dX11_roll_164 : decode cX11_roll 164 = .ok (.getfield 159, 3) := by decide +kernel
theorem dX11_roll_167 : decode cX11_roll 167 = .ok (.bipush 60, 2) := by decide +kernel
theorem dX11_roll_169 : decode cX11_roll 169 = .ok (.iload_n 3, 1) := by decide +kernel
theorem dX11_roll_170 : decode cX11_roll 170 = .ok (.imul, 1) := by decide +kernel
theorem dX11_roll_171 : decode cX11_roll 171 = .ok (.iload 5, 2) := by decide +kernel
theorem dX11_roll_173 : decode cX11_roll 173 = .ok (.iadd, 1) := by decide +kernel
theorem dX11_roll_174 : decode cX11_roll 174 = .ok (.iconst 5, 1) := by decide +kernel
theorem dX11_roll_175 : decode cX11_roll 175 = .ok (.iastore, 1) := by decide +kernel
theorem dX11_roll_176 : decode cX11_roll 176 = .ok (.iinc 5 1, 3) := by decide +kernel
theorem dX11_roll_179 : decode cX11_roll 179 = .ok (.goto (-62), 3) := by decide +kernel
theorem dX11_roll_182 : decode cX11_roll 182 = .ok (.aload_n 0, 1) := by decide +kernel
theorem dX11_roll_183 : decode cX11_roll 183 = .ok (.iload_n 3, 1) := by decide +kernel
theorem dX11_roll_184 : decode cX11_roll 184 = .ok (.iload_n 2, 1) := by decide +kernel
theorem dX11_roll_185 : decode cX11_roll 185 = .ok (.invokevirtual 481, 3) := by decide +kernel
theorem dX11_roll_188 : decode cX11_roll 188 = .ok (.iinc 3 1, 3) := by decide +kernel
theorem dX11_roll_191 : decode cX11_roll 191 = .ok (.goto (-184), 3) := by decide +kernel
theorem dX11_roll_194 : decode cX11_roll 194 = .ok (.return_, 1) := by decide +kernel
theorem dX11_state_0 : decode cX11_state 0 = .ok (.aload_n 0, 1) := by decide +kernel
theorem dX11_state_1 : decode cX11_state 1 = .ok (.iconst 0, 1) := by decide +kernel
theorem dX11_state_2 : decode cX11_state 2 = .ok (.putfield 221, 3) := by decide +kernel
theorem dX11_state_5 : decode cX11_state 5 = .ok (.aload_n 0, 1) := by decide +kernel
theorem dX11_state_6 : decode cX11_state 6 = .ok (.iload_n 1, 1) := by decide +kernel
theorem dX11_state_7 : decode cX11_state 7 = .ok (.invokevirtual 416, 3) := by decide +kernel
theorem dX11_state_10 : decode cX11_state 10 = .ok (.ifCond .eq 11, 3) := by decide +kernel
theorem dX11_state_13 : decode cX11_state 13 = .ok (.aload_n 0, 1) := by decide +kernel
theorem dX11_state_14 : decode cX11_state 14 = .ok (.iload_n 2, 1) := by decide +kernel
theorem dX11_state_15 : decode cX11_state 15 = .ok (.invokevirtual 254, 3) := by decide +kernel
theorem dX11_state_18 : decode cX11_state 18 = .ok (.ifCond .ne 5, 3) := by decide +kernel
theorem dX11_state_21 : decode cX11_state 21 = .ok (.iconst (-1), 1) := by decide +kernel
theorem dX11_state_22 : decode cX11_state 22 = .ok (.ireturn, 1) := by decide +kernel
theorem dX11_state_23 : decode cX11_state 23 = .ok (.aload_n 0, 1) := by decide +kernel
theorem dX11_state_24 : decode cX11_state 24 = .ok (.iload_n 1, 1) := by decide +kernel
theorem dX11_state_25 : decode cX11_state 25 = .ok (.iload_n 3, 1) := by decide +kernel
theorem dX11_state_26 : decode cX11_state 26 = .ok (.invokevirtual 484, 3) := by decide +kernel
theorem dX11_state_29 : decode cX11_state 29 = .ok (.aload_n 0, 1) := by decide +kernel
theorem dX11_state_30 : decode cX11_state 30 = .ok (.aload_n 0, 1) := by decide +kernel
theorem dX11_state_31 : decode cX11_state 31 = .ok (.getfield 162, 3) := by decide +kernel
theorem dX11_state_34 : decode cX11_state 34 = .ok (.bipush 60, 2) := by decide +kernel
theorem dX11_state_36 : decode cX11_state 36 = .ok (.iload_n 1, 1) := by decide +kernel
theorem dX11_state_37 : decode cX11_state 37 = .ok (.imul, 1) := by decide +kernel
theorem dX11_state_38 : decode cX11_state 38 = .ok (.iload_n 2, 1) := by decide +kernel
theorem dX11_state_39 : decode cX11_state 39 = .ok (.iadd, 1) := by decide +kernel
theorem dX11_state_40 : decode cX11_state 40 = .ok (.iaload, 1) := by decide +kernel
theorem dX11_state_41 : decode cX11_state 41 = .ok (.putfield 201, 3) := by decide +kernel
theorem dX11_state_44 : decode cX11_state 44 = .ok (.aload_n 0, 1) := by decide +kernel
theorem dX11_state_45 : decode cX11_state 45 = .ok (.getfield 159, 3) := by decide +kernel
theorem dX11_state_48 : decode cX11_state 48 = .ok (.bipush 60, 2) := by decide +kernel
theorem dX11_state_50 : decode cX11_state 50 = .ok (.iload_n 1, 1) := by decide +kernel
theorem dX11_state_51 : decode cX11_state 51 = .ok (.imul, 1) := by decide +kernel
theorem dX11_state_52 : decode cX11_state 52 = .ok (.iload_n 2, 1) := by decide +kernel
theorem dX11_state_53 : decode cX11_state 53 = .ok (.iadd, 1) := by decide +kernel
theorem dX11_state_54 : decode cX11_state 54 = .ok (.iaload, 1) := by decide +kernel
theorem dX11_state_55 : decode cX11_state 55 = .ok (.ireturn, 1) := by decide +kernel
theorem dX11_why_0 : decode cX11_why 0 = .ok (.aload_n 0, 1) := by decide +kernel
theorem dX11_why_1 : decode cX11_why 1 = .ok (.iconst 0, 1) := by decide +kernel
theorem dX11_why_2 : decode cX11_why 2 = .ok (.putfield 221, 3) := by decide +kernel
theorem dX11_why_5 : decode cX11_why 5 = .ok (.aload_n 0, 1) := by decide +kernel
theorem dX11_why_6 : decode cX11_why 6 = .ok (.getfield 201, 3) := by decide +kernel
theorem dX11_why_9 : decode cX11_why 9 = .ok (.ireturn, 1) := by decide +kernel
theorem dX11_quota_0 : decode cX11_quota 0 = .ok (.aload_n 0, 1) := by decide +kernel
theorem dX11_quota_1 : decode cX11_quota 1 = .ok (.iconst 0, 1) := by decide +kernel
theorem dX11_quota_2 : decode cX11_quota 2 = .ok (.putfield 221, 3) := by decide +kernel
theorem dX11_quota_5 : decode cX11_quota 5 = .ok (.aload_n 0, 1) := by decide +kernel
theorem dX11_quota_6 : decode cX11_quota 6 = .ok (.iload_n 1, 1) := by decide +kernel
theorem dX11_quota_7 : decode cX11_quota 7 = .ok (.invokevirtual 416, 3) := by decide +kernel
theorem dX11_quota_10 : decode cX11_quota 10 = .ok (.ifCond .eq 13, 3) := by decide +kernel
theorem dX11_quota_13 : decode cX11_quota 13 = .ok (.iload_n 2, 1) := by decide +kernel
theorem dX11_quota_14 : decode cX11_quota 14 = .ok (.iconst 0, 1) := by decide +kernel
theorem dX11_quota_15 : decode cX11_quota 15 = .ok (.bipush 7, 2) := by decide +kernel
theorem dX11_quota_17 : decode cX11_quota 17 = .ok (.invokestatic 237, 3) := by decide +kernel
theorem dX11_quota_20 : decode cX11_quota 20 = .ok (.ifCond .ne 5, 3) := by decide +kernel
theorem dX11_quota_23 : decode cX11_quota 23 = .ok (.iconst (-1), 1) := by decide +kernel
theorem dX11_quota_24 : decode cX11_quota 24 = .ok (.ireturn, 1) := by decide +kernel
theorem dX11_quota_25 : decode cX11_quota 25 = .ok (.aload_n 0, 1) := by decide +kernel
theorem dX11_quota_26 : decode cX11_quota 26 = .ok (.iload_n 1, 1) := by decide +kernel
theorem dX11_quota_27 : decode cX11_quota 27 = .ok (.iload_n 3, 1) := by decide +kernel
theorem dX11_quota_28 : decode cX11_quota 28 = .ok (.invokevirtual 484, 3) := by decide +kernel
theorem dX11_quota_31 : decode cX11_quota 31 = .ok (.aload_n 0, 1) := by decide +kernel
theorem dX11_quota_32 : decode cX11_quota 32 = .ok (.getfield 171, 3) := by decide +kernel
theorem dX11_quota_35 : decode cX11_quota 35 = .ok (.bipush 8, 2) := by decide +kernel
theorem dX11_quota_37 : decode cX11_quota 37 = .ok (.iload_n 1, 1) := by decide +kernel
theorem dX11_quota_38 : decode cX11_quota 38 = .ok (.imul, 1) := by decide +kernel
theorem dX11_quota_39 : decode cX11_quota 39 = .ok (.iload_n 2, 1) := by decide +kernel
theorem dX11_quota_40 : decode cX11_quota 40 = .ok (.iadd, 1) := by decide +kernel
theorem dX11_quota_41 : decode cX11_quota 41 = .ok (.iaload, 1) := by decide +kernel
theorem dX11_quota_42 : decode cX11_quota 42 = .ok (.ireturn, 1) := by decide +kernel
theorem dX11_place_0 : decode cX11_place 0 = .ok (.aload_n 0, 1) := by decide +kernel
theorem dX11_place_1 : decode cX11_place 1 = .ok (.iconst 0, 1) := by decide +kernel
theorem dX11_place_2 : decode cX11_place 2 = .ok (.putfield 221, 3) := by decide +kernel
theorem dX11_place_5 : decode cX11_place 5 = .ok (.aload_n 0, 1) := by decide +kernel
theorem dX11_place_6 : decode cX11_place 6 = .ok (.iload_n 1, 1) := by decide +kernel
theorem dX11_place_7 : decode cX11_place 7 = .ok (.invokevirtual 416, 3) := by decide +kernel
theorem dX11_place_10 : decode cX11_place 10 = .ok (.ifCond .eq 11, 3) := by decide +kernel
theorem dX11_place_13 : decode cX11_place 13 = .ok (.aload_n 0, 1) := by decide +kernel
theorem dX11_place_14 : decode cX11_place 14 = .ok (.iload_n 2, 1) := by decide +kernel
theorem dX11_place_15 : decode cX11_place 15 = .ok (.invokevirtual 254, 3) := by decide +kernel
theorem dX11_place_18 : decode cX11_place 18 = .ok (.ifCond .ne 5, 3) := by decide +kernel
theorem dX11_place_21 : decode cX11_place 21 = .ok (.iconst (-1), 1) := by decide +kernel
theorem dX11_place_22 : decode cX11_place 22 = .ok (.ireturn, 1) := by decide +kernel
theorem dX11_place_23 : decode cX11_place 23 = .ok (.aload_n 0, 1) := by decide +kernel
theorem dX11_place_24 : decode cX11_place 24 = .ok (.iload_n 1, 1) := by decide +kernel
theorem dX11_place_25 : decode cX11_place 25 = .ok (.iload_n 3, 1) := by decide +kernel
theorem dX11_place_26 : decode cX11_place 26 = .ok (.invokevirtual 484, 3) := by decide +kernel
theorem dX11_place_29 : decode cX11_place 29 = .ok (.aload_n 0, 1) := by decide +kernel
theorem dX11_place_30 : decode cX11_place 30 = .ok (.getfield 168, 3) := by decide +kernel
theorem dX11_place_33 : decode cX11_place 33 = .ok (.iload_n 2, 1) := by decide +kernel
theorem dX11_place_34 : decode cX11_place 34 = .ok (.iaload, 1) := by decide +kernel
theorem dX11_place_35 : decode cX11_place 35 = .ok (.ireturn, 1) := by decide +kernel
theorem dX11_called_0 : decode cX11_called 0 = .ok (.aload_n 0, 1) := by decide +kernel
theorem dX11_called_1 : decode cX11_called 1 = .ok (.iconst 0, 1) := by decide +kernel
theorem dX11_called_2 : decode cX11_called 2 = .ok (.putfield 221, 3) := by decide +kernel
theorem dX11_called_5 : decode cX11_called 5 = .ok (.aload_n 0, 1) := by decide +kernel
theorem dX11_called_6 : decode cX11_called 6 = .ok (.iload_n 1, 1) := by decide +kernel
theorem dX11_called_7 : decode cX11_called 7 = .ok (.invokevirtual 416, 3) := by decide +kernel
theorem dX11_called_10 : decode cX11_called 10 = .ok (.ifCond .ne 5, 3) := by decide +kernel
theorem dX11_called_13 : decode cX11_called 13 = .ok (.iconst (-1), 1) := by decide +kernel
theorem dX11_called_14 : decode cX11_called 14 = .ok (.ireturn, 1) := by decide +kernel
theorem dX11_called_15 : decode cX11_called 15 = .ok (.aload_n 0, 1) := by decide +kernel
theorem dX11_called_16 : decode cX11_called 16 = .ok (.iload_n 1, 1) := by decide +kernel
theorem dX11_called_17 : decode cX11_called 17 = .ok (.iload_n 2, 1) := by decide +kernel
theorem dX11_called_18 : decode cX11_called 18 = .ok (.invokevirtual 484, 3) := by decide +kernel
theorem dX11_called_21 : decode cX11_called 21 = .ok (.iconst 0, 1) := by decide +kernel
theorem dX11_called_22 : decode cX11_called 22 = .ok (.istore_n 3, 1) := by decide +kernel
theorem dX11_called_23 : decode cX11_called 23 = .ok (.iconst 0, 1) := by decide +kernel
theorem dX11_called_24 : decode cX11_called 24 = .ok (.istore 4, 2) := by decide +kernel
theorem dX11_called_26 : decode cX11_called 26 = .ok (.iload 4, 2) := by decide +kernel
theorem dX11_called_28 : decode cX11_called 28 = .ok (.aload_n 0, 1) := by decide +kernel
theorem dX11_called_29 : decode cX11_called 29 = .ok (.getfield 244, 3) := by decide +kernel
theorem dX11_called_32 : decode cX11_called 32 = .ok (.if_icmp .ge 33, 3) := by decide +kernel
theorem dX11_called_35 : decode cX11_called 35 = .ok (.iload_n 3, 1) := by decide +kernel
theorem dX11_called_36 : decode cX11_called 36 = .ok (.aload_n 0, 1) := by decide +kernel
theorem dX11_called_37 : decode cX11_called 37 = .ok (.getfield 159, 3) := by decide +kernel
theorem dX11_called_40 : decode cX11_called 40 = .ok (.bipush 60, 2) := by decide +kernel
theorem dX11_called_42 : decode cX11_called 42 = .ok (.iload_n 1, 1) := by decide +kernel
theorem dX11_called_43 : decode cX11_called 43 = .ok (.imul, 1) := by decide +kernel
theorem dX11_called_44 : decode cX11_called 44 = .ok (.iload 4, 2) := by decide +kernel
theorem dX11_called_46 : decode cX11_called 46 = .ok (.iadd, 1) := by decide +kernel
theorem dX11_called_47 : decode cX11_called 47 = .ok (.iaload, 1) := by decide +kernel
theorem dX11_called_48 : decode cX11_called 48 = .ok (.iconst 5, 1) := by decide +kernel
theorem dX11_called_49 : decode cX11_called 49 = .ok (.if_icmp .ne 7, 3) := by decide +kernel
theorem dX11_called_52 : decode cX11_called 52 = .ok (.iconst 1, 1) := by decide +kernel
theorem dX11_called_53 : decode cX11_called 53 = .ok (.goto 4, 3) := by decide +kernel
theorem dX11_called_56 : decode cX11_called 56 = .ok (.iconst 0, 1) := by decide +kernel
theorem dX11_called_57 : decode cX11_called 57 = .ok (.iadd, 1) := by decide +kernel
theorem dX11_called_58 : decode cX11_called 58 = .ok (.istore_n 3, 1) := by decide +kernel
theorem dX11_called_59 : decode cX11_called 59 = .ok (.iinc 4 1, 3) := by decide +kernel
theorem dX11_called_62 : decode cX11_called 62 = .ok (.goto (-36), 3) := by decide +kernel
theorem dX11_called_65 : decode cX11_called 65 = .ok (.iload_n 3, 1) := by decide +kernel
theorem dX11_called_66 : decode cX11_called 66 = .ok (.ireturn, 1) := by decide +kernel
theorem dX11_wasSent_0 : decode cX11_wasSent 0 = .ok (.iconst 0, 1) := by decide +kernel
theorem dX11_wasSent_1 : decode cX11_wasSent 1 = .ok (.istore_n 3, 1) := by decide +kernel
theorem dX11_wasSent_2 : decode cX11_wasSent 2 = .ok (.iload_n 3, 1) := by decide +kernel
theorem dX11_wasSent_3 : decode cX11_wasSent 3 = .ok (.aload_n 0, 1) := by decide +kernel
theorem dX11_wasSent_4 : decode cX11_wasSent 4 = .ok (.getfield 459, 3) := by decide +kernel
theorem dX11_wasSent_7 : decode cX11_wasSent 7 = .ok (.if_icmp .ge 31, 3) := by decide +kernel
theorem dX11_wasSent_10 : decode cX11_wasSent 10 = .ok (.aload_n 0, 1) := by decide +kernel
theorem dX11_wasSent_11 : decode cX11_wasSent 11 = .ok (.getfield 174, 3) := by decide +kernel
theorem dX11_wasSent_14 : decode cX11_wasSent 14 = .ok (.iload_n 3, 1) := by decide +kernel
theorem dX11_wasSent_15 : decode cX11_wasSent 15 = .ok (.iaload, 1) := by decide +kernel
theorem dX11_wasSent_16 : decode cX11_wasSent 16 = .ok (.iload_n 1, 1) := by decide +kernel
theorem dX11_wasSent_17 : decode cX11_wasSent 17 = .ok (.if_icmp .ne 15, 3) := by decide +kernel
theorem dX11_wasSent_20 : decode cX11_wasSent 20 = .ok (.aload_n 0, 1) := by decide +kernel
theorem dX11_wasSent_21 : decode cX11_wasSent 21 = .ok (.getfield 180, 3) := by decide +kernel
theorem dX11_wasSent_24 : decode cX11_wasSent 24 = .ok (.iload_n 3, 1) := by decide +kernel
theorem dX11_wasSent_25 : decode cX11_wasSent 25 = .ok (.iaload, 1) := by decide +kernel
theorem dX11_wasSent_26 : decode cX11_wasSent 26 = .ok (.iload_n 2, 1) := by decide +kernel
theorem dX11_wasSent_27 : decode cX11_wasSent 27 = .ok (.if_icmp .ne 5, 3) := by decide +kernel
theorem dX11_wasSent_30 : decode cX11_wasSent 30 = .ok (.iconst 1, 1) := by decide +kernel
theorem dX11_wasSent_31 : decode cX11_wasSent 31 = .ok (.ireturn, 1) := by decide +kernel
theorem dX11_wasSent_32 : decode cX11_wasSent 32 = .ok (.iinc 3 1, 3) := by decide +kernel
theorem dX11_wasSent_35 : decode cX11_wasSent 35 = .ok (.goto (-33), 3) := by decide +kernel
theorem dX11_wasSent_38 : decode cX11_wasSent 38 = .ok (.iconst 0, 1) := by decide +kernel
theorem dX11_wasSent_39 : decode cX11_wasSent 39 = .ok (.ireturn, 1) := by decide +kernel
theorem dX11_send_0 : decode cX11_send 0 = .ok (.aload_n 0, 1) := by decide +kernel
theorem dX11_send_1 : decode cX11_send 1 = .ok (.iconst 0, 1) := by decide +kernel
theorem dX11_send_2 : decode cX11_send 2 = .ok (.putfield 221, 3) := by decide +kernel
theorem dX11_send_5 : decode cX11_send 5 = .ok (.aload_n 0, 1) := by decide +kernel
theorem dX11_send_6 : decode cX11_send 6 = .ok (.iload_n 1, 1) := by decide +kernel
theorem dX11_send_7 : decode cX11_send 7 = .ok (.invokevirtual 416, 3) := by decide +kernel
theorem dX11_send_10 : decode cX11_send 10 = .ok (.ifCond .eq 41, 3) := by decide +kernel
theorem dX11_send_13 : decode cX11_send 13 = .ok (.aload_n 0, 1) := by decide +kernel
theorem dX11_send_14 : decode cX11_send 14 = .ok (.iload_n 2, 1) := by decide +kernel
theorem dX11_send_15 : decode cX11_send 15 = .ok (.invokevirtual 254, 3) := by decide +kernel
theorem dX11_send_18 : decode cX11_send 18 = .ok (.ifCond .eq 33, 3) := by decide +kernel
theorem dX11_send_21 : decode cX11_send 21 = .ok (.aload_n 0, 1) := by decide +kernel
theorem dX11_send_22 : decode cX11_send 22 = .ok (.iload_n 3, 1) := by decide +kernel
theorem dX11_send_23 : decode cX11_send 23 = .ok (.invokevirtual 254, 3) := by decide +kernel
theorem dX11_send_26 : decode cX11_send 26 = .ok (.ifCond .eq 25, 3) := by decide +kernel
theorem dX11_send_29 : decode cX11_send 29 = .ok (.aload_n 0, 1) := by decide +kernel
theorem dX11_send_30 : decode cX11_send 30 = .ok (.getfield 459, 3) := by decide +kernel
theorem dX11_send_33 : decode cX11_send 33 = .ok (.bipush 60, 2) := by decide +kernel
theorem dX11_send_35 : decode cX11_send 35 = .ok (.if_icmp .eq 16, 3) := by decide +kernel
theorem dX11_send_38 : decode cX11_send 38 = .ok (.aload_n 0, 1) := by decide +kernel
theorem dX11_send_39 : decode cX11_send 39 = .ok (.getfield 241, 3) := by decide +kernel
theorem dX11_send_42 : decode cX11_send 42 = .ok (.aload_n 0, 1) := by decide +kernel
theorem dX11_send_43 : decode cX11_send 43 = .ok (.getfield 117, 3) := by decide +kernel
theorem dX11_send_46 : decode cX11_send 46 = .ok (.iload_n 1, 1) := by decide +kernel
theorem dX11_send_47 : decode cX11_send 47 = .ok (.iaload, 1) := by decide +kernel
theorem dX11_send_48 : decode cX11_send 48 = .ok (.if_icmp .ge 5, 3) := by decide +kernel
theorem dX11_send_51 : decode cX11_send 51 = .ok (.iconst 0, 1) := by decide +kernel
theorem dX11_send_52 : decode cX11_send 52 = .ok (.ireturn, 1) := by decide +kernel
theorem dX11_send_53 : decode cX11_send 53 = .ok (.aload_n 0, 1) := by decide +kernel
theorem dX11_send_54 : decode cX11_send 54 = .ok (.iload_n 1, 1) := by decide +kernel
theorem dX11_send_55 : decode cX11_send 55 = .ok (.aload_n 0, 1) := by decide +kernel
theorem dX11_send_56 : decode cX11_send 56 = .ok (.getfield 241, 3) := by decide +kernel
theorem dX11_send_59 : decode cX11_send 59 = .ok (.invokevirtual 484, 3) := by decide +kernel
theorem dX11_send_62 : decode cX11_send 62 = .ok (.aload_n 0, 1) := by decide +kernel
theorem dX11_send_63 : decode cX11_send 63 = .ok (.getfield 159, 3) := by decide +kernel
theorem dX11_send_66 : decode cX11_send 66 = .ok (.bipush 60, 2) := by decide +kernel
theorem dX11_send_68 : decode cX11_send 68 = .ok (.iload_n 1, 1) := by decide +kernel
theorem dX11_send_69 : decode cX11_send 69 = .ok (.imul, 1) := by decide +kernel
theorem dX11_send_70 : decode cX11_send 70 = .ok (.iload_n 2, 1) := by decide +kernel
theorem dX11_send_71 : decode cX11_send 71 = .ok (.iadd, 1) := by decide +kernel
theorem dX11_send_72 : decode cX11_send 72 = .ok (.iaload, 1) := by decide +kernel
theorem dX11_send_73 : decode cX11_send 73 = .ok (.istore 4, 2) := by decide +kernel
theorem dX11_send_75 : decode cX11_send 75 = .ok (.aload_n 0, 1) := by decide +kernel
theorem dX11_send_76 : decode cX11_send 76 = .ok (.getfield 159, 3) := by decide +kernel
theorem dX11_send_79 : decode cX11_send 79 = .ok (.bipush 60, 2) := by decide +kernel
theorem dX11_send_81 : decode cX11_send 81 = .ok (.iload_n 1, 1) := by decide +kernel
theorem dX11_send_82 : decode cX11_send 82 = .ok (.imul, 1) := by decide +kernel
theorem dX11_send_83 : decode cX11_send 83 = .ok (.iload_n 3, 1) := by decide +kernel
theorem dX11_send_84 : decode cX11_send 84 = .ok (.iadd, 1) := by decide +kernel
theorem dX11_send_85 : decode cX11_send 85 = .ok (.iaload, 1) := by decide +kernel
theorem dX11_send_86 : decode cX11_send 86 = .ok (.istore 5, 2) := by decide +kernel
theorem dX11_send_88 : decode cX11_send 88 = .ok (.iload 4, 2) := by decide +kernel
theorem dX11_send_90 : decode cX11_send 90 = .ok (.iconst 5, 1) := by decide +kernel
theorem dX11_send_91 : decode cX11_send 91 = .ok (.if_icmp .eq 17, 3) := by decide +kernel
theorem dX11_send_94 : decode cX11_send 94 = .ok (.iload 4, 2) := by decide +kernel
theorem dX11_send_96 : decode cX11_send 96 = .ok (.ifCond .eq 25, 3) := by decide +kernel
theorem dX11_send_99 : decode cX11_send 99 = .ok (.aload_n 0, 1) := by decide +kernel
theorem dX11_send_100 : decode cX11_send 100 = .ok (.iload_n 1, 1) := by decide +kernel
theorem dX11_send_101 : decode cX11_send 101 = .ok (.iload_n 2, 1) := by decide +kernel
theorem dX11_send_102 : decode cX11_send 102 = .ok (.invokevirtual 487, 3) := by decide +kernel
theorem dX11_send_105 : decode cX11_send 105 = .ok (.ifCond .eq 16, 3) := by decide +kernel
theorem dX11_send_108 : decode cX11_send 108 = .ok (.aload_n 0, 1) := by decide +kernel
theorem dX11_send_109 : decode cX11_send 109 = .ok (.iload_n 1, 1) := by decide +kernel
theorem dX11_send_110 : decode cX11_send 110 = .ok (.iload_n 2, 1) := by decide +kernel
theorem dX11_send_111 : decode cX11_send 111 = .ok (.aload_n 0, 1) := by decide +kernel
theorem dX11_send_112 : decode cX11_send 112 = .ok (.getfield 241, 3) := by decide +kernel
theorem dX11_send_115 : decode cX11_send 115 = .ok (.invokevirtual 462, 3) := by decide +kernel
theorem dX11_send_118 : decode cX11_send 118 = .ok (.ifCond .lt 5, 3) := by decide +kernel
theorem dX11_send_121 : decode cX11_send 121 = .ok (.iconst 0, 1) := by decide +kernel
theorem dX11_send_122 : decode cX11_send 122 = .ok (.ireturn, 1) := by decide +kernel
theorem dX11_send_123 : decode cX11_send 123 = .ok (.iload 5, 2) := by decide +kernel
theorem dX11_send_125 : decode cX11_send 125 = .ok (.iconst 1, 1) := by decide +kernel
theorem dX11_send_126 : decode cX11_send 126 = .ok (.if_icmp .eq 9, 3) := by decide +kernel
theorem dX11_send_129 : decode cX11_send 129 = .ok (.iload 5, 2) := by decide +kernel
theorem dX11_send_131 : decode cX11_send 131 = .ok (.iconst 4, 1) := by decide +kernel
theorem dX11_send_132 : decode cX11_send 132 = .ok (.if_icmp .ne 25, 3) := by decide +kernel
theorem dX11_send_135 : decode cX11_send 135 = .ok (.aload_n 0, 1) := by decide +kernel
theorem dX11_send_136 : decode cX11_send 136 = .ok (.iload_n 1, 1) := by decide +kernel
theorem dX11_send_137 : decode cX11_send 137 = .ok (.iload_n 3, 1) := by decide +kernel
theorem dX11_send_138 : decode cX11_send 138 = .ok (.invokevirtual 487, 3) := by decide +kernel
theorem dX11_send_141 : decode cX11_send 141 = .ok (.ifCond .ne 16, 3) := by decide +kernel
theorem dX11_send_144 : decode cX11_send 144 = .ok (.aload_n 0, 1) := by decide +kernel
theorem dX11_send_145 : decode cX11_send 145 = .ok (.iload_n 1, 1) := by decide +kernel
theorem dX11_send_146 : decode cX11_send 146 = .ok (.iload_n 3, 1) := by decide +kernel
theorem dX11_send_147 : decode cX11_send 147 = .ok (.aload_n 0, 1) := by decide +kernel
theorem dX11_send_148 : decode cX11_send 148 = .ok (.getfield 241, 3) := by decide +kernel
theorem dX11_send_151 : decode cX11_send 151 = .ok (.invokevirtual 462, 3) := by decide +kernel
theorem dX11_send_154 : decode cX11_send 154 = .ok (.ifCond .lt 5, 3) := by decide +kernel
theorem dX11_send_157 : decode cX11_send 157 = .ok (.iconst 0, 1) := by decide +kernel
theorem dX11_send_158 : decode cX11_send 158 = .ok (.ireturn, 1) := by decide +kernel
theorem dX11_send_159 : decode cX11_send 159 = .ok (.aload_n 0, 1) := by decide +kernel
theorem dX11_send_160 : decode cX11_send 160 = .ok (.aload_n 0, 1) := by decide +kernel
theorem dX11_send_161 : decode cX11_send 161 = .ok (.getfield 117, 3) := by decide +kernel
theorem dX11_send_164 : decode cX11_send 164 = .ok (.iload_n 1, 1) := by decide +kernel
theorem dX11_send_165 : decode cX11_send 165 = .ok (.iaload, 1) := by decide +kernel
theorem dX11_send_166 : decode cX11_send 166 = .ok (.aload_n 0, 1) := by decide +kernel
theorem dX11_send_167 : decode cX11_send 167 = .ok (.getfield 241, 3) := by decide +kernel
theorem dX11_send_170 : decode cX11_send 170 = .ok (.invokevirtual 465, 3) := by decide +kernel
theorem dX11_send_173 : decode cX11_send 173 = .ok (.aload_n 0, 1) := by decide +kernel
theorem dX11_send_174 : decode cX11_send 174 = .ok (.aload_n 0, 1) := by decide +kernel
theorem dX11_send_175 : decode cX11_send 175 = .ok (.aload_n 0, 1) := by decide +kernel
theorem dX11_send_176 : decode cX11_send 176 = .ok (.getfield 117, 3) := by decide +kernel
theorem dX11_send_179 : decode cX11_send 179 = .ok (.iload_n 1, 1) := by decide +kernel
theorem dX11_send_180 : decode cX11_send 180 = .ok (.iaload, 1) := by decide +kernel
theorem dX11_send_181 : decode cX11_send 181 = .ok (.aload_n 0, 1) := by decide +kernel
theorem dX11_send_182 : decode cX11_send 182 = .ok (.getfield 241, 3) := by decide +kernel
theorem dX11_send_185 : decode cX11_send 185 = .ok (.invokevirtual 469, 3) := by decide +kernel
theorem dX11_send_188 : decode cX11_send 188 = .ok (.iconst 4, 1) := by decide +kernel
theorem dX11_send_189 : decode cX11_send 189 = .ok (.iload_n 2, 1) := by decide +kernel
theorem dX11_send_190 : decode cX11_send 190 = .ok (.iload_n 1, 1) := by decide +kernel
theorem dX11_send_191 : decode cX11_send 191 = .ok (.invokevirtual 446, 3) := by decide +kernel
theorem dX11_send_194 : decode cX11_send 194 = .ok (.istore 6, 2) := by decide +kernel
theorem dX11_send_196 : decode cX11_send 196 = .ok (.iload 6, 2) := by decide +kernel
theorem dX11_send_198 : decode cX11_send 198 = .ok (.ifCond .lt 15, 3) := by decide +kernel
theorem dX11_send_201 : decode cX11_send 201 = .ok (.aload_n 0, 1) := by decide +kernel
theorem dX11_send_202 : decode cX11_send 202 = .ok (.getfield 101, 3) := by decide +kernel
theorem dX11_send_205 : decode cX11_send 205 = .ok (.iload 6, 2) := by decide +kernel
theorem dX11_send_207 : decode cX11_send 207 = .ok (.baload, 1) := by decide +kernel
theorem dX11_send_208 : decode cX11_send 208 = .ok (.ifCond .eq 5, 3) := by decide +kernel
theorem dX11_send_211 : decode cX11_send 211 = .ok (.iconst 0, 1) := by decide +kernel
theorem dX11_send_212 : decode cX11_send 212 = .ok (.ireturn, 1) := by decide +kernel
theorem dX11_send_213 : decode cX11_send 213 = .ok (.aload_n 0, 1) := by decide +kernel
theorem dX11_send_214 : decode cX11_send 214 = .ok (.getfield 174, 3) := by decide +kernel
theorem dX11_send_217 : decode cX11_send 217 = .ok (.aload_n 0, 1) := by decide +kernel
theorem dX11_send_218 : decode cX11_send 218 = .ok (.getfield 459, 3) := by decide +kernel
theorem dX11_send_221 : decode cX11_send 221 = .ok (.iload_n 1, 1) := by decide +kernel
theorem dX11_send_222 : decode cX11_send 222 = .ok (.iastore, 1) := by decide +kernel
theorem dX11_send_223 : decode cX11_send 223 = .ok (.aload_n 0, 1) := by decide +kernel
theorem dX11_send_224 : decode cX11_send 224 = .ok (.getfield 177, 3) := by decide +kernel
theorem dX11_send_227 : decode cX11_send 227 = .ok (.aload_n 0, 1) := by decide +kernel
theorem dX11_send_228 : decode cX11_send 228 = .ok (.getfield 459, 3) := by decide +kernel
theorem dX11_send_231 : decode cX11_send 231 = .ok (.iload_n 2, 1) := by decide +kernel
theorem dX11_send_232 : decode cX11_send 232 = .ok (.iastore, 1) := by decide +kernel
theorem dX11_send_233 : decode cX11_send 233 = .ok (.aload_n 0, 1) := by decide +kernel
theorem dX11_send_234 : decode cX11_send 234 = .ok (.getfield 180, 3) := by decide +kernel
theorem dX11_send_237 : decode cX11_send 237 = .ok (.aload_n 0, 1) := by decide +kernel
theorem dX11_send_238 : decode cX11_send 238 = .ok (.getfield 459, 3) := by decide +kernel
theorem dX11_send_241 : decode cX11_send 241 = .ok (.iload_n 3, 1) := by decide +kernel
theorem dX11_send_242 : decode cX11_send 242 = .ok (.iastore, 1) := by decide +kernel
theorem dX11_send_243 : decode cX11_send 243 = .ok (.aload_n 0, 1) := by decide +kernel
theorem dX11_send_244 : decode cX11_send 244 = .ok (.getfield 183, 3) := by decide +kernel
theorem dX11_send_247 : decode cX11_send 247 = .ok (.aload_n 0, 1) := by decide +kernel
theorem dX11_send_248 : decode cX11_send 248 = .ok (.getfield 459, 3) := by decide +kernel
theorem dX11_send_251 : decode cX11_send 251 = .ok (.aload_n 0, 1) := by decide +kernel
theorem dX11_send_252 : decode cX11_send 252 = .ok (.getfield 241, 3) := by decide +kernel
theorem dX11_send_255 : decode cX11_send 255 = .ok (.iastore, 1) := by decide +kernel
theorem dX11_send_256 : decode cX11_send 256 = .ok (.aload_n 0, 1) := by decide +kernel
theorem dX11_send_257 : decode cX11_send 257 = .ok (.dup, 1) := by decide +kernel
theorem dX11_send_258 : decode cX11_send 258 = .ok (.getfield 459, 3) := by decide +kernel
theorem dX11_send_261 : decode cX11_send 261 = .ok (.iconst 1, 1) := by decide +kernel
theorem dX11_send_262 : decode cX11_send 262 = .ok (.iadd, 1) := by decide +kernel
theorem dX11_send_263 : decode cX11_send 263 = .ok (.putfield 459, 3) := by decide +kernel
theorem dX11_send_266 : decode cX11_send 266 = .ok (.iconst 1, 1) := by decide +kernel
theorem dX11_send_267 : decode cX11_send 267 = .ok (.ireturn, 1) := by decide +kernel
theorem dX11_serves_0 : decode cX11_serves 0 = .ok (.aload_n 0, 1) := by decide +kernel
theorem dX11_serves_1 : decode cX11_serves 1 = .ok (.iconst 0, 1) := by decide +kernel
theorem dX11_serves_2 : decode cX11_serves 2 = .ok (.putfield 221, 3) := by decide +kernel
theorem dX11_serves_5 : decode cX11_serves 5 = .ok (.aload_n 0, 1) := by decide +kernel
theorem dX11_serves_6 : decode cX11_serves 6 = .ok (.iload_n 1, 1) := by decide +kernel
theorem dX11_serves_7 : decode cX11_serves 7 = .ok (.invokevirtual 416, 3) := by decide +kernel
theorem dX11_serves_10 : decode cX11_serves 10 = .ok (.ifCond .eq 11, 3) := by decide +kernel
theorem dX11_serves_13 : decode cX11_serves 13 = .ok (.aload_n 0, 1) := by decide +kernel
theorem dX11_serves_14 : decode cX11_serves 14 = .ok (.iload_n 2, 1) := by decide +kernel
theorem dX11_serves_15 : decode cX11_serves 15 = .ok (.invokevirtual 254, 3) := by decide +kernel
theorem dX11_serves_18 : decode cX11_serves 18 = .ok (.ifCond .ne 5, 3) := by decide +kernel
theorem dX11_serves_21 : decode cX11_serves 21 = .ok (.iconst (-1), 1) := by decide +kernel
theorem dX11_serves_22 : decode cX11_serves 22 = .ok (.ireturn, 1) := by decide +kernel
theorem dX11_serves_23 : decode cX11_serves 23 = .ok (.aload_n 0, 1) := by decide +kernel
theorem dX11_serves_24 : decode cX11_serves 24 = .ok (.iload_n 1, 1) := by decide +kernel
theorem dX11_serves_25 : decode cX11_serves 25 = .ok (.iload_n 3, 1) := by decide +kernel
theorem dX11_serves_26 : decode cX11_serves 26 = .ok (.invokevirtual 484, 3) := by decide +kernel
theorem dX11_serves_29 : decode cX11_serves 29 = .ok (.aload_n 0, 1) := by decide +kernel
theorem dX11_serves_30 : decode cX11_serves 30 = .ok (.getfield 189, 3) := by decide +kernel
theorem dX11_serves_33 : decode cX11_serves 33 = .ok (.bipush 60, 2) := by decide +kernel
theorem dX11_serves_35 : decode cX11_serves 35 = .ok (.iload_n 1, 1) := by decide +kernel
theorem dX11_serves_36 : decode cX11_serves 36 = .ok (.imul, 1) := by decide +kernel
theorem dX11_serves_37 : decode cX11_serves 37 = .ok (.iload_n 2, 1) := by decide +kernel
theorem dX11_serves_38 : decode cX11_serves 38 = .ok (.iadd, 1) := by decide +kernel
theorem dX11_serves_39 : decode cX11_serves 39 = .ok (.iaload, 1) := by decide +kernel
theorem dX11_serves_40 : decode cX11_serves 40 = .ok (.ireturn, 1) := by decide +kernel
