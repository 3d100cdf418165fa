theorem dX11_readNumber_0 : decode cX11_readNumber 0 = .ok (.aload_n 0, 1) := by decide +kernel
theorem dX11_readNumber_1 : decode cX11_readNumber 1 = .ok (.getfield 279, 3) := by decide +kernel
theorem dX11_readNumber_4 : decode cX11_readNumber 4 = .ok (.iconst 2, 1) := by decide +kernel
theorem dX11_readNumber_5 : decode cX11_readNumber 5 = .ok (.if_icmp .eq 9, 3) := by decide +kernel
theorem dX11_readNumber_8 : decode cX11_readNumber 8 = .ok (.aload_n 0, 1) := by decide +kernel
theorem dX11_readNumber_9 : decode cX11_readNumber 9 = .ok (.iconst 1, 1) := by decide +kernel
theorem dX11_readNumber_10 : decode cX11_readNumber 10 = .ok (.invokevirtual 301, 3) := by decide +kernel
theorem dX11_readNumber_13 : decode cX11_readNumber 13 = .ok (.ireturn, 1) := by decide +kernel
theorem dX11_readNumber_14 : decode cX11_readNumber 14 = .ok (.aload_n 0, 1) := by decide +kernel
theorem dX11_readNumber_15 : decode cX11_readNumber 15 = .ok (.getfield 285, 3) := by decide +kernel
theorem dX11_readNumber_18 : decode cX11_readNumber 18 = .ok (.iload_n 1, 1) := by decide +kernel
theorem dX11_readNumber_19 : decode cX11_readNumber 19 = .ok (.iload_n 2, 1) := by decide +kernel
theorem dX11_readNumber_20 : decode cX11_readNumber 20 = .ok (.invokestatic 237, 3) := by decide +kernel
theorem dX11_readNumber_23 : decode cX11_readNumber 23 = .ok (.ifCond .ne 9, 3) := by decide +kernel
theorem dX11_readNumber_26 : decode cX11_readNumber 26 = .ok (.aload_n 0, 1) := by decide +kernel
theorem dX11_readNumber_27 : decode cX11_readNumber 27 = .ok (.iconst 2, 1) := by decide +kernel
theorem dX11_readNumber_28 : decode cX11_readNumber 28 = .ok (.invokevirtual 301, 3) := by decide +kernel
theorem dX11_readNumber_31 : decode cX11_readNumber 31 = .ok (.ireturn, 1) := by decide +kernel
theorem dX11_readNumber_32 : decode cX11_readNumber 32 = .ok (.aload_n 0, 1) := by decide +kernel
theorem dX11_readNumber_33 : decode cX11_readNumber 33 = .ok (.getfield 92, 3) := by decide +kernel
theorem dX11_readNumber_36 : decode cX11_readNumber 36 = .ok (.sipush 160, 3) := by decide +kernel
theorem dX11_readNumber_39 : decode cX11_readNumber 39 = .ok (.aload_n 0, 1) := by decide +kernel
theorem dX11_readNumber_40 : decode cX11_readNumber 40 = .ok (.getfield 86, 3) := by decide +kernel
theorem dX11_readNumber_43 : decode cX11_readNumber 43 = .ok (.bipush 8, 2) := by decide +kernel
theorem dX11_readNumber_45 : decode cX11_readNumber 45 = .ok (.iaload, 1) := by decide +kernel
theorem dX11_readNumber_46 : decode cX11_readNumber 46 = .ok (.iadd, 1) := by decide +kernel
theorem dX11_readNumber_47 : decode cX11_readNumber 47 = .ok (.aload_n 0, 1) := by decide +kernel
theorem dX11_readNumber_48 : decode cX11_readNumber 48 = .ok (.getfield 285, 3) := by decide +kernel
theorem dX11_readNumber_51 : decode cX11_readNumber 51 = .ok (.iastore, 1) := by decide +kernel
theorem dX11_readNumber_52 : decode cX11_readNumber 52 = .ok (.aload_n 0, 1) := by decide +kernel
theorem dX11_readNumber_53 : decode cX11_readNumber 53 = .ok (.invokevirtual 304, 3) := by decide +kernel
theorem dX11_readNumber_56 : decode cX11_readNumber 56 = .ok (.iconst 1, 1) := by decide +kernel
theorem dX11_readNumber_57 : decode cX11_readNumber 57 = .ok (.ireturn, 1) := by decide +kernel
theorem dX11_line_0 : decode cX11_line 0 = .ok (.aload_n 0, 1) := by decide +kernel
theorem dX11_line_1 : decode cX11_line 1 = .ok (.ldc2_w 319, 3) := by decide +kernel
theorem dX11_line_4 : decode cX11_line 4 = .ok (.invokevirtual 309, 3) := by decide +kernel
theorem dX11_line_7 : decode cX11_line 7 = .ok (.ifCond .eq 7, 3) := by decide +kernel
theorem dX11_line_10 : decode cX11_line 10 = .ok (.iconst 0, 1) := by decide +kernel
theorem dX11_line_11 : decode cX11_line 11 = .ok (.goto 74, 3) := by decide +kernel
theorem dX11_line_14 : decode cX11_line 14 = .ok (.aload_n 0, 1) := by decide +kernel
theorem dX11_line_15 : decode cX11_line 15 = .ok (.ldc2_w 374, 3) := by decide +kernel
theorem dX11_line_18 : decode cX11_line 18 = .ok (.invokevirtual 309, 3) := by decide +kernel
theorem dX11_line_21 : decode cX11_line 21 = .ok (.ifCond .eq 7, 3) := by decide +kernel
theorem dX11_line_24 : decode cX11_line 24 = .ok (.iconst 1, 1) := by decide +kernel
theorem dX11_line_25 : decode cX11_line 25 = .ok (.goto 60, 3) := by decide +kernel
theorem dX11_line_28 : decode cX11_line 28 = .ok (.aload_n 0, 1) := by decide +kernel
theorem dX11_line_29 : decode cX11_line 29 = .ok (.ldc2_w 376, 3) := by decide +kernel
theorem dX11_line_32 : decode cX11_line 32 = .ok (.invokevirtual 309, 3) := by decide +kernel
theorem dX11_line_35 : decode cX11_line 35 = .ok (.ifCond .eq 7, 3) := by decide +kernel
theorem dX11_line_38 : decode cX11_line 38 = .ok (.iconst 2, 1) := by decide +kernel
theorem dX11_line_39 : decode cX11_line 39 = .ok (.goto 46, 3) := by decide +kernel
theorem dX11_line_42 : decode cX11_line 42 = .ok (.aload_n 0, 1) := by decide +kernel
theorem dX11_line_43 : decode cX11_line 43 = .ok (.ldc2_w 378, 3) := by decide +kernel
theorem dX11_line_46 : decode cX11_line 46 = .ok (.invokevirtual 309, 3) := by decide +kernel
theorem dX11_line_49 : decode cX11_line 49 = .ok (.ifCond .eq 7, 3) := by decide +kernel
theorem dX11_line_52 : decode cX11_line 52 = .ok (.iconst 3, 1) := by decide +kernel
theorem dX11_line_53 : decode cX11_line 53 = .ok (.goto 32, 3) := by decide +kernel
theorem dX11_line_56 : decode cX11_line 56 = .ok (.aload_n 0, 1) := by decide +kernel
theorem dX11_line_57 : decode cX11_line 57 = .ok (.ldc2_w 380, 3) := by decide +kernel
theorem dX11_line_60 : decode cX11_line 60 = .ok (.invokevirtual 309, 3) := by decide +kernel
theorem dX11_line_63 : decode cX11_line 63 = .ok (.ifCond .eq 7, 3) := by decide +kernel
theorem dX11_line_66 : decode cX11_line 66 = .ok (.iconst 4, 1) := by decide +kernel
theorem dX11_line_67 : decode cX11_line 67 = .ok (.goto 18, 3) := by decide +kernel
theorem dX11_line_70 : decode cX11_line 70 = .ok (.aload_n 0, 1) := by decide +kernel
theorem dX11_line_71 : decode cX11_line 71 = .ok (.ldc2_w 382, 3) := by decide +kernel
theorem dX11_line_74 : decode cX11_line 74 = .ok (.invokevirtual 309, 3) := by decide +kernel
theorem dX11_line_77 : decode cX11_line 77 = .ok (.ifCond .eq 7, 3) := by decide +kernel
theorem dX11_line_80 : decode cX11_line 80 = .ok (.iconst 5, 1) := by decide +kernel
theorem dX11_line_81 : decode cX11_line 81 = .ok (.goto 4, 3) := by decide +kernel
theorem dX11_line_84 : decode cX11_line 84 = .ok (.iconst (-1), 1) := by decide +kernel
theorem dX11_line_85 : decode cX11_line 85 = .ok (.istore_n 1, 1) := by decide +kernel
theorem dX11_line_86 : decode cX11_line 86 = .ok (.iload_n 1, 1) := by decide +kernel
theorem dX11_line_87 : decode cX11_line 87 = .ok (.ifCond .ge 9, 3) := by decide +kernel
theorem dX11_line_90 : decode cX11_line 90 = .ok (.aload_n 0, 1) := by decide +kernel
theorem dX11_line_91 : decode cX11_line 91 = .ok (.iconst 1, 1) := by decide +kernel
theorem dX11_line_92 : decode cX11_line 92 = .ok (.invokevirtual 301, 3) := by decide +kernel
theorem dX11_line_95 : decode cX11_line 95 = .ok (.ireturn, 1) := by decide +kernel
theorem dX11_line_96 : decode cX11_line 96 = .ok (.aload_n 0, 1) := by decide +kernel
theorem dX11_line_97 : decode cX11_line 97 = .ok (.getfield 86, 3) := by decide +kernel
theorem dX11_line_100 : decode cX11_line 100 = .ok (.bipush 8, 2) := by decide +kernel
theorem dX11_line_102 : decode cX11_line 102 = .ok (.iaload, 1) := by decide +kernel
theorem dX11_line_103 : decode cX11_line 103 = .ok (.bipush 20, 2) := by decide +kernel
theorem dX11_line_105 : decode cX11_line 105 = .ok (.if_icmp .eq 24, 3) := by decide +kernel
theorem dX11_line_108 : decode cX11_line 108 = .ok (.iload_n 1, 1) := by decide +kernel
theorem dX11_line_109 : decode cX11_line 109 = .ok (.ifCond .eq 8, 3) := by decide +kernel
theorem dX11_line_112 : decode cX11_line 112 = .ok (.iload_n 1, 1) := by decide +kernel
theorem dX11_line_113 : decode cX11_line 113 = .ok (.iconst 5, 1) := by decide +kernel
theorem dX11_line_114 : decode cX11_line 114 = .ok (.if_icmp .ne 21, 3) := by decide +kernel
theorem dX11_line_117 : decode cX11_line 117 = .ok (.aload_n 0, 1) := by decide +kernel
theorem dX11_line_118 : decode cX11_line 118 = .ok (.getfield 384, 3) := by decide +kernel
theorem dX11_line_121 : decode cX11_line 121 = .ok (.iload_n 1, 1) := by decide +kernel
theorem dX11_line_122 : decode cX11_line 122 = .ok (.ishr, 1) := by decide +kernel
theorem dX11_line_123 : decode cX11_line 123 = .ok (.iconst 1, 1) := by decide +kernel
theorem dX11_line_124 : decode cX11_line 124 = .ok (.iand, 1) := by decide +kernel
theorem dX11_line_125 : decode cX11_line 125 = .ok (.iconst 1, 1) := by decide +kernel
theorem dX11_line_126 : decode cX11_line 126 = .ok (.if_icmp .ne 9, 3) := by decide +kernel
theorem dX11_line_129 : decode cX11_line 129 = .ok (.aload_n 0, 1) := by decide +kernel
theorem dX11_line_130 : decode cX11_line 130 = .ok (.iconst 3, 1) := by decide +kernel
theorem dX11_line_131 : decode cX11_line 131 = .ok (.invokevirtual 301, 3) := by decide +kernel
theorem dX11_line_134 : decode cX11_line 134 = .ok (.ireturn, 1) := by decide +kernel
theorem dX11_line_135 : decode cX11_line 135 = .ok (.sipush 160, 3) := by decide +kernel
theorem dX11_line_138 : decode cX11_line 138 = .ok (.aload_n 0, 1) := by decide +kernel
theorem dX11_line_139 : decode cX11_line 139 = .ok (.getfield 86, 3) := by decide +kernel
theorem dX11_line_142 : decode cX11_line 142 = .ok (.bipush 8, 2) := by decide +kernel
theorem dX11_line_144 : decode cX11_line 144 = .ok (.iaload, 1) := by decide +kernel
theorem dX11_line_145 : decode cX11_line 145 = .ok (.iadd, 1) := by decide +kernel
theorem dX11_line_146 : decode cX11_line 146 = .ok (.istore_n 2, 1) := by decide +kernel
theorem dX11_line_147 : decode cX11_line 147 = .ok (.aload_n 0, 1) := by decide +kernel
theorem dX11_line_148 : decode cX11_line 148 = .ok (.getfield 89, 3) := by decide +kernel
theorem dX11_line_151 : decode cX11_line 151 = .ok (.iload_n 2, 1) := by decide +kernel
theorem dX11_line_152 : decode cX11_line 152 = .ok (.iload_n 1, 1) := by decide +kernel
theorem dX11_line_153 : decode cX11_line 153 = .ok (.iastore, 1) := by decide +kernel
theorem dX11_line_154 : decode cX11_line 154 = .ok (.aload_n 0, 1) := by decide +kernel
theorem dX11_line_155 : decode cX11_line 155 = .ok (.getfield 92, 3) := by decide +kernel
theorem dX11_line_158 : decode cX11_line 158 = .ok (.iload_n 2, 1) := by decide +kernel
theorem dX11_line_159 : decode cX11_line 159 = .ok (.iconst 0, 1) := by decide +kernel
theorem dX11_line_160 : decode cX11_line 160 = .ok (.iastore, 1) := by decide +kernel
theorem dX11_line_161 : decode cX11_line 161 = .ok (.aload_n 0, 1) := by decide +kernel
theorem dX11_line_162 : decode cX11_line 162 = .ok (.getfield 101, 3) := by decide +kernel
theorem dX11_line_165 : decode cX11_line 165 = .ok (.iload_n 2, 1) := by decide +kernel
theorem dX11_line_166 : decode cX11_line 166 = .ok (.iconst 0, 1) := by decide +kernel
theorem dX11_line_167 : decode cX11_line 167 = .ok (.bastore, 1) := by decide +kernel
theorem dX11_line_168 : decode cX11_line 168 = .ok (.aload_n 0, 1) := by decide +kernel
theorem dX11_line_169 : decode cX11_line 169 = .ok (.getfield 95, 3) := by decide +kernel
theorem dX11_line_172 : decode cX11_line 172 = .ok (.iload_n 2, 1) := by decide +kernel
theorem dX11_line_173 : decode cX11_line 173 = .ok (.aload_n 0, 1) := by decide +kernel
theorem dX11_line_174 : decode cX11_line 174 = .ok (.getfield 335, 3) := by decide +kernel
theorem dX11_line_177 : decode cX11_line 177 = .ok (.iastore, 1) := by decide +kernel
theorem dX11_line_178 : decode cX11_line 178 = .ok (.aload_n 0, 1) := by decide +kernel
theorem dX11_line_179 : decode cX11_line 179 = .ok (.getfield 98, 3) := by decide +kernel
theorem dX11_line_182 : decode cX11_line 182 = .ok (.iload_n 2, 1) := by decide +kernel
theorem dX11_line_183 : decode cX11_line 183 = .ok (.aload_n 0, 1) := by decide +kernel
theorem dX11_line_184 : decode cX11_line 184 = .ok (.getfield 335, 3) := by decide +kernel
theorem dX11_line_187 : decode cX11_line 187 = .ok (.iastore, 1) := by decide +kernel
theorem dX11_line_188 : decode cX11_line 188 = .ok (.aload_n 0, 1) := by decide +kernel
theorem dX11_line_189 : decode cX11_line 189 = .ok (.aload_n 0, 1) := by decide +kernel
theorem dX11_line_190 : decode cX11_line 190 = .ok (.getfield 384, 3) := by decide +kernel
theorem dX11_line_193 : decode cX11_line 193 = .ok (.iconst 1, 1) := by decide +kernel
theorem dX11_line_194 : decode cX11_line 194 = .ok (.iload_n 1, 1) := by decide +kernel
theorem dX11_line_195 : decode cX11_line 195 = .ok (.ishl, 1) := by decide +kernel
theorem dX11_line_196 : decode cX11_line 196 = .ok (.ior, 1) := by decide +kernel
theorem dX11_line_197 : decode cX11_line 197 = .ok (.putfield 384, 3) := by decide +kernel
theorem dX11_line_200 : decode cX11_line 200 = .ok (.aload_n 0, 1) := by decide +kernel
theorem dX11_line_201 : decode cX11_line 201 = .ok (.invokevirtual 304, 3) := by decide +kernel
theorem dX11_line_204 : decode cX11_line 204 = .ok (.iload_n 1, 1) := by decide +kernel
theorem dX11_line_205 : decode cX11_line 205 = .ok (.iconst 5, 1) := by decide +kernel
theorem dX11_line_206 : decode cX11_line 206 = .ok (.if_icmp .ne 31, 3) := by decide +kernel
theorem dX11_line_209 : decode cX11_line 209 = .ok (.aload_n 0, 1) := by decide +kernel
theorem dX11_line_210 : decode cX11_line 210 = .ok (.iconst 0, 1) := by decide +kernel
theorem dX11_line_211 : decode cX11_line 211 = .ok (.sipush 999, 3) := by decide +kernel
theorem dX11_line_214 : decode cX11_line 214 = .ok (.invokevirtual 387, 3) := by decide +kernel
theorem dX11_line_217 : decode cX11_line 217 = .ok (.ifCond .ne 5, 3) := by decide +kernel
theorem dX11_line_220 : decode cX11_line 220 = .ok (.iconst 0, 1) := by decide +kernel
theorem dX11_line_221 : decode cX11_line 221 = .ok (.ireturn, 1) := by decide +kernel
theorem dX11_line_222 : decode cX11_line 222 = .ok (.aload_n 0, 1) := by decide +kernel
theorem dX11_line_223 : decode cX11_line 223 = .ok (.getfield 83, 3) := by decide +kernel
theorem dX11_line_226 : decode cX11_line 226 = .ok (.bipush 8, 2) := by decide +kernel
theorem dX11_line_228 : decode cX11_line 228 = .ok (.aload_n 0, 1) := by decide +kernel
theorem dX11_line_229 : decode cX11_line 229 = .ok (.getfield 92, 3) := by decide +kernel
theorem dX11_line_232 : decode cX11_line 232 = .ok (.iload_n 2, 1) := by decide +kernel
theorem dX11_line_233 : decode cX11_line 233 = .ok (.iaload, 1) := by decide +kernel
theorem dX11_line_234 : decode cX11_line 234 = .ok (.iastore, 1) := by decide +kernel
theorem dX11_line_235 : decode cX11_line 235 = .ok (.iconst 1, 1) := by decide +kernel
theorem dX11_line_236 : decode cX11_line 236 = .ok (.ireturn, 1) := by decide +kernel
theorem dX11_line_237 : decode cX11_line 237 = .ok (.iload_n 1, 1) := by decide +kernel
theorem dX11_line_238 : decode cX11_line 238 = .ok (.ifCond .ne 9, 3) := by decide +kernel
theorem dX11_line_241 : decode cX11_line 241 = .ok (.aload_n 0, 1) := by decide +kernel
theorem dX11_line_242 : decode cX11_line 242 = .ok (.iload_n 2, 1) := by decide +kernel
theorem dX11_line_243 : decode cX11_line 243 = .ok (.invokevirtual 391, 3) := by decide +kernel
theorem dX11_line_246 : decode cX11_line 246 = .ok (.ireturn, 1) := by decide +kernel
theorem dX11_line_247 : decode cX11_line 247 = .ok (.iload_n 1, 1) := by decide +kernel
theorem dX11_line_248 : decode cX11_line 248 = .ok (.iconst 2, 1) := by decide +kernel
theorem dX11_line_249 : decode cX11_line 249 = .ok (.if_icmp .ne 14, 3) := by decide +kernel
theorem dX11_line_252 : decode cX11_line 252 = .ok (.aload_n 0, 1) := by decide +kernel
theorem dX11_line_253 : decode cX11_line 253 = .ok (.iconst 1, 1) := by decide +kernel
theorem dX11_line_254 : decode cX11_line 254 = .ok (.sipush 3000, 3) := by decide +kernel
theorem dX11_line_257 : decode cX11_line 257 = .ok (.invokevirtual 387, 3) := by decide +kernel
theorem dX11_line_260 : decode cX11_line 260 = .ok (.ifCond .eq 18, 3) := by decide +kernel
theorem dX11_line_263 : decode cX11_line 263 = .ok (.iload_n 1, 1) := by decide +kernel
theorem dX11_line_264 : decode cX11_line 264 = .ok (.iconst 3, 1) := by decide +kernel
theorem dX11_line_265 : decode cX11_line 265 = .ok (.if_icmp .ne 15, 3) := by decide +kernel
theorem dX11_line_268 : decode cX11_line 268 = .ok (.aload_n 0, 1) := by decide +kernel
theorem dX11_line_269 : decode cX11_line 269 = .ok (.iconst 0, 1) := by decide +kernel
theorem dX11_line_270 : decode cX11_line 270 = .ok (.bipush 8, 2) := by decide +kernel
theorem dX11_line_272 : decode cX11_line 272 = .ok (.invokevirtual 387, 3) := by decide +kernel
theorem dX11_line_275 : decode cX11_line 275 = .ok (.ifCond .ne 5, 3) := by decide +kernel
theorem dX11_line_278 : decode cX11_line 278 = .ok (.iconst 0, 1) := by decide +kernel
theorem dX11_line_279 : decode cX11_line 279 = .ok (.ireturn, 1) := by decide +kernel
theorem dX11_line_280 : decode cX11_line 280 = .ok (.iload_n 1, 1) := by decide +kernel
theorem dX11_line_281 : decode cX11_line 281 = .ok (.iconst 4, 1) := by decide +kernel
theorem dX11_line_282 : decode cX11_line 282 = .ok (.if_icmp .ne 24, 3) := by decide +kernel
theorem dX11_line_285 : decode cX11_line 285 = .ok (.aload_n 0, 1) := by decide +kernel
theorem dX11_line_286 : decode cX11_line 286 = .ok (.ldc2_w 363, 3) := by decide +kernel
theorem dX11_line_289 : decode cX11_line 289 = .ok (.invokevirtual 309, 3) := by decide +kernel
theorem dX11_line_292 : decode cX11_line 292 = .ok (.ifCond .eq 14, 3) := by decide +kernel
theorem dX11_line_295 : decode cX11_line 295 = .ok (.aload_n 0, 1) := by decide +kernel
theorem dX11_line_296 : decode cX11_line 296 = .ok (.getfield 101, 3) := by decide +kernel
theorem dX11_line_299 : decode cX11_line 299 = .ok (.iload_n 2, 1) := by decide +kernel
theorem dX11_line_300 : decode cX11_line 300 = .ok (.iconst 1, 1) := by decide +kernel
theorem dX11_line_301 : decode cX11_line 301 = .ok (.bastore, 1) := by decide +kernel
theorem dX11_line_302 : decode cX11_line 302 = .ok (.aload_n 0, 1) := by decide +kernel
theorem dX11_line_303 : decode cX11_line 303 = .ok (.invokevirtual 304, 3) := by decide +kernel
theorem dX11_line_306 : decode cX11_line 306 = .ok (.aload_n 0, 1) := by decide +kernel
theorem dX11_line_307 : decode cX11_line 307 = .ok (.ldc2_w 394, 3) := by decide +kernel
theorem dX11_line_310 : decode cX11_line 310 = .ok (.invokevirtual 309, 3) := by decide +kernel
theorem dX11_line_313 : decode cX11_line 313 = .ok (.ifCond .eq 16, 3) := by decide +kernel
theorem dX11_line_316 : decode cX11_line 316 = .ok (.aload_n 0, 1) := by decide +kernel
theorem dX11_line_317 : decode cX11_line 317 = .ok (.invokevirtual 304, 3) := by decide +kernel
theorem dX11_line_320 : decode cX11_line 320 = .ok (.aload_n 0, 1) := by decide +kernel
theorem dX11_line_321 : decode cX11_line 321 = .ok (.invokevirtual 396, 3) := by decide +kernel
theorem dX11_line_324 : decode cX11_line 324 = .ok (.ifCond .ne 5, 3) := by decide +kernel
theorem dX11_line_327 : decode cX11_line 327 = .ok (.iconst 0, 1) := by decide +kernel
theorem dX11_line_328 : decode cX11_line 328 = .ok (.ireturn, 1) := by decide +kernel
theorem dX11_line_329 : decode cX11_line 329 = .ok (.aload_n 0, 1) := by decide +kernel
theorem dX11_line_330 : decode cX11_line 330 = .ok (.getfield 98, 3) := by decide +kernel
theorem dX11_line_333 : decode cX11_line 333 = .ok (.iload_n 2, 1) := by decide +kernel
theorem dX11_line_334 : decode cX11_line 334 = .ok (.aload_n 0, 1) := by decide +kernel
theorem dX11_line_335 : decode cX11_line 335 = .ok (.getfield 335, 3) := by decide +kernel
theorem dX11_line_338 : decode cX11_line 338 = .ok (.iastore, 1) := by decide +kernel
theorem dX11_line_339 : decode cX11_line 339 = .ok (.iconst 1, 1) := by decide +kernel
theorem dX11_line_340 : decode cX11_line 340 = .ok (.ireturn, 1) := by decide +kernel
theorem dX11_ages_0 : decode cX11_ages 0 = .ok (.aload_n 0, 1) := by decide +kernel
theorem dX11_ages_1 : decode cX11_ages 1 = .ok (.iconst 0, 1) := by decide +kernel
theorem dX11_ages_2 : decode cX11_ages 2 = .ok (.bipush 99, 2) := by decide +kernel
theorem dX11_ages_4 : decode cX11_ages 4 = .ok (.invokevirtual 387, 3) := by decide +kernel
theorem dX11_ages_7 : decode cX11_ages 7 = .ok (.ifCond .ne 5, 3) := by decide +kernel
theorem dX11_ages_10 : decode cX11_ages 10 = .ok (.iconst 0, 1) := by decide +kernel
theorem dX11_ages_11 : decode cX11_ages 11 = .ok (.ireturn, 1) := by decide +kernel
theorem dX11_ages_12 : decode cX11_ages 12 = .ok (.aload_n 0, 1) := by decide +kernel
theorem dX11_ages_13 : decode cX11_ages 13 = .ok (.getfield 77, 3) := by decide +kernel
theorem dX11_ages_16 : decode cX11_ages 16 = .ok (.bipush 8, 2) := by decide +kernel
theorem dX11_ages_18 : decode cX11_ages 18 = .ok (.aload_n 0, 1) := by decide +kernel
theorem dX11_ages_19 : decode cX11_ages 19 = .ok (.getfield 92, 3) := by decide +kernel
theorem dX11_ages_22 : decode cX11_ages 22 = .ok (.iload_n 1, 1) := by decide +kernel
theorem dX11_ages_23 : decode cX11_ages 23 = .ok (.iaload, 1) := by decide +kernel
theorem dX11_ages_24 : decode cX11_ages 24 = .ok (.iastore, 1) := by decide +kernel
theorem dX11_ages_25 : decode cX11_ages 25 = .ok (.aload_n 0, 1) := by decide +kernel
theorem dX11_ages_26 : decode cX11_ages 26 = .ok (.ldc2_w 399, 3) := by decide +kernel
theorem dX11_ages_29 : decode cX11_ages 29 = .ok (.invokevirtual 309, 3) := by decide +kernel
theorem dX11_ages_32 : decode cX11_ages 32 = .ok (.ifCond .ne 9, 3) := by decide +kernel
theorem dX11_ages_35 : decode cX11_ages 35 = .ok (.aload_n 0, 1) := by decide +kernel
theorem dX11_ages_36 : decode cX11_ages 36 = .ok (.iconst 1, 1) := by decide +kernel
theorem dX11_ages_37 : decode cX11_ages 37 = .ok (.invokevirtual 301, 3) := by decide +kernel
theorem dX11_ages_40 : decode cX11_ages 40 = .ok (.ireturn, 1) := by decide +kernel
theorem dX11_ages_41 : decode cX11_ages 41 = .ok (.aload_n 0, 1) := by decide +kernel
theorem dX11_ages_42 : decode cX11_ages 42 = .ok (.invokevirtual 304, 3) := by decide +kernel
theorem dX11_ages_45 : decode cX11_ages 45 = .ok (.aload_n 0, 1) := by decide +kernel
theorem dX11_ages_46 : decode cX11_ages 46 = .ok (.aload_n 0, 1) := by decide +kernel
theorem dX11_ages_47 : decode cX11_ages 47 = .ok (.getfield 77, 3) := by decide +kernel
theorem dX11_ages_50 : decode cX11_ages 50 = .ok (.bipush 8, 2) := by decide +kernel
theorem dX11_ages_52 : decode cX11_ages 52 = .ok (.iaload, 1) := by decide +kernel
theorem dX11_ages_53 : decode cX11_ages 53 = .ok (.bipush 99, 2) := by decide +kernel
theorem dX11_ages_55 : decode cX11_ages 55 = .ok (.invokevirtual 387, 3) := by decide +kernel
theorem dX11_ages_58 : decode cX11_ages 58 = .ok (.ifCond .ne 5, 3) := by decide +kernel
theorem dX11_ages_61 : decode cX11_ages 61 = .ok (.iconst 0, 1) := by decide +kernel
theorem dX11_ages_62 : decode cX11_ages 62 = .ok (.ireturn, 1) := by decide +kernel
theorem dX11_ages_63 : decode cX11_ages 63 = .ok (.aload_n 0, 1) := by decide +kernel
theorem dX11_ages_64 : decode cX11_ages 64 = .ok (.getfield 80, 3) := by decide +kernel
theorem dX11_ages_67 : decode cX11_ages 67 = .ok (.bipush 8, 2) := by decide +kernel
theorem dX11_ages_69 : decode cX11_ages 69 = .ok (.aload_n 0, 1) := by decide +kernel
theorem dX11_ages_70 : decode cX11_ages 70 = .ok (.getfield 92, 3) := by decide +kernel
theorem dX11_ages_73 : decode cX11_ages 73 = .ok (.iload_n 1, 1) := by decide +kernel
theorem dX11_ages_74 : decode cX11_ages 74 = .ok (.iaload, 1) := by decide +kernel
theorem dX11_ages_75 : decode cX11_ages 75 = .ok (.iastore, 1) := by decide +kernel
theorem dX11_ages_76 : decode cX11_ages 76 = .ok (.iconst 1, 1) := by decide +kernel
theorem dX11_ages_77 : decode cX11_ages 77 = .ok (.ireturn, 1) := by decide +kernel
theorem dX11_law_0 : decode cX11_law 0 = .ok (.aload_n 0, 1) := by decide +kernel
theorem dX11_law_1 : decode cX11_law 1 = .ok (.iconst 0, 1) := by decide +kernel
theorem dX11_law_2 : decode cX11_law 2 = .ok (.putfield 221, 3) := by decide +kernel
theorem dX11_law_5 : decode cX11_law 5 = .ok (.aload_n 0, 1) := by decide +kernel
theorem dX11_law_6 : decode cX11_law 6 = .ok (.invokevirtual 247, 3) := by decide +kernel
theorem dX11_law_9 : decode cX11_law 9 = .ok (.aload_n 0, 1) := by decide +kernel
theorem dX11_law_10 : decode cX11_law 10 = .ok (.getfield 401, 3) := by decide +kernel
theorem dX11_law_13 : decode cX11_law 13 = .ok (.bipush 8, 2) := by decide +kernel
theorem dX11_law_15 : decode cX11_law 15 = .ok (.if_icmp .eq 17, 3) := by decide +kernel
theorem dX11_law_18 : decode cX11_law 18 = .ok (.iload_n 1, 1) := by decide +kernel
theorem dX11_law_19 : decode cX11_law 19 = .ok (.aload_n 0, 1) := by decide +kernel
theorem dX11_law_20 : decode cX11_law 20 = .ok (.getfield 241, 3) := by decide +kernel
theorem dX11_law_23 : decode cX11_law 23 = .ok (.sipush 3639, 3) := by decide +kernel
theorem dX11_law_26 : decode cX11_law 26 = .ok (.invokestatic 237, 3) := by decide +kernel
theorem dX11_law_29 : decode cX11_law 29 = .ok (.ifCond .ne 7, 3) := by decide +kernel
theorem dX11_law_32 : decode cX11_law 32 = .ok (.sipush (-1000), 3) := by decide +kernel
theorem dX11_law_35 : decode cX11_law 35 = .ok (.ireturn, 1) := by decide +kernel
theorem dX11_law_36 : decode cX11_law 36 = .ok (.aload_n 0, 1) := by decide +kernel
theorem dX11_law_37 : decode cX11_law 37 = .ok (.iconst 0, 1) := by decide +kernel
theorem dX11_law_38 : decode cX11_law 38 = .ok (.putfield 292, 3) := by decide +kernel
theorem dX11_law_41 : decode cX11_law 41 = .ok (.aload_n 0, 1) := by decide +kernel
theorem dX11_law_42 : decode cX11_law 42 = .ok (.iconst 0, 1) := by decide +kernel
theorem dX11_law_43 : decode cX11_law 43 = .ok (.putfield 384, 3) := by decide +kernel
theorem dX11_law_46 : decode cX11_law 46 = .ok (.aload_n 0, 1) := by decide +kernel
theorem dX11_law_47 : decode cX11_law 47 = .ok (.iconst 0, 1) := by decide +kernel
theorem dX11_law_48 : decode cX11_law 48 = .ok (.putfield 335, 3) := by decide +kernel
theorem dX11_law_51 : decode cX11_law 51 = .ok (.aload_n 0, 1) := by decide +kernel
theorem dX11_law_52 : decode cX11_law 52 = .ok (.iconst 0, 1) := by decide +kernel
theorem dX11_law_53 : decode cX11_law 53 = .ok (.putfield 368, 3) := by decide +kernel
theorem dX11_law_56 : decode cX11_law 56 = .ok (.aload_n 0, 1) := by decide +kernel
theorem dX11_law_57 : decode cX11_law 57 = .ok (.getfield 86, 3) := by decide +kernel
theorem dX11_law_60 : decode cX11_law 60 = .ok (.bipush 8, 2) := by decide +kernel
theorem dX11_law_62 : decode cX11_law 62 = .ok (.iconst 0, 1) := by decide +kernel
theorem dX11_law_63 : decode cX11_law 63 = .ok (.iastore, 1) := by decide +kernel
theorem dX11_law_64 : decode cX11_law 64 = .ok (.aload_n 0, 1) := by decide +kernel
theorem dX11_law_65 : decode cX11_law 65 = .ok (.getfield 77, 3) := by decide +kernel
theorem dX11_law_68 : decode cX11_law 68 = .ok (.bipush 8, 2) := by decide +kernel
theorem dX11_law_70 : decode cX11_law 70 = .ok (.bipush 20, 2) := by decide +kernel
theorem dX11_law_72 : decode cX11_law 72 = .ok (.iastore, 1) := by decide +kernel
theorem dX11_law_73 : decode cX11_law 73 = .ok (.aload_n 0, 1) := by decide +kernel
theorem dX11_law_74 : decode cX11_law 74 = .ok (.getfield 80, 3) := by decide +kernel
theorem dX11_law_77 : decode cX11_law 77 = .ok (.bipush 8, 2) := by decide +kernel
theorem dX11_law_79 : decode cX11_law 79 = .ok (.bipush 25, 2) := by decide +kernel
theorem dX11_law_81 : decode cX11_law 81 = .ok (.iastore, 1) := by decide +kernel
theorem dX11_law_82 : decode cX11_law 82 = .ok (.aload_n 0, 1) := by decide +kernel
theorem dX11_law_83 : decode cX11_law 83 = .ok (.getfield 83, 3) := by decide +kernel
theorem dX11_law_86 : decode cX11_law 86 = .ok (.bipush 8, 2) := by decide +kernel
theorem dX11_law_88 : decode cX11_law 88 = .ok (.bipush 30, 2) := by decide +kernel
theorem dX11_law_90 : decode cX11_law 90 = .ok (.iastore, 1) := by decide +kernel
theorem dX11_law_91 : decode cX11_law 91 = .ok (.aload_n 0, 1) := by decide +kernel
theorem dX11_law_92 : decode cX11_law 92 = .ok (.invokevirtual 304, 3) := by decide +kernel
theorem dX11_law_95 : decode cX11_law 95 = .ok (.aload_n 0, 1) := by decide +kernel
theorem dX11_law_96 : decode cX11_law 96 = .ok (.getfield 279, 3) := by decide +kernel
theorem dX11_law_99 : decode cX11_law 99 = .ok (.ifCond .eq 40, 3) := by decide +kernel
theorem dX11_law_102 : decode cX11_law 102 = .ok (.aload_n 0, 1) := by decide +kernel
theorem dX11_law_103 : decode cX11_law 103 = .ok (.invokevirtual 404, 3) := by decide +kernel
theorem dX11_law_106 : decode cX11_law 106 = .ok (.ifCond .eq 12, 3) := by decide +kernel
theorem dX11_law_109 : decode cX11_law 109 = .ok (.aload_n 0, 1) := by decide +kernel
theorem dX11_law_110 : decode cX11_law 110 = .ok (.bipush 59, 2) := by decide +kernel
theorem dX11_law_112 : decode cX11_law 112 = .ok (.invokevirtual 407, 3) := by decide +kernel
theorem dX11_law_115 : decode cX11_law 115 = .ok (.ifCond .ne 10, 3) := by decide +kernel
theorem dX11_law_118 : decode cX11_law 118 = .ok (.iconst (-1), 1) := by decide +kernel
theorem dX11_law_119 : decode cX11_law 119 = .ok (.aload_n 0, 1) := by decide +kernel
theorem dX11_law_120 : decode cX11_law 120 = .ok (.getfield 295, 3) := by decide +kernel
theorem dX11_law_123 : decode cX11_law 123 = .ok (.isub, 1) := by decide +kernel
theorem dX11_law_124 : decode cX11_law 124 = .ok (.ireturn, 1) := by decide +kernel
theorem dX11_law_125 : decode cX11_law 125 = .ok (.aload_n 0, 1) := by decide +kernel
theorem dX11_law_126 : decode cX11_law 126 = .ok (.getfield 86, 3) := by decide +kernel
theorem dX11_law_129 : decode cX11_law 129 = .ok (.bipush 8, 2) := by decide +kernel
theorem dX11_law_131 : decode cX11_law 131 = .ok (.dup2, 1) := by decide +kernel
theorem dX11_law_132 : decode cX11_law 132 = .ok (.iaload, 1) := by decide +kernel
theorem dX11_law_133 : decode cX11_law 133 = .ok (.iconst 1, 1) := by decide +kernel
theorem dX11_law_134 : decode cX11_law 134 = .ok (.iadd, 1) := by decide +kernel
theorem dX11_law_135 : decode cX11_law 135 = .ok (.iastore, 1) := by decide +kernel
theorem dX11_law_136 : decode cX11_law 136 = .ok (.goto (-41), 3) := by decide +kernel
theorem dX11_law_139 : decode cX11_law 139 = .ok (.aload_n 0, 1) := by decide +kernel
theorem dX11_law_140 : decode cX11_law 140 = .ok (.iload_n 1, 1) := by decide +kernel
theorem dX11_law_141 : decode cX11_law 141 = .ok (.invokevirtual 410, 3) := by decide +kernel
theorem dX11_law_144 : decode cX11_law 144 = .ok (.aload_n 0, 1) := by decide +kernel
theorem dX11_law_145 : decode cX11_law 145 = .ok (.dup, 1) := by decide +kernel
theorem dX11_law_146 : decode cX11_law 146 = .ok (.getfield 401, 3) := by decide +kernel
theorem dX11_law_149 : decode cX11_law 149 = .ok (.iconst 1, 1) := by decide +kernel
theorem dX11_law_150 : decode cX11_law 150 = .ok (.iadd, 1) := by decide +kernel
theorem dX11_law_151 : decode cX11_law 151 = .ok (.putfield 401, 3) := by decide +kernel
theorem dX11_law_154 : decode cX11_law 154 = .ok (.aload_n 0, 1) := by decide +kernel
theorem dX11_law_155 : decode cX11_law 155 = .ok (.getfield 86, 3) := by decide +kernel
theorem dX11_law_158 : decode cX11_law 158 = .ok (.bipush 8, 2) := by decide +kernel
theorem dX11_law_160 : decode cX11_law 160 = .ok (.iaload, 1) := by decide +kernel
theorem dX11_law_161 : decode cX11_law 161 = .ok (.ireturn, 1) := by decide +kernel
theorem dX11_keep_0 : decode cX11_keep 0 = .ok (.aload_n 0, 1) := by decide +kernel
theorem dX11_keep_1 : decode cX11_keep 1 = .ok (.getfield 71, 3) := by decide +kernel
theorem dX11_keep_4 : decode cX11_keep 4 = .ok (.aload_n 0, 1) := by decide +kernel
theorem dX11_keep_5 : decode cX11_keep 5 = .ok (.getfield 401, 3) := by decide +kernel
theorem dX11_keep_8 : decode cX11_keep 8 = .ok (.iload_n 1, 1) := by decide +kernel
theorem dX11_keep_9 : decode cX11_keep 9 = .ok (.iastore, 1) := by decide +kernel
theorem dX11_keep_10 : decode cX11_keep 10 = .ok (.aload_n 0, 1) := by decide +kernel
theorem dX11_keep_11 : decode cX11_keep 11 = .ok (.getfield 74, 3) := by decide +kernel
theorem dX11_keep_14 : decode cX11_keep 14 = .ok (.aload_n 0, 1) := by decide +kernel
theorem dX11_keep_15 : decode cX11_keep 15 = .ok (.getfield 401, 3) := by decide +kernel
theorem dX11_keep_18 : decode cX11_keep 18 = .ok (.aload_n 0, 1) := by decide +kernel
theorem dX11_keep_19 : decode cX11_keep 19 = .ok (.getfield 241, 3) := by decide +kernel
theorem dX11_keep_22 : decode cX11_keep 22 = .ok (.iastore, 1) := by decide +kernel
theorem dX11_keep_23 : decode cX11_keep 23 = .ok (.aload_n 0, 1) := by decide +kernel
theorem dX11_keep_24 : decode cX11_keep 24 = .ok (.getfield 77, 3) := by decide +kernel
theorem dX11_keep_27 : decode cX11_keep 27 = .ok (.aload_n 0, 1) := by decide +kernel
theorem dX11_keep_28 : decode cX11_keep 28 = .ok (.getfield 401, 3) := by decide +kernel
theorem dX11_keep_31 : decode cX11_keep 31 = .ok (.aload_n 0, 1) := by decide +kernel
theorem dX11_keep_32 : decode cX11_keep 32 = .ok (.getfield 77, 3) := by decide +kernel
theorem dX11_keep_35 : decode cX11_keep 35 = .ok (.bipush 8, 2) := by decide +kernel
theorem dX11_keep_37 : decode cX11_keep 37 = .ok (.iaload, 1) := by decide +kernel
theorem dX11_keep_38 : decode cX11_keep 38 = .ok (.iastore, 1) := by decide +kernel
theorem dX11_keep_39 : decode cX11_keep 39 = .ok (.aload_n 0, 1) := by decide +kernel
theorem dX11_keep_40 : decode cX11_keep 40 = .ok (.getfield 80, 3) := by decide +kernel
theorem dX11_keep_43 : decode cX11_keep 43 = .ok (.aload_n 0, 1) := by decide +kernel
theorem dX11_keep_44 : decode cX11_keep 44 = .ok (.getfield 401, 3) := by decide +kernel
theorem dX11_keep_47 : decode cX11_keep 47 = .ok (.aload_n 0, 1) := by decide +kernel
theorem dX11_keep_48 : decode cX11_keep 48 = .ok (.getfield 80, 3) := by decide +kernel
theorem dX11_keep_51 : decode cX11_keep 51 = .ok (.bipush 8, 2) := by decide +kernel
theorem dX11_keep_53 : decode cX11_keep 53 = .ok (.iaload, 1) := by decide +kernel
theorem dX11_keep_54 : decode cX11_keep 54 = .ok (.iastore, 1) := by decide +kernel
theorem dX11_keep_55 : decode cX11_keep 55 = .ok (.aload_n 0, 1) := by decide +kernel
theorem dX11_keep_56 : decode cX11_keep 56 = .ok (.getfield 83, 3) := by decide +kernel
theorem dX11_keep_59 : decode cX11_keep 59 = .ok (.aload_n 0, 1) := by decide +kernel
theorem dX11_keep_60 : decode cX11_keep 60 = .ok (.getfield 401, 3) := by decide +kernel
theorem dX11_keep_63 : decode cX11_keep 63 = .ok (.aload_n 0, 1) := by decide +kernel
theorem dX11_keep_64 : decode cX11_keep 64 = .ok (.getfield 83, 3) := by decide +kernel
theorem dX11_keep_67 : decode cX11_keep 67 = .ok (.bipush 8, 2) := by decide +kernel
theorem dX11_keep_69 : decode cX11_keep 69 = .ok (.iaload, 1) := by decide +kernel
theorem dX11_keep_70 : decode cX11_keep 70 = .ok (.iastore, 1) := by decide +kernel
theorem dX11_keep_71 : decode cX11_keep 71 = .ok (.aload_n 0, 1) := by decide +kernel
theorem dX11_keep_72 : decode cX11_keep 72 = .ok (.getfield 86, 3) := by decide +kernel
theorem dX11_keep_75 : decode cX11_keep 75 = .ok (.aload_n 0, 1) := by decide +kernel
theorem dX11_keep_76 : decode cX11_keep 76 = .ok (.getfield 401, 3) := by decide +kernel
theorem dX11_keep_79 : decode cX11_keep 79 = .ok (.aload_n 0, 1) := by decide +kernel
theorem dX11_keep_80 : decode cX11_keep 80 = .ok (.getfield 86, 3) := by decide +kernel
theorem dX11_keep_83 : decode cX11_keep 83 = .ok (.bipush 8, 2) := by decide +kernel
theorem dX11_keep_85 : decode cX11_keep 85 = .ok (.iaload, 1) := by decide +kernel
theorem dX11_keep_86 : decode cX11_keep 86 = .ok (.iastore, 1) := by decide +kernel
theorem dX11_keep_87 : decode cX11_keep 87 = .ok (.iconst 0, 1) := by decide +kernel
theorem dX11_keep_88 : decode cX11_keep 88 = .ok (.istore_n 2, 1) := by decide +kernel
theorem dX11_keep_89 : decode cX11_keep 89 = .ok (.iload_n 2, 1) := by decide +kernel
theorem dX11_keep_90 : decode cX11_keep 90 = .ok (.bipush 20, 2) := by decide +kernel
theorem dX11_keep_92 : decode cX11_keep 92 = .ok (.if_icmp .ge 91, 3) := by decide +kernel
theorem dX11_keep_95 : decode cX11_keep 95 = .ok (.bipush 20, 2) := by decide +kernel
theorem dX11_keep_97 : decode cX11_keep 97 = .ok (.aload_n 0, 1) := by decide +kernel
theorem dX11_keep_98 : decode cX11_keep 98 = .ok (.getfield 401, 3) := by decide +kernel
theorem dX11_keep_101 : decode cX11_keep 101 = .ok (.imul, 1) := by decide +kernel
theorem dX11_keep_102 : decode cX11_keep 102 = .ok (.iload_n 2, 1) := by decide +kernel
theorem dX11_keep_103 : decode cX11_keep 103 = .ok (.iadd, 1) := by decide +kernel
theorem dX11_keep_104 : decode cX11_keep 104 = .ok (.istore_n 3, 1) := by decide +kernel
theorem dX11_keep_105 : decode cX11_keep 105 = .ok (.sipush 160, 3) := by decide +kernel
theorem dX11_keep_108 : decode cX11_keep 108 = .ok (.iload_n 2, 1) := by decide +kernel
theorem dX11_keep_109 : decode cX11_keep 109 = .ok (.iadd, 1) := by decide +kernel
theorem dX11_keep_110 : decode cX11_keep 110 = .ok (.istore 4, 2) := by decide +kernel
theorem dX11_keep_112 : decode cX11_keep 112 = .ok (.aload_n 0, 1) := by decide +kernel
theorem dX11_keep_113 : decode cX11_keep 113 = .ok (.getfield 89, 3) := by decide +kernel
theorem dX11_keep_116 : decode cX11_keep 116 = .ok (.iload_n 3, 1) := by decide +kernel
theorem dX11_keep_117 : decode cX11_keep 117 = .ok (.aload_n 0, 1) := by decide +kernel
theorem dX11_keep_118 : decode cX11_keep 118 = .ok (.getfield 89, 3) := by decide +kernel
theorem dX11_keep_121 : decode cX11_keep 121 = .ok (.iload 4, 2) := by decide +kernel
theorem dX11_keep_123 : decode cX11_keep 123 = .ok (.iaload, 1) := by decide +kernel
theorem dX11_keep_124 : decode cX11_keep 124 = .ok (.iastore, 1) := by decide +kernel
theorem dX11_keep_125 : decode cX11_keep 125 = .ok (.aload_n 0, 1) := by decide +kernel
theorem dX11_keep_126 : decode cX11_keep 126 = .ok (.getfield 92, 3) := by decide +kernel
theorem dX11_keep_129 : decode cX11_keep 129 = .ok (.iload_n 3, 1) := by decide +kernel
theorem dX11_keep_130 : decode cX11_keep 130 = .ok (.aload_n 0, 1) := by decide +kernel
theorem dX11_keep_131 : decode cX11_keep 131 = .ok (.getfield 92, 3) := by decide +kernel
theorem dX11_keep_134 : decode cX11_keep 134 = .ok (.iload 4, 2) := by decide +kernel
theorem dX11_keep_136 : decode cX11_keep 136 = .ok (.iaload, 1) := by decide +kernel
theorem dX11_keep_137 : decode cX11_keep 137 = .ok (.iastore, 1) := by decide +kernel
theorem dX11_keep_138 : decode cX11_keep 138 = .ok (.aload_n 0, 1) := by decide +kernel
theorem dX11_keep_139 : decode cX11_keep 139 = .ok (.getfield 101, 3) := by decide +kernel
theorem dX11_keep_142 : decode cX11_keep 142 = .ok (.iload_n 3, 1) := by decide +kernel
theorem dX11_keep_143 : decode cX11_keep 143 = .ok (.aload_n 0, 1) := by decide +kernel
theorem dX11_keep_144 : decode cX11_keep 144 = .ok (.getfield 101, 3) := by decide +kernel
theorem dX11_keep_147 : decode cX11_keep 147 = .ok (.iload 4, 2) := by decide +kernel
theorem dX11_keep_149 : decode cX11_keep 149 = .ok (.baload, 1) := by decide +kernel
theorem dX11_keep_150 : decode cX11_keep 150 = .ok (.bastore, 1) := by decide +kernel
theorem dX11_keep_151 : decode cX11_keep 151 = .ok (.aload_n 0, 1) := by decide +kernel
theorem dX11_keep_152 : decode cX11_keep 152 = .ok (.getfield 95, 3) := by decide +kernel
theorem dX11_keep_155 : decode cX11_keep 155 = .ok (.iload_n 3, 1) := by decide +kernel
theorem dX11_keep_156 : decode cX11_keep 156 = .ok (.aload_n 0, 1) := by decide +kernel
theorem dX11_keep_157 : decode cX11_keep 157 = .ok (.getfield 95, 3) := by decide +kernel
theorem dX11_keep_160 : decode cX11_keep 160 = .ok (.iload 4, 2) := by decide +kernel
theorem dX11_keep_162 : decode cX11_keep 162 = .ok (.iaload, 1) := by decide +kernel
theorem dX11_keep_163 : decode cX11_keep 163 = .ok (.iastore, 1) := by decide +kernel
theorem dX11_keep_164 : decode cX11_keep 164 = .ok (.aload_n 0, 1) := by decide +kernel
theorem dX11_keep_165 : decode cX11_keep 165 = .ok (.getfield 98, 3) := by decide +kernel
theorem dX11_keep_168 : decode cX11_keep 168 = .ok (.iload_n 3, 1) := by decide +kernel
theorem dX11_keep_169 : decode cX11_keep 169 = .ok (.aload_n 0, 1) := by decide +kernel
theorem dX11_keep_170 : decode cX11_keep 170 = .ok (.getfield 98, 3) := by decide +kernel
theorem dX11_keep_173 : decode cX11_keep 173 = .ok (.iload 4, 2) := by decide +kernel
theorem dX11_keep_175 : decode cX11_keep 175 = .ok (.iaload, 1) := by decide +kernel
theorem dX11_keep_176 : decode cX11_keep 176 = .ok (.iastore, 1) := by decide +kernel
theorem dX11_keep_177 : decode cX11_keep 177 = .ok (.iinc 2 1, 3) := by decide +kernel
theorem dX11_keep_180 : decode cX11_keep 180 = .ok (.goto (-91), 3) := by decide +kernel
theorem dX11_keep_183 : decode cX11_keep 183 = .ok (.iconst 0, 1) := by decide +kernel
theorem dX11_keep_184 : decode cX11_keep 184 = .ok (.istore_n 2, 1) := by decide +kernel
theorem dX11_keep_185 : decode cX11_keep 185 = .ok (.iload_n 2, 1) := by decide +kernel
theorem dX11_keep_186 : decode cX11_keep 186 = .ok (.aload_n 0, 1) := by decide +kernel
theorem dX11_keep_187 : decode cX11_keep 187 = .ok (.getfield 335, 3) := by decide +kernel
theorem dX11_keep_190 : decode cX11_keep 190 = .ok (.if_icmp .ge 84, 3) := by decide +kernel
theorem dX11_keep_193 : decode cX11_keep 193 = .ok (.aload_n 0, 1) := by decide +kernel
theorem dX11_keep_194 : decode cX11_keep 194 = .ok (.getfield 105, 3) := by decide +kernel
theorem dX11_keep_197 : decode cX11_keep 197 = .ok (.sipush 130, 3) := by decide +kernel
theorem dX11_keep_200 : decode cX11_keep 200 = .ok (.aload_n 0, 1) := by decide +kernel
theorem dX11_keep_201 : decode cX11_keep 201 = .ok (.getfield 401, 3) := by decide +kernel
theorem dX11_keep_204 : decode cX11_keep 204 = .ok (.imul, 1) := by decide +kernel
theorem dX11_keep_205 : decode cX11_keep 205 = .ok (.iload_n 2, 1) := by decide +kernel
theorem dX11_keep_206 : decode cX11_keep 206 = .ok (.iadd, 1) := by decide +kernel
theorem dX11_keep_207 : decode cX11_keep 207 = .ok (.aload_n 0, 1) := by decide +kernel
theorem dX11_keep_208 : decode cX11_keep 208 = .ok (.getfield 105, 3) := by decide +kernel
theorem dX11_keep_211 : decode cX11_keep 211 = .ok (.sipush 1040, 3) := by decide +kernel
theorem dX11_keep_214 : decode cX11_keep 214 = .ok (.iload_n 2, 1) := by decide +kernel
theorem dX11_keep_215 : decode cX11_keep 215 = .ok (.iadd, 1) := by decide +kernel
theorem dX11_keep_216 : decode cX11_keep 216 = .ok (.iaload, 1) := by decide +kernel
theorem dX11_keep_217 : decode cX11_keep 217 = .ok (.iastore, 1) := by decide +kernel
theorem dX11_keep_218 : decode cX11_keep 218 = .ok (.aload_n 0, 1) := by decide +kernel
theorem dX11_keep_219 : decode cX11_keep 219 = .ok (.getfield 108, 3) := by decide +kernel
theorem dX11_keep_222 : decode cX11_keep 222 = .ok (.sipush 130, 3) := by decide +kernel
theorem dX11_keep_225 : decode cX11_keep 225 = .ok (.aload_n 0, 1) := by decide +kernel
theorem dX11_keep_226 : decode cX11_keep 226 = .ok (.getfield 401, 3) := by decide +kernel
theorem dX11_keep_229 : decode cX11_keep 229 = .ok (.imul, 1) := by decide +kernel
theorem dX11_keep_230 : decode cX11_keep 230 = .ok (.iload_n 2, 1) := by decide +kernel
theorem dX11_keep_231 : decode cX11_keep 231 = .ok (.iadd, 1) := by decide +kernel
theorem dX11_keep_232 : decode cX11_keep 232 = .ok (.aload_n 0, 1) := by decide +kernel
theorem dX11_keep_233 : decode cX11_keep 233 = .ok (.getfield 108, 3) := by decide +kernel
theorem dX11_keep_236 : decode cX11_keep 236 = .ok (.sipush 1040, 3) := by decide +kernel
theorem dX11_keep_239 : decode cX11_keep 239 = .ok (.iload_n 2, 1) := by decide +kernel
theorem dX11_keep_240 : decode cX11_keep 240 = .ok (.iadd, 1) := by decide +kernel
theorem dX11_keep_241 : decode cX11_keep 241 = .ok (.iaload, 1) := by decide +kernel
theorem dX11_keep_242 : decode cX11_keep 242 = .ok (.iastore, 1) := by decide +kernel
theorem dX11_keep_243 : decode cX11_keep 243 = .ok (.aload_n 0, 1) := by decide +kernel
theorem dX11_keep_244 : decode cX11_keep 244 = .ok (.getfield 111, 3) := by decide +kernel
theorem dX11_keep_247 : decode cX11_keep 247 = .ok (.sipush 130, 3) := by decide +kernel
theorem dX11_keep_250 : decode cX11_keep 250 = .ok (.aload_n 0, 1) := by decide +kernel
theorem dX11_keep_251 : decode cX11_keep 251 = .ok (.getfield 401, 3) := by decide +kernel
theorem dX11_keep_254 : decode cX11_keep 254 = .ok (.imul, 1) := by decide +kernel
theorem dX11_keep_255 : decode cX11_keep 255 = .ok (.iload_n 2, 1) := by decide +kernel
theorem dX11_keep_256 : decode cX11_keep 256 = .ok (.iadd, 1) := by decide +kernel
theorem dX11_keep_257 : decode cX11_keep 257 = .ok (.aload_n 0, 1) := by decide +kernel
theorem dX11_keep_258 : decode cX11_keep 258 = .ok (.getfield 111, 3) := by decide +kernel
theorem dX11_keep_261 : decode cX11_keep 261 = .ok (.sipush 1040, 3) := by decide +kernel
theorem dX11_keep_264 : decode cX11_keep 264 = .ok (.iload_n 2, 1) := by decide +kernel
theorem dX11_keep_265 : decode cX11_keep 265 = .ok (.iadd, 1) := by decide +kernel
theorem dX11_keep_266 : decode cX11_keep 266 = .ok (.iaload, 1) := by decide +kernel
theorem dX11_keep_267 : decode cX11_keep 267 = .ok (.iastore, 1) := by decide +kernel
theorem dX11_keep_268 : decode cX11_keep 268 = .ok (.iinc 2 1, 3) := by decide +kernel
theorem dX11_keep_271 : decode cX11_keep 271 = .ok (.goto (-86), 3) := by decide +kernel
theorem dX11_keep_274 : decode cX11_keep 274 = .ok (.return_, 1) := by decide +kernel
theorem dX11_fault_0 : decode cX11_fault 0 = .ok (.aload_n 0, 1) := by decide +kernel
theorem dX11_fault_1 : decode cX11_fault 1 = .ok (.iconst 0, 1) := by decide +kernel
theorem dX11_fault_2 : decode cX11_fault 2 = .ok (.putfield 221, 3) := by decide +kernel
theorem dX11_fault_5 : decode cX11_fault 5 = .ok (.aload_n 0, 1) := by decide +kernel
theorem dX11_fault_6 : decode cX11_fault 6 = .ok (.getfield 292, 3) := by decide +kernel
theorem dX11_fault_9 : decode cX11_fault 9 = .ok (.ireturn, 1) := by decide +kernel
theorem dX11_lawFor_0 : decode cX11_lawFor 0 = .ok (.iconst (-1), 1) := by decide +kernel
theorem dX11_lawFor_1 : decode cX11_lawFor 1 = .ok (.istore_n 3, 1) := by decide +kernel
theorem dX11_lawFor_2 : decode cX11_lawFor 2 = .ok (.iconst 0, 1) := by decide +kernel
theorem dX11_lawFor_3 : decode cX11_lawFor 3 = .ok (.istore 4, 2) := by decide +kernel
theorem dX11_lawFor_5 : decode cX11_lawFor 5 = .ok (.iload 4, 2) := by decide +kernel
theorem dX11_lawFor_7 : decode cX11_lawFor 7 = .ok (.aload_n 0, 1) := by decide +kernel
theorem dX11_lawFor_8 : decode cX11_lawFor 8 = .ok (.getfield 401, 3) := by decide +kernel
theorem dX11_lawFor_11 : decode cX11_lawFor 11 = .ok (.if_icmp .ge 54, 3) := by decide +kernel
theorem dX11_lawFor_14 : decode cX11_lawFor 14 = .ok (.aload_n 0, 1) := by decide +kernel
theorem dX11_lawFor_15 : decode cX11_lawFor 15 = .ok (.getfield 74, 3) := by decide +kernel
theorem dX11_lawFor_18 : decode cX11_lawFor 18 = .ok (.iload 4, 2) := by decide +kernel
theorem dX11_lawFor_20 : decode cX11_lawFor 20 = .ok (.iaload, 1) := by decide +kernel
theorem dX11_lawFor_21 : decode cX11_lawFor 21 = .ok (.iload_n 2, 1) := by decide +kernel
theorem dX11_lawFor_22 : decode cX11_lawFor 22 = .ok (.if_icmp .gt 37, 3) := by decide +kernel
theorem dX11_lawFor_25 : decode cX11_lawFor 25 = .ok (.aload_n 0, 1) := by decide +kernel
theorem dX11_lawFor_26 : decode cX11_lawFor 26 = .ok (.getfield 71, 3) := by decide +kernel
theorem dX11_lawFor_29 : decode cX11_lawFor 29 = .ok (.iload 4, 2) := by decide +kernel
theorem dX11_lawFor_31 : decode cX11_lawFor 31 = .ok (.iaload, 1) := by decide +kernel
theorem dX11_lawFor_32 : decode cX11_lawFor 32 = .ok (.iload_n 1, 1) := by decide +kernel
theorem dX11_lawFor_33 : decode cX11_lawFor 33 = .ok (.if_icmp .gt 26, 3) := by decide +kernel
theorem dX11_lawFor_36 : decode cX11_lawFor 36 = .ok (.iload_n 3, 1) := by decide +kernel
theorem dX11_lawFor_37 : decode cX11_lawFor 37 = .ok (.ifCond .lt 19, 3) := by decide +kernel
theorem dX11_lawFor_40 : decode cX11_lawFor 40 = .ok (.aload_n 0, 1) := by decide +kernel
theorem dX11_lawFor_41 : decode cX11_lawFor 41 = .ok (.getfield 71, 3) := by decide +kernel
theorem dX11_lawFor_44 : decode cX11_lawFor 44 = .ok (.iload 4, 2) := by decide +kernel
theorem dX11_lawFor_46 : decode cX11_lawFor 46 = .ok (.iaload, 1) := by decide +kernel
theorem dX11_lawFor_47 : decode cX11_lawFor 47 = .ok (.aload_n 0, 1) := by decide +kernel
theorem dX11_lawFor_48 : decode cX11_lawFor 48 = .ok (.getfield 71, 3) := by decide +kernel
theorem dX11_lawFor_51 : decode cX11_lawFor 51 = .ok (.iload_n 3, 1) := by decide +kernel
theorem dX11_lawFor_52 : decode cX11_lawFor 52 = .ok (.iaload, 1) := by decide +kernel
theorem dX11_lawFor_53 : decode cX11_lawFor 53 = .ok (.if_icmp .lt 6, 3) := by decide +kernel
theorem dX11_lawFor_56 : decode cX11_lawFor 56 = .ok (.iload 4, 2) := by decide +kernel
theorem dX11_lawFor_58 : decode cX11_lawFor 58 = .ok (.istore_n 3, 1) := by decide +kernel
theorem dX11_lawFor_59 : decode cX11_lawFor 59 = .ok (.iinc 4 1, 3) := by decide +kernel
theorem dX11_lawFor_62 : decode cX11_lawFor 62 = .ok (.goto (-57), 3) := by decide +kernel
theorem dX11_lawFor_65 : decode cX11_lawFor 65 = .ok (.iload_n 3, 1) := by decide +kernel
theorem dX11_lawFor_66 : decode cX11_lawFor 66 = .ok (.ireturn, 1) := by decide +kernel
theorem dX11_isLot_0 : decode cX11_isLot 0 = .ok (.iload_n 1, 1) := by decide +kernel
theorem dX11_isLot_1 : decode cX11_isLot 1 = .ok (.iconst 0, 1) := by decide +kernel
theorem dX11_isLot_2 : decode cX11_isLot 2 = .ok (.aload_n 0, 1) := by decide +kernel
theorem dX11_isLot_3 : decode cX11_isLot 3 = .ok (.getfield 413, 3) := by decide +kernel
theorem dX11_isLot_6 : decode cX11_isLot 6 = .ok (.iconst 1, 1) := by decide +kernel
theorem dX11_isLot_7 : decode cX11_isLot 7 = .ok (.isub, 1) := by decide +kernel
theorem dX11_isLot_8 : decode cX11_isLot 8 = .ok (.invokestatic 237, 3) := by decide +kernel
theorem dX11_isLot_11 : decode cX11_isLot 11 = .ok (.ireturn, 1) := by decide +kernel
theorem dX11_lot_0 : decode cX11_lot 0 = .ok (.aload_n 0, 1) := by decide +kernel
theorem dX11_lot_1 : decode cX11_lot 1 = .ok (.iconst 0, 1) := by decide +kernel
theorem dX11_lot_2 : decode cX11_lot 2 = .ok (.putfield 221, 3) := by decide +kernel
theorem dX11_lot_5 : decode cX11_lot 5 = .ok (.aload_n 0, 1) := by decide +kernel
theorem dX11_lot_6 : decode cX11_lot 6 = .ok (.getfield 413, 3) := by decide +kernel
theorem dX11_lot_9 : decode cX11_lot 9 = .ok (.iconst 4, 1) := by decide +kernel
theorem dX11_lot_10 : decode cX11_lot 10 = .ok (.if_icmp .eq 49, 3) := by decide +kernel
theorem dX11_lot_13 : decode cX11_lot 13 = .ok (.iload_n 1, 1) := by decide +kernel
theorem dX11_lot_14 : decode cX11_lot 14 = .ok (.aload_n 0, 1) := by decide +kernel
theorem dX11_lot_15 : decode cX11_lot 15 = .ok (.getfield 241, 3) := by decide +kernel
theorem dX11_lot_18 : decode cX11_lot 18 = .ok (.sipush 3639, 3) := by decide +kernel
theorem dX11_lot_21 : decode cX11_lot 21 = .ok (.invokestatic 237, 3) := by decide +kernel
theorem dX11_lot_24 : decode cX11_lot 24 = .ok (.ifCond .eq 35, 3) := by decide +kernel
theorem dX11_lot_27 : decode cX11_lot 27 = .ok (.aload_n 0, 1) := by decide +kernel
theorem dX11_lot_28 : decode cX11_lot 28 = .ok (.getfield 413, 3) := by decide +kernel
theorem dX11_lot_31 : decode cX11_lot 31 = .ok (.ifCond .le 18, 3) := by decide +kernel
theorem dX11_lot_34 : decode cX11_lot 34 = .ok (.iload_n 1, 1) := by decide +kernel
theorem dX11_lot_35 : decode cX11_lot 35 = .ok (.aload_n 0, 1) := by decide +kernel
theorem dX11_lot_36 : decode cX11_lot 36 = .ok (.getfield 117, 3) := by decide +kernel
theorem dX11_lot_39 : decode cX11_lot 39 = .ok (.aload_n 0, 1) := by decide +kernel
theorem dX11_lot_40 : decode cX11_lot 40 = .ok (.getfield 413, 3) := by decide +kernel
theorem dX11_lot_43 : decode cX11_lot 43 = .ok (.iconst 1, 1) := by decide +kernel
theorem dX11_lot_44 : decode cX11_lot 44 = .ok (.isub, 1) := by decide +kernel
theorem dX11_lot_45 : decode cX11_lot 45 = .ok (.iaload, 1) := by decide +kernel
theorem dX11_lot_46 : decode cX11_lot 46 = .ok (.if_icmp .lt 13, 3) := by decide +kernel
theorem dX11_lot_49 : decode cX11_lot 49 = .ok (.iload_n 2, 1) := by decide +kernel
theorem dX11_lot_50 : decode cX11_lot 50 = .ok (.iconst 0, 1) := by decide +kernel
theorem dX11_lot_51 : decode cX11_lot 51 = .ok (.bipush 60, 2) := by decide +kernel
theorem dX11_lot_53 : decode cX11_lot 53 = .ok (.invokestatic 237, 3) := by decide +kernel
theorem dX11_lot_56 : decode cX11_lot 56 = .ok (.ifCond .ne 5, 3) := by decide +kernel
theorem dX11_lot_59 : decode cX11_lot 59 = .ok (.iconst (-1), 1) := by decide +kernel
theorem dX11_lot_60 : decode cX11_lot 60 = .ok (.ireturn, 1) := by decide +kernel
theorem dX11_lot_61 : decode cX11_lot 61 = .ok (.aload_n 0, 1) := by decide +kernel
theorem dX11_lot_62 : decode cX11_lot 62 = .ok (.getfield 117, 3) := by decide +kernel
theorem dX11_lot_65 : decode cX11_lot 65 = .ok (.aload_n 0, 1) := by decide +kernel
theorem dX11_lot_66 : decode cX11_lot 66 = .ok (.getfield 413, 3) := by decide +kernel
theorem dX11_lot_69 : decode cX11_lot 69 = .ok (.iload_n 1, 1) := by decide +kernel
theorem dX11_lot_70 : decode cX11_lot 70 = .ok (.iastore, 1) := by decide +kernel
theorem dX11_lot_71 : decode cX11_lot 71 = .ok (.aload_n 0, 1) := by decide +kernel
theorem dX11_lot_72 : decode cX11_lot 72 = .ok (.getfield 120, 3) := by decide +kernel
theorem dX11_lot_75 : decode cX11_lot 75 = .ok (.aload_n 0, 1) := by decide +kernel
theorem dX11_lot_76 : decode cX11_lot 76 = .ok (.getfield 413, 3) := by decide +kernel
theorem dX11_lot_79 : decode cX11_lot 79 = .ok (.iload_n 2, 1) := by decide +kernel
theorem dX11_lot_80 : decode cX11_lot 80 = .ok (.iastore, 1) := by decide +kernel
theorem dX11_lot_81 : decode cX11_lot 81 = .ok (.iconst 0, 1) := by decide +kernel
theorem dX11_lot_82 : decode cX11_lot 82 = .ok (.istore_n 3, 1) := by decide +kernel
theorem dX11_lot_83 : decode cX11_lot 83 = .ok (.iload_n 3, 1) := by decide +kernel
theorem dX11_lot_84 : decode cX11_lot 84 = .ok (.bipush 52, 2) := by decide +kernel
theorem dX11_lot_86 : decode cX11_lot 86 = .ok (.if_icmp .ge 39, 3) := by decide +kernel
theorem dX11_lot_89 : decode cX11_lot 89 = .ok (.aload_n 0, 1) := by decide +kernel
theorem dX11_lot_90 : decode cX11_lot 90 = .ok (.getfield 123, 3) := by decide +kernel
theorem dX11_lot_93 : decode cX11_lot 93 = .ok (.bipush 52, 2) := by decide +kernel
theorem dX11_lot_95 : decode cX11_lot 95 = .ok (.aload_n 0, 1) := by decide +kernel
theorem dX11_lot_96 : decode cX11_lot 96 = .ok (.getfield 413, 3) := by decide +kernel
theorem dX11_lot_99 : decode cX11_lot 99 = .ok (.imul, 1) := by decide +kernel
theorem dX11_lot_100 : decode cX11_lot 100 = .ok (.iload_n 3, 1) := by decide +kernel
theorem dX11_lot_101 : decode cX11_lot 101 = .ok (.iadd, 1) := by decide +kernel
theorem dX11_lot_102 : decode cX11_lot 102 = .ok (.iload_n 3, 1) := by decide +kernel
theorem dX11_lot_103 : decode cX11_lot 103 = .ok (.iastore, 1) := by decide +kernel
theorem dX11_lot_104 : decode cX11_lot 104 = .ok (.aload_n 0, 1) := by decide +kernel
theorem dX11_lot_105 : decode cX11_lot 105 = .ok (.getfield 126, 3) := by decide +kernel
theorem dX11_lot_108 : decode cX11_lot 108 = .ok (.bipush 52, 2) := by decide +kernel
theorem dX11_lot_110 : decode cX11_lot 110 = .ok (.aload_n 0, 1) := by decide +kernel
theorem dX11_lot_111 : decode cX11_lot 111 = .ok (.getfield 413, 3) := by decide +kernel
theorem dX11_lot_114 : decode cX11_lot 114 = .ok (.imul, 1) := by decide +kernel
theorem dX11_lot_115 : decode cX11_lot 115 = .ok (.iload_n 3, 1) := by decide +kernel
theorem dX11_lot_116 : decode cX11_lot 116 = .ok (.iadd, 1) := by decide +kernel
theorem dX11_lot_117 : decode cX11_lot 117 = .ok (.iload_n 3, 1) := by decide +kernel
theorem dX11_lot_118 : decode cX11_lot 118 = .ok (.iastore, 1) := by decide +kernel
theorem dX11_lot_119 : decode cX11_lot 119 = .ok (.iinc 3 1, 3) := by decide +kernel
theorem dX11_lot_122 : decode cX11_lot 122 = .ok (.goto (-39), 3) := by decide +kernel
theorem dX11_lot_125 : decode cX11_lot 125 = .ok (.iconst 0, 1) := by decide +kernel
theorem dX11_lot_126 : decode cX11_lot 126 = .ok (.istore_n 3, 1) := by decide +kernel
theorem dX11_lot_127 : decode cX11_lot 127 = .ok (.iload_n 3, 1) := by decide +kernel
theorem dX11_lot_128 : decode cX11_lot 128 = .ok (.bipush 26, 2) := by decide +kernel
theorem dX11_lot_130 : decode cX11_lot 130 = .ok (.if_icmp .ge 24, 3) := by decide +kernel
theorem dX11_lot_133 : decode cX11_lot 133 = .ok (.aload_n 0, 1) := by decide +kernel
theorem dX11_lot_134 : decode cX11_lot 134 = .ok (.getfield 129, 3) := by decide +kernel
theorem dX11_lot_137 : decode cX11_lot 137 = .ok (.bipush 26, 2) := by decide +kernel
theorem dX11_lot_139 : decode cX11_lot 139 = .ok (.aload_n 0, 1) := by decide +kernel
theorem dX11_lot_140 : decode cX11_lot 140 = .ok (.getfield 413, 3) := by decide +kernel
theorem dX11_lot_143 : decode cX11_lot 143 = .ok (.imul, 1) := by decide +kernel
theorem dX11_lot_144 : decode cX11_lot 144 = .ok (.iload_n 3, 1) := by decide +kernel
theorem dX11_lot_145 : decode cX11_lot 145 = .ok (.iadd, 1) := by decide +kernel
theorem dX11_lot_146 : decode cX11_lot 146 = .ok (.iload_n 3, 1) := by decide +kernel
theorem dX11_lot_147 : decode cX11_lot 147 = .ok (.iastore, 1) := by decide +kernel
theorem dX11_lot_148 : decode cX11_lot 148 = .ok (.iinc 3 1, 3) := by decide +kernel
theorem dX11_lot_151 : decode cX11_lot 151 = .ok (.goto (-24), 3) := by decide +kernel
theorem dX11_lot_154 : decode cX11_lot 154 = .ok (.aload_n 0, 1) := by decide +kernel
theorem dX11_lot_155 : decode cX11_lot 155 = .ok (.dup, 1) := by decide +kernel
theorem dX11_lot_156 : decode cX11_lot 156 = .ok (.getfield 413, 3) := by decide +kernel
theorem dX11_lot_159 : decode cX11_lot 159 = .ok (.iconst 1, 1) := by decide +kernel
theorem dX11_lot_160 : decode cX11_lot 160 = .ok (.iadd, 1) := by decide +kernel
theorem dX11_lot_161 : decode cX11_lot 161 = .ok (.putfield 413, 3) := by decide +kernel
theorem dX11_lot_164 : decode cX11_lot 164 = .ok (.aload_n 0, 1) := by decide +kernel
theorem dX11_lot_165 : decode cX11_lot 165 = .ok (.getfield 413, 3) := by decide +kernel
theorem dX11_lot_168 : decode cX11_lot 168 = .ok (.iconst 1, 1) := by decide +kernel
theorem dX11_lot_169 : decode cX11_lot 169 = .ok (.isub, 1) := by decide +kernel
theorem dX11_lot_170 : decode cX11_lot 170 = .ok (.ireturn, 1) := by decide +kernel
theorem dX11_isOrder_0 : decode cX11_isOrder 0 = .ok (.aload_n 0, 1) := by decide +kernel
theorem dX11_isOrder_1 : decode cX11_isOrder 1 = .ok (.getfield 231, 3) := by decide +kernel
theorem dX11_isOrder_4 : decode cX11_isOrder 4 = .ok (.iload_n 1, 1) := by decide +kernel
theorem dX11_isOrder_5 : decode cX11_isOrder 5 = .ok (.if_icmp .eq 5, 3) := by decide +kernel
theorem dX11_isOrder_8 : decode cX11_isOrder 8 = .ok (.iconst 0, 1) := by decide +kernel
theorem dX11_isOrder_9 : decode cX11_isOrder 9 = .ok (.ireturn, 1) := by decide +kernel
theorem dX11_isOrder_10 : decode cX11_isOrder 10 = .ok (.iconst 0, 1) := by decide +kernel
theorem dX11_isOrder_11 : decode cX11_isOrder 11 = .ok (.istore_n 2, 1) := by decide +kernel
theorem dX11_isOrder_12 : decode cX11_isOrder 12 = .ok (.iload_n 2, 1) := by decide +kernel
theorem dX11_isOrder_13 : decode cX11_isOrder 13 = .ok (.iload_n 1, 1) := by decide +kernel
theorem dX11_isOrder_14 : decode cX11_isOrder 14 = .ok (.if_icmp .ge 16, 3) := by decide +kernel
theorem dX11_isOrder_17 : decode cX11_isOrder 17 = .ok (.aload_n 0, 1) := by decide +kernel
theorem dX11_isOrder_18 : decode cX11_isOrder 18 = .ok (.getfield 138, 3) := by decide +kernel
theorem dX11_isOrder_21 : decode cX11_isOrder 21 = .ok (.iload_n 2, 1) := by decide +kernel
theorem dX11_isOrder_22 : decode cX11_isOrder 22 = .ok (.iconst 0, 1) := by decide +kernel
theorem dX11_isOrder_23 : decode cX11_isOrder 23 = .ok (.bastore, 1) := by decide +kernel
theorem dX11_isOrder_24 : decode cX11_isOrder 24 = .ok (.iinc 2 1, 3) := by decide +kernel
theorem dX11_isOrder_27 : decode cX11_isOrder 27 = .ok (.goto (-15), 3) := by decide +kernel
theorem dX11_isOrder_30 : decode cX11_isOrder 30 = .ok (.iconst 0, 1) := by decide +kernel
theorem dX11_isOrder_31 : decode cX11_isOrder 31 = .ok (.istore_n 2, 1) := by decide +kernel
theorem dX11_isOrder_32 : decode cX11_isOrder 32 = .ok (.iload_n 2, 1) := by decide +kernel
theorem dX11_isOrder_33 : decode cX11_isOrder 33 = .ok (.iload_n 1, 1) := by decide +kernel
theorem dX11_isOrder_34 : decode cX11_isOrder 34 = .ok (.if_icmp .ge 53, 3) := by decide +kernel
theorem dX11_isOrder_37 : decode cX11_isOrder 37 = .ok (.aload_n 0, 1) := by decide +kernel
theorem dX11_isOrder_38 : decode cX11_isOrder 38 = .ok (.getfield 7, 3) := by decide +kernel
theorem dX11_isOrder_41 : decode cX11_isOrder 41 = .ok (.iload_n 2, 1) := by decide +kernel
theorem dX11_isOrder_42 : decode cX11_isOrder 42 = .ok (.baload, 1) := by decide +kernel
theorem dX11_isOrder_43 : decode cX11_isOrder 43 = .ok (.iconst 0, 1) := by decide +kernel
theorem dX11_isOrder_44 : decode cX11_isOrder 44 = .ok (.iload_n 1, 1) := by decide +kernel
theorem dX11_isOrder_45 : decode cX11_isOrder 45 = .ok (.iconst 1, 1) := by decide +kernel
theorem dX11_isOrder_46 : decode cX11_isOrder 46 = .ok (.isub, 1) := by decide +kernel
theorem dX11_isOrder_47 : decode cX11_isOrder 47 = .ok (.invokestatic 237, 3) := by decide +kernel
theorem dX11_isOrder_50 : decode cX11_isOrder 50 = .ok (.ifCond .eq 17, 3) := by decide +kernel
theorem dX11_isOrder_53 : decode cX11_isOrder 53 = .ok (.aload_n 0, 1) := by decide +kernel
theorem dX11_isOrder_54 : decode cX11_isOrder 54 = .ok (.getfield 138, 3) := by decide +kernel
theorem dX11_isOrder_57 : decode cX11_isOrder 57 = .ok (.aload_n 0, 1) := by decide +kernel
theorem dX11_isOrder_58 : decode cX11_isOrder 58 = .ok (.getfield 7, 3) := by decide +kernel
theorem dX11_isOrder_61 : decode cX11_isOrder 61 = .ok (.iload_n 2, 1) := by decide +kernel
theorem dX11_isOrder_62 : decode cX11_isOrder 62 = .ok (.baload, 1) := by decide +kernel
theorem dX11_isOrder_63 : decode cX11_isOrder 63 = .ok (.baload, 1) := by decide +kernel
theorem dX11_isOrder_64 : decode cX11_isOrder 64 = .ok (.ifCond .eq 5, 3) := by decide +kernel
theorem dX11_isOrder_67 : decode cX11_isOrder 67 = .ok (.iconst 0, 1) := by decide +kernel
theorem dX11_isOrder_68 : decode cX11_isOrder 68 = .ok (.ireturn, 1) := by decide +kernel
theorem dX11_isOrder_69 : decode cX11_isOrder 69 = .ok (.aload_n 0, 1) := by decide +kernel
theorem dX11_isOrder_70 : decode cX11_isOrder 70 = .ok (.getfield 138, 3) := by decide +kernel
theorem dX11_isOrder_73 : decode cX11_isOrder 73 = .ok (.aload_n 0, 1) := by decide +kernel
theorem dX11_isOrder_74 : decode cX11_isOrder 74 = .ok (.getfield 7, 3) := by decide +kernel
theorem dX11_isOrder_77 : decode cX11_isOrder 77 = .ok (.iload_n 2, 1) := by decide +kernel
theorem dX11_isOrder_78 : decode cX11_isOrder 78 = .ok (.baload, 1) := by decide +kernel
theorem dX11_isOrder_79 : decode cX11_isOrder 79 = .ok (.iconst 1, 1) := by decide +kernel
theorem dX11_isOrder_80 : decode cX11_isOrder 80 = .ok (.bastore, 1) := by decide +kernel
theorem dX11_isOrder_81 : decode cX11_isOrder 81 = .ok (.iinc 2 1, 3) := by decide +kernel
theorem dX11_isOrder_84 : decode cX11_isOrder 84 = .ok (.goto (-52), 3) := by decide +kernel
theorem dX11_isOrder_87 : decode cX11_isOrder 87 = .ok (.iconst 1, 1) := by decide +kernel
theorem dX11_isOrder_88 : decode cX11_isOrder 88 = .ok (.ireturn, 1) := by decide +kernel
theorem dX11_weeks_0 : decode cX11_weeks 0 = .ok (.aload_n 0, 1) := by decide +kernel
theorem dX11_weeks_1 : decode cX11_weeks 1 = .ok (.iconst 0, 1) := by decide +kernel
theorem dX11_weeks_2 : decode cX11_weeks 2 = .ok (.putfield 221, 3) := by decide +kernel
theorem dX11_weeks_5 : decode cX11_weeks 5 = .ok (.aload_n 0, 1) := by decide +kernel
theorem dX11_weeks_6 : decode cX11_weeks 6 = .ok (.invokevirtual 247, 3) := by decide +kernel
theorem dX11_weeks_9 : decode cX11_weeks 9 = .ok (.aload_n 0, 1) := by decide +kernel
theorem dX11_weeks_10 : decode cX11_weeks 10 = .ok (.iload_n 1, 1) := by decide +kernel
theorem dX11_weeks_11 : decode cX11_weeks 11 = .ok (.invokevirtual 416, 3) := by decide +kernel
theorem dX11_weeks_14 : decode cX11_weeks 14 = .ok (.ifCond .eq 21, 3) := by decide +kernel
theorem dX11_weeks_17 : decode cX11_weeks 17 = .ok (.aload_n 0, 1) := by decide +kernel
theorem dX11_weeks_18 : decode cX11_weeks 18 = .ok (.getfield 132, 3) := by decide +kernel
theorem dX11_weeks_21 : decode cX11_weeks 21 = .ok (.iload_n 1, 1) := by decide +kernel
theorem dX11_weeks_22 : decode cX11_weeks 22 = .ok (.baload, 1) := by decide +kernel
theorem dX11_weeks_23 : decode cX11_weeks 23 = .ok (.ifCond .ne 12, 3) := by decide +kernel
theorem dX11_weeks_26 : decode cX11_weeks 26 = .ok (.aload_n 0, 1) := by decide +kernel
theorem dX11_weeks_27 : decode cX11_weeks 27 = .ok (.bipush 52, 2) := by decide +kernel
theorem dX11_weeks_29 : decode cX11_weeks 29 = .ok (.invokevirtual 419, 3) := by decide +kernel
theorem dX11_weeks_32 : decode cX11_weeks 32 = .ok (.ifCond .ne 5, 3) := by decide +kernel
theorem dX11_weeks_35 : decode cX11_weeks 35 = .ok (.iconst 0, 1) := by decide +kernel
theorem dX11_weeks_36 : decode cX11_weeks 36 = .ok (.ireturn, 1) := by decide +kernel
theorem dX11_weeks_37 : decode cX11_weeks 37 = .ok (.aload_n 0, 1) := by decide +kernel
theorem dX11_weeks_38 : decode cX11_weeks 38 = .ok (.getfield 132, 3) := by decide +kernel
theorem dX11_weeks_41 : decode cX11_weeks 41 = .ok (.iload_n 1, 1) := by decide +kernel
theorem dX11_weeks_42 : decode cX11_weeks 42 = .ok (.iconst 1, 1) := by decide +kernel
theorem dX11_weeks_43 : decode cX11_weeks 43 = .ok (.bastore, 1) := by decide +kernel
theorem dX11_weeks_44 : decode cX11_weeks 44 = .ok (.iconst 0, 1) := by decide +kernel
theorem dX11_weeks_45 : decode cX11_weeks 45 = .ok (.istore_n 2, 1) := by decide +kernel
theorem dX11_weeks_46 : decode cX11_weeks 46 = .ok (.iload_n 2, 1) := by decide +kernel
theorem dX11_weeks_47 : decode cX11_weeks 47 = .ok (.bipush 52, 2) := by decide +kernel
theorem dX11_weeks_49 : decode cX11_weeks 49 = .ok (.if_icmp .ge 43, 3) := by decide +kernel
theorem dX11_weeks_52 : decode cX11_weeks 52 = .ok (.aload_n 0, 1) := by decide +kernel
theorem dX11_weeks_53 : decode cX11_weeks 53 = .ok (.getfield 123, 3) := by decide +kernel
theorem dX11_weeks_56 : decode cX11_weeks 56 = .ok (.bipush 52, 2) := by decide +kernel
theorem dX11_weeks_58 : decode cX11_weeks 58 = .ok (.iload_n 1, 1) := by decide +kernel
theorem dX11_weeks_59 : decode cX11_weeks 59 = .ok (.imul, 1) := by decide +kernel
theorem dX11_weeks_60 : decode cX11_weeks 60 = .ok (.iload_n 2, 1) := by decide +kernel
theorem dX11_weeks_61 : decode cX11_weeks 61 = .ok (.iadd, 1) := by decide +kernel
theorem dX11_weeks_62 : decode cX11_weeks 62 = .ok (.aload_n 0, 1) := by decide +kernel
theorem dX11_weeks_63 : decode cX11_weeks 63 = .ok (.getfield 7, 3) := by decide +kernel
theorem dX11_weeks_66 : decode cX11_weeks 66 = .ok (.iload_n 2, 1) := by decide +kernel
theorem dX11_weeks_67 : decode cX11_weeks 67 = .ok (.baload, 1) := by decide +kernel
theorem dX11_weeks_68 : decode cX11_weeks 68 = .ok (.iastore, 1) := by decide +kernel
theorem dX11_weeks_69 : decode cX11_weeks 69 = .ok (.aload_n 0, 1) := by decide +kernel
theorem dX11_weeks_70 : decode cX11_weeks 70 = .ok (.getfield 126, 3) := by decide +kernel
theorem dX11_weeks_73 : decode cX11_weeks 73 = .ok (.bipush 52, 2) := by decide +kernel
theorem dX11_weeks_75 : decode cX11_weeks 75 = .ok (.iload_n 1, 1) := by decide +kernel
theorem dX11_weeks_76 : decode cX11_weeks 76 = .ok (.imul, 1) := by decide +kernel
theorem dX11_weeks_77 : decode cX11_weeks 77 = .ok (.aload_n 0, 1) := by decide +kernel
theorem dX11_weeks_78 : decode cX11_weeks 78 = .ok (.getfield 7, 3) := by decide +kernel
theorem dX11_weeks_81 : decode cX11_weeks 81 = .ok (.iload_n 2, 1) := by decide +kernel
theorem dX11_weeks_82 : decode cX11_weeks 82 = .ok (.baload, 1) := by decide +kernel
theorem dX11_weeks_83 : decode cX11_weeks 83 = .ok (.iadd, 1) := by decide +kernel
theorem dX11_weeks_84 : decode cX11_weeks 84 = .ok (.iload_n 2, 1) := by decide +kernel
theorem dX11_weeks_85 : decode cX11_weeks 85 = .ok (.iastore, 1) := by decide +kernel
theorem dX11_weeks_86 : decode cX11_weeks 86 = .ok (.iinc 2 1, 3) := by decide +kernel
theorem dX11_weeks_89 : decode cX11_weeks 89 = .ok (.goto (-43), 3) := by decide +kernel
theorem dX11_weeks_92 : decode cX11_weeks 92 = .ok (.iconst 1, 1) := by decide +kernel
theorem dX11_weeks_93 : decode cX11_weeks 93 = .ok (.ireturn, 1) := by decide +kernel
theorem dX11_letters_0 : decode cX11_letters 0 = .ok (.aload_n 0, 1) := by decide +kernel
theorem dX11_letters_1 : decode cX11_letters 1 = .ok (.iconst 0, 1) := by decide +kernel
theorem dX11_letters_2 : decode cX11_letters 2 = .ok (.putfield 221, 3) := by decide +kernel
theorem dX11_letters_5 : decode cX11_letters 5 = .ok (.aload_n 0, 1) := by decide +kernel
theorem dX11_letters_6 : decode cX11_letters 6 = .ok (.invokevirtual 247, 3) := by decide +kernel
theorem dX11_letters_9 : decode cX11_letters 9 = .ok (.aload_n 0, 1) := by decide +kernel
theorem dX11_letters_10 : decode cX11_letters 10 = .ok (.iload_n 1, 1) := by decide +kernel
theorem dX11_letters_11 : decode cX11_letters 11 = .ok (.invokevirtual 416, 3) := by decide +kernel
theorem dX11_letters_14 : decode cX11_letters 14 = .ok (.ifCond .eq 21, 3) := by decide +kernel
theorem dX11_letters_17 : decode cX11_letters 17 = .ok (.aload_n 0, 1) := by decide +kernel
theorem dX11_letters_18 : decode cX11_letters 18 = .ok (.getfield 135, 3) := by decide +kernel
theorem dX11_letters_21 : decode cX11_letters 21 = .ok (.iload_n 1, 1) := by decide +kernel
theorem dX11_letters_22 : decode cX11_letters 22 = .ok (.baload, 1) := by decide +kernel
theorem dX11_letters_23 : decode cX11_letters 23 = .ok (.ifCond .ne 12, 3) := by decide +kernel
theorem dX11_letters_26 : decode cX11_letters 26 = .ok (.aload_n 0, 1) := by decide +kernel
theorem dX11_letters_27 : decode cX11_letters 27 = .ok (.bipush 26, 2) := by decide +kernel
theorem dX11_letters_29 : decode cX11_letters 29 = .ok (.invokevirtual 419, 3) := by decide +kernel
theorem dX11_letters_32 : decode cX11_letters 32 = .ok (.ifCond .ne 5, 3) := by decide +kernel
theorem dX11_letters_35 : decode cX11_letters 35 = .ok (.iconst 0, 1) := by decide +kernel
theorem dX11_letters_36 : decode cX11_letters 36 = .ok (.ireturn, 1) := by decide +kernel
theorem dX11_letters_37 : decode cX11_letters 37 = .ok (.aload_n 0, 1) := by decide +kernel
theorem dX11_letters_38 : decode cX11_letters 38 = .ok (.getfield 135, 3) := by decide +kernel
theorem dX11_letters_41 : decode cX11_letters 41 = .ok (.iload_n 1, 1) := by decide +kernel
theorem dX11_letters_42 : decode cX11_letters 42 = .ok (.iconst 1, 1) := by decide +kernel
theorem dX11_letters_43 : decode cX11_letters 43 = .ok (.bastore, 1) := by decide +kernel
theorem dX11_letters_44 : decode cX11_letters 44 = .ok (.iconst 0, 1) := by decide +kernel
theorem dX11_letters_45 : decode cX11_letters 45 = .ok (.istore_n 2, 1) := by decide +kernel
theorem dX11_letters_46 : decode cX11_letters 46 = .ok (.iload_n 2, 1) := by decide +kernel
theorem dX11_letters_47 : decode cX11_letters 47 = .ok (.bipush 26, 2) := by decide +kernel
theorem dX11_letters_49 : decode cX11_letters 49 = .ok (.if_icmp .ge 26, 3) := by decide +kernel
theorem dX11_letters_52 : decode cX11_letters 52 = .ok (.aload_n 0, 1) := by decide +kernel
theorem dX11_letters_53 : decode cX11_letters 53 = .ok (.getfield 129, 3) := by decide +kernel
theorem dX11_letters_56 : decode cX11_letters 56 = .ok (.bipush 26, 2) := by decide +kernel
theorem dX11_letters_58 : decode cX11_letters 58 = .ok (.iload_n 1, 1) := by decide +kernel
theorem dX11_letters_59 : decode cX11_letters 59 = .ok (.imul, 1) := by decide +kernel
theorem dX11_letters_60 : decode cX11_letters 60 = .ok (.aload_n 0, 1) := by decide +kernel
theorem dX11_letters_61 : decode cX11_letters 61 = .ok (.getfield 7, 3) := by decide +kernel
theorem dX11_letters_64 : decode cX11_letters 64 = .ok (.iload_n 2, 1) := by decide +kernel
theorem dX11_letters_65 : decode cX11_letters 65 = .ok (.baload, 1) := by decide +kernel
theorem dX11_letters_66 : decode cX11_letters 66 = .ok (.iadd, 1) := by decide +kernel
theorem dX11_letters_67 : decode cX11_letters 67 = .ok (.iload_n 2, 1) := by decide +kernel
theorem dX11_letters_68 : decode cX11_letters 68 = .ok (.iastore, 1) := by decide +kernel
theorem dX11_letters_69 : decode cX11_letters 69 = .ok (.iinc 2 1, 3) := by decide +kernel
theorem dX11_letters_72 : decode cX11_letters 72 = .ok (.goto (-26), 3) := by decide +kernel
theorem dX11_letters_75 : decode cX11_letters 75 = .ok (.iconst 1, 1) := by decide +kernel
theorem dX11_letters_76 : decode cX11_letters 76 = .ok (.ireturn, 1) := by decide +kernel
theorem dX11_people_0 : decode cX11_people 0 = .ok (.iconst 0, 1) := by decide +kernel
theorem dX11_people_1 : decode cX11_people 1 = .ok (.istore_n 2, 1) := by decide +kernel
theorem dX11_people_2 : decode cX11_people 2 = .ok (.iload_n 2, 1) := by decide +kernel
theorem dX11_people_3 : decode cX11_people 3 = .ok (.aload_n 0, 1) := by decide +kernel
theorem dX11_people_4 : decode cX11_people 4 = .ok (.getfield 244, 3) := by decide +kernel
theorem dX11_people_7 : decode cX11_people 7 = .ok (.if_icmp .ge 23, 3) := by decide +kernel
theorem dX11_people_10 : decode cX11_people 10 = .ok (.aload_n 0, 1) := by decide +kernel
theorem dX11_people_11 : decode cX11_people 11 = .ok (.getfield 141, 3) := by decide +kernel
theorem dX11_people_14 : decode cX11_people 14 = .ok (.iload_n 2, 1) := by decide +kernel
theorem dX11_people_15 : decode cX11_people 15 = .ok (.iload_n 2, 1) := by decide +kernel
theorem dX11_people_16 : decode cX11_people 16 = .ok (.iastore, 1) := by decide +kernel
theorem dX11_people_17 : decode cX11_people 17 = .ok (.aload_n 0, 1) := by decide +kernel
theorem dX11_people_18 : decode cX11_people 18 = .ok (.getfield 150, 3) := by decide +kernel
theorem dX11_people_21 : decode cX11_people 21 = .ok (.iload_n 2, 1) := by decide +kernel
theorem dX11_people_22 : decode cX11_people 22 = .ok (.iconst 0, 1) := by decide +kernel
theorem dX11_people_23 : decode cX11_people 23 = .ok (.bastore, 1) := by decide +kernel
theorem dX11_people_24 : decode cX11_people 24 = .ok (.iinc 2 1, 3) := by decide +kernel
theorem dX11_people_27 : decode cX11_people 27 = .ok (.goto (-25), 3) := by decide +kernel
theorem dX11_people_30 : decode cX11_people 30 = .ok (.iconst 1, 1) := by decide +kernel
theorem dX11_people_31 : decode cX11_people 31 = .ok (.istore_n 2, 1) := by decide +kernel
theorem dX11_people_32 : decode cX11_people 32 = .ok (.iload_n 2, 1) := by decide +kernel
theorem dX11_people_33 : decode cX11_people 33 = .ok (.ifCond .eq 125, 3) := by decide +kernel
theorem dX11_people_36 : decode cX11_people 36 = .ok (.iconst 0, 1) := by decide +kernel
theorem dX11_people_37 : decode cX11_people 37 = .ok (.istore_n 2, 1) := by decide +kernel
theorem dX11_people_38 : decode cX11_people 38 = .ok (.iconst 0, 1) := by decide +kernel
theorem dX11_people_39 : decode cX11_people 39 = .ok (.istore_n 3, 1) := by decide +kernel
theorem dX11_people_40 : decode cX11_people 40 = .ok (.iload_n 3, 1) := by decide +kernel
theorem dX11_people_41 : decode cX11_people 41 = .ok (.aload_n 0, 1) := by decide +kernel
theorem dX11_people_42 : decode cX11_people 42 = .ok (.getfield 266, 3) := by decide +kernel
theorem dX11_people_45 : decode cX11_people 45 = .ok (.if_icmp .ge 110, 3) := by decide +kernel
theorem dX11_people_48 : decode cX11_people 48 = .ok (.aload_n 0, 1) := by decide +kernel
theorem dX11_people_49 : decode cX11_people 49 = .ok (.getfield 68, 3) := by decide +kernel
theorem dX11_people_52 : decode cX11_people 52 = .ok (.iload_n 3, 1) := by decide +kernel
theorem dX11_people_53 : decode cX11_people 53 = .ok (.iaload, 1) := by decide +kernel
theorem dX11_people_54 : decode cX11_people 54 = .ok (.iload_n 1, 1) := by decide +kernel
theorem dX11_people_55 : decode cX11_people 55 = .ok (.if_icmp .le 6, 3) := by decide +kernel
theorem dX11_people_58 : decode cX11_people 58 = .ok (.goto 91, 3) := by decide +kernel
theorem dX11_people_61 : decode cX11_people 61 = .ok (.aload_n 0, 1) := by decide +kernel
theorem dX11_people_62 : decode cX11_people 62 = .ok (.getfield 141, 3) := by decide +kernel
theorem dX11_people_65 : decode cX11_people 65 = .ok (.aload_n 0, 1) := by decide +kernel
theorem dX11_people_66 : decode cX11_people 66 = .ok (.getfield 62, 3) := by decide +kernel
theorem dX11_people_69 : decode cX11_people 69 = .ok (.iload_n 3, 1) := by decide +kernel
theorem dX11_people_70 : decode cX11_people 70 = .ok (.iaload, 1) := by decide +kernel
theorem dX11_people_71 : decode cX11_people 71 = .ok (.iaload, 1) := by decide +kernel
theorem dX11_people_72 : decode cX11_people 72 = .ok (.istore 4, 2) := by decide +kernel
theorem dX11_people_74 : decode cX11_people 74 = .ok (.aload_n 0, 1) := by decide +kernel
theorem dX11_people_75 : decode cX11_people 75 = .ok (.getfield 141, 3) := by decide +kernel
theorem dX11_people_78 : decode cX11_people 78 = .ok (.aload_n 0, 1) := by decide +kernel
theorem dX11_people_79 : decode cX11_people 79 = .ok (.getfield 65, 3) := by decide +kernel
theorem dX11_people_82 : decode cX11_people 82 = .ok (.iload_n 3, 1) := by decide +kernel
theorem dX11_people_83 : decode cX11_people 83 = .ok (.iaload, 1) := by decide +kernel
theorem dX11_people_84 : decode cX11_people 84 = .ok (.iaload, 1) := by decide +kernel
theorem dX11_people_85 : decode cX11_people 85 = .ok (.istore 5, 2) := by decide +kernel
theorem dX11_people_87 : decode cX11_people 87 = .ok (.iload 4, 2) := by decide +kernel
theorem dX11_people_89 : decode cX11_people 89 = .ok (.iload 5, 2) := by decide +kernel
theorem dX11_people_91 : decode cX11_people 91 = .ok (.if_icmp .ne 6, 3) := by decide +kernel
theorem dX11_people_94 : decode cX11_people 94 = .ok (.goto 55, 3) := by decide +kernel
theorem dX11_people_97 : decode cX11_people 97 = .ok (.aload_n 0, 1) := by decide +kernel
theorem dX11_people_98 : decode cX11_people 98 = .ok (.getfield 141, 3) := by decide +kernel
theorem dX11_people_101 : decode cX11_people 101 = .ok (.aload_n 0, 1) := by decide +kernel
theorem dX11_people_102 : decode cX11_people 102 = .ok (.getfield 62, 3) := by decide +kernel
theorem dX11_people_105 : decode cX11_people 105 = .ok (.iload_n 3, 1) := by decide +kernel
theorem dX11_people_106 : decode cX11_people 106 = .ok (.iaload, 1) := by decide +kernel
theorem dX11_people_107 : decode cX11_people 107 = .ok (.iload 4, 2) := by decide +kernel
theorem dX11_people_109 : decode cX11_people 109 = .ok (.iload 5, 2) := by decide +kernel
theorem dX11_people_111 : decode cX11_people 111 = .ok (.if_icmp .ge 8, 3) := by decide +kernel
theorem dX11_people_114 : decode cX11_people 114 = .ok (.iload 4, 2) := by decide +kernel
theorem dX11_people_116 : decode cX11_people 116 = .ok (.goto 5, 3) := by decide +kernel
theorem dX11_people_119 : decode cX11_people 119 = .ok (.iload 5, 2) := by decide +kernel
theorem dX11_people_121 : decode cX11_people 121 = .ok (.iastore, 1) := by decide +kernel
theorem dX11_people_122 : decode cX11_people 122 = .ok (.aload_n 0, 1) := by decide +kernel
theorem dX11_people_123 : decode cX11_people 123 = .ok (.getfield 141, 3) := by decide +kernel
theorem dX11_people_126 : decode cX11_people 126 = .ok (.aload_n 0, 1) := by decide +kernel
theorem dX11_people_127 : decode cX11_people 127 = .ok (.getfield 65, 3) := by decide +kernel
theorem dX11_people_130 : decode cX11_people 130 = .ok (.iload_n 3, 1) := by decide +kernel
theorem dX11_people_131 : decode cX11_people 131 = .ok (.iaload, 1) := by decide +kernel
theorem dX11_people_132 : decode cX11_people 132 = .ok (.iload 4, 2) := by decide +kernel
theorem dX11_people_134 : decode cX11_people 134 = .ok (.iload 5, 2) := by decide +kernel
theorem dX11_people_136 : decode cX11_people 136 = .ok (.if_icmp .ge 8, 3) := by decide +kernel
theorem dX11_people_139 : decode cX11_people 139 = .ok (.iload 4, 2) := by decide +kernel
theorem dX11_people_141 : decode cX11_people 141 = .ok (.goto 5, 3) := by decide +kernel
theorem dX11_people_144 : decode cX11_people 144 = .ok (.iload 5, 2) := by decide +kernel
theorem dX11_people_146 : decode cX11_people 146 = .ok (.iastore, 1) := by decide +kernel
theorem dX11_people_147 : decode cX11_people 147 = .ok (.iconst 1, 1) := by decide +kernel
theorem dX11_people_148 : decode cX11_people 148 = .ok (.istore_n 2, 1) := by decide +kernel
theorem dX11_people_149 : decode cX11_people 149 = .ok (.iinc 3 1, 3) := by decide +kernel
theorem dX11_people_152 : decode cX11_people 152 = .ok (.goto (-112), 3) := by decide +kernel
theorem dX11_people_155 : decode cX11_people 155 = .ok (.goto (-123), 3) := by decide +kernel
theorem dX11_people_158 : decode cX11_people 158 = .ok (.iconst 0, 1) := by decide +kernel
theorem dX11_people_159 : decode cX11_people 159 = .ok (.istore_n 3, 1) := by decide +kernel
theorem dX11_people_160 : decode cX11_people 160 = .ok (.iload_n 3, 1) := by decide +kernel
theorem dX11_people_161 : decode cX11_people 161 = .ok (.aload_n 0, 1) := by decide +kernel
theorem dX11_people_162 : decode cX11_people 162 = .ok (.getfield 257, 3) := by decide +kernel
theorem dX11_people_165 : decode cX11_people 165 = .ok (.if_icmp .ge 51, 3) := by decide +kernel
theorem dX11_people_168 : decode cX11_people 168 = .ok (.aload_n 0, 1) := by decide +kernel
theorem dX11_people_169 : decode cX11_people 169 = .ok (.getfield 29, 3) := by decide +kernel
theorem dX11_people_172 : decode cX11_people 172 = .ok (.iload_n 3, 1) := by decide +kernel
theorem dX11_people_173 : decode cX11_people 173 = .ok (.iaload, 1) := by decide +kernel
theorem dX11_people_174 : decode cX11_people 174 = .ok (.iload_n 1, 1) := by decide +kernel
theorem dX11_people_175 : decode cX11_people 175 = .ok (.if_icmp .le 6, 3) := by decide +kernel
theorem dX11_people_178 : decode cX11_people 178 = .ok (.goto 32, 3) := by decide +kernel
theorem dX11_people_181 : decode cX11_people 181 = .ok (.aload_n 0, 1) := by decide +kernel
theorem dX11_people_182 : decode cX11_people 182 = .ok (.getfield 150, 3) := by decide +kernel
theorem dX11_people_185 : decode cX11_people 185 = .ok (.aload_n 0, 1) := by decide +kernel
theorem dX11_people_186 : decode cX11_people 186 = .ok (.getfield 23, 3) := by decide +kernel
theorem dX11_people_189 : decode cX11_people 189 = .ok (.iload_n 3, 1) := by decide +kernel
theorem dX11_people_190 : decode cX11_people 190 = .ok (.iaload, 1) := by decide +kernel
theorem dX11_people_191 : decode cX11_people 191 = .ok (.iconst 1, 1) := by decide +kernel
theorem dX11_people_192 : decode cX11_people 192 = .ok (.bastore, 1) := by decide +kernel
theorem dX11_people_193 : decode cX11_people 193 = .ok (.aload_n 0, 1) := by decide +kernel
theorem dX11_people_194 : decode cX11_people 194 = .ok (.getfield 144, 3) := by decide +kernel
theorem dX11_people_197 : decode cX11_people 197 = .ok (.aload_n 0, 1) := by decide +kernel
theorem dX11_people_198 : decode cX11_people 198 = .ok (.getfield 23, 3) := by decide +kernel
theorem dX11_people_201 : decode cX11_people 201 = .ok (.iload_n 3, 1) := by decide +kernel
theorem dX11_people_202 : decode cX11_people 202 = .ok (.iaload, 1) := by decide +kernel
theorem dX11_people_203 : decode cX11_people 203 = .ok (.aload_n 0, 1) := by decide +kernel
theorem dX11_people_204 : decode cX11_people 204 = .ok (.getfield 26, 3) := by decide +kernel
theorem dX11_people_207 : decode cX11_people 207 = .ok (.iload_n 3, 1) := by decide +kernel
theorem dX11_people_208 : decode cX11_people 208 = .ok (.iaload, 1) := by decide +kernel
theorem dX11_people_209 : decode cX11_people 209 = .ok (.iastore, 1) := by decide +kernel
theorem dX11_people_210 : decode cX11_people 210 = .ok (.iinc 3 1, 3) := by decide +kernel
theorem dX11_people_213 : decode cX11_people 213 = .ok (.goto (-53), 3) := by decide +kernel
theorem dX11_people_216 : decode cX11_people 216 = .ok (.iconst 0, 1) := by decide +kernel
theorem dX11_people_217 : decode cX11_people 217 = .ok (.istore_n 3, 1) := by decide +kernel
theorem dX11_people_218 : decode cX11_people 218 = .ok (.iload_n 3, 1) := by decide +kernel
theorem dX11_people_219 : decode cX11_people 219 = .ok (.aload_n 0, 1) := by decide +kernel
theorem dX11_people_220 : decode cX11_people 220 = .ok (.getfield 244, 3) := by decide +kernel
theorem dX11_people_223 : decode cX11_people 223 = .ok (.if_icmp .ge 39, 3) := by decide +kernel
theorem dX11_people_226 : decode cX11_people 226 = .ok (.aload_n 0, 1) := by decide +kernel
theorem dX11_people_227 : decode cX11_people 227 = .ok (.getfield 147, 3) := by decide +kernel
theorem dX11_people_230 : decode cX11_people 230 = .ok (.iload_n 3, 1) := by decide +kernel
theorem dX11_people_231 : decode cX11_people 231 = .ok (.aload_n 0, 1) := by decide +kernel
theorem dX11_people_232 : decode cX11_people 232 = .ok (.getfield 141, 3) := by decide +kernel
theorem dX11_people_235 : decode cX11_people 235 = .ok (.iload_n 3, 1) := by decide +kernel
theorem dX11_people_236 : decode cX11_people 236 = .ok (.iaload, 1) := by decide +kernel
theorem dX11_people_237 : decode cX11_people 237 = .ok (.iload_n 3, 1) := by decide +kernel
theorem dX11_people_238 : decode cX11_people 238 = .ok (.if_icmp .ne 16, 3) := by decide +kernel
theorem dX11_people_241 : decode cX11_people 241 = .ok (.aload_n 0, 1) := by decide +kernel
theorem dX11_people_242 : decode cX11_people 242 = .ok (.getfield 150, 3) := by decide +kernel
theorem dX11_people_245 : decode cX11_people 245 = .ok (.iload_n 3, 1) := by decide +kernel
theorem dX11_people_246 : decode cX11_people 246 = .ok (.baload, 1) := by decide +kernel
theorem dX11_people_247 : decode cX11_people 247 = .ok (.ifCond .eq 7, 3) := by decide +kernel
theorem dX11_people_250 : decode cX11_people 250 = .ok (.iconst 1, 1) := by decide +kernel
theorem dX11_people_251 : decode cX11_people 251 = .ok (.goto 4, 3) := by decide +kernel
theorem dX11_people_254 : decode cX11_people 254 = .ok (.iconst 0, 1) := by decide +kernel
theorem dX11_people_255 : decode cX11_people 255 = .ok (.bastore, 1) := by decide +kernel
theorem dX11_people_256 : decode cX11_people 256 = .ok (.iinc 3 1, 3) := by decide +kernel
theorem dX11_people_259 : decode cX11_people 259 = .ok (.goto (-41), 3) := by decide +kernel
theorem dX11_people_262 : decode cX11_people 262 = .ok (.return_, 1) := by decide +kernel
theorem dX11_who_0 : decode cX11_who 0 = .ok (.aload_n 0, 1) := by decide +kernel
theorem dX11_who_1 : decode cX11_who 1 = .ok (.iconst 0, 1) := by decide +kernel
theorem dX11_who_2 : decode cX11_who 2 = .ok (.putfield 221, 3) := by decide +kernel
theorem dX11_who_5 : decode cX11_who 5 = .ok (.aload_n 0, 1) := by decide +kernel
theorem dX11_who_6 : decode cX11_who 6 = .ok (.iload_n 1, 1) := by decide +kernel
theorem dX11_who_7 : decode cX11_who 7 = .ok (.invokevirtual 254, 3) := by decide +kernel
theorem dX11_who_10 : decode cX11_who 10 = .ok (.ifCond .ne 5, 3) := by decide +kernel
theorem dX11_who_13 : decode cX11_who 13 = .ok (.iconst (-1), 1) := by decide +kernel
theorem dX11_who_14 : decode cX11_who 14 = .ok (.ireturn, 1) := by decide +kernel
theorem dX11_who_15 : decode cX11_who 15 = .ok (.aload_n 0, 1) := by decide +kernel
theorem dX11_who_16 : decode cX11_who 16 = .ok (.iload_n 2, 1) := by decide +kernel
theorem dX11_who_17 : decode cX11_who 17 = .ok (.invokevirtual 422, 3) := by decide +kernel
theorem dX11_who_20 : decode cX11_who 20 = .ok (.aload_n 0, 1) := by decide +kernel
theorem dX11_who_21 : decode cX11_who 21 = .ok (.getfield 141, 3) := by decide +kernel
theorem dX11_who_24 : decode cX11_who 24 = .ok (.iload_n 1, 1) := by decide +kernel
theorem dX11_who_25 : decode cX11_who 25 = .ok (.iaload, 1) := by decide +kernel
theorem dX11_who_26 : decode cX11_who 26 = .ok (.ireturn, 1) := by decide +kernel
theorem dX11_ageOf_0 : decode cX11_ageOf 0 = .ok (.iload_n 2, 1) := by decide +kernel
theorem dX11_ageOf_1 : decode cX11_ageOf 1 = .ok (.bipush 7, 2) := by decide +kernel
theorem dX11_ageOf_3 : decode cX11_ageOf 3 = .ok (.idiv, 1) := by decide +kernel
theorem dX11_ageOf_4 : decode cX11_ageOf 4 = .ok (.aload_n 0, 1) := by decide +kernel
theorem dX11_ageOf_5 : decode cX11_ageOf 5 = .ok (.getfield 144, 3) := by decide +kernel
theorem dX11_ageOf_8 : decode cX11_ageOf 8 = .ok (.iload_n 1, 1) := by decide +kernel
theorem dX11_ageOf_9 : decode cX11_ageOf 9 = .ok (.iaload, 1) := by decide +kernel
theorem dX11_ageOf_10 : decode cX11_ageOf 10 = .ok (.isub, 1) := by decide +kernel
theorem dX11_ageOf_11 : decode cX11_ageOf 11 = .ok (.istore_n 3, 1) := by decide +kernel
theorem dX11_ageOf_12 : decode cX11_ageOf 12 = .ok (.iload_n 3, 1) := by decide +kernel
theorem dX11_ageOf_13 : decode cX11_ageOf 13 = .ok (.ifCond .ge 7, 3) := by decide +kernel
theorem dX11_ageOf_16 : decode cX11_ageOf 16 = .ok (.iconst 0, 1) := by decide +kernel
theorem dX11_ageOf_17 : decode cX11_ageOf 17 = .ok (.goto 7, 3) := by decide +kernel
theorem dX11_ageOf_20 : decode cX11_ageOf 20 = .ok (.iload_n 3, 1) := by decide +kernel
theorem dX11_ageOf_21 : decode cX11_ageOf 21 = .ok (.bipush 52, 2) := by decide +kernel
theorem dX11_ageOf_23 : decode cX11_ageOf 23 = .ok (.idiv, 1) := by decide +kernel
theorem dX11_ageOf_24 : decode cX11_ageOf 24 = .ok (.ireturn, 1) := by decide +kernel
theorem dX11_age_0 : decode cX11_age 0 = .ok (.aload_n 0, 1) := by decide +kernel
theorem dX11_age_1 : decode cX11_age 1 = .ok (.iconst 0, 1) := by decide +kernel
theorem dX11_age_2 : decode cX11_age 2 = .ok (.putfield 221, 3) := by decide +kernel
theorem dX11_age_5 : decode cX11_age 5 = .ok (.aload_n 0, 1) := by decide +kernel
theorem dX11_age_6 : decode cX11_age 6 = .ok (.iload_n 1, 1) := by decide +kernel
theorem dX11_age_7 : decode cX11_age 7 = .ok (.invokevirtual 254, 3) := by decide +kernel
theorem dX11_age_10 : decode cX11_age 10 = .ok (.ifCond .eq 14, 3) := by decide +kernel
theorem dX11_age_13 : decode cX11_age 13 = .ok (.iload_n 2, 1) := by decide +kernel
theorem dX11_age_14 : decode cX11_age 14 = .ok (.iconst 0, 1) := by decide +kernel
theorem dX11_age_15 : decode cX11_age 15 = .ok (.sipush 3639, 3) := by decide +kernel
theorem dX11_age_18 : decode cX11_age 18 = .ok (.invokestatic 237, 3) := by decide +kernel
theorem dX11_age_21 : decode cX11_age 21 = .ok (.ifCond .ne 5, 3) := by decide +kernel
theorem dX11_age_24 : decode cX11_age 24 = .ok (.iconst (-1), 1) := by decide +kernel
theorem dX11_age_25 : decode cX11_age 25 = .ok (.ireturn, 1) := by decide +kernel
theorem dX11_age_26 : decode cX11_age 26 = .ok (.aload_n 0, 1) := by decide +kernel
theorem dX11_age_27 : decode cX11_age 27 = .ok (.iload_n 3, 1) := by decide +kernel
theorem dX11_age_28 : decode cX11_age 28 = .ok (.invokevirtual 422, 3) := by decide +kernel
theorem dX11_age_31 : decode cX11_age 31 = .ok (.aload_n 0, 1) := by decide +kernel
theorem dX11_age_32 : decode cX11_age 32 = .ok (.getfield 150, 3) := by decide +kernel
theorem dX11_age_35 : decode cX11_age 35 = .ok (.iload_n 1, 1) := by decide +kernel
theorem dX11_age_36 : decode cX11_age 36 = .ok (.baload, 1) := by decide +kernel
theorem dX11_age_37 : decode cX11_age 37 = .ok (.ifCond .eq 12, 3) := by decide +kernel
theorem dX11_age_40 : decode cX11_age 40 = .ok (.aload_n 0, 1) := by decide +kernel
theorem dX11_age_41 : decode cX11_age 41 = .ok (.iload_n 1, 1) := by decide +kernel
theorem dX11_age_42 : decode cX11_age 42 = .ok (.iload_n 2, 1) := by decide +kernel
theorem dX11_age_43 : decode cX11_age 43 = .ok (.invokevirtual 425, 3) := by decide +kernel
theorem dX11_age_46 : decode cX11_age 46 = .ok (.goto 4, 3) := by decide +kernel
theorem dX11_age_49 : decode cX11_age 49 = .ok (.iconst (-1), 1) := by decide +kernel
theorem dX11_age_50 : decode cX11_age 50 = .ok (.ireturn, 1) := by decide +kernel
theorem dX11_areBrothers_0 : decode cX11_areBrothers 0 = .ok (.iload_n 1, 1) := by decide +kernel
theorem dX11_areBrothers_1 : decode cX11_areBrothers 1 = .ok (.iload_n 2, 1) := by decide +kernel
theorem dX11_areBrothers_2 : decode cX11_areBrothers 2 = .ok (.if_icmp .eq 31, 3) := by decide +kernel
theorem dX11_areBrothers_5 : decode cX11_areBrothers 5 = .ok (.aload_n 0, 1) := by decide +kernel
theorem dX11_areBrothers_6 : decode cX11_areBrothers 6 = .ok (.getfield 147, 3) := by decide +kernel
theorem dX11_areBrothers_9 : decode cX11_areBrothers 9 = .ok (.iload_n 2, 1) := by decide +kernel
theorem dX11_areBrothers_10 : decode cX11_areBrothers 10 = .ok (.baload, 1) := by decide +kernel
theorem dX11_areBrothers_11 : decode cX11_areBrothers 11 = .ok (.ifCond .eq 22, 3) := by decide +kernel
theorem dX11_areBrothers_14 : decode cX11_areBrothers 14 = .ok (.aload_n 0, 1) := by decide +kernel
theorem dX11_areBrothers_15 : decode cX11_areBrothers 15 = .ok (.getfield 20, 3) := by decide +kernel
theorem dX11_areBrothers_18 : decode cX11_areBrothers 18 = .ok (.iload_n 1, 1) := by decide +kernel
theorem dX11_areBrothers_19 : decode cX11_areBrothers 19 = .ok (.iaload, 1) := by decide +kernel
theorem dX11_areBrothers_20 : decode cX11_areBrothers 20 = .ok (.aload_n 0, 1) := by decide +kernel
theorem dX11_areBrothers_21 : decode cX11_areBrothers 21 = .ok (.getfield 20, 3) := by decide +kernel
theorem dX11_areBrothers_24 : decode cX11_areBrothers 24 = .ok (.iload_n 2, 1) := by decide +kernel
theorem dX11_areBrothers_25 : decode cX11_areBrothers 25 = .ok (.iaload, 1) := by decide +kernel
theorem dX11_areBrothers_26 : decode cX11_areBrothers 26 = .ok (.if_icmp .ne 7, 3) := by decide +kernel
theorem dX11_areBrothers_29 : decode cX11_areBrothers 29 = .ok (.iconst 1, 1) := by decide +kernel
theorem dX11_areBrothers_30 : decode cX11_areBrothers 30 = .ok (.goto 4, 3) := by decide +kernel
theorem dX11_areBrothers_33 : decode cX11_areBrothers 33 = .ok (.iconst 0, 1) := by decide +kernel
theorem dX11_areBrothers_34 : decode cX11_areBrothers 34 = .ok (.ireturn, 1) := by decide +kernel
theorem dX11_brothersOf_0 : decode cX11_brothersOf 0 = .ok (.iconst 0, 1) := by decide +kernel
theorem dX11_brothersOf_1 : decode cX11_brothersOf 1 = .ok (.istore_n 2, 1) := by decide +kernel
theorem dX11_brothersOf_2 : decode cX11_brothersOf 2 = .ok (.iconst 0, 1) := by decide +kernel
theorem dX11_brothersOf_3 : decode cX11_brothersOf 3 = .ok (.istore_n 3, 1) := by decide +kernel
theorem dX11_brothersOf_4 : decode cX11_brothersOf 4 = .ok (.iload_n 3, 1) := by decide +kernel
theorem dX11_brothersOf_5 : decode cX11_brothersOf 5 = .ok (.aload_n 0, 1) := by decide +kernel
theorem dX11_brothersOf_6 : decode cX11_brothersOf 6 = .ok (.getfield 244, 3) := by decide +kernel
theorem dX11_brothersOf_9 : decode cX11_brothersOf 9 = .ok (.if_icmp .ge 26, 3) := by decide +kernel
theorem dX11_brothersOf_12 : decode cX11_brothersOf 12 = .ok (.iload_n 2, 1) := by decide +kernel
theorem dX11_brothersOf_13 : decode cX11_brothersOf 13 = .ok (.aload_n 0, 1) := by decide +kernel
theorem dX11_brothersOf_14 : decode cX11_brothersOf 14 = .ok (.iload_n 1, 1) := by decide +kernel
theorem dX11_brothersOf_15 : decode cX11_brothersOf 15 = .ok (.iload_n 3, 1) := by decide +kernel
theorem dX11_brothersOf_16 : decode cX11_brothersOf 16 = .ok (.invokevirtual 429, 3) := by decide +kernel
theorem dX11_brothersOf_19 : decode cX11_brothersOf 19 = .ok (.ifCond .eq 7, 3) := by decide +kernel
theorem dX11_brothersOf_22 : decode cX11_brothersOf 22 = .ok (.iconst 1, 1) := by decide +kernel
theorem dX11_brothersOf_23 : decode cX11_brothersOf 23 = .ok (.goto 4, 3) := by decide +kernel
theorem dX11_brothersOf_26 : decode cX11_brothersOf 26 = .ok (.iconst 0, 1) := by decide +kernel
theorem dX11_brothersOf_27 : decode cX11_brothersOf 27 = .ok (.iadd, 1) := by decide +kernel
theorem dX11_brothersOf_28 : decode cX11_brothersOf 28 = .ok (.istore_n 2, 1) := by decide +kernel
theorem dX11_brothersOf_29 : decode cX11_brothersOf 29 = .ok (.iinc 3 1, 3) := by decide +kernel
theorem dX11_brothersOf_32 : decode cX11_brothersOf 32 = .ok (.goto (-28), 3) := by decide +kernel
theorem dX11_brothersOf_35 : decode cX11_brothersOf 35 = .ok (.iload_n 2, 1) := by decide +kernel
theorem dX11_brothersOf_36 : decode cX11_brothersOf 36 = .ok (.ireturn, 1) := by decide +kernel
theorem dX11_brothers_0 : decode cX11_brothers 0 = .ok (.aload_n 0, 1) := by decide +kernel
theorem dX11_brothers_1 : decode cX11_brothers 1 = .ok (.iconst 0, 1) := by decide +kernel
theorem dX11_brothers_2 : decode cX11_brothers 2 = .ok (.putfield 221, 3) := by decide +kernel
theorem dX11_brothers_5 : decode cX11_brothers 5 = .ok (.aload_n 0, 1) := by decide +kernel
theorem dX11_brothers_6 : decode cX11_brothers 6 = .ok (.iload_n 1, 1) := by decide +kernel
theorem dX11_brothers_7 : decode cX11_brothers 7 = .ok (.invokevirtual 254, 3) := by decide +kernel
theorem dX11_brothers_10 : decode cX11_brothers 10 = .ok (.ifCond .ne 5, 3) := by decide +kernel
theorem dX11_brothers_13 : decode cX11_brothers 13 = .ok (.iconst (-1), 1) := by decide +kernel
theorem dX11_brothers_14 : decode cX11_brothers 14 = .ok (.ireturn, 1) := by decide +kernel
theorem dX11_brothers_15 : decode cX11_brothers 15 = .ok (.aload_n 0, 1) := by decide +kernel
theorem dX11_brothers_16 : decode cX11_brothers 16 = .ok (.iload_n 2, 1) := by decide +kernel
theorem dX11_brothers_17 : decode cX11_brothers 17 = .ok (.invokevirtual 422, 3) := by decide +kernel
theorem dX11_brothers_20 : decode cX11_brothers 20 = .ok (.aload_n 0, 1) := by decide +kernel
theorem dX11_brothers_21 : decode cX11_brothers 21 = .ok (.getfield 147, 3) := by decide +kernel
theorem dX11_brothers_24 : decode cX11_brothers 24 = .ok (.iload_n 1, 1) := by decide +kernel
theorem dX11_brothers_25 : decode cX11_brothers 25 = .ok (.baload, 1) := by decide +kernel
theorem dX11_brothers_26 : decode cX11_brothers 26 = .ok (.ifCond .eq 11, 3) := by decide +kernel
theorem dX11_brothers_29 : decode cX11_brothers 29 = .ok (.aload_n 0, 1) := by decide +kernel
theorem dX11_brothers_30 : decode cX11_brothers 30 = .ok (.iload_n 1, 1) := by decide +kernel
theorem dX11_brothers_31 : decode cX11_brothers 31 = .ok (.invokevirtual 432, 3) := by decide +kernel
theorem dX11_brothers_34 : decode cX11_brothers 34 = .ok (.goto 4, 3) := by decide +kernel
theorem dX11_brothers_37 : decode cX11_brothers 37 = .ok (.iconst (-1), 1) := by decide +kernel
theorem dX11_brothers_38 : decode cX11_brothers 38 = .ok (.ireturn, 1) := by decide +kernel
theorem dX11_hold_0 : decode cX11_hold 0 = .ok (.iconst 0, 1) := by decide +kernel
theorem dX11_hold_1 : decode cX11_hold 1 = .ok (.istore_n 3, 1) := by decide +kernel
theorem dX11_hold_2 : decode cX11_hold 2 = .ok (.iload_n 3, 1) := by decide +kernel
theorem dX11_hold_3 : decode cX11_hold 3 = .ok (.sipush 360, 3) := by decide +kernel
theorem dX11_hold_6 : decode cX11_hold 6 = .ok (.if_icmp .ge 16, 3) := by decide +kernel
theorem dX11_hold_9 : decode cX11_hold 9 = .ok (.aload_n 0, 1) := by decide +kernel
theorem dX11_hold_10 : decode cX11_hold 10 = .ok (.getfield 153, 3) := by decide +kernel
theorem dX11_hold_13 : decode cX11_hold 13 = .ok (.iload_n 3, 1) := by decide +kernel
theorem dX11_hold_14 : decode cX11_hold 14 = .ok (.iconst 0, 1) := by decide +kernel
theorem dX11_hold_15 : decode cX11_hold 15 = .ok (.iastore, 1) := by decide +kernel
theorem dX11_hold_16 : decode cX11_hold 16 = .ok (.iinc 3 1, 3) := by decide +kernel
theorem dX11_hold_19 : decode cX11_hold 19 = .ok (.goto (-17), 3) := by decide +kernel
theorem dX11_hold_22 : decode cX11_hold 22 = .ok (.iconst 0, 1) := by decide +kernel
theorem dX11_hold_23 : decode cX11_hold 23 = .ok (.istore_n 3, 1) := by decide +kernel
theorem dX11_hold_24 : decode cX11_hold 24 = .ok (.iload_n 3, 1) := by decide +kernel
theorem dX11_hold_25 : decode cX11_hold 25 = .ok (.bipush 60, 2) := by decide +kernel
theorem dX11_hold_27 : decode cX11_hold 27 = .ok (.if_icmp .ge 16, 3) := by decide +kernel
theorem dX11_hold_30 : decode cX11_hold 30 = .ok (.aload_n 0, 1) := by decide +kernel
theorem dX11_hold_31 : decode cX11_hold 31 = .ok (.getfield 156, 3) := by decide +kernel
theorem dX11_hold_34 : decode cX11_hold 34 = .ok (.iload_n 3, 1) := by decide +kernel
theorem dX11_hold_35 : decode cX11_hold 35 = .ok (.iconst 0, 1) := by decide +kernel
theorem dX11_hold_36 : decode cX11_hold 36 = .ok (.iastore, 1) := by decide +kernel
theorem dX11_hold_37 : decode cX11_hold 37 = .ok (.iinc 3 1, 3) := by decide +kernel
theorem dX11_hold_40 : decode cX11_hold 40 = .ok (.goto (-16), 3) := by decide +kernel
theorem dX11_hold_43 : decode cX11_hold 43 = .ok (.iconst 0, 1) := by decide +kernel
theorem dX11_hold_44 : decode cX11_hold 44 = .ok (.istore_n 3, 1) := by decide +kernel
theorem dX11_hold_45 : decode cX11_hold 45 = .ok (.iload_n 3, 1) := by decide +kernel
theorem dX11_hold_46 : decode cX11_hold 46 = .ok (.aload_n 0, 1) := by decide +kernel
theorem dX11_hold_47 : decode cX11_hold 47 = .ok (.getfield 260, 3) := by decide +kernel
theorem dX11_hold_50 : decode cX11_hold 50 = .ok (.if_icmp .ge 65, 3) := by decide +kernel
theorem dX11_hold_53 : decode cX11_hold 53 = .ok (.aload_n 0, 1) := by decide +kernel
theorem dX11_hold_54 : decode cX11_hold 54 = .ok (.getfield 47, 3) := by decide +kernel
theorem dX11_hold_57 : decode cX11_hold 57 = .ok (.iload_n 3, 1) := by decide +kernel
theorem dX11_hold_58 : decode cX11_hold 58 = .ok (.iaload, 1) := by decide +kernel
theorem dX11_hold_59 : decode cX11_hold 59 = .ok (.iload_n 2, 1) := by decide +kernel
theorem dX11_hold_60 : decode cX11_hold 60 = .ok (.if_icmp .gt 49, 3) := by decide +kernel
theorem dX11_hold_63 : decode cX11_hold 63 = .ok (.iload_n 1, 1) := by decide +kernel
theorem dX11_hold_64 : decode cX11_hold 64 = .ok (.aload_n 0, 1) := by decide +kernel
theorem dX11_hold_65 : decode cX11_hold 65 = .ok (.getfield 41, 3) := by decide +kernel
theorem dX11_hold_68 : decode cX11_hold 68 = .ok (.iload_n 3, 1) := by decide +kernel
theorem dX11_hold_69 : decode cX11_hold 69 = .ok (.iaload, 1) := by decide +kernel
theorem dX11_hold_70 : decode cX11_hold 70 = .ok (.aload_n 0, 1) := by decide +kernel
theorem dX11_hold_71 : decode cX11_hold 71 = .ok (.getfield 44, 3) := by decide +kernel
theorem dX11_hold_74 : decode cX11_hold 74 = .ok (.iload_n 3, 1) := by decide +kernel
theorem dX11_hold_75 : decode cX11_hold 75 = .ok (.iaload, 1) := by decide +kernel
theorem dX11_hold_76 : decode cX11_hold 76 = .ok (.invokestatic 237, 3) := by decide +kernel
theorem dX11_hold_79 : decode cX11_hold 79 = .ok (.ifCond .eq 30, 3) := by decide +kernel
theorem dX11_hold_82 : decode cX11_hold 82 = .ok (.aload_n 0, 1) := by decide +kernel
theorem dX11_hold_83 : decode cX11_hold 83 = .ok (.getfield 153, 3) := by decide +kernel
theorem dX11_hold_86 : decode cX11_hold 86 = .ok (.bipush 6, 2) := by decide +kernel
theorem dX11_hold_88 : decode cX11_hold 88 = .ok (.aload_n 0, 1) := by decide +kernel
theorem dX11_hold_89 : decode cX11_hold 89 = .ok (.getfield 32, 3) := by decide +kernel
theorem dX11_hold_92 : decode cX11_hold 92 = .ok (.iload_n 3, 1) := by decide +kernel
theorem dX11_hold_93 : decode cX11_hold 93 = .ok (.iaload, 1) := by decide +kernel
theorem dX11_hold_94 : decode cX11_hold 94 = .ok (.imul, 1) := by decide +kernel
theorem dX11_hold_95 : decode cX11_hold 95 = .ok (.aload_n 0, 1) := by decide +kernel
theorem dX11_hold_96 : decode cX11_hold 96 = .ok (.getfield 35, 3) := by decide +kernel
theorem dX11_hold_99 : decode cX11_hold 99 = .ok (.iload_n 3, 1) := by decide +kernel
theorem dX11_hold_100 : decode cX11_hold 100 = .ok (.iaload, 1) := by decide +kernel
theorem dX11_hold_101 : decode cX11_hold 101 = .ok (.iadd, 1) := by decide +kernel
theorem dX11_hold_102 : decode cX11_hold 102 = .ok (.aload_n 0, 1) := by decide +kernel
theorem dX11_hold_103 : decode cX11_hold 103 = .ok (.getfield 38, 3) := by decide +kernel
theorem dX11_hold_106 : decode cX11_hold 106 = .ok (.iload_n 3, 1) := by decide +kernel
theorem dX11_hold_107 : decode cX11_hold 107 = .ok (.iaload, 1) := by decide +kernel
theorem dX11_hold_108 : decode cX11_hold 108 = .ok (.iastore, 1) := by decide +kernel
theorem dX11_hold_109 : decode cX11_hold 109 = .ok (.iinc 3 1, 3) := by decide +kernel
theorem dX11_hold_112 : decode cX11_hold 112 = .ok (.goto (-67), 3) := by decide +kernel
theorem dX11_hold_115 : decode cX11_hold 115 = .ok (.iconst 0, 1) := by decide +kernel
theorem dX11_hold_116 : decode cX11_hold 116 = .ok (.istore_n 3, 1) := by decide +kernel
theorem dX11_hold_117 : decode cX11_hold 117 = .ok (.iload_n 3, 1) := by decide +kernel
theorem dX11_hold_118 : decode cX11_hold 118 = .ok (.aload_n 0, 1) := by decide +kernel
theorem dX11_hold_119 : decode cX11_hold 119 = .ok (.getfield 263, 3) := by decide +kernel
theorem dX11_hold_122 : decode cX11_hold 122 = .ok (.if_icmp .ge 46, 3) := by decide +kernel
theorem dX11_hold_125 : decode cX11_hold 125 = .ok (.aload_n 0, 1) := by decide +kernel
theorem dX11_hold_126 : decode cX11_hold 126 = .ok (.getfield 59, 3) := by decide +kernel
theorem dX11_hold_129 : decode cX11_hold 129 = .ok (.iload_n 3, 1) := by decide +kernel
theorem dX11_hold_130 : decode cX11_hold 130 = .ok (.iaload, 1) := by decide +kernel
theorem dX11_hold_131 : decode cX11_hold 131 = .ok (.iload_n 2, 1) := by decide +kernel
theorem dX11_hold_132 : decode cX11_hold 132 = .ok (.if_icmp .gt 30, 3) := by decide +kernel
theorem dX11_hold_135 : decode cX11_hold 135 = .ok (.aload_n 0, 1) := by decide +kernel
theorem dX11_hold_136 : decode cX11_hold 136 = .ok (.getfield 59, 3) := by decide +kernel
theorem dX11_hold_139 : decode cX11_hold 139 = .ok (.iload_n 3, 1) := by decide +kernel
theorem dX11_hold_140 : decode cX11_hold 140 = .ok (.iaload, 1) := by decide +kernel
theorem dX11_hold_141 : decode cX11_hold 141 = .ok (.iload_n 1, 1) := by decide +kernel
theorem dX11_hold_142 : decode cX11_hold 142 = .ok (.if_icmp .gt 20, 3) := by decide +kernel
theorem dX11_hold_145 : decode cX11_hold 145 = .ok (.aload_n 0, 1) := by decide +kernel
theorem dX11_hold_146 : decode cX11_hold 146 = .ok (.getfield 156, 3) := by decide +kernel
theorem dX11_hold_149 : decode cX11_hold 149 = .ok (.aload_n 0, 1) := by decide +kernel
theorem dX11_hold_150 : decode cX11_hold 150 = .ok (.getfield 50, 3) := by decide +kernel
theorem dX11_hold_153 : decode cX11_hold 153 = .ok (.iload_n 3, 1) := by decide +kernel
theorem dX11_hold_154 : decode cX11_hold 154 = .ok (.iaload, 1) := by decide +kernel
theorem dX11_hold_155 : decode cX11_hold 155 = .ok (.aload_n 0, 1) := by decide +kernel
theorem dX11_hold_156 : decode cX11_hold 156 = .ok (.getfield 56, 3) := by decide +kernel
theorem dX11_hold_159 : decode cX11_hold 159 = .ok (.iload_n 3, 1) := by decide +kernel
theorem dX11_hold_160 : decode cX11_hold 160 = .ok (.iaload, 1) := by decide +kernel
theorem dX11_hold_161 : decode cX11_hold 161 = .ok (.iastore, 1) := by decide +kernel
theorem dX11_hold_162 : decode cX11_hold 162 = .ok (.iinc 3 1, 3) := by decide +kernel
theorem dX11_hold_165 : decode cX11_hold 165 = .ok (.goto (-48), 3) := by decide +kernel
theorem dX11_hold_168 : decode cX11_hold 168 = .ok (.return_, 1) := by decide +kernel
theorem dX11_servingOf_0 : decode cX11_servingOf 0 = .ok (.iconst 0, 1) := by decide +kernel
theorem dX11_servingOf_1 : decode cX11_servingOf 1 = .ok (.istore_n 3, 1) := by decide +kernel
theorem dX11_servingOf_2 : decode cX11_servingOf 2 = .ok (.iconst 0, 1) := by decide +kernel
theorem dX11_servingOf_3 : decode cX11_servingOf 3 = .ok (.istore 4, 2) := by decide +kernel
theorem dX11_servingOf_5 : decode cX11_servingOf 5 = .ok (.iload 4, 2) := by decide +kernel
theorem dX11_servingOf_7 : decode cX11_servingOf 7 = .ok (.aload_n 0, 1) := by decide +kernel
theorem dX11_servingOf_8 : decode cX11_servingOf 8 = .ok (.getfield 244, 3) := by decide +kernel
theorem dX11_servingOf_11 : decode cX11_servingOf 11 = .ok (.if_icmp .ge 78, 3) := by decide +kernel
theorem dX11_servingOf_14 : decode cX11_servingOf 14 = .ok (.iconst 0, 1) := by decide +kernel
theorem dX11_servingOf_15 : decode cX11_servingOf 15 = .ok (.istore 5, 2) := by decide +kernel
theorem dX11_servingOf_17 : decode cX11_servingOf 17 = .ok (.iconst 0, 1) := by decide +kernel
theorem dX11_servingOf_18 : decode cX11_servingOf 18 = .ok (.istore 6, 2) := by decide +kernel
theorem dX11_servingOf_20 : decode cX11_servingOf 20 = .ok (.iload 6, 2) := by decide +kernel
theorem dX11_servingOf_22 : decode cX11_servingOf 22 = .ok (.iload_n 2, 1) := by decide +kernel
theorem dX11_servingOf_23 : decode cX11_servingOf 23 = .ok (.if_icmp .ge 37, 3) := by decide +kernel
theorem dX11_servingOf_26 : decode cX11_servingOf 26 = .ok (.iload 5, 2) := by decide +kernel
theorem dX11_servingOf_28 : decode cX11_servingOf 28 = .ok (.ifCond .ne 19, 3) := by decide +kernel
theorem dX11_servingOf_31 : decode cX11_servingOf 31 = .ok (.aload_n 0, 1) := by decide +kernel
theorem dX11_servingOf_32 : decode cX11_servingOf 32 = .ok (.getfield 192, 3) := by decide +kernel
theorem dX11_servingOf_35 : decode cX11_servingOf 35 = .ok (.bipush 60, 2) := by decide +kernel
theorem dX11_servingOf_37 : decode cX11_servingOf 37 = .ok (.iload 6, 2) := by decide +kernel
theorem dX11_servingOf_39 : decode cX11_servingOf 39 = .ok (.imul, 1) := by decide +kernel
theorem dX11_servingOf_40 : decode cX11_servingOf 40 = .ok (.iload 4, 2) := by decide +kernel
theorem dX11_servingOf_42 : decode cX11_servingOf 42 = .ok (.iadd, 1) := by decide +kernel
theorem dX11_servingOf_43 : decode cX11_servingOf 43 = .ok (.baload, 1) := by decide +kernel
theorem dX11_servingOf_44 : decode cX11_servingOf 44 = .ok (.ifCond .eq 7, 3) := by decide +kernel
theorem dX11_servingOf_47 : decode cX11_servingOf 47 = .ok (.iconst 1, 1) := by decide +kernel
theorem dX11_servingOf_48 : decode cX11_servingOf 48 = .ok (.goto 4, 3) := by decide +kernel
theorem dX11_servingOf_51 : decode cX11_servingOf 51 = .ok (.iconst 0, 1) := by decide +kernel
theorem dX11_servingOf_52 : decode cX11_servingOf 52 = .ok (.istore 5, 2) := by decide +kernel
theorem dX11_servingOf_54 : decode cX11_servingOf 54 = .ok (.iinc 6 1, 3) := by decide +kernel
theorem dX11_servingOf_57 : decode cX11_servingOf 57 = .ok (.goto (-37), 3) := by decide +kernel
theorem dX11_servingOf_60 : decode cX11_servingOf 60 = .ok (.iload_n 3, 1) := by decide +kernel
theorem dX11_servingOf_61 : decode cX11_servingOf 61 = .ok (.iload 5, 2) := by decide +kernel
theorem dX11_servingOf_63 : decode cX11_servingOf 63 = .ok (.ifCond .eq 17, 3) := by decide +kernel
theorem dX11_servingOf_66 : decode cX11_servingOf 66 = .ok (.aload_n 0, 1) := by decide +kernel
theorem dX11_servingOf_67 : decode cX11_servingOf 67 = .ok (.iload_n 1, 1) := by decide +kernel
theorem dX11_servingOf_68 : decode cX11_servingOf 68 = .ok (.iload 4, 2) := by decide +kernel
theorem dX11_servingOf_70 : decode cX11_servingOf 70 = .ok (.invokevirtual 429, 3) := by decide +kernel
theorem dX11_servingOf_73 : decode cX11_servingOf 73 = .ok (.ifCond .eq 7, 3) := by decide +kernel
theorem dX11_servingOf_76 : decode cX11_servingOf 76 = .ok (.iconst 1, 1) := by decide +kernel
theorem dX11_servingOf_77 : decode cX11_servingOf 77 = .ok (.goto 4, 3) := by decide +kernel
theorem dX11_servingOf_80 : decode cX11_servingOf 80 = .ok (.iconst 0, 1) := by decide +kernel
theorem dX11_servingOf_81 : decode cX11_servingOf 81 = .ok (.iadd, 1) := by decide +kernel
theorem dX11_servingOf_82 : decode cX11_servingOf 82 = .ok (.istore_n 3, 1) := by decide +kernel
theorem dX11_servingOf_83 : decode cX11_servingOf 83 = .ok (.iinc 4 1, 3) := by decide +kernel
theorem dX11_servingOf_86 : decode cX11_servingOf 86 = .ok (.goto (-81), 3) := by decide +kernel
theorem dX11_servingOf_89 : decode cX11_servingOf 89 = .ok (.iload_n 3, 1) := by decide +kernel
theorem dX11_servingOf_90 : decode cX11_servingOf 90 = .ok (.ireturn, 1) := by decide +kernel
