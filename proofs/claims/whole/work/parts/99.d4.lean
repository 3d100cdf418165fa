theorem k_169 {X : zX} {dep : Nat} {h : zH} (h0 : h 169 = zd 169) (hdep : 1 ≤ dep) : yW mX11_init X dep 68 10370 170 0 (zar 0 [xR 169]) [] h (zKq 169 238 238 h) := by
  have i := zIn.start h0
  have i : zIn 169 170 h h [(169, [])] := i
  refine y_aload_n 0 dX11_init_0 rfl ?_
  refine y_obj dX11_init_1 zb_1123 zb_111 zb_112 (by decide) (by omega) (by decide) (by decide) ?_
  refine y_aload_n 0 dX11_init_4 rfl ?_
  refine y_sipush dX11_init_5 ⟨by decide, by decide⟩ (by decide) ?_
  refine y_arr (t := 4) (N := 340) (q := 170) (q1 := 171) 171 67 10030 dX11_init_8 rfl (by decide) zb_129 (by decide +kernel) (by decide) (by decide) (by decide) (by decide) rfl rfl rfl i (by decide) rfl (by decide +kernel) (fun h i => ?_)
  refine y_fldF (k := 1) (kz := 1) pk11 dX11_init_10 (by decide) zb_1125 rfl rfl rfl (by decide) (zFit_arr _ _) (zOb.lit (by decide +kernel)) rfl i (by decide) (by decide +kernel) (fun h i => ?_)
  refine y_aload_n 0 dX11_init_13 rfl ?_
  refine y_bipush dX11_init_14 ⟨by decide, by decide⟩ (by decide) ?_
  refine y_arr (t := 1) (N := 60) (q := 171) (q1 := 172) 172 66 9970 dX11_init_16 rfl (by decide) zb_153 (by decide +kernel) (by decide) (by decide) (by decide) (by decide) rfl rfl rfl i (by decide) rfl (by decide +kernel) (fun h i => ?_)
  refine y_fldF (k := 6) (kz := 6) pk11 dX11_init_18 (by decide) zb_1130 rfl rfl rfl (by decide) (zFit_arr _ _) (zOb.lit (by decide +kernel)) rfl i (by decide) (by decide +kernel) (fun h i => ?_)
  refine y_aload_n 0 dX11_init_21 rfl ?_
  refine y_bipush dX11_init_22 ⟨by decide, by decide⟩ (by decide) ?_
  refine y_arr (t := 1) (N := 60) (q := 172) (q1 := 173) 173 65 9910 dX11_init_24 rfl (by decide) zb_153 (by decide +kernel) (by decide) (by decide) (by decide) (by decide) rfl rfl rfl i (by decide) rfl (by decide +kernel) (fun h i => ?_)
  refine y_fldF (k := 7) (kz := 7) pk11 dX11_init_26 (by decide) zb_1131 rfl rfl rfl (by decide) (zFit_arr _ _) (zOb.lit (by decide +kernel)) rfl i (by decide) (by decide +kernel) (fun h i => ?_)
  refine y_aload_n 0 dX11_init_29 rfl ?_
  refine y_bipush dX11_init_30 ⟨by decide, by decide⟩ (by decide) ?_
  refine y_arr (t := 1) (N := 60) (q := 173) (q1 := 174) 174 64 9850 dX11_init_32 rfl (by decide) zb_153 (by decide +kernel) (by decide) (by decide) (by decide) (by decide) rfl rfl rfl i (by decide) rfl (by decide +kernel) (fun h i => ?_)
  refine y_fldF (k := 8) (kz := 8) pk11 dX11_init_34 (by decide) zb_1132 rfl rfl rfl (by decide) (zFit_arr _ _) (zOb.lit (by decide +kernel)) rfl i (by decide) (by decide +kernel) (fun h i => ?_)
  refine y_aload_n 0 dX11_init_37 rfl ?_
  refine y_bipush dX11_init_38 ⟨by decide, by decide⟩ (by decide) ?_
  refine y_arr (t := 1) (N := 100) (q := 174) (q1 := 175) 175 63 9750 dX11_init_40 rfl (by decide) zb_153 (by decide +kernel) (by decide) (by decide) (by decide) (by decide) rfl rfl rfl i (by decide) rfl (by decide +kernel) (fun h i => ?_)
  refine y_fldF (k := 9) (kz := 9) pk11 dX11_init_42 (by decide) zb_1133 rfl rfl rfl (by decide) (zFit_arr _ _) (zOb.lit (by decide +kernel)) rfl i (by decide) (by decide +kernel) (fun h i => ?_)
  refine y_aload_n 0 dX11_init_45 rfl ?_
  refine y_bipush dX11_init_46 ⟨by decide, by decide⟩ (by decide) ?_
  refine y_arr (t := 1) (N := 100) (q := 175) (q1 := 176) 176 62 9650 dX11_init_48 rfl (by decide) zb_153 (by decide +kernel) (by decide) (by decide) (by decide) (by decide) rfl rfl rfl i (by decide) rfl (by decide +kernel) (fun h i => ?_)
  refine y_fldF (k := 10) (kz := 10) pk11 dX11_init_50 (by decide) zb_1134 rfl rfl rfl (by decide) (zFit_arr _ _) (zOb.lit (by decide +kernel)) rfl i (by decide) (by decide +kernel) (fun h i => ?_)
  refine y_aload_n 0 dX11_init_53 rfl ?_
  refine y_bipush dX11_init_54 ⟨by decide, by decide⟩ (by decide) ?_
  refine y_arr (t := 1) (N := 100) (q := 176) (q1 := 177) 177 61 9550 dX11_init_56 rfl (by decide) zb_153 (by decide +kernel) (by decide) (by decide) (by decide) (by decide) rfl rfl rfl i (by decide) rfl (by decide +kernel) (fun h i => ?_)
  refine y_fldF (k := 11) (kz := 11) pk11 dX11_init_58 (by decide) zb_1135 rfl rfl rfl (by decide) (zFit_arr _ _) (zOb.lit (by decide +kernel)) rfl i (by decide) (by decide +kernel) (fun h i => ?_)
  refine y_aload_n 0 dX11_init_61 rfl ?_
  refine y_sipush dX11_init_62 ⟨by decide, by decide⟩ (by decide) ?_
  refine y_arr (t := 1) (N := 240) (q := 177) (q1 := 178) 178 60 9310 dX11_init_65 rfl (by decide) zb_153 (by decide +kernel) (by decide) (by decide) (by decide) (by decide) rfl rfl rfl i (by decide) rfl (by decide +kernel) (fun h i => ?_)
  refine y_fldF (k := 12) (kz := 12) pk11 dX11_init_67 (by decide) zb_1136 rfl rfl rfl (by decide) (zFit_arr _ _) (zOb.lit (by decide +kernel)) rfl i (by decide) (by decide +kernel) (fun h i => ?_)
  refine y_aload_n 0 dX11_init_70 rfl ?_
  refine y_sipush dX11_init_71 ⟨by decide, by decide⟩ (by decide) ?_
  refine y_arr (t := 1) (N := 240) (q := 178) (q1 := 179) 179 59 9070 dX11_init_74 rfl (by decide) zb_153 (by decide +kernel) (by decide) (by decide) (by decide) (by decide) rfl rfl rfl i (by decide) rfl (by decide +kernel) (fun h i => ?_)
  refine y_fldF (k := 13) (kz := 13) pk11 dX11_init_76 (by decide) zb_1137 rfl rfl rfl (by decide) (zFit_arr _ _) (zOb.lit (by decide +kernel)) rfl i (by decide) (by decide +kernel) (fun h i => ?_)
  refine y_aload_n 0 dX11_init_79 rfl ?_
  refine y_sipush dX11_init_80 ⟨by decide, by decide⟩ (by decide) ?_
  refine y_arr (t := 1) (N := 240) (q := 179) (q1 := 180) 180 58 8830 dX11_init_83 rfl (by decide) zb_153 (by decide +kernel) (by decide) (by decide) (by decide) (by decide) rfl rfl rfl i (by decide) rfl (by decide +kernel) (fun h i => ?_)
  refine y_fldF (k := 14) (kz := 14) pk11 dX11_init_85 (by decide) zb_1138 rfl rfl rfl (by decide) (zFit_arr _ _) (zOb.lit (by decide +kernel)) rfl i (by decide) (by decide +kernel) (fun h i => ?_)
  refine y_aload_n 0 dX11_init_88 rfl ?_
  refine y_sipush dX11_init_89 ⟨by decide, by decide⟩ (by decide) ?_
  refine y_arr (t := 1) (N := 240) (q := 180) (q1 := 181) 181 57 8590 dX11_init_92 rfl (by decide) zb_153 (by decide +kernel) (by decide) (by decide) (by decide) (by decide) rfl rfl rfl i (by decide) rfl (by decide +kernel) (fun h i => ?_)
  refine y_fldF (k := 15) (kz := 15) pk11 dX11_init_94 (by decide) zb_1139 rfl rfl rfl (by decide) (zFit_arr _ _) (zOb.lit (by decide +kernel)) rfl i (by decide) (by decide +kernel) (fun h i => ?_)
  refine y_aload_n 0 dX11_init_97 rfl ?_
  refine y_sipush dX11_init_98 ⟨by decide, by decide⟩ (by decide) ?_
  refine y_arr (t := 1) (N := 240) (q := 181) (q1 := 182) 182 56 8350 dX11_init_101 rfl (by decide) zb_153 (by decide +kernel) (by decide) (by decide) (by decide) (by decide) rfl rfl rfl i (by decide) rfl (by decide +kernel) (fun h i => ?_)
  refine y_fldF (k := 16) (kz := 16) pk11 dX11_init_103 (by decide) zb_1140 rfl rfl rfl (by decide) (zFit_arr _ _) (zOb.lit (by decide +kernel)) rfl i (by decide) (by decide +kernel) (fun h i => ?_)
  refine y_aload_n 0 dX11_init_106 rfl ?_
  refine y_sipush dX11_init_107 ⟨by decide, by decide⟩ (by decide) ?_
  refine y_arr (t := 1) (N := 240) (q := 182) (q1 := 183) 183 55 8110 dX11_init_110 rfl (by decide) zb_153 (by decide +kernel) (by decide) (by decide) (by decide) (by decide) rfl rfl rfl i (by decide) rfl (by decide +kernel) (fun h i => ?_)
  refine y_fldF (k := 17) (kz := 17) pk11 dX11_init_112 (by decide) zb_1141 rfl rfl rfl (by decide) (zFit_arr _ _) (zOb.lit (by decide +kernel)) rfl i (by decide) (by decide +kernel) (fun h i => ?_)
  refine y_aload_n 0 dX11_init_115 rfl ?_
  refine y_bipush dX11_init_116 ⟨by decide, by decide⟩ (by decide) ?_
  refine y_arr (t := 1) (N := 60) (q := 183) (q1 := 184) 184 54 8050 dX11_init_118 rfl (by decide) zb_153 (by decide +kernel) (by decide) (by decide) (by decide) (by decide) rfl rfl rfl i (by decide) rfl (by decide +kernel) (fun h i => ?_)
  refine y_fldF (k := 18) (kz := 18) pk11 dX11_init_120 (by decide) zb_1142 rfl rfl rfl (by decide) (zFit_arr _ _) (zOb.lit (by decide +kernel)) rfl i (by decide) (by decide +kernel) (fun h i => ?_)
  refine y_aload_n 0 dX11_init_123 rfl ?_
  refine y_bipush dX11_init_124 ⟨by decide, by decide⟩ (by decide) ?_
  refine y_arr (t := 1) (N := 60) (q := 184) (q1 := 185) 185 53 7990 dX11_init_126 rfl (by decide) zb_153 (by decide +kernel) (by decide) (by decide) (by decide) (by decide) rfl rfl rfl i (by decide) rfl (by decide +kernel) (fun h i => ?_)
  refine y_fldF (k := 19) (kz := 19) pk11 dX11_init_128 (by decide) zb_1143 rfl rfl rfl (by decide) (zFit_arr _ _) (zOb.lit (by decide +kernel)) rfl i (by decide) (by decide +kernel) (fun h i => ?_)
  refine y_aload_n 0 dX11_init_131 rfl ?_
  refine y_bipush dX11_init_132 ⟨by decide, by decide⟩ (by decide) ?_
  refine y_arr (t := 1) (N := 60) (q := 185) (q1 := 186) 186 52 7930 dX11_init_134 rfl (by decide) zb_153 (by decide +kernel) (by decide) (by decide) (by decide) (by decide) rfl rfl rfl i (by decide) rfl (by decide +kernel) (fun h i => ?_)
  refine y_fldF (k := 20) (kz := 20) pk11 dX11_init_136 (by decide) zb_1144 rfl rfl rfl (by decide) (zFit_arr _ _) (zOb.lit (by decide +kernel)) rfl i (by decide) (by decide +kernel) (fun h i => ?_)
  refine y_aload_n 0 dX11_init_139 rfl ?_
  refine y_bipush dX11_init_140 ⟨by decide, by decide⟩ (by decide) ?_
  refine y_arr (t := 1) (N := 60) (q := 186) (q1 := 187) 187 51 7870 dX11_init_142 rfl (by decide) zb_153 (by decide +kernel) (by decide) (by decide) (by decide) (by decide) rfl rfl rfl i (by decide) rfl (by decide +kernel) (fun h i => ?_)
  refine y_fldF (k := 21) (kz := 21) pk11 dX11_init_144 (by decide) zb_1145 rfl rfl rfl (by decide) (zFit_arr _ _) (zOb.lit (by decide +kernel)) rfl i (by decide) (by decide +kernel) (fun h i => ?_)
  refine y_aload_n 0 dX11_init_147 rfl ?_
  refine y_bipush dX11_init_148 ⟨by decide, by decide⟩ (by decide) ?_
  refine y_arr (t := 1) (N := 40) (q := 187) (q1 := 188) 188 50 7830 dX11_init_150 rfl (by decide) zb_153 (by decide +kernel) (by decide) (by decide) (by decide) (by decide) rfl rfl rfl i (by decide) rfl (by decide +kernel) (fun h i => ?_)
  refine y_fldF (k := 22) (kz := 22) pk11 dX11_init_152 (by decide) zb_1146 rfl rfl rfl (by decide) (zFit_arr _ _) (zOb.lit (by decide +kernel)) rfl i (by decide) (by decide +kernel) (fun h i => ?_)
  refine y_aload_n 0 dX11_init_155 rfl ?_
  refine y_bipush dX11_init_156 ⟨by decide, by decide⟩ (by decide) ?_
  refine y_arr (t := 1) (N := 40) (q := 188) (q1 := 189) 189 49 7790 dX11_init_158 rfl (by decide) zb_153 (by decide +kernel) (by decide) (by decide) (by decide) (by decide) rfl rfl rfl i (by decide) rfl (by decide +kernel) (fun h i => ?_)
  refine y_fldF (k := 23) (kz := 23) pk11 dX11_init_160 (by decide) zb_1147 rfl rfl rfl (by decide) (zFit_arr _ _) (zOb.lit (by decide +kernel)) rfl i (by decide) (by decide +kernel) (fun h i => ?_)
  refine y_aload_n 0 dX11_init_163 rfl ?_
  refine y_bipush dX11_init_164 ⟨by decide, by decide⟩ (by decide) ?_
  refine y_arr (t := 1) (N := 40) (q := 189) (q1 := 190) 190 48 7750 dX11_init_166 rfl (by decide) zb_153 (by decide +kernel) (by decide) (by decide) (by decide) (by decide) rfl rfl rfl i (by decide) rfl (by decide +kernel) (fun h i => ?_)
  refine y_fldF (k := 24) (kz := 24) pk11 dX11_init_168 (by decide) zb_1148 rfl rfl rfl (by decide) (zFit_arr _ _) (zOb.lit (by decide +kernel)) rfl i (by decide) (by decide +kernel) (fun h i => ?_)
  refine y_aload_n 0 dX11_init_171 rfl ?_
  refine y_bipush dX11_init_172 ⟨by decide, by decide⟩ (by decide) ?_
  refine y_arr (t := 1) (N := 9) (q := 190) (q1 := 191) 191 47 7741 dX11_init_174 rfl (by decide) zb_153 (by decide +kernel) (by decide) (by decide) (by decide) (by decide) rfl rfl rfl i (by decide) rfl (by decide +kernel) (fun h i => ?_)
  refine y_fldF (k := 30) (kz := 30) pk11 dX11_init_176 (by decide) zb_1154 rfl rfl rfl (by decide) (zFit_arr _ _) (zOb.lit (by decide +kernel)) rfl i (by decide) (by decide +kernel) (fun h i => ?_)
  refine y_aload_n 0 dX11_init_179 rfl ?_
  refine y_bipush dX11_init_180 ⟨by decide, by decide⟩ (by decide) ?_
  refine y_arr (t := 1) (N := 9) (q := 191) (q1 := 192) 192 46 7732 dX11_init_182 rfl (by decide) zb_153 (by decide +kernel) (by decide) (by decide) (by decide) (by decide) rfl rfl rfl i (by decide) rfl (by decide +kernel) (fun h i => ?_)
  refine y_fldF (k := 31) (kz := 31) pk11 dX11_init_184 (by decide) zb_1155 rfl rfl rfl (by decide) (zFit_arr _ _) (zOb.lit (by decide +kernel)) rfl i (by decide) (by decide +kernel) (fun h i => ?_)
  refine y_aload_n 0 dX11_init_187 rfl ?_
  refine y_bipush dX11_init_188 ⟨by decide, by decide⟩ (by decide) ?_
  refine y_arr (t := 1) (N := 9) (q := 192) (q1 := 193) 193 45 7723 dX11_init_190 rfl (by decide) zb_153 (by decide +kernel) (by decide) (by decide) (by decide) (by decide) rfl rfl rfl i (by decide) rfl (by decide +kernel) (fun h i => ?_)
  refine y_fldF (k := 32) (kz := 32) pk11 dX11_init_192 (by decide) zb_1156 rfl rfl rfl (by decide) (zFit_arr _ _) (zOb.lit (by decide +kernel)) rfl i (by decide) (by decide +kernel) (fun h i => ?_)
  refine y_aload_n 0 dX11_init_195 rfl ?_
  refine y_bipush dX11_init_196 ⟨by decide, by decide⟩ (by decide) ?_
  refine y_arr (t := 1) (N := 9) (q := 193) (q1 := 194) 194 44 7714 dX11_init_198 rfl (by decide) zb_153 (by decide +kernel) (by decide) (by decide) (by decide) (by decide) rfl rfl rfl i (by decide) rfl (by decide +kernel) (fun h i => ?_)
  refine y_fldF (k := 33) (kz := 33) pk11 dX11_init_200 (by decide) zb_1157 rfl rfl rfl (by decide) (zFit_arr _ _) (zOb.lit (by decide +kernel)) rfl i (by decide) (by decide +kernel) (fun h i => ?_)
  refine y_aload_n 0 dX11_init_203 rfl ?_
  refine y_bipush dX11_init_204 ⟨by decide, by decide⟩ (by decide) ?_
  refine y_arr (t := 1) (N := 9) (q := 194) (q1 := 195) 195 43 7705 dX11_init_206 rfl (by decide) zb_153 (by decide +kernel) (by decide) (by decide) (by decide) (by decide) rfl rfl rfl i (by decide) rfl (by decide +kernel) (fun h i => ?_)
  refine y_fldF (k := 34) (kz := 34) pk11 dX11_init_208 (by decide) zb_1158 rfl rfl rfl (by decide) (zFit_arr _ _) (zOb.lit (by decide +kernel)) rfl i (by decide) (by decide +kernel) (fun h i => ?_)
  refine y_aload_n 0 dX11_init_211 rfl ?_
  refine y_bipush dX11_init_212 ⟨by decide, by decide⟩ (by decide) ?_
  refine y_arr (t := 1) (N := 9) (q := 195) (q1 := 196) 196 42 7696 dX11_init_214 rfl (by decide) zb_153 (by decide +kernel) (by decide) (by decide) (by decide) (by decide) rfl rfl rfl i (by decide) rfl (by decide +kernel) (fun h i => ?_)
  refine y_fldF (k := 35) (kz := 35) pk11 dX11_init_216 (by decide) zb_1159 rfl rfl rfl (by decide) (zFit_arr _ _) (zOb.lit (by decide +kernel)) rfl i (by decide) (by decide +kernel) (fun h i => ?_)
  refine y_aload_n 0 dX11_init_219 rfl ?_
  refine y_sipush dX11_init_220 ⟨by decide, by decide⟩ (by decide) ?_
  refine y_arr (t := 1) (N := 180) (q := 196) (q1 := 197) 197 41 7516 dX11_init_223 rfl (by decide) zb_153 (by decide +kernel) (by decide) (by decide) (by decide) (by decide) rfl rfl rfl i (by decide) rfl (by decide +kernel) (fun h i => ?_)
  refine y_fldF (k := 36) (kz := 36) pk11 dX11_init_225 (by decide) zb_1160 rfl rfl rfl (by decide) (zFit_arr _ _) (zOb.lit (by decide +kernel)) rfl i (by decide) (by decide +kernel) (fun h i => ?_)
  refine y_aload_n 0 dX11_init_228 rfl ?_
  refine y_sipush dX11_init_229 ⟨by decide, by decide⟩ (by decide) ?_
  refine y_arr (t := 1) (N := 180) (q := 197) (q1 := 198) 198 40 7336 dX11_init_232 rfl (by decide) zb_153 (by decide +kernel) (by decide) (by decide) (by decide) (by decide) rfl rfl rfl i (by decide) rfl (by decide +kernel) (fun h i => ?_)
  refine y_fldF (k := 37) (kz := 37) pk11 dX11_init_234 (by decide) zb_1161 rfl rfl rfl (by decide) (zFit_arr _ _) (zOb.lit (by decide +kernel)) rfl i (by decide) (by decide +kernel) (fun h i => ?_)
  refine y_aload_n 0 dX11_init_237 rfl ?_
  refine y_sipush dX11_init_238 ⟨by decide, by decide⟩ (by decide) ?_
  refine y_arr (t := 1) (N := 180) (q := 198) (q1 := 199) 199 39 7156 dX11_init_241 rfl (by decide) zb_153 (by decide +kernel) (by decide) (by decide) (by decide) (by decide) rfl rfl rfl i (by decide) rfl (by decide +kernel) (fun h i => ?_)
  refine y_fldF (k := 38) (kz := 38) pk11 dX11_init_243 (by decide) zb_1162 rfl rfl rfl (by decide) (zFit_arr _ _) (zOb.lit (by decide +kernel)) rfl i (by decide) (by decide +kernel) (fun h i => ?_)
  refine y_aload_n 0 dX11_init_246 rfl ?_
  refine y_sipush dX11_init_247 ⟨by decide, by decide⟩ (by decide) ?_
  refine y_arr (t := 1) (N := 180) (q := 199) (q1 := 200) 200 38 6976 dX11_init_250 rfl (by decide) zb_153 (by decide +kernel) (by decide) (by decide) (by decide) (by decide) rfl rfl rfl i (by decide) rfl (by decide +kernel) (fun h i => ?_)
  refine y_fldF (k := 39) (kz := 39) pk11 dX11_init_252 (by decide) zb_1163 rfl rfl rfl (by decide) (zFit_arr _ _) (zOb.lit (by decide +kernel)) rfl i (by decide) (by decide +kernel) (fun h i => ?_)
  refine y_aload_n 0 dX11_init_255 rfl ?_
  refine y_sipush dX11_init_256 ⟨by decide, by decide⟩ (by decide) ?_
  refine y_arr (t := 3) (N := 180) (q := 200) (q1 := 201) 201 37 6796 dX11_init_259 rfl (by decide) zb_226 (by decide +kernel) (by decide) (by decide) (by decide) (by decide) rfl rfl rfl i (by decide) rfl (by decide +kernel) (fun h i => ?_)
  refine y_fldF (k := 40) (kz := 40) pk11 dX11_init_261 (by decide) zb_1164 rfl rfl rfl (by decide) (zFit_arr _ _) (zOb.lit (by decide +kernel)) rfl i (by decide) (by decide +kernel) (fun h i => ?_)
  refine y_aload_n 0 dX11_init_264 rfl ?_
  refine y_sipush dX11_init_265 ⟨by decide, by decide⟩ (by decide) ?_
  refine y_arr (t := 1) (N := 1170) (q := 201) (q1 := 202) 202 36 5626 dX11_init_268 rfl (by decide) zb_153 (by decide +kernel) (by decide) (by decide) (by decide) (by decide) rfl rfl rfl i (by decide) rfl (by decide +kernel) (fun h i => ?_)
  refine y_fldF (k := 41) (kz := 41) pk11 dX11_init_270 (by decide) zb_1165 rfl rfl rfl (by decide) (zFit_arr _ _) (zOb.lit (by decide +kernel)) rfl i (by decide) (by decide +kernel) (fun h i => ?_)
  refine y_aload_n 0 dX11_init_273 rfl ?_
  refine y_sipush dX11_init_274 ⟨by decide, by decide⟩ (by decide) ?_
  refine y_arr (t := 1) (N := 1170) (q := 202) (q1 := 203) 203 35 4456 dX11_init_277 rfl (by decide) zb_153 (by decide +kernel) (by decide) (by decide) (by decide) (by decide) rfl rfl rfl i (by decide) rfl (by decide +kernel) (fun h i => ?_)
  refine y_fldF (k := 42) (kz := 42) pk11 dX11_init_279 (by decide) zb_1166 rfl rfl rfl (by decide) (zFit_arr _ _) (zOb.lit (by decide +kernel)) rfl i (by decide) (by decide +kernel) (fun h i => ?_)
  refine y_aload_n 0 dX11_init_282 rfl ?_
  refine y_sipush dX11_init_283 ⟨by decide, by decide⟩ (by decide) ?_
  refine y_arr (t := 1) (N := 1170) (q := 203) (q1 := 204) 204 34 3286 dX11_init_286 rfl (by decide) zb_153 (by decide +kernel) (by decide) (by decide) (by decide) (by decide) rfl rfl rfl i (by decide) rfl (by decide +kernel) (fun h i => ?_)
  refine y_fldF (k := 43) (kz := 43) pk11 dX11_init_288 (by decide) zb_1167 rfl rfl rfl (by decide) (zFit_arr _ _) (zOb.lit (by decide +kernel)) rfl i (by decide) (by decide +kernel) (fun h i => ?_)
  refine y_aload_n 0 dX11_init_291 rfl ?_
  refine y_bipush dX11_init_292 ⟨by decide, by decide⟩ (by decide) ?_
  refine y_arr (t := 1) (N := 80) (q := 204) (q1 := 205) 205 33 3206 dX11_init_294 rfl (by decide) zb_153 (by decide +kernel) (by decide) (by decide) (by decide) (by decide) rfl rfl rfl i (by decide) rfl (by decide +kernel) (fun h i => ?_)
  refine y_fldF (k := 44) (kz := 44) pk11 dX11_init_296 (by decide) zb_1168 rfl rfl rfl (by decide) (zFit_arr _ _) (zOb.lit (by decide +kernel)) rfl i (by decide) (by decide +kernel) (fun h i => ?_)
  refine y_aload_n 0 dX11_init_299 rfl ?_
  refine y_iconst dX11_init_300 ⟨by decide, by decide⟩ ?_
  refine y_arr (t := 1) (N := 4) (q := 205) (q1 := 206) 206 32 3202 dX11_init_301 rfl (by decide) zb_153 (by decide +kernel) (by decide) (by decide) (by decide) (by decide) rfl rfl rfl i (by decide) rfl (by decide +kernel) (fun h i => ?_)
  refine y_fldF (k := 57) (kz := 57) pk11 dX11_init_303 (by decide) zb_1181 rfl rfl rfl (by decide) (zFit_arr _ _) (zOb.lit (by decide +kernel)) rfl i (by decide) (by decide +kernel) (fun h i => ?_)
  refine y_aload_n 0 dX11_init_306 rfl ?_
  refine y_iconst dX11_init_307 ⟨by decide, by decide⟩ ?_
  refine y_arr (t := 1) (N := 4) (q := 206) (q1 := 207) 207 31 3198 dX11_init_308 rfl (by decide) zb_153 (by decide +kernel) (by decide) (by decide) (by decide) (by decide) rfl rfl rfl i (by decide) rfl (by decide +kernel) (fun h i => ?_)
  refine y_fldF (k := 58) (kz := 58) pk11 dX11_init_310 (by decide) zb_1182 rfl rfl rfl (by decide) (zFit_arr _ _) (zOb.lit (by decide +kernel)) rfl i (by decide) (by decide +kernel) (fun h i => ?_)
  refine y_aload_n 0 dX11_init_313 rfl ?_
  refine y_sipush dX11_init_314 ⟨by decide, by decide⟩ (by decide) ?_
  refine y_arr (t := 1) (N := 208) (q := 207) (q1 := 208) 208 30 2990 dX11_init_317 rfl (by decide) zb_153 (by decide +kernel) (by decide) (by decide) (by decide) (by decide) rfl rfl rfl i (by decide) rfl (by decide +kernel) (fun h i => ?_)
  refine y_fldF (k := 59) (kz := 59) pk11 dX11_init_319 (by decide) zb_1183 rfl rfl rfl (by decide) (zFit_arr _ _) (zOb.lit (by decide +kernel)) rfl i (by decide) (by decide +kernel) (fun h i => ?_)
  refine y_aload_n 0 dX11_init_322 rfl ?_
  refine y_sipush dX11_init_323 ⟨by decide, by decide⟩ (by decide) ?_
  refine y_arr (t := 1) (N := 208) (q := 208) (q1 := 209) 209 29 2782 dX11_init_326 rfl (by decide) zb_153 (by decide +kernel) (by decide) (by decide) (by decide) (by decide) rfl rfl rfl i (by decide) rfl (by decide +kernel) (fun h i => ?_)
  refine y_fldF (k := 60) (kz := 60) pk11 dX11_init_328 (by decide) zb_1184 rfl rfl rfl (by decide) (zFit_arr _ _) (zOb.lit (by decide +kernel)) rfl i (by decide) (by decide +kernel) (fun h i => ?_)
  refine y_aload_n 0 dX11_init_331 rfl ?_
  refine y_bipush dX11_init_332 ⟨by decide, by decide⟩ (by decide) ?_
  refine y_arr (t := 1) (N := 104) (q := 209) (q1 := 210) 210 28 2678 dX11_init_334 rfl (by decide) zb_153 (by decide +kernel) (by decide) (by decide) (by decide) (by decide) rfl rfl rfl i (by decide) rfl (by decide +kernel) (fun h i => ?_)
  refine y_fldF (k := 61) (kz := 61) pk11 dX11_init_336 (by decide) zb_1185 rfl rfl rfl (by decide) (zFit_arr _ _) (zOb.lit (by decide +kernel)) rfl i (by decide) (by decide +kernel) (fun h i => ?_)
  refine y_aload_n 0 dX11_init_339 rfl ?_
  refine y_iconst dX11_init_340 ⟨by decide, by decide⟩ ?_
  refine y_arr (t := 3) (N := 4) (q := 210) (q1 := 211) 211 27 2674 dX11_init_341 rfl (by decide) zb_226 (by decide +kernel) (by decide) (by decide) (by decide) (by decide) rfl rfl rfl i (by decide) rfl (by decide +kernel) (fun h i => ?_)
  refine y_fldF (k := 62) (kz := 62) pk11 dX11_init_343 (by decide) zb_1186 rfl rfl rfl (by decide) (zFit_arr _ _) (zOb.lit (by decide +kernel)) rfl i (by decide) (by decide +kernel) (fun h i => ?_)
  refine y_aload_n 0 dX11_init_346 rfl ?_
  refine y_iconst dX11_init_347 ⟨by decide, by decide⟩ ?_
  refine y_arr (t := 3) (N := 4) (q := 211) (q1 := 212) 212 26 2670 dX11_init_348 rfl (by decide) zb_226 (by decide +kernel) (by decide) (by decide) (by decide) (by decide) rfl rfl rfl i (by decide) rfl (by decide +kernel) (fun h i => ?_)
  refine y_fldF (k := 63) (kz := 63) pk11 dX11_init_350 (by decide) zb_1187 rfl rfl rfl (by decide) (zFit_arr _ _) (zOb.lit (by decide +kernel)) rfl i (by decide) (by decide +kernel) (fun h i => ?_)
  refine y_aload_n 0 dX11_init_353 rfl ?_
  refine y_bipush dX11_init_354 ⟨by decide, by decide⟩ (by decide) ?_
  refine y_arr (t := 3) (N := 64) (q := 212) (q1 := 213) 213 25 2606 dX11_init_356 rfl (by decide) zb_226 (by decide +kernel) (by decide) (by decide) (by decide) (by decide) rfl rfl rfl i (by decide) rfl (by decide +kernel) (fun h i => ?_)
  refine y_fldF (k := 64) (kz := 64) pk11 dX11_init_358 (by decide) zb_1188 rfl rfl rfl (by decide) (zFit_arr _ _) (zOb.lit (by decide +kernel)) rfl i (by decide) (by decide +kernel) (fun h i => ?_)
  refine y_aload_n 0 dX11_init_361 rfl ?_
  refine y_bipush dX11_init_362 ⟨by decide, by decide⟩ (by decide) ?_
  refine y_arr (t := 1) (N := 60) (q := 213) (q1 := 214) 214 24 2546 dX11_init_364 rfl (by decide) zb_153 (by decide +kernel) (by decide) (by decide) (by decide) (by decide) rfl rfl rfl i (by decide) rfl (by decide +kernel) (fun h i => ?_)
  refine y_fldF (k := 66) (kz := 66) pk11 dX11_init_366 (by decide) zb_1190 rfl rfl rfl (by decide) (zFit_arr _ _) (zOb.lit (by decide +kernel)) rfl i (by decide) (by decide +kernel) (fun h i => ?_)
  refine y_aload_n 0 dX11_init_369 rfl ?_
  refine y_bipush dX11_init_370 ⟨by decide, by decide⟩ (by decide) ?_
  refine y_arr (t := 1) (N := 60) (q := 214) (q1 := 215) 215 23 2486 dX11_init_372 rfl (by decide) zb_153 (by decide +kernel) (by decide) (by decide) (by decide) (by decide) rfl rfl rfl i (by decide) rfl (by decide +kernel) (fun h i => ?_)
  refine y_fldF (k := 67) (kz := 67) pk11 dX11_init_374 (by decide) zb_1191 rfl rfl rfl (by decide) (zFit_arr _ _) (zOb.lit (by decide +kernel)) rfl i (by decide) (by decide +kernel) (fun h i => ?_)
  refine y_aload_n 0 dX11_init_377 rfl ?_
  refine y_bipush dX11_init_378 ⟨by decide, by decide⟩ (by decide) ?_
  refine y_arr (t := 3) (N := 60) (q := 215) (q1 := 216) 216 22 2426 dX11_init_380 rfl (by decide) zb_226 (by decide +kernel) (by decide) (by decide) (by decide) (by decide) rfl rfl rfl i (by decide) rfl (by decide +kernel) (fun h i => ?_)
  refine y_fldF (k := 68) (kz := 68) pk11 dX11_init_382 (by decide) zb_1192 rfl rfl rfl (by decide) (zFit_arr _ _) (zOb.lit (by decide +kernel)) rfl i (by decide) (by decide +kernel) (fun h i => ?_)
  refine y_aload_n 0 dX11_init_385 rfl ?_
  refine y_bipush dX11_init_386 ⟨by decide, by decide⟩ (by decide) ?_
  refine y_arr (t := 3) (N := 60) (q := 216) (q1 := 217) 217 21 2366 dX11_init_388 rfl (by decide) zb_226 (by decide +kernel) (by decide) (by decide) (by decide) (by decide) rfl rfl rfl i (by decide) rfl (by decide +kernel) (fun h i => ?_)
  refine y_fldF (k := 69) (kz := 69) pk11 dX11_init_390 (by decide) zb_1193 rfl rfl rfl (by decide) (zFit_arr _ _) (zOb.lit (by decide +kernel)) rfl i (by decide) (by decide +kernel) (fun h i => ?_)
  refine y_aload_n 0 dX11_init_393 rfl ?_
  refine y_sipush dX11_init_394 ⟨by decide, by decide⟩ (by decide) ?_
  refine y_arr (t := 1) (N := 360) (q := 217) (q1 := 218) 218 20 2006 dX11_init_397 rfl (by decide) zb_153 (by decide +kernel) (by decide) (by decide) (by decide) (by decide) rfl rfl rfl i (by decide) rfl (by decide +kernel) (fun h i => ?_)
  refine y_fldF (k := 70) (kz := 70) pk11 dX11_init_399 (by decide) zb_1194 rfl rfl rfl (by decide) (zFit_arr _ _) (zOb.lit (by decide +kernel)) rfl i (by decide) (by decide +kernel) (fun h i => ?_)
  refine y_aload_n 0 dX11_init_402 rfl ?_
  refine y_bipush dX11_init_403 ⟨by decide, by decide⟩ (by decide) ?_
  refine y_arr (t := 1) (N := 60) (q := 218) (q1 := 219) 219 19 1946 dX11_init_405 rfl (by decide) zb_153 (by decide +kernel) (by decide) (by decide) (by decide) (by decide) rfl rfl rfl i (by decide) rfl (by decide +kernel) (fun h i => ?_)
  refine y_fldF (k := 71) (kz := 71) pk11 dX11_init_407 (by decide) zb_1195 rfl rfl rfl (by decide) (zFit_arr _ _) (zOb.lit (by decide +kernel)) rfl i (by decide) (by decide +kernel) (fun h i => ?_)
  refine y_aload_n 0 dX11_init_410 rfl ?_
  refine y_sipush dX11_init_411 ⟨by decide, by decide⟩ (by decide) ?_
  refine y_arr (t := 1) (N := 240) (q := 219) (q1 := 220) 220 18 1706 dX11_init_414 rfl (by decide) zb_153 (by decide +kernel) (by decide) (by decide) (by decide) (by decide) rfl rfl rfl i (by decide) rfl (by decide +kernel) (fun h i => ?_)
  refine y_fldF (k := 72) (kz := 72) pk11 dX11_init_416 (by decide) zb_1196 rfl rfl rfl (by decide) (zFit_arr _ _) (zOb.lit (by decide +kernel)) rfl i (by decide) (by decide +kernel) (fun h i => ?_)
  refine y_aload_n 0 dX11_init_419 rfl ?_
  refine y_sipush dX11_init_420 ⟨by decide, by decide⟩ (by decide) ?_
  refine y_arr (t := 1) (N := 240) (q := 220) (q1 := 221) 221 17 1466 dX11_init_423 rfl (by decide) zb_153 (by decide +kernel) (by decide) (by decide) (by decide) (by decide) rfl rfl rfl i (by decide) rfl (by decide +kernel) (fun h i => ?_)
  refine y_fldF (k := 73) (kz := 73) pk11 dX11_init_425 (by decide) zb_1197 rfl rfl rfl (by decide) (zFit_arr _ _) (zOb.lit (by decide +kernel)) rfl i (by decide) (by decide +kernel) (fun h i => ?_)
  refine y_aload_n 0 dX11_init_428 rfl ?_
  refine y_sipush dX11_init_429 ⟨by decide, by decide⟩ (by decide) ?_
  refine y_arr (t := 1) (N := 240) (q := 221) (q1 := 222) 222 16 1226 dX11_init_432 rfl (by decide) zb_153 (by decide +kernel) (by decide) (by decide) (by decide) (by decide) rfl rfl rfl i (by decide) rfl (by decide +kernel) (fun h i => ?_)
  refine y_fldF (k := 74) (kz := 74) pk11 dX11_init_434 (by decide) zb_1198 rfl rfl rfl (by decide) (zFit_arr _ _) (zOb.lit (by decide +kernel)) rfl i (by decide) (by decide +kernel) (fun h i => ?_)
  refine y_aload_n 0 dX11_init_437 rfl ?_
  refine y_bipush dX11_init_438 ⟨by decide, by decide⟩ (by decide) ?_
  refine y_arr (t := 1) (N := 60) (q := 222) (q1 := 223) 223 15 1166 dX11_init_440 rfl (by decide) zb_153 (by decide +kernel) (by decide) (by decide) (by decide) (by decide) rfl rfl rfl i (by decide) rfl (by decide +kernel) (fun h i => ?_)
  refine y_fldF (k := 75) (kz := 75) pk11 dX11_init_442 (by decide) zb_1199 rfl rfl rfl (by decide) (zFit_arr _ _) (zOb.lit (by decide +kernel)) rfl i (by decide) (by decide +kernel) (fun h i => ?_)
  refine y_aload_n 0 dX11_init_445 rfl ?_
  refine y_bipush dX11_init_446 ⟨by decide, by decide⟩ (by decide) ?_
  refine y_arr (t := 1) (N := 32) (q := 223) (q1 := 224) 224 14 1134 dX11_init_448 rfl (by decide) zb_153 (by decide +kernel) (by decide) (by decide) (by decide) (by decide) rfl rfl rfl i (by decide) rfl (by decide +kernel) (fun h i => ?_)
  refine y_fldF (k := 76) (kz := 76) pk11 dX11_init_450 (by decide) zb_1200 rfl rfl rfl (by decide) (zFit_arr _ _) (zOb.lit (by decide +kernel)) rfl i (by decide) (by decide +kernel) (fun h i => ?_)
  refine y_aload_n 0 dX11_init_453 rfl ?_
  refine y_bipush dX11_init_454 ⟨by decide, by decide⟩ (by decide) ?_
  refine y_arr (t := 1) (N := 60) (q := 224) (q1 := 225) 225 13 1074 dX11_init_456 rfl (by decide) zb_153 (by decide +kernel) (by decide) (by decide) (by decide) (by decide) rfl rfl rfl i (by decide) rfl (by decide +kernel) (fun h i => ?_)
  refine y_fldF (k := 77) (kz := 77) pk11 dX11_init_458 (by decide) zb_1201 rfl rfl rfl (by decide) (zFit_arr _ _) (zOb.lit (by decide +kernel)) rfl i (by decide) (by decide +kernel) (fun h i => ?_)
  refine y_aload_n 0 dX11_init_461 rfl ?_
  refine y_bipush dX11_init_462 ⟨by decide, by decide⟩ (by decide) ?_
  refine y_arr (t := 1) (N := 60) (q := 225) (q1 := 226) 226 12 1014 dX11_init_464 rfl (by decide) zb_153 (by decide +kernel) (by decide) (by decide) (by decide) (by decide) rfl rfl rfl i (by decide) rfl (by decide +kernel) (fun h i => ?_)
  refine y_fldF (k := 78) (kz := 78) pk11 dX11_init_466 (by decide) zb_1202 rfl rfl rfl (by decide) (zFit_arr _ _) (zOb.lit (by decide +kernel)) rfl i (by decide) (by decide +kernel) (fun h i => ?_)
  refine y_aload_n 0 dX11_init_469 rfl ?_
  refine y_bipush dX11_init_470 ⟨by decide, by decide⟩ (by decide) ?_
  refine y_arr (t := 1) (N := 60) (q := 226) (q1 := 227) 227 11 954 dX11_init_472 rfl (by decide) zb_153 (by decide +kernel) (by decide) (by decide) (by decide) (by decide) rfl rfl rfl i (by decide) rfl (by decide +kernel) (fun h i => ?_)
  refine y_fldF (k := 79) (kz := 79) pk11 dX11_init_474 (by decide) zb_1203 rfl rfl rfl (by decide) (zFit_arr _ _) (zOb.lit (by decide +kernel)) rfl i (by decide) (by decide +kernel) (fun h i => ?_)
  refine y_aload_n 0 dX11_init_477 rfl ?_
  refine y_bipush dX11_init_478 ⟨by decide, by decide⟩ (by decide) ?_
  refine y_arr (t := 1) (N := 60) (q := 227) (q1 := 228) 228 10 894 dX11_init_480 rfl (by decide) zb_153 (by decide +kernel) (by decide) (by decide) (by decide) (by decide) rfl rfl rfl i (by decide) rfl (by decide +kernel) (fun h i => ?_)
  refine y_fldF (k := 80) (kz := 80) pk11 dX11_init_482 (by decide) zb_1204 rfl rfl rfl (by decide) (zFit_arr _ _) (zOb.lit (by decide +kernel)) rfl i (by decide) (by decide +kernel) (fun h i => ?_)
  refine y_aload_n 0 dX11_init_485 rfl ?_
  refine y_bipush dX11_init_486 ⟨by decide, by decide⟩ (by decide) ?_
  refine y_arr (t := 1) (N := 60) (q := 228) (q1 := 229) 229 9 834 dX11_init_488 rfl (by decide) zb_153 (by decide +kernel) (by decide) (by decide) (by decide) (by decide) rfl rfl rfl i (by decide) rfl (by decide +kernel) (fun h i => ?_)
  refine y_fldF (k := 81) (kz := 81) pk11 dX11_init_490 (by decide) zb_1205 rfl rfl rfl (by decide) (zFit_arr _ _) (zOb.lit (by decide +kernel)) rfl i (by decide) (by decide +kernel) (fun h i => ?_)
  refine y_aload_n 0 dX11_init_493 rfl ?_
  refine y_sipush dX11_init_494 ⟨by decide, by decide⟩ (by decide) ?_
  refine y_arr (t := 1) (N := 240) (q := 229) (q1 := 230) 230 8 594 dX11_init_497 rfl (by decide) zb_153 (by decide +kernel) (by decide) (by decide) (by decide) (by decide) rfl rfl rfl i (by decide) rfl (by decide +kernel) (fun h i => ?_)
  refine y_fldF (k := 82) (kz := 82) pk11 dX11_init_499 (by decide) zb_1206 rfl rfl rfl (by decide) (zFit_arr _ _) (zOb.lit (by decide +kernel)) rfl i (by decide) (by decide +kernel) (fun h i => ?_)
  refine y_aload_n 0 dX11_init_502 rfl ?_
  refine y_sipush dX11_init_503 ⟨by decide, by decide⟩ (by decide) ?_
  refine y_arr (t := 3) (N := 240) (q := 230) (q1 := 231) 231 7 354 dX11_init_506 rfl (by decide) zb_226 (by decide +kernel) (by decide) (by decide) (by decide) (by decide) rfl rfl rfl i (by decide) rfl (by decide +kernel) (fun h i => ?_)
  refine y_fldF (k := 83) (kz := 83) pk11 dX11_init_508 (by decide) zb_1207 rfl rfl rfl (by decide) (zFit_arr _ _) (zOb.lit (by decide +kernel)) rfl i (by decide) (by decide +kernel) (fun h i => ?_)
  refine y_aload_n 0 dX11_init_511 rfl ?_
  refine y_bipush dX11_init_512 ⟨by decide, by decide⟩ (by decide) ?_
  refine y_arr (t := 3) (N := 80) (q := 231) (q1 := 232) 232 6 274 dX11_init_514 rfl (by decide) zb_226 (by decide +kernel) (by decide) (by decide) (by decide) (by decide) rfl rfl rfl i (by decide) rfl (by decide +kernel) (fun h i => ?_)
  refine y_fldF (k := 84) (kz := 84) pk11 dX11_init_516 (by decide) zb_1208 rfl rfl rfl (by decide) (zFit_arr _ _) (zOb.lit (by decide +kernel)) rfl i (by decide) (by decide +kernel) (fun h i => ?_)
  refine y_aload_n 0 dX11_init_519 rfl ?_
  refine y_bipush dX11_init_520 ⟨by decide, by decide⟩ (by decide) ?_
  refine y_arr (t := 1) (N := 8) (q := 232) (q1 := 233) 233 5 266 dX11_init_522 rfl (by decide) zb_153 (by decide +kernel) (by decide) (by decide) (by decide) (by decide) rfl rfl rfl i (by decide) rfl (by decide +kernel) (fun h i => ?_)
  refine y_fldF (k := 86) (kz := 86) pk11 dX11_init_524 (by decide) zb_1210 rfl rfl rfl (by decide) (zFit_arr _ _) (zOb.lit (by decide +kernel)) rfl i (by decide) (by decide +kernel) (fun h i => ?_)
  refine y_aload_n 0 dX11_init_527 rfl ?_
  refine y_iconst dX11_init_528 ⟨by decide, by decide⟩ ?_
  refine y_fld (k := 87) (kz := 87) pk11 dX11_init_529 (by decide) zb_1211 rfl (zFit_int _) (zOb.lit (by decide +kernel)) rfl i (by decide) (by decide +kernel) (fun h i => ?_)
  refine y_aload_n 0 dX11_init_532 rfl ?_
  refine y_bipush dX11_init_533 ⟨by decide, by decide⟩ (by decide) ?_
  refine y_arr (t := 3) (N := 60) (q := 233) (q1 := 234) 234 4 206 dX11_init_535 rfl (by decide) zb_226 (by decide +kernel) (by decide) (by decide) (by decide) (by decide) rfl rfl rfl i (by decide) rfl (by decide +kernel) (fun h i => ?_)
  refine y_fldF (k := 88) (kz := 88) pk11 dX11_init_537 (by decide) zb_1212 rfl rfl rfl (by decide) (zFit_arr _ _) (zOb.lit (by decide +kernel)) rfl i (by decide) (by decide +kernel) (fun h i => ?_)
  refine y_aload_n 0 dX11_init_540 rfl ?_
  refine y_iconst dX11_init_541 ⟨by decide, by decide⟩ ?_
  refine y_arr (t := 2) (N := 2) (q := 234) (q1 := 235) 235 3 204 dX11_init_542 rfl (by decide) zb_1416 (by decide +kernel) (by decide) (by decide) (by decide) (by decide) rfl rfl rfl i (by decide) rfl (by decide +kernel) (fun h i => ?_)
  refine y_fldF (k := 92) (kz := 92) pk11 dX11_init_544 (by decide) zb_1216 rfl rfl rfl (by decide) (zFit_arr _ _) (zOb.lit (by decide +kernel)) rfl i (by decide) (by decide +kernel) (fun h i => ?_)
  refine y_aload_n 0 dX11_init_547 rfl ?_
  refine y_bipush dX11_init_548 ⟨by decide, by decide⟩ (by decide) ?_
  refine y_arr (t := 1) (N := 96) (q := 235) (q1 := 236) 236 2 108 dX11_init_550 rfl (by decide) zb_153 (by decide +kernel) (by decide) (by decide) (by decide) (by decide) rfl rfl rfl i (by decide) rfl (by decide +kernel) (fun h i => ?_)
  refine y_fldF (k := 93) (kz := 93) pk11 dX11_init_552 (by decide) zb_1217 rfl rfl rfl (by decide) (zFit_arr _ _) (zOb.lit (by decide +kernel)) rfl i (by decide) (by decide +kernel) (fun h i => ?_)
  refine y_aload_n 0 dX11_init_555 rfl ?_
  refine y_bipush dX11_init_556 ⟨by decide, by decide⟩ (by decide) ?_
  refine y_arr (t := 1) (N := 96) (q := 236) (q1 := 237) 237 1 12 dX11_init_558 rfl (by decide) zb_153 (by decide +kernel) (by decide) (by decide) (by decide) (by decide) rfl rfl rfl i (by decide) rfl (by decide +kernel) (fun h i => ?_)
  refine y_fldF (k := 94) (kz := 94) pk11 dX11_init_560 (by decide) zb_1218 rfl rfl rfl (by decide) (zFit_arr _ _) (zOb.lit (by decide +kernel)) rfl i (by decide) (by decide +kernel) (fun h i => ?_)
  refine y_aload_n 0 dX11_init_563 rfl ?_
  refine y_bipush dX11_init_564 ⟨by decide, by decide⟩ (by decide) ?_
  refine y_arr (t := 1) (N := 12) (q := 237) (q1 := 238) 238 0 0 dX11_init_566 rfl (by decide) zb_153 (by decide +kernel) (by decide) (by decide) (by decide) (by decide) rfl rfl rfl i (by decide) rfl (by decide +kernel) (fun h i => ?_)
  refine y_fldF (k := 95) (kz := 95) pk11 dX11_init_568 (by decide) zb_1219 rfl rfl rfl (by decide) (zFit_arr _ _) (zOb.lit (by decide +kernel)) rfl i (by decide) (by decide +kernel) (fun h i => ?_)
  exact y_end dX11_init_571 rfl rfl i (by decide +kernel)
