set_option maxRecDepth 4000 in
theorem k_3 {X : zX} {dep : Nat} {h : zH} (h0 : h 3 = zd 3) (hdep : 2 ≤ dep) : yW mX4_init X dep 20 3563 4 0 (zar 0 [xR 3]) [] h (zKq 3 24 24 h) := by
  have i := zIn.start h0
  have i : zIn 3 4 h h [(3, [])] := i
  refine y_aload_n 0 dX4_init_0 rfl ?_
  refine y_obj dX4_init_1 zb_135 zb_111 zb_112 (by decide) (by omega) (by decide) (by decide) ?_
  refine y_aload_n 0 dX4_init_4 rfl ?_
  refine y_bipush dX4_init_5 ⟨by decide, by decide⟩ (by decide) ?_
  refine y_arr (t := 1) (N := 60) (q := 4) (q1 := 5) 5 19 3503 dX4_init_7 rfl (by decide) zb_153 (by decide +kernel) (by decide) (by decide) (by decide) (by decide) rfl rfl rfl i (by decide) rfl (by decide +kernel) (fun h i => ?_)
  refine y_fldF (k := 1) (kz := 1) pk4 dX4_init_9 (by decide) zb_157 rfl rfl rfl (by decide) (zFit_arr _ _) (zOb.lit (by decide +kernel)) rfl i (by decide) (by decide +kernel) (fun h i => ?_)
  refine y_aload_n 0 dX4_init_12 rfl ?_
  refine y_bipush dX4_init_13 ⟨by decide, by decide⟩ (by decide) ?_
  refine y_arr (t := 1) (N := 60) (q := 5) (q1 := 6) 6 18 3443 dX4_init_15 rfl (by decide) zb_153 (by decide +kernel) (by decide) (by decide) (by decide) (by decide) rfl rfl rfl i (by decide) rfl (by decide +kernel) (fun h i => ?_)
  refine y_fldF (k := 2) (kz := 2) pk4 dX4_init_17 (by decide) zb_159 rfl rfl rfl (by decide) (zFit_arr _ _) (zOb.lit (by decide +kernel)) rfl i (by decide) (by decide +kernel) (fun h i => ?_)
  refine y_aload_n 0 dX4_init_20 rfl ?_
  refine y_bipush dX4_init_21 ⟨by decide, by decide⟩ (by decide) ?_
  refine y_arr (t := 1) (N := 60) (q := 6) (q1 := 7) 7 17 3383 dX4_init_23 rfl (by decide) zb_153 (by decide +kernel) (by decide) (by decide) (by decide) (by decide) rfl rfl rfl i (by decide) rfl (by decide +kernel) (fun h i => ?_)
  refine y_fldF (k := 3) (kz := 3) pk4 dX4_init_25 (by decide) zb_160 rfl rfl rfl (by decide) (zFit_arr _ _) (zOb.lit (by decide +kernel)) rfl i (by decide) (by decide +kernel) (fun h i => ?_)
  refine y_aload_n 0 dX4_init_28 rfl ?_
  refine y_nw (q := 7) 16 3380 pk2 dX4_init_29 zb_136 zb_137 zb_85 (by decide +kernel) (by decide +kernel) (by decide) (by decide) (by decide) rfl ?_
  refine y_dup dX4_init_32 (by decide) ?_
  refine y_bipush dX4_init_33 ⟨by decide, by decide⟩ (by decide) ?_
  refine y_mk (as := [xI 100]) (dep' := 1) (bc2 := 15) (bs2 := 2780) (k_7 (znew_q rfl) (by decide)) dX4_init_35 nX2_init rfl rfl zb_138 zb_139 zb_85 (by omega) rfl rfl (by decide) (by decide) rfl rfl i (by decide) (by decide) (fun h i => ?_)
  refine y_fldF (k := 4) (kz := 4) pk4 dX4_init_38 (by decide) zb_162 rfl rfl rfl (by decide) (zFit_obj _ _) (zOb.lit (by decide +kernel)) rfl i (by decide) (by decide +kernel) (fun h i => ?_)
  refine y_aload_n 0 dX4_init_41 rfl ?_
  refine y_nw (q := 9) 14 2777 pk2 dX4_init_42 zb_136 zb_137 zb_85 (by decide +kernel) (by decide +kernel) (by decide) (by decide) (by decide) rfl ?_
  refine y_dup dX4_init_45 (by decide) ?_
  refine y_sipush dX4_init_46 ⟨by decide, by decide⟩ (by decide) ?_
  refine y_mk (as := [xI 240]) (dep' := 1) (bc2 := 13) (bs2 := 1337) (k_9 (znew_q rfl) (by decide)) dX4_init_49 nX2_init rfl rfl zb_138 zb_139 zb_85 (by omega) rfl rfl (by decide) (by decide) rfl rfl i (by decide) (by decide) (fun h i => ?_)
  refine y_fldF (k := 5) (kz := 5) pk4 dX4_init_52 (by decide) zb_164 rfl rfl rfl (by decide) (zFit_obj _ _) (zOb.lit (by decide +kernel)) rfl i (by decide) (by decide +kernel) (fun h i => ?_)
  refine y_aload_n 0 dX4_init_55 rfl ?_
  refine y_nw (q := 11) 12 1334 pk2 dX4_init_56 zb_136 zb_137 zb_85 (by decide +kernel) (by decide +kernel) (by decide) (by decide) (by decide) rfl ?_
  refine y_dup dX4_init_59 (by decide) ?_
  refine y_bipush dX4_init_60 ⟨by decide, by decide⟩ (by decide) ?_
  refine y_mk (as := [xI 60]) (dep' := 1) (bc2 := 11) (bs2 := 974) (k_11 (znew_q rfl) (by decide)) dX4_init_62 nX2_init rfl rfl zb_138 zb_139 zb_85 (by omega) rfl rfl (by decide) (by decide) rfl rfl i (by decide) (by decide) (fun h i => ?_)
  refine y_fldF (k := 6) (kz := 6) pk4 dX4_init_65 (by decide) zb_167 rfl rfl rfl (by decide) (zFit_obj _ _) (zOb.lit (by decide +kernel)) rfl i (by decide) (by decide +kernel) (fun h i => ?_)
  refine y_aload_n 0 dX4_init_68 rfl ?_
  refine y_nw (q := 13) 10 971 pk2 dX4_init_69 zb_136 zb_137 zb_85 (by decide +kernel) (by decide +kernel) (by decide) (by decide) (by decide) rfl ?_
  refine y_dup dX4_init_72 (by decide) ?_
  refine y_bipush dX4_init_73 ⟨by decide, by decide⟩ (by decide) ?_
  refine y_mk (as := [xI 40]) (dep' := 1) (bc2 := 9) (bs2 := 731) (k_13 (znew_q rfl) (by decide)) dX4_init_75 nX2_init rfl rfl zb_138 zb_139 zb_85 (by omega) rfl rfl (by decide) (by decide) rfl rfl i (by decide) (by decide) (fun h i => ?_)
  refine y_fldF (k := 7) (kz := 7) pk4 dX4_init_78 (by decide) zb_170 rfl rfl rfl (by decide) (zFit_obj _ _) (zOb.lit (by decide +kernel)) rfl i (by decide) (by decide +kernel) (fun h i => ?_)
  refine y_aload_n 0 dX4_init_81 rfl ?_
  refine y_nw (q := 15) 8 728 pk2 dX4_init_82 zb_136 zb_137 zb_85 (by decide +kernel) (by decide +kernel) (by decide) (by decide) (by decide) rfl ?_
  refine y_dup dX4_init_85 (by decide) ?_
  refine y_bipush dX4_init_86 ⟨by decide, by decide⟩ (by decide) ?_
  refine y_mk (as := [xI 60]) (dep' := 1) (bc2 := 7) (bs2 := 368) (k_15 (znew_q rfl) (by decide)) dX4_init_88 nX2_init rfl rfl zb_138 zb_139 zb_85 (by omega) rfl rfl (by decide) (by decide) rfl rfl i (by decide) (by decide) (fun h i => ?_)
  refine y_fldF (k := 8) (kz := 8) pk4 dX4_init_91 (by decide) zb_172 rfl rfl rfl (by decide) (zFit_obj _ _) (zOb.lit (by decide +kernel)) rfl i (by decide) (by decide +kernel) (fun h i => ?_)
  refine y_aload_n 0 dX4_init_94 rfl ?_
  refine y_iconst dX4_init_95 ⟨by decide, by decide⟩ ?_
  refine y_fld (k := 9) (kz := 9) pk4 dX4_init_96 (by decide) zb_175 rfl (zFit_int _) (zOb.lit (by decide +kernel)) rfl i (by decide) (by decide +kernel) (fun h i => ?_)
  refine y_aload_n 0 dX4_init_99 rfl ?_
  refine y_bipush dX4_init_100 ⟨by decide, by decide⟩ (by decide) ?_
  refine y_arr (t := 1) (N := 60) (q := 17) (q1 := 18) 18 6 308 dX4_init_102 rfl (by decide) zb_153 (by decide +kernel) (by decide) (by decide) (by decide) (by decide) rfl rfl rfl i (by decide) rfl (by decide +kernel) (fun h i => ?_)
  refine y_fldF (k := 10) (kz := 10) pk4 dX4_init_104 (by decide) zb_177 rfl rfl rfl (by decide) (zFit_arr _ _) (zOb.lit (by decide +kernel)) rfl i (by decide) (by decide +kernel) (fun h i => ?_)
  refine y_aload_n 0 dX4_init_107 rfl ?_
  refine y_bipush dX4_init_108 ⟨by decide, by decide⟩ (by decide) ?_
  refine y_arr (t := 3) (N := 60) (q := 18) (q1 := 19) 19 5 248 dX4_init_110 rfl (by decide) zb_226 (by decide +kernel) (by decide) (by decide) (by decide) (by decide) rfl rfl rfl i (by decide) rfl (by decide +kernel) (fun h i => ?_)
  refine y_fldF (k := 11) (kz := 11) pk4 dX4_init_112 (by decide) zb_179 rfl rfl rfl (by decide) (zFit_arr _ _) (zOb.lit (by decide +kernel)) rfl i (by decide) (by decide +kernel) (fun h i => ?_)
  refine y_aload_n 0 dX4_init_115 rfl ?_
  refine y_bipush dX4_init_116 ⟨by decide, by decide⟩ (by decide) ?_
  refine y_arr (t := 1) (N := 60) (q := 19) (q1 := 20) 20 4 188 dX4_init_118 rfl (by decide) zb_153 (by decide +kernel) (by decide) (by decide) (by decide) (by decide) rfl rfl rfl i (by decide) rfl (by decide +kernel) (fun h i => ?_)
  refine y_fldF (k := 12) (kz := 12) pk4 dX4_init_120 (by decide) zb_181 rfl rfl rfl (by decide) (zFit_arr _ _) (zOb.lit (by decide +kernel)) rfl i (by decide) (by decide +kernel) (fun h i => ?_)
  refine y_aload_n 0 dX4_init_123 rfl ?_
  refine y_bipush dX4_init_124 ⟨by decide, by decide⟩ (by decide) ?_
  refine y_arr (t := 3) (N := 60) (q := 20) (q1 := 21) 21 3 128 dX4_init_126 rfl (by decide) zb_226 (by decide +kernel) (by decide) (by decide) (by decide) (by decide) rfl rfl rfl i (by decide) rfl (by decide +kernel) (fun h i => ?_)
  refine y_fldF (k := 13) (kz := 13) pk4 dX4_init_128 (by decide) zb_183 rfl rfl rfl (by decide) (zFit_arr _ _) (zOb.lit (by decide +kernel)) rfl i (by decide) (by decide +kernel) (fun h i => ?_)
  refine y_aload_n 0 dX4_init_131 rfl ?_
  refine y_bipush dX4_init_132 ⟨by decide, by decide⟩ (by decide) ?_
  refine y_arr (t := 1) (N := 60) (q := 21) (q1 := 22) 22 2 68 dX4_init_134 rfl (by decide) zb_153 (by decide +kernel) (by decide) (by decide) (by decide) (by decide) rfl rfl rfl i (by decide) rfl (by decide +kernel) (fun h i => ?_)
  refine y_fldF (k := 14) (kz := 14) pk4 dX4_init_136 (by decide) zb_186 rfl rfl rfl (by decide) (zFit_arr _ _) (zOb.lit (by decide +kernel)) rfl i (by decide) (by decide +kernel) (fun h i => ?_)
  refine y_aload_n 0 dX4_init_139 rfl ?_
  refine y_bipush dX4_init_140 ⟨by decide, by decide⟩ (by decide) ?_
  refine y_arr (t := 1) (N := 8) (q := 22) (q1 := 23) 23 1 60 dX4_init_142 rfl (by decide) zb_153 (by decide +kernel) (by decide) (by decide) (by decide) (by decide) rfl rfl rfl i (by decide) rfl (by decide +kernel) (fun h i => ?_)
  refine y_fldF (k := 15) (kz := 15) pk4 dX4_init_144 (by decide) zb_187 rfl rfl rfl (by decide) (zFit_arr _ _) (zOb.lit (by decide +kernel)) rfl i (by decide) (by decide +kernel) (fun h i => ?_)
  refine y_aload_n 0 dX4_init_147 rfl ?_
  refine y_bipush dX4_init_148 ⟨by decide, by decide⟩ (by decide) ?_
  refine y_arr (t := 3) (N := 60) (q := 23) (q1 := 24) 24 0 0 dX4_init_150 rfl (by decide) zb_226 (by decide +kernel) (by decide) (by decide) (by decide) (by decide) rfl rfl rfl i (by decide) rfl (by decide +kernel) (fun h i => ?_)
  refine y_fldF (k := 16) (kz := 16) pk4 dX4_init_152 (by decide) zb_189 rfl rfl rfl (by decide) (zFit_arr _ _) (zOb.lit (by decide +kernel)) rfl i (by decide) (by decide +kernel) (fun h i => ?_)
  exact y_end dX4_init_155 rfl rfl i (by decide +kernel)
set_option maxRecDepth 4000 in
theorem k_24 {X : zX} {dep : Nat} {h : zH} (h0 : h 24 = zd 24) (hdep : 2 ≤ dep) : yW mX5_init X dep 11 1423 25 0 (zar 0 [xR 24]) [] h (zKq 24 36 36 h) := by
  have i := zIn.start h0
  have i : zIn 24 25 h h [(24, [])] := i
  refine y_aload_n 0 dX5_init_0 rfl ?_
  refine y_obj dX5_init_1 zb_232 zb_111 zb_112 (by decide) (by omega) (by decide) (by decide) ?_
  refine y_aload_n 0 dX5_init_4 rfl ?_
  refine y_nw (q := 25) 10 1417 pk8 dX5_init_5 zb_233 zb_234 zb_87 (by decide +kernel) (by decide +kernel) (by decide) (by decide) (by decide) rfl ?_
  refine y_dup dX5_init_8 (by decide) ?_
  refine y_mkN (host := "LotOffice") (as := []) (dep' := 1) (bc2 := 6) (bs2 := 213) (k_25 (znew_q rfl) (by decide)) dX5_init_9 nX8_init rfl rfl (zmT1 (List.mem_of_getElem? (i := 154) (by decide +kernel))) zb_236 zb_87 (by omega) rfl rfl (by decide) (by decide) rfl rfl i (by decide) (by decide) (fun h i => ?_)
  refine y_fldF (k := 0) (kz := 0) pk5 dX5_init_12 (by decide) zb_323 rfl rfl rfl (by decide) (zFit_obj _ _) (zOb.lit (by decide +kernel)) rfl i (by decide) (by decide +kernel) (fun h i => ?_)
  refine y_aload_n 0 dX5_init_15 rfl ?_
  refine y_nw (q := 30) 5 200 pk1 dX5_init_16 zb_266 zb_267 zb_88 (by decide +kernel) (by decide +kernel) (by decide) (by decide) (by decide) rfl ?_
  refine y_dup dX5_init_19 (by decide) ?_
  refine y_mkN (host := "LotOffice") (as := []) (dep' := 1) (bc2 := 0) (bs2 := 0) (k_30 (znew_q rfl) (by decide)) dX5_init_20 nX1_init rfl rfl (zmT1 (List.mem_of_getElem? (i := 187) (by decide +kernel))) zb_269 zb_88 (by omega) rfl rfl (by decide) (by decide) rfl rfl i (by decide) (by decide) (fun h i => ?_)
  refine y_fld (k := 1) (kz := 1) pk5 dX5_init_23 (by decide) zb_324 rfl (zFit_obj _ _) (zOb.lit (by decide +kernel)) rfl i (by decide) (by decide +kernel) (fun h i => ?_)
  exact y_end dX5_init_26 rfl rfl i (by decide +kernel)
set_option maxRecDepth 4000 in
theorem k_113 {X : zX} {dep : Nat} {h : zH} (h0 : h 113 = zd 113) (hdep : 2 ≤ dep) : yW mX6_init X dep 13 1128 114 0 (zar 0 [xR 113, xI 0]) [] h (zKq 113 127 127 h) := by
  have i := zIn.start h0
  have i : zIn 113 114 h h [(113, [])] := i
  refine y_aload_n 0 dX6_init_0 rfl ?_
  refine y_obj dX6_init_1 zb_380 zb_111 zb_112 (by decide) (by omega) (by decide) (by decide) ?_
  refine y_aload_n 0 dX6_init_4 rfl ?_
  refine y_nw (q := 114) 12 1122 pk3 dX6_init_5 zb_381 zb_382 zb_91 (by decide +kernel) (by decide +kernel) (by decide) (by decide) (by decide) rfl ?_
  refine y_dup dX6_init_8 (by decide) ?_
  refine y_mk (as := []) (dep' := 1) (bc2 := 10) (bs2 := 1044) (k_114 (znew_q rfl) (by decide)) dX6_init_9 nX3_init rfl rfl zb_383 zb_384 zb_91 (by omega) rfl rfl (by decide) (by decide) rfl rfl i (by decide) (by decide) (fun h i => ?_)
  refine y_fldF (k := 1) (kz := 1) pk6 dX6_init_12 (by decide) zb_411 rfl rfl rfl (by decide) (zFit_obj _ _) (zOb.lit (by decide +kernel)) rfl i (by decide) (by decide +kernel) (fun h i => ?_)
  refine y_aload_n 0 dX6_init_15 rfl ?_
  refine y_sipush dX6_init_16 ⟨by decide, by decide⟩ (by decide) ?_
  refine y_arr (t := 1) (N := 660) (q := 117) (q1 := 118) 118 9 384 dX6_init_19 rfl (by decide) zb_153 (by decide +kernel) (by decide) (by decide) (by decide) (by decide) rfl rfl rfl i (by decide) rfl (by decide +kernel) (fun h i => ?_)
  refine y_fldF (k := 2) (kz := 2) pk6 dX6_init_21 (by decide) zb_413 rfl rfl rfl (by decide) (zFit_arr _ _) (zOb.lit (by decide +kernel)) rfl i (by decide) (by decide +kernel) (fun h i => ?_)
  refine y_aload_n 0 dX6_init_24 rfl ?_
  refine y_bipush dX6_init_25 ⟨by decide, by decide⟩ (by decide) ?_
  refine y_arr (t := 1) (N := 60) (q := 118) (q1 := 119) 119 8 324 dX6_init_27 rfl (by decide) zb_153 (by decide +kernel) (by decide) (by decide) (by decide) (by decide) rfl rfl rfl i (by decide) rfl (by decide +kernel) (fun h i => ?_)
  refine y_fldF (k := 3) (kz := 3) pk6 dX6_init_29 (by decide) zb_414 rfl rfl rfl (by decide) (zFit_arr _ _) (zOb.lit (by decide +kernel)) rfl i (by decide) (by decide +kernel) (fun h i => ?_)
  refine y_aload_n 0 dX6_init_32 rfl ?_
  refine y_bipush dX6_init_33 ⟨by decide, by decide⟩ (by decide) ?_
  refine y_arr (t := 1) (N := 60) (q := 119) (q1 := 120) 120 7 264 dX6_init_35 rfl (by decide) zb_153 (by decide +kernel) (by decide) (by decide) (by decide) (by decide) rfl rfl rfl i (by decide) rfl (by decide +kernel) (fun h i => ?_)
  refine y_fldF (k := 4) (kz := 4) pk6 dX6_init_37 (by decide) zb_416 rfl rfl rfl (by decide) (zFit_arr _ _) (zOb.lit (by decide +kernel)) rfl i (by decide) (by decide +kernel) (fun h i => ?_)
  refine y_aload_n 0 dX6_init_40 rfl ?_
  refine y_bipush dX6_init_41 ⟨by decide, by decide⟩ (by decide) ?_
  refine y_arr (t := 1) (N := 60) (q := 120) (q1 := 121) 121 6 204 dX6_init_43 rfl (by decide) zb_153 (by decide +kernel) (by decide) (by decide) (by decide) (by decide) rfl rfl rfl i (by decide) rfl (by decide +kernel) (fun h i => ?_)
  refine y_fldF (k := 5) (kz := 5) pk6 dX6_init_45 (by decide) zb_418 rfl rfl rfl (by decide) (zFit_arr _ _) (zOb.lit (by decide +kernel)) rfl i (by decide) (by decide +kernel) (fun h i => ?_)
  refine y_aload_n 0 dX6_init_48 rfl ?_
  refine y_bipush dX6_init_49 ⟨by decide, by decide⟩ (by decide) ?_
  refine y_arr (t := 1) (N := 60) (q := 121) (q1 := 122) 122 5 144 dX6_init_51 rfl (by decide) zb_153 (by decide +kernel) (by decide) (by decide) (by decide) (by decide) rfl rfl rfl i (by decide) rfl (by decide +kernel) (fun h i => ?_)
  refine y_fldF (k := 6) (kz := 6) pk6 dX6_init_53 (by decide) zb_419 rfl rfl rfl (by decide) (zFit_arr _ _) (zOb.lit (by decide +kernel)) rfl i (by decide) (by decide +kernel) (fun h i => ?_)
  refine y_aload_n 0 dX6_init_56 rfl ?_
  refine y_bipush dX6_init_57 ⟨by decide, by decide⟩ (by decide) ?_
  refine y_arr (t := 1) (N := 8) (q := 122) (q1 := 123) 123 4 136 dX6_init_59 rfl (by decide) zb_153 (by decide +kernel) (by decide) (by decide) (by decide) (by decide) rfl rfl rfl i (by decide) rfl (by decide +kernel) (fun h i => ?_)
  refine y_fldF (k := 7) (kz := 7) pk6 dX6_init_61 (by decide) zb_421 rfl rfl rfl (by decide) (zFit_arr _ _) (zOb.lit (by decide +kernel)) rfl i (by decide) (by decide +kernel) (fun h i => ?_)
  refine y_aload_n 0 dX6_init_64 rfl ?_
  refine y_bipush dX6_init_65 ⟨by decide, by decide⟩ (by decide) ?_
  refine y_arr (t := 1) (N := 8) (q := 123) (q1 := 124) 124 3 128 dX6_init_67 rfl (by decide) zb_153 (by decide +kernel) (by decide) (by decide) (by decide) (by decide) rfl rfl rfl i (by decide) rfl (by decide +kernel) (fun h i => ?_)
  refine y_fldF (k := 8) (kz := 8) pk6 dX6_init_69 (by decide) zb_422 rfl rfl rfl (by decide) (zFit_arr _ _) (zOb.lit (by decide +kernel)) rfl i (by decide) (by decide +kernel) (fun h i => ?_)
  refine y_aload_n 0 dX6_init_72 rfl ?_
  refine y_bipush dX6_init_73 ⟨by decide, by decide⟩ (by decide) ?_
  refine y_arr (t := 1) (N := 8) (q := 124) (q1 := 125) 125 2 120 dX6_init_75 rfl (by decide) zb_153 (by decide +kernel) (by decide) (by decide) (by decide) (by decide) rfl rfl rfl i (by decide) rfl (by decide +kernel) (fun h i => ?_)
  refine y_fldF (k := 9) (kz := 9) pk6 dX6_init_77 (by decide) zb_425 rfl rfl rfl (by decide) (zFit_arr _ _) (zOb.lit (by decide +kernel)) rfl i (by decide) (by decide +kernel) (fun h i => ?_)
  refine y_aload_n 0 dX6_init_80 rfl ?_
  refine y_bipush dX6_init_81 ⟨by decide, by decide⟩ (by decide) ?_
  refine y_arr (t := 1) (N := 60) (q := 125) (q1 := 126) 126 1 60 dX6_init_83 rfl (by decide) zb_153 (by decide +kernel) (by decide) (by decide) (by decide) (by decide) rfl rfl rfl i (by decide) rfl (by decide +kernel) (fun h i => ?_)
  refine y_fldF (k := 11) (kz := 11) pk6 dX6_init_85 (by decide) zb_428 rfl rfl rfl (by decide) (zFit_arr _ _) (zOb.lit (by decide +kernel)) rfl i (by decide) (by decide +kernel) (fun h i => ?_)
  refine y_aload_n 0 dX6_init_88 rfl ?_
  refine y_bipush dX6_init_89 ⟨by decide, by decide⟩ (by decide) ?_
  refine y_arr (t := 3) (N := 60) (q := 126) (q1 := 127) 127 0 0 dX6_init_91 rfl (by decide) zb_226 (by decide +kernel) (by decide) (by decide) (by decide) (by decide) rfl rfl rfl i (by decide) rfl (by decide +kernel) (fun h i => ?_)
  refine y_fldF (k := 12) (kz := 12) pk6 dX6_init_93 (by decide) zb_429 rfl rfl rfl (by decide) (zFit_arr _ _) (zOb.lit (by decide +kernel)) rfl i (by decide) (by decide +kernel) (fun h i => ?_)
  refine y_aload_n 0 dX6_init_96 rfl ?_
  refine y_iload_n 1 dX6_init_97 rfl ?_
  refine y_fldF (k := 0) (kz := 0) pk6 dX6_init_98 (by decide) zb_410 rfl rfl rfl (by decide) (zFit_int _) (zOb.lit (by decide +kernel)) rfl i (by decide) (by decide +kernel) (fun h i => ?_)
  exact y_end dX6_init_101 rfl rfl i (by decide +kernel)
set_option maxRecDepth 4000 in
theorem k_127 {X : zX} {dep : Nat} {h : zH} (h0 : h 127 = zd 127) (hdep : 2 ≤ dep) : yW mX6_init X dep 13 1128 128 0 (zar 0 [xR 127, xI 1]) [] h (zKq 127 141 141 h) := by
  have i := zIn.start h0
  have i : zIn 127 128 h h [(127, [])] := i
  refine y_aload_n 0 dX6_init_0 rfl ?_
  refine y_obj dX6_init_1 zb_380 zb_111 zb_112 (by decide) (by omega) (by decide) (by decide) ?_
  refine y_aload_n 0 dX6_init_4 rfl ?_
  refine y_nw (q := 128) 12 1122 pk3 dX6_init_5 zb_381 zb_382 zb_91 (by decide +kernel) (by decide +kernel) (by decide) (by decide) (by decide) rfl ?_
  refine y_dup dX6_init_8 (by decide) ?_
  refine y_mk (as := []) (dep' := 1) (bc2 := 10) (bs2 := 1044) (k_128 (znew_q rfl) (by decide)) dX6_init_9 nX3_init rfl rfl zb_383 zb_384 zb_91 (by omega) rfl rfl (by decide) (by decide) rfl rfl i (by decide) (by decide) (fun h i => ?_)
  refine y_fldF (k := 1) (kz := 1) pk6 dX6_init_12 (by decide) zb_411 rfl rfl rfl (by decide) (zFit_obj _ _) (zOb.lit (by decide +kernel)) rfl i (by decide) (by decide +kernel) (fun h i => ?_)
  refine y_aload_n 0 dX6_init_15 rfl ?_
  refine y_sipush dX6_init_16 ⟨by decide, by decide⟩ (by decide) ?_
  refine y_arr (t := 1) (N := 660) (q := 131) (q1 := 132) 132 9 384 dX6_init_19 rfl (by decide) zb_153 (by decide +kernel) (by decide) (by decide) (by decide) (by decide) rfl rfl rfl i (by decide) rfl (by decide +kernel) (fun h i => ?_)
  refine y_fldF (k := 2) (kz := 2) pk6 dX6_init_21 (by decide) zb_413 rfl rfl rfl (by decide) (zFit_arr _ _) (zOb.lit (by decide +kernel)) rfl i (by decide) (by decide +kernel) (fun h i => ?_)
  refine y_aload_n 0 dX6_init_24 rfl ?_
  refine y_bipush dX6_init_25 ⟨by decide, by decide⟩ (by decide) ?_
  refine y_arr (t := 1) (N := 60) (q := 132) (q1 := 133) 133 8 324 dX6_init_27 rfl (by decide) zb_153 (by decide +kernel) (by decide) (by decide) (by decide) (by decide) rfl rfl rfl i (by decide) rfl (by decide +kernel) (fun h i => ?_)
  refine y_fldF (k := 3) (kz := 3) pk6 dX6_init_29 (by decide) zb_414 rfl rfl rfl (by decide) (zFit_arr _ _) (zOb.lit (by decide +kernel)) rfl i (by decide) (by decide +kernel) (fun h i => ?_)
  refine y_aload_n 0 dX6_init_32 rfl ?_
  refine y_bipush dX6_init_33 ⟨by decide, by decide⟩ (by decide) ?_
  refine y_arr (t := 1) (N := 60) (q := 133) (q1 := 134) 134 7 264 dX6_init_35 rfl (by decide) zb_153 (by decide +kernel) (by decide) (by decide) (by decide) (by decide) rfl rfl rfl i (by decide) rfl (by decide +kernel) (fun h i => ?_)
  refine y_fldF (k := 4) (kz := 4) pk6 dX6_init_37 (by decide) zb_416 rfl rfl rfl (by decide) (zFit_arr _ _) (zOb.lit (by decide +kernel)) rfl i (by decide) (by decide +kernel) (fun h i => ?_)
  refine y_aload_n 0 dX6_init_40 rfl ?_
  refine y_bipush dX6_init_41 ⟨by decide, by decide⟩ (by decide) ?_
  refine y_arr (t := 1) (N := 60) (q := 134) (q1 := 135) 135 6 204 dX6_init_43 rfl (by decide) zb_153 (by decide +kernel) (by decide) (by decide) (by decide) (by decide) rfl rfl rfl i (by decide) rfl (by decide +kernel) (fun h i => ?_)
  refine y_fldF (k := 5) (kz := 5) pk6 dX6_init_45 (by decide) zb_418 rfl rfl rfl (by decide) (zFit_arr _ _) (zOb.lit (by decide +kernel)) rfl i (by decide) (by decide +kernel) (fun h i => ?_)
  refine y_aload_n 0 dX6_init_48 rfl ?_
  refine y_bipush dX6_init_49 ⟨by decide, by decide⟩ (by decide) ?_
  refine y_arr (t := 1) (N := 60) (q := 135) (q1 := 136) 136 5 144 dX6_init_51 rfl (by decide) zb_153 (by decide +kernel) (by decide) (by decide) (by decide) (by decide) rfl rfl rfl i (by decide) rfl (by decide +kernel) (fun h i => ?_)
  refine y_fldF (k := 6) (kz := 6) pk6 dX6_init_53 (by decide) zb_419 rfl rfl rfl (by decide) (zFit_arr _ _) (zOb.lit (by decide +kernel)) rfl i (by decide) (by decide +kernel) (fun h i => ?_)
  refine y_aload_n 0 dX6_init_56 rfl ?_
  refine y_bipush dX6_init_57 ⟨by decide, by decide⟩ (by decide) ?_
  refine y_arr (t := 1) (N := 8) (q := 136) (q1 := 137) 137 4 136 dX6_init_59 rfl (by decide) zb_153 (by decide +kernel) (by decide) (by decide) (by decide) (by decide) rfl rfl rfl i (by decide) rfl (by decide +kernel) (fun h i => ?_)
  refine y_fldF (k := 7) (kz := 7) pk6 dX6_init_61 (by decide) zb_421 rfl rfl rfl (by decide) (zFit_arr _ _) (zOb.lit (by decide +kernel)) rfl i (by decide) (by decide +kernel) (fun h i => ?_)
  refine y_aload_n 0 dX6_init_64 rfl ?_
  refine y_bipush dX6_init_65 ⟨by decide, by decide⟩ (by decide) ?_
  refine y_arr (t := 1) (N := 8) (q := 137) (q1 := 138) 138 3 128 dX6_init_67 rfl (by decide) zb_153 (by decide +kernel) (by decide) (by decide) (by decide) (by decide) rfl rfl rfl i (by decide) rfl (by decide +kernel) (fun h i => ?_)
  refine y_fldF (k := 8) (kz := 8) pk6 dX6_init_69 (by decide) zb_422 rfl rfl rfl (by decide) (zFit_arr _ _) (zOb.lit (by decide +kernel)) rfl i (by decide) (by decide +kernel) (fun h i => ?_)
  refine y_aload_n 0 dX6_init_72 rfl ?_
  refine y_bipush dX6_init_73 ⟨by decide, by decide⟩ (by decide) ?_
  refine y_arr (t := 1) (N := 8) (q := 138) (q1 := 139) 139 2 120 dX6_init_75 rfl (by decide) zb_153 (by decide +kernel) (by decide) (by decide) (by decide) (by decide) rfl rfl rfl i (by decide) rfl (by decide +kernel) (fun h i => ?_)
  refine y_fldF (k := 9) (kz := 9) pk6 dX6_init_77 (by decide) zb_425 rfl rfl rfl (by decide) (zFit_arr _ _) (zOb.lit (by decide +kernel)) rfl i (by decide) (by decide +kernel) (fun h i => ?_)
  refine y_aload_n 0 dX6_init_80 rfl ?_
  refine y_bipush dX6_init_81 ⟨by decide, by decide⟩ (by decide) ?_
  refine y_arr (t := 1) (N := 60) (q := 139) (q1 := 140) 140 1 60 dX6_init_83 rfl (by decide) zb_153 (by decide +kernel) (by decide) (by decide) (by decide) (by decide) rfl rfl rfl i (by decide) rfl (by decide +kernel) (fun h i => ?_)
  refine y_fldF (k := 11) (kz := 11) pk6 dX6_init_85 (by decide) zb_428 rfl rfl rfl (by decide) (zFit_arr _ _) (zOb.lit (by decide +kernel)) rfl i (by decide) (by decide +kernel) (fun h i => ?_)
  refine y_aload_n 0 dX6_init_88 rfl ?_
  refine y_bipush dX6_init_89 ⟨by decide, by decide⟩ (by decide) ?_
  refine y_arr (t := 3) (N := 60) (q := 140) (q1 := 141) 141 0 0 dX6_init_91 rfl (by decide) zb_226 (by decide +kernel) (by decide) (by decide) (by decide) (by decide) rfl rfl rfl i (by decide) rfl (by decide +kernel) (fun h i => ?_)
  refine y_fldF (k := 12) (kz := 12) pk6 dX6_init_93 (by decide) zb_429 rfl rfl rfl (by decide) (zFit_arr _ _) (zOb.lit (by decide +kernel)) rfl i (by decide) (by decide +kernel) (fun h i => ?_)
  refine y_aload_n 0 dX6_init_96 rfl ?_
  refine y_iload_n 1 dX6_init_97 rfl ?_
  refine y_fldF (k := 0) (kz := 0) pk6 dX6_init_98 (by decide) zb_410 rfl rfl rfl (by decide) (zFit_int _) (zOb.lit (by decide +kernel)) rfl i (by decide) (by decide +kernel) (fun h i => ?_)
  exact y_end dX6_init_101 rfl rfl i (by decide +kernel)
set_option maxRecDepth 4000 in
theorem k_141 {X : zX} {dep : Nat} {h : zH} (h0 : h 141 = zd 141) (hdep : 2 ≤ dep) : yW mX6_init X dep 13 1128 142 0 (zar 0 [xR 141, xI 2]) [] h (zKq 141 155 155 h) := by
  have i := zIn.start h0
  have i : zIn 141 142 h h [(141, [])] := i
  refine y_aload_n 0 dX6_init_0 rfl ?_
  refine y_obj dX6_init_1 zb_380 zb_111 zb_112 (by decide) (by omega) (by decide) (by decide) ?_
  refine y_aload_n 0 dX6_init_4 rfl ?_
  refine y_nw (q := 142) 12 1122 pk3 dX6_init_5 zb_381 zb_382 zb_91 (by decide +kernel) (by decide +kernel) (by decide) (by decide) (by decide) rfl ?_
  refine y_dup dX6_init_8 (by decide) ?_
  refine y_mk (as := []) (dep' := 1) (bc2 := 10) (bs2 := 1044) (k_142 (znew_q rfl) (by decide)) dX6_init_9 nX3_init rfl rfl zb_383 zb_384 zb_91 (by omega) rfl rfl (by decide) (by decide) rfl rfl i (by decide) (by decide) (fun h i => ?_)
  refine y_fldF (k := 1) (kz := 1) pk6 dX6_init_12 (by decide) zb_411 rfl rfl rfl (by decide) (zFit_obj _ _) (zOb.lit (by decide +kernel)) rfl i (by decide) (by decide +kernel) (fun h i => ?_)
  refine y_aload_n 0 dX6_init_15 rfl ?_
  refine y_sipush dX6_init_16 ⟨by decide, by decide⟩ (by decide) ?_
  refine y_arr (t := 1) (N := 660) (q := 145) (q1 := 146) 146 9 384 dX6_init_19 rfl (by decide) zb_153 (by decide +kernel) (by decide) (by decide) (by decide) (by decide) rfl rfl rfl i (by decide) rfl (by decide +kernel) (fun h i => ?_)
  refine y_fldF (k := 2) (kz := 2) pk6 dX6_init_21 (by decide) zb_413 rfl rfl rfl (by decide) (zFit_arr _ _) (zOb.lit (by decide +kernel)) rfl i (by decide) (by decide +kernel) (fun h i => ?_)
  refine y_aload_n 0 dX6_init_24 rfl ?_
  refine y_bipush dX6_init_25 ⟨by decide, by decide⟩ (by decide) ?_
  refine y_arr (t := 1) (N := 60) (q := 146) (q1 := 147) 147 8 324 dX6_init_27 rfl (by decide) zb_153 (by decide +kernel) (by decide) (by decide) (by decide) (by decide) rfl rfl rfl i (by decide) rfl (by decide +kernel) (fun h i => ?_)
  refine y_fldF (k := 3) (kz := 3) pk6 dX6_init_29 (by decide) zb_414 rfl rfl rfl (by decide) (zFit_arr _ _) (zOb.lit (by decide +kernel)) rfl i (by decide) (by decide +kernel) (fun h i => ?_)
  refine y_aload_n 0 dX6_init_32 rfl ?_
  refine y_bipush dX6_init_33 ⟨by decide, by decide⟩ (by decide) ?_
  refine y_arr (t := 1) (N := 60) (q := 147) (q1 := 148) 148 7 264 dX6_init_35 rfl (by decide) zb_153 (by decide +kernel) (by decide) (by decide) (by decide) (by decide) rfl rfl rfl i (by decide) rfl (by decide +kernel) (fun h i => ?_)
  refine y_fldF (k := 4) (kz := 4) pk6 dX6_init_37 (by decide) zb_416 rfl rfl rfl (by decide) (zFit_arr _ _) (zOb.lit (by decide +kernel)) rfl i (by decide) (by decide +kernel) (fun h i => ?_)
  refine y_aload_n 0 dX6_init_40 rfl ?_
  refine y_bipush dX6_init_41 ⟨by decide, by decide⟩ (by decide) ?_
  refine y_arr (t := 1) (N := 60) (q := 148) (q1 := 149) 149 6 204 dX6_init_43 rfl (by decide) zb_153 (by decide +kernel) (by decide) (by decide) (by decide) (by decide) rfl rfl rfl i (by decide) rfl (by decide +kernel) (fun h i => ?_)
  refine y_fldF (k := 5) (kz := 5) pk6 dX6_init_45 (by decide) zb_418 rfl rfl rfl (by decide) (zFit_arr _ _) (zOb.lit (by decide +kernel)) rfl i (by decide) (by decide +kernel) (fun h i => ?_)
  refine y_aload_n 0 dX6_init_48 rfl ?_
  refine y_bipush dX6_init_49 ⟨by decide, by decide⟩ (by decide) ?_
  refine y_arr (t := 1) (N := 60) (q := 149) (q1 := 150) 150 5 144 dX6_init_51 rfl (by decide) zb_153 (by decide +kernel) (by decide) (by decide) (by decide) (by decide) rfl rfl rfl i (by decide) rfl (by decide +kernel) (fun h i => ?_)
  refine y_fldF (k := 6) (kz := 6) pk6 dX6_init_53 (by decide) zb_419 rfl rfl rfl (by decide) (zFit_arr _ _) (zOb.lit (by decide +kernel)) rfl i (by decide) (by decide +kernel) (fun h i => ?_)
  refine y_aload_n 0 dX6_init_56 rfl ?_
  refine y_bipush dX6_init_57 ⟨by decide, by decide⟩ (by decide) ?_
  refine y_arr (t := 1) (N := 8) (q := 150) (q1 := 151) 151 4 136 dX6_init_59 rfl (by decide) zb_153 (by decide +kernel) (by decide) (by decide) (by decide) (by decide) rfl rfl rfl i (by decide) rfl (by decide +kernel) (fun h i => ?_)
  refine y_fldF (k := 7) (kz := 7) pk6 dX6_init_61 (by decide) zb_421 rfl rfl rfl (by decide) (zFit_arr _ _) (zOb.lit (by decide +kernel)) rfl i (by decide) (by decide +kernel) (fun h i => ?_)
  refine y_aload_n 0 dX6_init_64 rfl ?_
  refine y_bipush dX6_init_65 ⟨by decide, by decide⟩ (by decide) ?_
  refine y_arr (t := 1) (N := 8) (q := 151) (q1 := 152) 152 3 128 dX6_init_67 rfl (by decide) zb_153 (by decide +kernel) (by decide) (by decide) (by decide) (by decide) rfl rfl rfl i (by decide) rfl (by decide +kernel) (fun h i => ?_)
  refine y_fldF (k := 8) (kz := 8) pk6 dX6_init_69 (by decide) zb_422 rfl rfl rfl (by decide) (zFit_arr _ _) (zOb.lit (by decide +kernel)) rfl i (by decide) (by decide +kernel) (fun h i => ?_)
  refine y_aload_n 0 dX6_init_72 rfl ?_
  refine y_bipush dX6_init_73 ⟨by decide, by decide⟩ (by decide) ?_
  refine y_arr (t := 1) (N := 8) (q := 152) (q1 := 153) 153 2 120 dX6_init_75 rfl (by decide) zb_153 (by decide +kernel) (by decide) (by decide) (by decide) (by decide) rfl rfl rfl i (by decide) rfl (by decide +kernel) (fun h i => ?_)
  refine y_fldF (k := 9) (kz := 9) pk6 dX6_init_77 (by decide) zb_425 rfl rfl rfl (by decide) (zFit_arr _ _) (zOb.lit (by decide +kernel)) rfl i (by decide) (by decide +kernel) (fun h i => ?_)
  refine y_aload_n 0 dX6_init_80 rfl ?_
  refine y_bipush dX6_init_81 ⟨by decide, by decide⟩ (by decide) ?_
  refine y_arr (t := 1) (N := 60) (q := 153) (q1 := 154) 154 1 60 dX6_init_83 rfl (by decide) zb_153 (by decide +kernel) (by decide) (by decide) (by decide) (by decide) rfl rfl rfl i (by decide) rfl (by decide +kernel) (fun h i => ?_)
  refine y_fldF (k := 11) (kz := 11) pk6 dX6_init_85 (by decide) zb_428 rfl rfl rfl (by decide) (zFit_arr _ _) (zOb.lit (by decide +kernel)) rfl i (by decide) (by decide +kernel) (fun h i => ?_)
  refine y_aload_n 0 dX6_init_88 rfl ?_
  refine y_bipush dX6_init_89 ⟨by decide, by decide⟩ (by decide) ?_
  refine y_arr (t := 3) (N := 60) (q := 154) (q1 := 155) 155 0 0 dX6_init_91 rfl (by decide) zb_226 (by decide +kernel) (by decide) (by decide) (by decide) (by decide) rfl rfl rfl i (by decide) rfl (by decide +kernel) (fun h i => ?_)
  refine y_fldF (k := 12) (kz := 12) pk6 dX6_init_93 (by decide) zb_429 rfl rfl rfl (by decide) (zFit_arr _ _) (zOb.lit (by decide +kernel)) rfl i (by decide) (by decide +kernel) (fun h i => ?_)
  refine y_aload_n 0 dX6_init_96 rfl ?_
  refine y_iload_n 1 dX6_init_97 rfl ?_
  refine y_fldF (k := 0) (kz := 0) pk6 dX6_init_98 (by decide) zb_410 rfl rfl rfl (by decide) (zFit_int _) (zOb.lit (by decide +kernel)) rfl i (by decide) (by decide +kernel) (fun h i => ?_)
  exact y_end dX6_init_101 rfl rfl i (by decide +kernel)
set_option maxRecDepth 4000 in
theorem k_155 {X : zX} {dep : Nat} {h : zH} (h0 : h 155 = zd 155) (hdep : 2 ≤ dep) : yW mX6_init X dep 13 1128 156 0 (zar 0 [xR 155, xI 3]) [] h (zKq 155 169 169 h) := by
  have i := zIn.start h0
  have i : zIn 155 156 h h [(155, [])] := i
  refine y_aload_n 0 dX6_init_0 rfl ?_
  refine y_obj dX6_init_1 zb_380 zb_111 zb_112 (by decide) (by omega) (by decide) (by decide) ?_
  refine y_aload_n 0 dX6_init_4 rfl ?_
  refine y_nw (q := 156) 12 1122 pk3 dX6_init_5 zb_381 zb_382 zb_91 (by decide +kernel) (by decide +kernel) (by decide) (by decide) (by decide) rfl ?_
  refine y_dup dX6_init_8 (by decide) ?_
  refine y_mk (as := []) (dep' := 1) (bc2 := 10) (bs2 := 1044) (k_156 (znew_q rfl) (by decide)) dX6_init_9 nX3_init rfl rfl zb_383 zb_384 zb_91 (by omega) rfl rfl (by decide) (by decide) rfl rfl i (by decide) (by decide) (fun h i => ?_)
  refine y_fldF (k := 1) (kz := 1) pk6 dX6_init_12 (by decide) zb_411 rfl rfl rfl (by decide) (zFit_obj _ _) (zOb.lit (by decide +kernel)) rfl i (by decide) (by decide +kernel) (fun h i => ?_)
  refine y_aload_n 0 dX6_init_15 rfl ?_
  refine y_sipush dX6_init_16 ⟨by decide, by decide⟩ (by decide) ?_
  refine y_arr (t := 1) (N := 660) (q := 159) (q1 := 160) 160 9 384 dX6_init_19 rfl (by decide) zb_153 (by decide +kernel) (by decide) (by decide) (by decide) (by decide) rfl rfl rfl i (by decide) rfl (by decide +kernel) (fun h i => ?_)
  refine y_fldF (k := 2) (kz := 2) pk6 dX6_init_21 (by decide) zb_413 rfl rfl rfl (by decide) (zFit_arr _ _) (zOb.lit (by decide +kernel)) rfl i (by decide) (by decide +kernel) (fun h i => ?_)
  refine y_aload_n 0 dX6_init_24 rfl ?_
  refine y_bipush dX6_init_25 ⟨by decide, by decide⟩ (by decide) ?_
  refine y_arr (t := 1) (N := 60) (q := 160) (q1 := 161) 161 8 324 dX6_init_27 rfl (by decide) zb_153 (by decide +kernel) (by decide) (by decide) (by decide) (by decide) rfl rfl rfl i (by decide) rfl (by decide +kernel) (fun h i => ?_)
  refine y_fldF (k := 3) (kz := 3) pk6 dX6_init_29 (by decide) zb_414 rfl rfl rfl (by decide) (zFit_arr _ _) (zOb.lit (by decide +kernel)) rfl i (by decide) (by decide +kernel) (fun h i => ?_)
  refine y_aload_n 0 dX6_init_32 rfl ?_
  refine y_bipush dX6_init_33 ⟨by decide, by decide⟩ (by decide) ?_
  refine y_arr (t := 1) (N := 60) (q := 161) (q1 := 162) 162 7 264 dX6_init_35 rfl (by decide) zb_153 (by decide +kernel) (by decide) (by decide) (by decide) (by decide) rfl rfl rfl i (by decide) rfl (by decide +kernel) (fun h i => ?_)
  refine y_fldF (k := 4) (kz := 4) pk6 dX6_init_37 (by decide) zb_416 rfl rfl rfl (by decide) (zFit_arr _ _) (zOb.lit (by decide +kernel)) rfl i (by decide) (by decide +kernel) (fun h i => ?_)
  refine y_aload_n 0 dX6_init_40 rfl ?_
  refine y_bipush dX6_init_41 ⟨by decide, by decide⟩ (by decide) ?_
  refine y_arr (t := 1) (N := 60) (q := 162) (q1 := 163) 163 6 204 dX6_init_43 rfl (by decide) zb_153 (by decide +kernel) (by decide) (by decide) (by decide) (by decide) rfl rfl rfl i (by decide) rfl (by decide +kernel) (fun h i => ?_)
  refine y_fldF (k := 5) (kz := 5) pk6 dX6_init_45 (by decide) zb_418 rfl rfl rfl (by decide) (zFit_arr _ _) (zOb.lit (by decide +kernel)) rfl i (by decide) (by decide +kernel) (fun h i => ?_)
  refine y_aload_n 0 dX6_init_48 rfl ?_
  refine y_bipush dX6_init_49 ⟨by decide, by decide⟩ (by decide) ?_
  refine y_arr (t := 1) (N := 60) (q := 163) (q1 := 164) 164 5 144 dX6_init_51 rfl (by decide) zb_153 (by decide +kernel) (by decide) (by decide) (by decide) (by decide) rfl rfl rfl i (by decide) rfl (by decide +kernel) (fun h i => ?_)
  refine y_fldF (k := 6) (kz := 6) pk6 dX6_init_53 (by decide) zb_419 rfl rfl rfl (by decide) (zFit_arr _ _) (zOb.lit (by decide +kernel)) rfl i (by decide) (by decide +kernel) (fun h i => ?_)
  refine y_aload_n 0 dX6_init_56 rfl ?_
  refine y_bipush dX6_init_57 ⟨by decide, by decide⟩ (by decide) ?_
  refine y_arr (t := 1) (N := 8) (q := 164) (q1 := 165) 165 4 136 dX6_init_59 rfl (by decide) zb_153 (by decide +kernel) (by decide) (by decide) (by decide) (by decide) rfl rfl rfl i (by decide) rfl (by decide +kernel) (fun h i => ?_)
  refine y_fldF (k := 7) (kz := 7) pk6 dX6_init_61 (by decide) zb_421 rfl rfl rfl (by decide) (zFit_arr _ _) (zOb.lit (by decide +kernel)) rfl i (by decide) (by decide +kernel) (fun h i => ?_)
  refine y_aload_n 0 dX6_init_64 rfl ?_
  refine y_bipush dX6_init_65 ⟨by decide, by decide⟩ (by decide) ?_
  refine y_arr (t := 1) (N := 8) (q := 165) (q1 := 166) 166 3 128 dX6_init_67 rfl (by decide) zb_153 (by decide +kernel) (by decide) (by decide) (by decide) (by decide) rfl rfl rfl i (by decide) rfl (by decide +kernel) (fun h i => ?_)
  refine y_fldF (k := 8) (kz := 8) pk6 dX6_init_69 (by decide) zb_422 rfl rfl rfl (by decide) (zFit_arr _ _) (zOb.lit (by decide +kernel)) rfl i (by decide) (by decide +kernel) (fun h i => ?_)
  refine y_aload_n 0 dX6_init_72 rfl ?_
  refine y_bipush dX6_init_73 ⟨by decide, by decide⟩ (by decide) ?_
  refine y_arr (t := 1) (N := 8) (q := 166) (q1 := 167) 167 2 120 dX6_init_75 rfl (by decide) zb_153 (by decide +kernel) (by decide) (by decide) (by decide) (by decide) rfl rfl rfl i (by decide) rfl (by decide +kernel) (fun h i => ?_)
  refine y_fldF (k := 9) (kz := 9) pk6 dX6_init_77 (by decide) zb_425 rfl rfl rfl (by decide) (zFit_arr _ _) (zOb.lit (by decide +kernel)) rfl i (by decide) (by decide +kernel) (fun h i => ?_)
  refine y_aload_n 0 dX6_init_80 rfl ?_
  refine y_bipush dX6_init_81 ⟨by decide, by decide⟩ (by decide) ?_
  refine y_arr (t := 1) (N := 60) (q := 167) (q1 := 168) 168 1 60 dX6_init_83 rfl (by decide) zb_153 (by decide +kernel) (by decide) (by decide) (by decide) (by decide) rfl rfl rfl i (by decide) rfl (by decide +kernel) (fun h i => ?_)
  refine y_fldF (k := 11) (kz := 11) pk6 dX6_init_85 (by decide) zb_428 rfl rfl rfl (by decide) (zFit_arr _ _) (zOb.lit (by decide +kernel)) rfl i (by decide) (by decide +kernel) (fun h i => ?_)
  refine y_aload_n 0 dX6_init_88 rfl ?_
  refine y_bipush dX6_init_89 ⟨by decide, by decide⟩ (by decide) ?_
  refine y_arr (t := 3) (N := 60) (q := 168) (q1 := 169) 169 0 0 dX6_init_91 rfl (by decide) zb_226 (by decide +kernel) (by decide) (by decide) (by decide) (by decide) rfl rfl rfl i (by decide) rfl (by decide +kernel) (fun h i => ?_)
  refine y_fldF (k := 12) (kz := 12) pk6 dX6_init_93 (by decide) zb_429 rfl rfl rfl (by decide) (zFit_arr _ _) (zOb.lit (by decide +kernel)) rfl i (by decide) (by decide +kernel) (fun h i => ?_)
  refine y_aload_n 0 dX6_init_96 rfl ?_
  refine y_iload_n 1 dX6_init_97 rfl ?_
  refine y_fldF (k := 0) (kz := 0) pk6 dX6_init_98 (by decide) zb_410 rfl rfl rfl (by decide) (zFit_int _) (zOb.lit (by decide +kernel)) rfl i (by decide) (by decide +kernel) (fun h i => ?_)
  exact y_end dX6_init_101 rfl rfl i (by decide +kernel)
