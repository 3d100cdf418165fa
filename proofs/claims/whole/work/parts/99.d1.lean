theorem k_1 {X : zX} {dep : Nat} {h : zH} (h0 : h 1 = zd 1) (hdep : 1 ≤ dep) : yW mX7_init X dep 1 340 2 0 (zar 0 [xR 1]) [] h (zKq 1 3 3 h) := by
  have i := zIn.start h0
  have i : zIn 1 2 h h [(1, [])] := i
  refine y_aload_n 0 dX7_init_0 rfl ?_
  refine y_obj dX7_init_1 zb_118 zb_111 zb_112 (by decide) (by omega) (by decide) (by decide) ?_
  refine y_aload_n 0 dX7_init_4 rfl ?_
  refine y_sipush dX7_init_5 ⟨by decide, by decide⟩ (by decide) ?_
  refine y_arr (t := 4) (N := 340) (q := 2) (q1 := 3) 3 0 0 dX7_init_8 rfl (by decide) zb_129 (by decide +kernel) (by decide) (by decide) (by decide) (by decide) rfl rfl rfl i (by decide) rfl (by decide +kernel) (fun h i => ?_)
  refine y_fldF (k := 0) (kz := 0) pk7 dX7_init_10 (by decide) zb_119 rfl rfl rfl (by decide) (zFit_arr _ _) (zOb.lit (by decide +kernel)) rfl i (by decide) (by decide +kernel) (fun h i => ?_)
  exact y_end dX7_init_13 rfl rfl i (by decide +kernel)
theorem k_7 {X : zX} {dep : Nat} {h : zH} (h0 : h 7 = zd 7) (hdep : 1 ≤ dep) : yW mX2_init X dep 1 600 8 0 (zar 0 [xR 7, xI 100]) [] h (zKq 7 9 9 h) := by
  have i := zIn.start h0
  have i : zIn 7 8 h h [(7, [])] := i
  refine y_aload_n 0 dX2_init_0 rfl ?_
  refine y_obj dX2_init_1 zb_141 zb_111 zb_112 (by decide) (by omega) (by decide) (by decide) ?_
  refine y_aload_n 0 dX2_init_4 rfl ?_
  refine y_iload_n 1 dX2_init_5 rfl ?_
  refine y_fldF (k := 1) (kz := 1) pk2 dX2_init_6 (by decide) zb_143 rfl rfl rfl (by decide) (zFit_int _) (zOb.lit (by decide +kernel)) rfl i (by decide) (by decide +kernel) (fun h i => ?_)
  refine y_aload_n 0 dX2_init_9 rfl ?_
  refine y_iload_n 1 dX2_init_10 rfl ?_
  refine y_bipush dX2_init_11 ⟨by decide, by decide⟩ (by decide) ?_
  refine y_imul dX2_init_13 ?_
  rw [show w32 (100 * 6) = 600 by decide]
  refine y_arr (t := 1) (N := 600) (q := 8) (q1 := 9) 9 0 0 dX2_init_14 rfl (by decide) zb_153 (by decide +kernel) (by decide) (by decide) (by decide) (by decide) rfl rfl rfl i (by decide) rfl (by decide +kernel) (fun h i => ?_)
  refine y_fldF (k := 0) (kz := 0) pk2 dX2_init_16 (by decide) zb_142 rfl rfl rfl (by decide) (zFit_arr _ _) (zOb.lit (by decide +kernel)) rfl i (by decide) (by decide +kernel) (fun h i => ?_)
  exact y_end dX2_init_19 rfl rfl i (by decide +kernel)
theorem k_9 {X : zX} {dep : Nat} {h : zH} (h0 : h 9 = zd 9) (hdep : 1 ≤ dep) : yW mX2_init X dep 1 1440 10 0 (zar 0 [xR 9, xI 240]) [] h (zKq 9 11 11 h) := by
  have i := zIn.start h0
  have i : zIn 9 10 h h [(9, [])] := i
  refine y_aload_n 0 dX2_init_0 rfl ?_
  refine y_obj dX2_init_1 zb_141 zb_111 zb_112 (by decide) (by omega) (by decide) (by decide) ?_
  refine y_aload_n 0 dX2_init_4 rfl ?_
  refine y_iload_n 1 dX2_init_5 rfl ?_
  refine y_fldF (k := 1) (kz := 1) pk2 dX2_init_6 (by decide) zb_143 rfl rfl rfl (by decide) (zFit_int _) (zOb.lit (by decide +kernel)) rfl i (by decide) (by decide +kernel) (fun h i => ?_)
  refine y_aload_n 0 dX2_init_9 rfl ?_
  refine y_iload_n 1 dX2_init_10 rfl ?_
  refine y_bipush dX2_init_11 ⟨by decide, by decide⟩ (by decide) ?_
  refine y_imul dX2_init_13 ?_
  rw [show w32 (240 * 6) = 1440 by decide]
  refine y_arr (t := 1) (N := 1440) (q := 10) (q1 := 11) 11 0 0 dX2_init_14 rfl (by decide) zb_153 (by decide +kernel) (by decide) (by decide) (by decide) (by decide) rfl rfl rfl i (by decide) rfl (by decide +kernel) (fun h i => ?_)
  refine y_fldF (k := 0) (kz := 0) pk2 dX2_init_16 (by decide) zb_142 rfl rfl rfl (by decide) (zFit_arr _ _) (zOb.lit (by decide +kernel)) rfl i (by decide) (by decide +kernel) (fun h i => ?_)
  exact y_end dX2_init_19 rfl rfl i (by decide +kernel)
theorem k_11 {X : zX} {dep : Nat} {h : zH} (h0 : h 11 = zd 11) (hdep : 1 ≤ dep) : yW mX2_init X dep 1 360 12 0 (zar 0 [xR 11, xI 60]) [] h (zKq 11 13 13 h) := by
  have i := zIn.start h0
  have i : zIn 11 12 h h [(11, [])] := i
  refine y_aload_n 0 dX2_init_0 rfl ?_
  refine y_obj dX2_init_1 zb_141 zb_111 zb_112 (by decide) (by omega) (by decide) (by decide) ?_
  refine y_aload_n 0 dX2_init_4 rfl ?_
  refine y_iload_n 1 dX2_init_5 rfl ?_
  refine y_fldF (k := 1) (kz := 1) pk2 dX2_init_6 (by decide) zb_143 rfl rfl rfl (by decide) (zFit_int _) (zOb.lit (by decide +kernel)) rfl i (by decide) (by decide +kernel) (fun h i => ?_)
  refine y_aload_n 0 dX2_init_9 rfl ?_
  refine y_iload_n 1 dX2_init_10 rfl ?_
  refine y_bipush dX2_init_11 ⟨by decide, by decide⟩ (by decide) ?_
  refine y_imul dX2_init_13 ?_
  rw [show w32 (60 * 6) = 360 by decide]
  refine y_arr (t := 1) (N := 360) (q := 12) (q1 := 13) 13 0 0 dX2_init_14 rfl (by decide) zb_153 (by decide +kernel) (by decide) (by decide) (by decide) (by decide) rfl rfl rfl i (by decide) rfl (by decide +kernel) (fun h i => ?_)
  refine y_fldF (k := 0) (kz := 0) pk2 dX2_init_16 (by decide) zb_142 rfl rfl rfl (by decide) (zFit_arr _ _) (zOb.lit (by decide +kernel)) rfl i (by decide) (by decide +kernel) (fun h i => ?_)
  exact y_end dX2_init_19 rfl rfl i (by decide +kernel)
theorem k_13 {X : zX} {dep : Nat} {h : zH} (h0 : h 13 = zd 13) (hdep : 1 ≤ dep) : yW mX2_init X dep 1 240 14 0 (zar 0 [xR 13, xI 40]) [] h (zKq 13 15 15 h) := by
  have i := zIn.start h0
  have i : zIn 13 14 h h [(13, [])] := i
  refine y_aload_n 0 dX2_init_0 rfl ?_
  refine y_obj dX2_init_1 zb_141 zb_111 zb_112 (by decide) (by omega) (by decide) (by decide) ?_
  refine y_aload_n 0 dX2_init_4 rfl ?_
  refine y_iload_n 1 dX2_init_5 rfl ?_
  refine y_fldF (k := 1) (kz := 1) pk2 dX2_init_6 (by decide) zb_143 rfl rfl rfl (by decide) (zFit_int _) (zOb.lit (by decide +kernel)) rfl i (by decide) (by decide +kernel) (fun h i => ?_)
  refine y_aload_n 0 dX2_init_9 rfl ?_
  refine y_iload_n 1 dX2_init_10 rfl ?_
  refine y_bipush dX2_init_11 ⟨by decide, by decide⟩ (by decide) ?_
  refine y_imul dX2_init_13 ?_
  rw [show w32 (40 * 6) = 240 by decide]
  refine y_arr (t := 1) (N := 240) (q := 14) (q1 := 15) 15 0 0 dX2_init_14 rfl (by decide) zb_153 (by decide +kernel) (by decide) (by decide) (by decide) (by decide) rfl rfl rfl i (by decide) rfl (by decide +kernel) (fun h i => ?_)
  refine y_fldF (k := 0) (kz := 0) pk2 dX2_init_16 (by decide) zb_142 rfl rfl rfl (by decide) (zFit_arr _ _) (zOb.lit (by decide +kernel)) rfl i (by decide) (by decide +kernel) (fun h i => ?_)
  exact y_end dX2_init_19 rfl rfl i (by decide +kernel)
theorem k_15 {X : zX} {dep : Nat} {h : zH} (h0 : h 15 = zd 15) (hdep : 1 ≤ dep) : yW mX2_init X dep 1 360 16 0 (zar 0 [xR 15, xI 60]) [] h (zKq 15 17 17 h) := by
  have i := zIn.start h0
  have i : zIn 15 16 h h [(15, [])] := i
  refine y_aload_n 0 dX2_init_0 rfl ?_
  refine y_obj dX2_init_1 zb_141 zb_111 zb_112 (by decide) (by omega) (by decide) (by decide) ?_
  refine y_aload_n 0 dX2_init_4 rfl ?_
  refine y_iload_n 1 dX2_init_5 rfl ?_
  refine y_fldF (k := 1) (kz := 1) pk2 dX2_init_6 (by decide) zb_143 rfl rfl rfl (by decide) (zFit_int _) (zOb.lit (by decide +kernel)) rfl i (by decide) (by decide +kernel) (fun h i => ?_)
  refine y_aload_n 0 dX2_init_9 rfl ?_
  refine y_iload_n 1 dX2_init_10 rfl ?_
  refine y_bipush dX2_init_11 ⟨by decide, by decide⟩ (by decide) ?_
  refine y_imul dX2_init_13 ?_
  rw [show w32 (60 * 6) = 360 by decide]
  refine y_arr (t := 1) (N := 360) (q := 16) (q1 := 17) 17 0 0 dX2_init_14 rfl (by decide) zb_153 (by decide +kernel) (by decide) (by decide) (by decide) (by decide) rfl rfl rfl i (by decide) rfl (by decide +kernel) (fun h i => ?_)
  refine y_fldF (k := 0) (kz := 0) pk2 dX2_init_16 (by decide) zb_142 rfl rfl rfl (by decide) (zFit_arr _ _) (zOb.lit (by decide +kernel)) rfl i (by decide) (by decide +kernel) (fun h i => ?_)
  exact y_end dX2_init_19 rfl rfl i (by decide +kernel)
theorem k_30 {X : zX} {dep : Nat} {h : zH} (h0 : h 30 = zd 30) (hdep : 1 ≤ dep) : yW mX1_init X dep 5 200 31 0 (zar 0 [xR 30]) [] h (zKq 30 36 36 h) := by
  have i := zIn.start h0
  have i : zIn 30 31 h h [(30, [])] := i
  refine y_aload_n 0 dX1_init_0 rfl ?_
  refine y_obj dX1_init_1 zb_271 zb_111 zb_112 (by decide) (by omega) (by decide) (by decide) ?_
  refine y_aload_n 0 dX1_init_4 rfl ?_
  refine y_iconst dX1_init_5 ⟨by decide, by decide⟩ ?_
  refine y_fld (k := 1) (kz := 1) pk1 dX1_init_6 (by decide) zb_273 rfl (zFit_int _) (zOb.lit (by decide +kernel)) rfl i (by decide) (by decide +kernel) (fun h i => ?_)
  refine y_aload_n 0 dX1_init_9 rfl ?_
  refine y_bipush dX1_init_10 ⟨by decide, by decide⟩ (by decide) ?_
  refine y_fld (k := 2) (kz := 2) pk1 dX1_init_12 (by decide) zb_275 rfl (zFit_int _) (zOb.lit (by decide +kernel)) rfl i (by decide) (by decide +kernel) (fun h i => ?_)
  refine y_aload_n 0 dX1_init_15 rfl ?_
  refine y_bipush dX1_init_16 ⟨by decide, by decide⟩ (by decide) ?_
  refine y_fld (k := 3) (kz := 3) pk1 dX1_init_18 (by decide) zb_278 rfl (zFit_int _) (zOb.lit (by decide +kernel)) rfl i (by decide) (by decide +kernel) (fun h i => ?_)
  refine y_aload_n 0 dX1_init_21 rfl ?_
  refine y_bipush dX1_init_22 ⟨by decide, by decide⟩ (by decide) ?_
  refine y_fld (k := 4) (kz := 4) pk1 dX1_init_24 (by decide) zb_281 rfl (zFit_int _) (zOb.lit (by decide +kernel)) rfl i (by decide) (by decide +kernel) (fun h i => ?_)
  refine y_aload_n 0 dX1_init_27 rfl ?_
  refine y_bipush dX1_init_28 ⟨by decide, by decide⟩ (by decide) ?_
  refine y_arr (t := 1) (N := 20) (q := 31) (q1 := 32) 32 4 180 dX1_init_30 rfl (by decide) zb_153 (by decide +kernel) (by decide) (by decide) (by decide) (by decide) rfl rfl rfl i (by decide) rfl (by decide +kernel) (fun h i => ?_)
  refine y_fldF (k := 7) (kz := 7) pk1 dX1_init_32 (by decide) zb_290 rfl rfl rfl (by decide) (zFit_arr _ _) (zOb.lit (by decide +kernel)) rfl i (by decide) (by decide +kernel) (fun h i => ?_)
  refine y_aload_n 0 dX1_init_35 rfl ?_
  refine y_bipush dX1_init_36 ⟨by decide, by decide⟩ (by decide) ?_
  refine y_arr (t := 1) (N := 20) (q := 32) (q1 := 33) 33 3 160 dX1_init_38 rfl (by decide) zb_153 (by decide +kernel) (by decide) (by decide) (by decide) (by decide) rfl rfl rfl i (by decide) rfl (by decide +kernel) (fun h i => ?_)
  refine y_fldF (k := 8) (kz := 8) pk1 dX1_init_40 (by decide) zb_291 rfl rfl rfl (by decide) (zFit_arr _ _) (zOb.lit (by decide +kernel)) rfl i (by decide) (by decide +kernel) (fun h i => ?_)
  refine y_aload_n 0 dX1_init_43 rfl ?_
  refine y_bipush dX1_init_44 ⟨by decide, by decide⟩ (by decide) ?_
  refine y_arr (t := 1) (N := 20) (q := 33) (q1 := 34) 34 2 140 dX1_init_46 rfl (by decide) zb_153 (by decide +kernel) (by decide) (by decide) (by decide) (by decide) rfl rfl rfl i (by decide) rfl (by decide +kernel) (fun h i => ?_)
  refine y_fldF (k := 9) (kz := 9) pk1 dX1_init_48 (by decide) zb_292 rfl rfl rfl (by decide) (zFit_arr _ _) (zOb.lit (by decide +kernel)) rfl i (by decide) (by decide +kernel) (fun h i => ?_)
  refine y_aload_n 0 dX1_init_51 rfl ?_
  refine y_bipush dX1_init_52 ⟨by decide, by decide⟩ (by decide) ?_
  refine y_arr (t := 1) (N := 20) (q := 34) (q1 := 35) 35 1 120 dX1_init_54 rfl (by decide) zb_153 (by decide +kernel) (by decide) (by decide) (by decide) (by decide) rfl rfl rfl i (by decide) rfl (by decide +kernel) (fun h i => ?_)
  refine y_fldF (k := 10) (kz := 10) pk1 dX1_init_56 (by decide) zb_293 rfl rfl rfl (by decide) (zFit_arr _ _) (zOb.lit (by decide +kernel)) rfl i (by decide) (by decide +kernel) (fun h i => ?_)
  refine y_aload_n 0 dX1_init_59 rfl ?_
  refine y_bipush dX1_init_60 ⟨by decide, by decide⟩ (by decide) ?_
  refine y_arr (t := 1) (N := 120) (q := 35) (q1 := 36) 36 0 0 dX1_init_62 rfl (by decide) zb_153 (by decide +kernel) (by decide) (by decide) (by decide) (by decide) rfl rfl rfl i (by decide) rfl (by decide +kernel) (fun h i => ?_)
  refine y_fldF (k := 11) (kz := 11) pk1 dX1_init_64 (by decide) zb_294 rfl rfl rfl (by decide) (zFit_arr _ _) (zOb.lit (by decide +kernel)) rfl i (by decide) (by decide +kernel) (fun h i => ?_)
  exact y_end dX1_init_67 rfl rfl i (by decide +kernel)
theorem k_36 {X : zX} {dep : Nat} {h : zH} (h0 : h 36 = zd 36) (hdep : 1 ≤ dep) : yW mX1_init X dep 5 200 37 0 (zar 0 [xR 36]) [] h (zKq 36 42 42 h) := by
  have i := zIn.start h0
  have i : zIn 36 37 h h [(36, [])] := i
  refine y_aload_n 0 dX1_init_0 rfl ?_
  refine y_obj dX1_init_1 zb_271 zb_111 zb_112 (by decide) (by omega) (by decide) (by decide) ?_
  refine y_aload_n 0 dX1_init_4 rfl ?_
  refine y_iconst dX1_init_5 ⟨by decide, by decide⟩ ?_
  refine y_fld (k := 1) (kz := 1) pk1 dX1_init_6 (by decide) zb_273 rfl (zFit_int _) (zOb.lit (by decide +kernel)) rfl i (by decide) (by decide +kernel) (fun h i => ?_)
  refine y_aload_n 0 dX1_init_9 rfl ?_
  refine y_bipush dX1_init_10 ⟨by decide, by decide⟩ (by decide) ?_
  refine y_fld (k := 2) (kz := 2) pk1 dX1_init_12 (by decide) zb_275 rfl (zFit_int _) (zOb.lit (by decide +kernel)) rfl i (by decide) (by decide +kernel) (fun h i => ?_)
  refine y_aload_n 0 dX1_init_15 rfl ?_
  refine y_bipush dX1_init_16 ⟨by decide, by decide⟩ (by decide) ?_
  refine y_fld (k := 3) (kz := 3) pk1 dX1_init_18 (by decide) zb_278 rfl (zFit_int _) (zOb.lit (by decide +kernel)) rfl i (by decide) (by decide +kernel) (fun h i => ?_)
  refine y_aload_n 0 dX1_init_21 rfl ?_
  refine y_bipush dX1_init_22 ⟨by decide, by decide⟩ (by decide) ?_
  refine y_fld (k := 4) (kz := 4) pk1 dX1_init_24 (by decide) zb_281 rfl (zFit_int _) (zOb.lit (by decide +kernel)) rfl i (by decide) (by decide +kernel) (fun h i => ?_)
  refine y_aload_n 0 dX1_init_27 rfl ?_
  refine y_bipush dX1_init_28 ⟨by decide, by decide⟩ (by decide) ?_
  refine y_arr (t := 1) (N := 20) (q := 37) (q1 := 38) 38 4 180 dX1_init_30 rfl (by decide) zb_153 (by decide +kernel) (by decide) (by decide) (by decide) (by decide) rfl rfl rfl i (by decide) rfl (by decide +kernel) (fun h i => ?_)
  refine y_fldF (k := 7) (kz := 7) pk1 dX1_init_32 (by decide) zb_290 rfl rfl rfl (by decide) (zFit_arr _ _) (zOb.lit (by decide +kernel)) rfl i (by decide) (by decide +kernel) (fun h i => ?_)
  refine y_aload_n 0 dX1_init_35 rfl ?_
  refine y_bipush dX1_init_36 ⟨by decide, by decide⟩ (by decide) ?_
  refine y_arr (t := 1) (N := 20) (q := 38) (q1 := 39) 39 3 160 dX1_init_38 rfl (by decide) zb_153 (by decide +kernel) (by decide) (by decide) (by decide) (by decide) rfl rfl rfl i (by decide) rfl (by decide +kernel) (fun h i => ?_)
  refine y_fldF (k := 8) (kz := 8) pk1 dX1_init_40 (by decide) zb_291 rfl rfl rfl (by decide) (zFit_arr _ _) (zOb.lit (by decide +kernel)) rfl i (by decide) (by decide +kernel) (fun h i => ?_)
  refine y_aload_n 0 dX1_init_43 rfl ?_
  refine y_bipush dX1_init_44 ⟨by decide, by decide⟩ (by decide) ?_
  refine y_arr (t := 1) (N := 20) (q := 39) (q1 := 40) 40 2 140 dX1_init_46 rfl (by decide) zb_153 (by decide +kernel) (by decide) (by decide) (by decide) (by decide) rfl rfl rfl i (by decide) rfl (by decide +kernel) (fun h i => ?_)
  refine y_fldF (k := 9) (kz := 9) pk1 dX1_init_48 (by decide) zb_292 rfl rfl rfl (by decide) (zFit_arr _ _) (zOb.lit (by decide +kernel)) rfl i (by decide) (by decide +kernel) (fun h i => ?_)
  refine y_aload_n 0 dX1_init_51 rfl ?_
  refine y_bipush dX1_init_52 ⟨by decide, by decide⟩ (by decide) ?_
  refine y_arr (t := 1) (N := 20) (q := 40) (q1 := 41) 41 1 120 dX1_init_54 rfl (by decide) zb_153 (by decide +kernel) (by decide) (by decide) (by decide) (by decide) rfl rfl rfl i (by decide) rfl (by decide +kernel) (fun h i => ?_)
  refine y_fldF (k := 10) (kz := 10) pk1 dX1_init_56 (by decide) zb_293 rfl rfl rfl (by decide) (zFit_arr _ _) (zOb.lit (by decide +kernel)) rfl i (by decide) (by decide +kernel) (fun h i => ?_)
  refine y_aload_n 0 dX1_init_59 rfl ?_
  refine y_bipush dX1_init_60 ⟨by decide, by decide⟩ (by decide) ?_
  refine y_arr (t := 1) (N := 120) (q := 41) (q1 := 42) 42 0 0 dX1_init_62 rfl (by decide) zb_153 (by decide +kernel) (by decide) (by decide) (by decide) (by decide) rfl rfl rfl i (by decide) rfl (by decide +kernel) (fun h i => ?_)
  refine y_fldF (k := 11) (kz := 11) pk1 dX1_init_64 (by decide) zb_294 rfl rfl rfl (by decide) (zFit_arr _ _) (zOb.lit (by decide +kernel)) rfl i (by decide) (by decide +kernel) (fun h i => ?_)
  exact y_end dX1_init_67 rfl rfl i (by decide +kernel)
theorem k_65 {X : zX} {dep : Nat} {h : zH} (h0 : h 65 = zd 65) (hdep : 1 ≤ dep) : yW mX1_init X dep 5 200 66 0 (zar 0 [xR 65]) [] h (zKq 65 71 71 h) := by
  have i := zIn.start h0
  have i : zIn 65 66 h h [(65, [])] := i
  refine y_aload_n 0 dX1_init_0 rfl ?_
  refine y_obj dX1_init_1 zb_271 zb_111 zb_112 (by decide) (by omega) (by decide) (by decide) ?_
  refine y_aload_n 0 dX1_init_4 rfl ?_
  refine y_iconst dX1_init_5 ⟨by decide, by decide⟩ ?_
  refine y_fld (k := 1) (kz := 1) pk1 dX1_init_6 (by decide) zb_273 rfl (zFit_int _) (zOb.lit (by decide +kernel)) rfl i (by decide) (by decide +kernel) (fun h i => ?_)
  refine y_aload_n 0 dX1_init_9 rfl ?_
  refine y_bipush dX1_init_10 ⟨by decide, by decide⟩ (by decide) ?_
  refine y_fld (k := 2) (kz := 2) pk1 dX1_init_12 (by decide) zb_275 rfl (zFit_int _) (zOb.lit (by decide +kernel)) rfl i (by decide) (by decide +kernel) (fun h i => ?_)
  refine y_aload_n 0 dX1_init_15 rfl ?_
  refine y_bipush dX1_init_16 ⟨by decide, by decide⟩ (by decide) ?_
  refine y_fld (k := 3) (kz := 3) pk1 dX1_init_18 (by decide) zb_278 rfl (zFit_int _) (zOb.lit (by decide +kernel)) rfl i (by decide) (by decide +kernel) (fun h i => ?_)
  refine y_aload_n 0 dX1_init_21 rfl ?_
  refine y_bipush dX1_init_22 ⟨by decide, by decide⟩ (by decide) ?_
  refine y_fld (k := 4) (kz := 4) pk1 dX1_init_24 (by decide) zb_281 rfl (zFit_int _) (zOb.lit (by decide +kernel)) rfl i (by decide) (by decide +kernel) (fun h i => ?_)
  refine y_aload_n 0 dX1_init_27 rfl ?_
  refine y_bipush dX1_init_28 ⟨by decide, by decide⟩ (by decide) ?_
  refine y_arr (t := 1) (N := 20) (q := 66) (q1 := 67) 67 4 180 dX1_init_30 rfl (by decide) zb_153 (by decide +kernel) (by decide) (by decide) (by decide) (by decide) rfl rfl rfl i (by decide) rfl (by decide +kernel) (fun h i => ?_)
  refine y_fldF (k := 7) (kz := 7) pk1 dX1_init_32 (by decide) zb_290 rfl rfl rfl (by decide) (zFit_arr _ _) (zOb.lit (by decide +kernel)) rfl i (by decide) (by decide +kernel) (fun h i => ?_)
  refine y_aload_n 0 dX1_init_35 rfl ?_
  refine y_bipush dX1_init_36 ⟨by decide, by decide⟩ (by decide) ?_
  refine y_arr (t := 1) (N := 20) (q := 67) (q1 := 68) 68 3 160 dX1_init_38 rfl (by decide) zb_153 (by decide +kernel) (by decide) (by decide) (by decide) (by decide) rfl rfl rfl i (by decide) rfl (by decide +kernel) (fun h i => ?_)
  refine y_fldF (k := 8) (kz := 8) pk1 dX1_init_40 (by decide) zb_291 rfl rfl rfl (by decide) (zFit_arr _ _) (zOb.lit (by decide +kernel)) rfl i (by decide) (by decide +kernel) (fun h i => ?_)
  refine y_aload_n 0 dX1_init_43 rfl ?_
  refine y_bipush dX1_init_44 ⟨by decide, by decide⟩ (by decide) ?_
  refine y_arr (t := 1) (N := 20) (q := 68) (q1 := 69) 69 2 140 dX1_init_46 rfl (by decide) zb_153 (by decide +kernel) (by decide) (by decide) (by decide) (by decide) rfl rfl rfl i (by decide) rfl (by decide +kernel) (fun h i => ?_)
  refine y_fldF (k := 9) (kz := 9) pk1 dX1_init_48 (by decide) zb_292 rfl rfl rfl (by decide) (zFit_arr _ _) (zOb.lit (by decide +kernel)) rfl i (by decide) (by decide +kernel) (fun h i => ?_)
  refine y_aload_n 0 dX1_init_51 rfl ?_
  refine y_bipush dX1_init_52 ⟨by decide, by decide⟩ (by decide) ?_
  refine y_arr (t := 1) (N := 20) (q := 69) (q1 := 70) 70 1 120 dX1_init_54 rfl (by decide) zb_153 (by decide +kernel) (by decide) (by decide) (by decide) (by decide) rfl rfl rfl i (by decide) rfl (by decide +kernel) (fun h i => ?_)
  refine y_fldF (k := 10) (kz := 10) pk1 dX1_init_56 (by decide) zb_293 rfl rfl rfl (by decide) (zFit_arr _ _) (zOb.lit (by decide +kernel)) rfl i (by decide) (by decide +kernel) (fun h i => ?_)
  refine y_aload_n 0 dX1_init_59 rfl ?_
  refine y_bipush dX1_init_60 ⟨by decide, by decide⟩ (by decide) ?_
  refine y_arr (t := 1) (N := 120) (q := 70) (q1 := 71) 71 0 0 dX1_init_62 rfl (by decide) zb_153 (by decide +kernel) (by decide) (by decide) (by decide) (by decide) rfl rfl rfl i (by decide) rfl (by decide +kernel) (fun h i => ?_)
  refine y_fldF (k := 11) (kz := 11) pk1 dX1_init_64 (by decide) zb_294 rfl rfl rfl (by decide) (zFit_arr _ _) (zOb.lit (by decide +kernel)) rfl i (by decide) (by decide +kernel) (fun h i => ?_)
  exact y_end dX1_init_67 rfl rfl i (by decide +kernel)
theorem k_71 {X : zX} {dep : Nat} {h : zH} (h0 : h 71 = zd 71) (hdep : 1 ≤ dep) : yW mX1_init X dep 5 200 72 0 (zar 0 [xR 71]) [] h (zKq 71 77 77 h) := by
  have i := zIn.start h0
  have i : zIn 71 72 h h [(71, [])] := i
  refine y_aload_n 0 dX1_init_0 rfl ?_
  refine y_obj dX1_init_1 zb_271 zb_111 zb_112 (by decide) (by omega) (by decide) (by decide) ?_
  refine y_aload_n 0 dX1_init_4 rfl ?_
  refine y_iconst dX1_init_5 ⟨by decide, by decide⟩ ?_
  refine y_fld (k := 1) (kz := 1) pk1 dX1_init_6 (by decide) zb_273 rfl (zFit_int _) (zOb.lit (by decide +kernel)) rfl i (by decide) (by decide +kernel) (fun h i => ?_)
  refine y_aload_n 0 dX1_init_9 rfl ?_
  refine y_bipush dX1_init_10 ⟨by decide, by decide⟩ (by decide) ?_
  refine y_fld (k := 2) (kz := 2) pk1 dX1_init_12 (by decide) zb_275 rfl (zFit_int _) (zOb.lit (by decide +kernel)) rfl i (by decide) (by decide +kernel) (fun h i => ?_)
  refine y_aload_n 0 dX1_init_15 rfl ?_
  refine y_bipush dX1_init_16 ⟨by decide, by decide⟩ (by decide) ?_
  refine y_fld (k := 3) (kz := 3) pk1 dX1_init_18 (by decide) zb_278 rfl (zFit_int _) (zOb.lit (by decide +kernel)) rfl i (by decide) (by decide +kernel) (fun h i => ?_)
  refine y_aload_n 0 dX1_init_21 rfl ?_
  refine y_bipush dX1_init_22 ⟨by decide, by decide⟩ (by decide) ?_
  refine y_fld (k := 4) (kz := 4) pk1 dX1_init_24 (by decide) zb_281 rfl (zFit_int _) (zOb.lit (by decide +kernel)) rfl i (by decide) (by decide +kernel) (fun h i => ?_)
  refine y_aload_n 0 dX1_init_27 rfl ?_
  refine y_bipush dX1_init_28 ⟨by decide, by decide⟩ (by decide) ?_
  refine y_arr (t := 1) (N := 20) (q := 72) (q1 := 73) 73 4 180 dX1_init_30 rfl (by decide) zb_153 (by decide +kernel) (by decide) (by decide) (by decide) (by decide) rfl rfl rfl i (by decide) rfl (by decide +kernel) (fun h i => ?_)
  refine y_fldF (k := 7) (kz := 7) pk1 dX1_init_32 (by decide) zb_290 rfl rfl rfl (by decide) (zFit_arr _ _) (zOb.lit (by decide +kernel)) rfl i (by decide) (by decide +kernel) (fun h i => ?_)
  refine y_aload_n 0 dX1_init_35 rfl ?_
  refine y_bipush dX1_init_36 ⟨by decide, by decide⟩ (by decide) ?_
  refine y_arr (t := 1) (N := 20) (q := 73) (q1 := 74) 74 3 160 dX1_init_38 rfl (by decide) zb_153 (by decide +kernel) (by decide) (by decide) (by decide) (by decide) rfl rfl rfl i (by decide) rfl (by decide +kernel) (fun h i => ?_)
  refine y_fldF (k := 8) (kz := 8) pk1 dX1_init_40 (by decide) zb_291 rfl rfl rfl (by decide) (zFit_arr _ _) (zOb.lit (by decide +kernel)) rfl i (by decide) (by decide +kernel) (fun h i => ?_)
  refine y_aload_n 0 dX1_init_43 rfl ?_
  refine y_bipush dX1_init_44 ⟨by decide, by decide⟩ (by decide) ?_
  refine y_arr (t := 1) (N := 20) (q := 74) (q1 := 75) 75 2 140 dX1_init_46 rfl (by decide) zb_153 (by decide +kernel) (by decide) (by decide) (by decide) (by decide) rfl rfl rfl i (by decide) rfl (by decide +kernel) (fun h i => ?_)
  refine y_fldF (k := 9) (kz := 9) pk1 dX1_init_48 (by decide) zb_292 rfl rfl rfl (by decide) (zFit_arr _ _) (zOb.lit (by decide +kernel)) rfl i (by decide) (by decide +kernel) (fun h i => ?_)
  refine y_aload_n 0 dX1_init_51 rfl ?_
  refine y_bipush dX1_init_52 ⟨by decide, by decide⟩ (by decide) ?_
  refine y_arr (t := 1) (N := 20) (q := 75) (q1 := 76) 76 1 120 dX1_init_54 rfl (by decide) zb_153 (by decide +kernel) (by decide) (by decide) (by decide) (by decide) rfl rfl rfl i (by decide) rfl (by decide +kernel) (fun h i => ?_)
  refine y_fldF (k := 10) (kz := 10) pk1 dX1_init_56 (by decide) zb_293 rfl rfl rfl (by decide) (zFit_arr _ _) (zOb.lit (by decide +kernel)) rfl i (by decide) (by decide +kernel) (fun h i => ?_)
  refine y_aload_n 0 dX1_init_59 rfl ?_
  refine y_bipush dX1_init_60 ⟨by decide, by decide⟩ (by decide) ?_
  refine y_arr (t := 1) (N := 120) (q := 76) (q1 := 77) 77 0 0 dX1_init_62 rfl (by decide) zb_153 (by decide +kernel) (by decide) (by decide) (by decide) (by decide) rfl rfl rfl i (by decide) rfl (by decide +kernel) (fun h i => ?_)
  refine y_fldF (k := 11) (kz := 11) pk1 dX1_init_64 (by decide) zb_294 rfl rfl rfl (by decide) (zFit_arr _ _) (zOb.lit (by decide +kernel)) rfl i (by decide) (by decide +kernel) (fun h i => ?_)
  exact y_end dX1_init_67 rfl rfl i (by decide +kernel)
theorem k_77 {X : zX} {dep : Nat} {h : zH} (h0 : h 77 = zd 77) (hdep : 1 ≤ dep) : yW mX1_init X dep 5 200 78 0 (zar 0 [xR 77]) [] h (zKq 77 83 83 h) := by
  have i := zIn.start h0
  have i : zIn 77 78 h h [(77, [])] := i
  refine y_aload_n 0 dX1_init_0 rfl ?_
  refine y_obj dX1_init_1 zb_271 zb_111 zb_112 (by decide) (by omega) (by decide) (by decide) ?_
  refine y_aload_n 0 dX1_init_4 rfl ?_
  refine y_iconst dX1_init_5 ⟨by decide, by decide⟩ ?_
  refine y_fld (k := 1) (kz := 1) pk1 dX1_init_6 (by decide) zb_273 rfl (zFit_int _) (zOb.lit (by decide +kernel)) rfl i (by decide) (by decide +kernel) (fun h i => ?_)
  refine y_aload_n 0 dX1_init_9 rfl ?_
  refine y_bipush dX1_init_10 ⟨by decide, by decide⟩ (by decide) ?_
  refine y_fld (k := 2) (kz := 2) pk1 dX1_init_12 (by decide) zb_275 rfl (zFit_int _) (zOb.lit (by decide +kernel)) rfl i (by decide) (by decide +kernel) (fun h i => ?_)
  refine y_aload_n 0 dX1_init_15 rfl ?_
  refine y_bipush dX1_init_16 ⟨by decide, by decide⟩ (by decide) ?_
  refine y_fld (k := 3) (kz := 3) pk1 dX1_init_18 (by decide) zb_278 rfl (zFit_int _) (zOb.lit (by decide +kernel)) rfl i (by decide) (by decide +kernel) (fun h i => ?_)
  refine y_aload_n 0 dX1_init_21 rfl ?_
  refine y_bipush dX1_init_22 ⟨by decide, by decide⟩ (by decide) ?_
  refine y_fld (k := 4) (kz := 4) pk1 dX1_init_24 (by decide) zb_281 rfl (zFit_int _) (zOb.lit (by decide +kernel)) rfl i (by decide) (by decide +kernel) (fun h i => ?_)
  refine y_aload_n 0 dX1_init_27 rfl ?_
  refine y_bipush dX1_init_28 ⟨by decide, by decide⟩ (by decide) ?_
  refine y_arr (t := 1) (N := 20) (q := 78) (q1 := 79) 79 4 180 dX1_init_30 rfl (by decide) zb_153 (by decide +kernel) (by decide) (by decide) (by decide) (by decide) rfl rfl rfl i (by decide) rfl (by decide +kernel) (fun h i => ?_)
  refine y_fldF (k := 7) (kz := 7) pk1 dX1_init_32 (by decide) zb_290 rfl rfl rfl (by decide) (zFit_arr _ _) (zOb.lit (by decide +kernel)) rfl i (by decide) (by decide +kernel) (fun h i => ?_)
  refine y_aload_n 0 dX1_init_35 rfl ?_
  refine y_bipush dX1_init_36 ⟨by decide, by decide⟩ (by decide) ?_
  refine y_arr (t := 1) (N := 20) (q := 79) (q1 := 80) 80 3 160 dX1_init_38 rfl (by decide) zb_153 (by decide +kernel) (by decide) (by decide) (by decide) (by decide) rfl rfl rfl i (by decide) rfl (by decide +kernel) (fun h i => ?_)
  refine y_fldF (k := 8) (kz := 8) pk1 dX1_init_40 (by decide) zb_291 rfl rfl rfl (by decide) (zFit_arr _ _) (zOb.lit (by decide +kernel)) rfl i (by decide) (by decide +kernel) (fun h i => ?_)
  refine y_aload_n 0 dX1_init_43 rfl ?_
  refine y_bipush dX1_init_44 ⟨by decide, by decide⟩ (by decide) ?_
  refine y_arr (t := 1) (N := 20) (q := 80) (q1 := 81) 81 2 140 dX1_init_46 rfl (by decide) zb_153 (by decide +kernel) (by decide) (by decide) (by decide) (by decide) rfl rfl rfl i (by decide) rfl (by decide +kernel) (fun h i => ?_)
  refine y_fldF (k := 9) (kz := 9) pk1 dX1_init_48 (by decide) zb_292 rfl rfl rfl (by decide) (zFit_arr _ _) (zOb.lit (by decide +kernel)) rfl i (by decide) (by decide +kernel) (fun h i => ?_)
  refine y_aload_n 0 dX1_init_51 rfl ?_
  refine y_bipush dX1_init_52 ⟨by decide, by decide⟩ (by decide) ?_
  refine y_arr (t := 1) (N := 20) (q := 81) (q1 := 82) 82 1 120 dX1_init_54 rfl (by decide) zb_153 (by decide +kernel) (by decide) (by decide) (by decide) (by decide) rfl rfl rfl i (by decide) rfl (by decide +kernel) (fun h i => ?_)
  refine y_fldF (k := 10) (kz := 10) pk1 dX1_init_56 (by decide) zb_293 rfl rfl rfl (by decide) (zFit_arr _ _) (zOb.lit (by decide +kernel)) rfl i (by decide) (by decide +kernel) (fun h i => ?_)
  refine y_aload_n 0 dX1_init_59 rfl ?_
  refine y_bipush dX1_init_60 ⟨by decide, by decide⟩ (by decide) ?_
  refine y_arr (t := 1) (N := 120) (q := 82) (q1 := 83) 83 0 0 dX1_init_62 rfl (by decide) zb_153 (by decide +kernel) (by decide) (by decide) (by decide) (by decide) rfl rfl rfl i (by decide) rfl (by decide +kernel) (fun h i => ?_)
  refine y_fldF (k := 11) (kz := 11) pk1 dX1_init_64 (by decide) zb_294 rfl rfl rfl (by decide) (zFit_arr _ _) (zOb.lit (by decide +kernel)) rfl i (by decide) (by decide +kernel) (fun h i => ?_)
  exact y_end dX1_init_67 rfl rfl i (by decide +kernel)
theorem k_83 {X : zX} {dep : Nat} {h : zH} (h0 : h 83 = zd 83) (hdep : 1 ≤ dep) : yW mX1_init X dep 5 200 84 0 (zar 0 [xR 83]) [] h (zKq 83 89 89 h) := by
  have i := zIn.start h0
  have i : zIn 83 84 h h [(83, [])] := i
  refine y_aload_n 0 dX1_init_0 rfl ?_
  refine y_obj dX1_init_1 zb_271 zb_111 zb_112 (by decide) (by omega) (by decide) (by decide) ?_
  refine y_aload_n 0 dX1_init_4 rfl ?_
  refine y_iconst dX1_init_5 ⟨by decide, by decide⟩ ?_
  refine y_fld (k := 1) (kz := 1) pk1 dX1_init_6 (by decide) zb_273 rfl (zFit_int _) (zOb.lit (by decide +kernel)) rfl i (by decide) (by decide +kernel) (fun h i => ?_)
  refine y_aload_n 0 dX1_init_9 rfl ?_
  refine y_bipush dX1_init_10 ⟨by decide, by decide⟩ (by decide) ?_
  refine y_fld (k := 2) (kz := 2) pk1 dX1_init_12 (by decide) zb_275 rfl (zFit_int _) (zOb.lit (by decide +kernel)) rfl i (by decide) (by decide +kernel) (fun h i => ?_)
  refine y_aload_n 0 dX1_init_15 rfl ?_
  refine y_bipush dX1_init_16 ⟨by decide, by decide⟩ (by decide) ?_
  refine y_fld (k := 3) (kz := 3) pk1 dX1_init_18 (by decide) zb_278 rfl (zFit_int _) (zOb.lit (by decide +kernel)) rfl i (by decide) (by decide +kernel) (fun h i => ?_)
  refine y_aload_n 0 dX1_init_21 rfl ?_
  refine y_bipush dX1_init_22 ⟨by decide, by decide⟩ (by decide) ?_
  refine y_fld (k := 4) (kz := 4) pk1 dX1_init_24 (by decide) zb_281 rfl (zFit_int _) (zOb.lit (by decide +kernel)) rfl i (by decide) (by decide +kernel) (fun h i => ?_)
  refine y_aload_n 0 dX1_init_27 rfl ?_
  refine y_bipush dX1_init_28 ⟨by decide, by decide⟩ (by decide) ?_
  refine y_arr (t := 1) (N := 20) (q := 84) (q1 := 85) 85 4 180 dX1_init_30 rfl (by decide) zb_153 (by decide +kernel) (by decide) (by decide) (by decide) (by decide) rfl rfl rfl i (by decide) rfl (by decide +kernel) (fun h i => ?_)
  refine y_fldF (k := 7) (kz := 7) pk1 dX1_init_32 (by decide) zb_290 rfl rfl rfl (by decide) (zFit_arr _ _) (zOb.lit (by decide +kernel)) rfl i (by decide) (by decide +kernel) (fun h i => ?_)
  refine y_aload_n 0 dX1_init_35 rfl ?_
  refine y_bipush dX1_init_36 ⟨by decide, by decide⟩ (by decide) ?_
  refine y_arr (t := 1) (N := 20) (q := 85) (q1 := 86) 86 3 160 dX1_init_38 rfl (by decide) zb_153 (by decide +kernel) (by decide) (by decide) (by decide) (by decide) rfl rfl rfl i (by decide) rfl (by decide +kernel) (fun h i => ?_)
  refine y_fldF (k := 8) (kz := 8) pk1 dX1_init_40 (by decide) zb_291 rfl rfl rfl (by decide) (zFit_arr _ _) (zOb.lit (by decide +kernel)) rfl i (by decide) (by decide +kernel) (fun h i => ?_)
  refine y_aload_n 0 dX1_init_43 rfl ?_
  refine y_bipush dX1_init_44 ⟨by decide, by decide⟩ (by decide) ?_
  refine y_arr (t := 1) (N := 20) (q := 86) (q1 := 87) 87 2 140 dX1_init_46 rfl (by decide) zb_153 (by decide +kernel) (by decide) (by decide) (by decide) (by decide) rfl rfl rfl i (by decide) rfl (by decide +kernel) (fun h i => ?_)
  refine y_fldF (k := 9) (kz := 9) pk1 dX1_init_48 (by decide) zb_292 rfl rfl rfl (by decide) (zFit_arr _ _) (zOb.lit (by decide +kernel)) rfl i (by decide) (by decide +kernel) (fun h i => ?_)
  refine y_aload_n 0 dX1_init_51 rfl ?_
  refine y_bipush dX1_init_52 ⟨by decide, by decide⟩ (by decide) ?_
  refine y_arr (t := 1) (N := 20) (q := 87) (q1 := 88) 88 1 120 dX1_init_54 rfl (by decide) zb_153 (by decide +kernel) (by decide) (by decide) (by decide) (by decide) rfl rfl rfl i (by decide) rfl (by decide +kernel) (fun h i => ?_)
  refine y_fldF (k := 10) (kz := 10) pk1 dX1_init_56 (by decide) zb_293 rfl rfl rfl (by decide) (zFit_arr _ _) (zOb.lit (by decide +kernel)) rfl i (by decide) (by decide +kernel) (fun h i => ?_)
  refine y_aload_n 0 dX1_init_59 rfl ?_
  refine y_bipush dX1_init_60 ⟨by decide, by decide⟩ (by decide) ?_
  refine y_arr (t := 1) (N := 120) (q := 88) (q1 := 89) 89 0 0 dX1_init_62 rfl (by decide) zb_153 (by decide +kernel) (by decide) (by decide) (by decide) (by decide) rfl rfl rfl i (by decide) rfl (by decide +kernel) (fun h i => ?_)
  refine y_fldF (k := 11) (kz := 11) pk1 dX1_init_64 (by decide) zb_294 rfl rfl rfl (by decide) (zFit_arr _ _) (zOb.lit (by decide +kernel)) rfl i (by decide) (by decide +kernel) (fun h i => ?_)
  exact y_end dX1_init_67 rfl rfl i (by decide +kernel)
theorem k_89 {X : zX} {dep : Nat} {h : zH} (h0 : h 89 = zd 89) (hdep : 1 ≤ dep) : yW mX1_init X dep 5 200 90 0 (zar 0 [xR 89]) [] h (zKq 89 95 95 h) := by
  have i := zIn.start h0
  have i : zIn 89 90 h h [(89, [])] := i
  refine y_aload_n 0 dX1_init_0 rfl ?_
  refine y_obj dX1_init_1 zb_271 zb_111 zb_112 (by decide) (by omega) (by decide) (by decide) ?_
  refine y_aload_n 0 dX1_init_4 rfl ?_
  refine y_iconst dX1_init_5 ⟨by decide, by decide⟩ ?_
  refine y_fld (k := 1) (kz := 1) pk1 dX1_init_6 (by decide) zb_273 rfl (zFit_int _) (zOb.lit (by decide +kernel)) rfl i (by decide) (by decide +kernel) (fun h i => ?_)
  refine y_aload_n 0 dX1_init_9 rfl ?_
  refine y_bipush dX1_init_10 ⟨by decide, by decide⟩ (by decide) ?_
  refine y_fld (k := 2) (kz := 2) pk1 dX1_init_12 (by decide) zb_275 rfl (zFit_int _) (zOb.lit (by decide +kernel)) rfl i (by decide) (by decide +kernel) (fun h i => ?_)
  refine y_aload_n 0 dX1_init_15 rfl ?_
  refine y_bipush dX1_init_16 ⟨by decide, by decide⟩ (by decide) ?_
  refine y_fld (k := 3) (kz := 3) pk1 dX1_init_18 (by decide) zb_278 rfl (zFit_int _) (zOb.lit (by decide +kernel)) rfl i (by decide) (by decide +kernel) (fun h i => ?_)
  refine y_aload_n 0 dX1_init_21 rfl ?_
  refine y_bipush dX1_init_22 ⟨by decide, by decide⟩ (by decide) ?_
  refine y_fld (k := 4) (kz := 4) pk1 dX1_init_24 (by decide) zb_281 rfl (zFit_int _) (zOb.lit (by decide +kernel)) rfl i (by decide) (by decide +kernel) (fun h i => ?_)
  refine y_aload_n 0 dX1_init_27 rfl ?_
  refine y_bipush dX1_init_28 ⟨by decide, by decide⟩ (by decide) ?_
  refine y_arr (t := 1) (N := 20) (q := 90) (q1 := 91) 91 4 180 dX1_init_30 rfl (by decide) zb_153 (by decide +kernel) (by decide) (by decide) (by decide) (by decide) rfl rfl rfl i (by decide) rfl (by decide +kernel) (fun h i => ?_)
  refine y_fldF (k := 7) (kz := 7) pk1 dX1_init_32 (by decide) zb_290 rfl rfl rfl (by decide) (zFit_arr _ _) (zOb.lit (by decide +kernel)) rfl i (by decide) (by decide +kernel) (fun h i => ?_)
  refine y_aload_n 0 dX1_init_35 rfl ?_
  refine y_bipush dX1_init_36 ⟨by decide, by decide⟩ (by decide) ?_
  refine y_arr (t := 1) (N := 20) (q := 91) (q1 := 92) 92 3 160 dX1_init_38 rfl (by decide) zb_153 (by decide +kernel) (by decide) (by decide) (by decide) (by decide) rfl rfl rfl i (by decide) rfl (by decide +kernel) (fun h i => ?_)
  refine y_fldF (k := 8) (kz := 8) pk1 dX1_init_40 (by decide) zb_291 rfl rfl rfl (by decide) (zFit_arr _ _) (zOb.lit (by decide +kernel)) rfl i (by decide) (by decide +kernel) (fun h i => ?_)
  refine y_aload_n 0 dX1_init_43 rfl ?_
  refine y_bipush dX1_init_44 ⟨by decide, by decide⟩ (by decide) ?_
  refine y_arr (t := 1) (N := 20) (q := 92) (q1 := 93) 93 2 140 dX1_init_46 rfl (by decide) zb_153 (by decide +kernel) (by decide) (by decide) (by decide) (by decide) rfl rfl rfl i (by decide) rfl (by decide +kernel) (fun h i => ?_)
  refine y_fldF (k := 9) (kz := 9) pk1 dX1_init_48 (by decide) zb_292 rfl rfl rfl (by decide) (zFit_arr _ _) (zOb.lit (by decide +kernel)) rfl i (by decide) (by decide +kernel) (fun h i => ?_)
  refine y_aload_n 0 dX1_init_51 rfl ?_
  refine y_bipush dX1_init_52 ⟨by decide, by decide⟩ (by decide) ?_
  refine y_arr (t := 1) (N := 20) (q := 93) (q1 := 94) 94 1 120 dX1_init_54 rfl (by decide) zb_153 (by decide +kernel) (by decide) (by decide) (by decide) (by decide) rfl rfl rfl i (by decide) rfl (by decide +kernel) (fun h i => ?_)
  refine y_fldF (k := 10) (kz := 10) pk1 dX1_init_56 (by decide) zb_293 rfl rfl rfl (by decide) (zFit_arr _ _) (zOb.lit (by decide +kernel)) rfl i (by decide) (by decide +kernel) (fun h i => ?_)
  refine y_aload_n 0 dX1_init_59 rfl ?_
  refine y_bipush dX1_init_60 ⟨by decide, by decide⟩ (by decide) ?_
  refine y_arr (t := 1) (N := 120) (q := 94) (q1 := 95) 95 0 0 dX1_init_62 rfl (by decide) zb_153 (by decide +kernel) (by decide) (by decide) (by decide) (by decide) rfl rfl rfl i (by decide) rfl (by decide +kernel) (fun h i => ?_)
  refine y_fldF (k := 11) (kz := 11) pk1 dX1_init_64 (by decide) zb_294 rfl rfl rfl (by decide) (zFit_arr _ _) (zOb.lit (by decide +kernel)) rfl i (by decide) (by decide +kernel) (fun h i => ?_)
  exact y_end dX1_init_67 rfl rfl i (by decide +kernel)
theorem k_95 {X : zX} {dep : Nat} {h : zH} (h0 : h 95 = zd 95) (hdep : 1 ≤ dep) : yW mX1_init X dep 5 200 96 0 (zar 0 [xR 95]) [] h (zKq 95 101 101 h) := by
  have i := zIn.start h0
  have i : zIn 95 96 h h [(95, [])] := i
  refine y_aload_n 0 dX1_init_0 rfl ?_
  refine y_obj dX1_init_1 zb_271 zb_111 zb_112 (by decide) (by omega) (by decide) (by decide) ?_
  refine y_aload_n 0 dX1_init_4 rfl ?_
  refine y_iconst dX1_init_5 ⟨by decide, by decide⟩ ?_
  refine y_fld (k := 1) (kz := 1) pk1 dX1_init_6 (by decide) zb_273 rfl (zFit_int _) (zOb.lit (by decide +kernel)) rfl i (by decide) (by decide +kernel) (fun h i => ?_)
  refine y_aload_n 0 dX1_init_9 rfl ?_
  refine y_bipush dX1_init_10 ⟨by decide, by decide⟩ (by decide) ?_
  refine y_fld (k := 2) (kz := 2) pk1 dX1_init_12 (by decide) zb_275 rfl (zFit_int _) (zOb.lit (by decide +kernel)) rfl i (by decide) (by decide +kernel) (fun h i => ?_)
  refine y_aload_n 0 dX1_init_15 rfl ?_
  refine y_bipush dX1_init_16 ⟨by decide, by decide⟩ (by decide) ?_
  refine y_fld (k := 3) (kz := 3) pk1 dX1_init_18 (by decide) zb_278 rfl (zFit_int _) (zOb.lit (by decide +kernel)) rfl i (by decide) (by decide +kernel) (fun h i => ?_)
  refine y_aload_n 0 dX1_init_21 rfl ?_
  refine y_bipush dX1_init_22 ⟨by decide, by decide⟩ (by decide) ?_
  refine y_fld (k := 4) (kz := 4) pk1 dX1_init_24 (by decide) zb_281 rfl (zFit_int _) (zOb.lit (by decide +kernel)) rfl i (by decide) (by decide +kernel) (fun h i => ?_)
  refine y_aload_n 0 dX1_init_27 rfl ?_
  refine y_bipush dX1_init_28 ⟨by decide, by decide⟩ (by decide) ?_
  refine y_arr (t := 1) (N := 20) (q := 96) (q1 := 97) 97 4 180 dX1_init_30 rfl (by decide) zb_153 (by decide +kernel) (by decide) (by decide) (by decide) (by decide) rfl rfl rfl i (by decide) rfl (by decide +kernel) (fun h i => ?_)
  refine y_fldF (k := 7) (kz := 7) pk1 dX1_init_32 (by decide) zb_290 rfl rfl rfl (by decide) (zFit_arr _ _) (zOb.lit (by decide +kernel)) rfl i (by decide) (by decide +kernel) (fun h i => ?_)
  refine y_aload_n 0 dX1_init_35 rfl ?_
  refine y_bipush dX1_init_36 ⟨by decide, by decide⟩ (by decide) ?_
  refine y_arr (t := 1) (N := 20) (q := 97) (q1 := 98) 98 3 160 dX1_init_38 rfl (by decide) zb_153 (by decide +kernel) (by decide) (by decide) (by decide) (by decide) rfl rfl rfl i (by decide) rfl (by decide +kernel) (fun h i => ?_)
  refine y_fldF (k := 8) (kz := 8) pk1 dX1_init_40 (by decide) zb_291 rfl rfl rfl (by decide) (zFit_arr _ _) (zOb.lit (by decide +kernel)) rfl i (by decide) (by decide +kernel) (fun h i => ?_)
  refine y_aload_n 0 dX1_init_43 rfl ?_
  refine y_bipush dX1_init_44 ⟨by decide, by decide⟩ (by decide) ?_
  refine y_arr (t := 1) (N := 20) (q := 98) (q1 := 99) 99 2 140 dX1_init_46 rfl (by decide) zb_153 (by decide +kernel) (by decide) (by decide) (by decide) (by decide) rfl rfl rfl i (by decide) rfl (by decide +kernel) (fun h i => ?_)
  refine y_fldF (k := 9) (kz := 9) pk1 dX1_init_48 (by decide) zb_292 rfl rfl rfl (by decide) (zFit_arr _ _) (zOb.lit (by decide +kernel)) rfl i (by decide) (by decide +kernel) (fun h i => ?_)
  refine y_aload_n 0 dX1_init_51 rfl ?_
  refine y_bipush dX1_init_52 ⟨by decide, by decide⟩ (by decide) ?_
  refine y_arr (t := 1) (N := 20) (q := 99) (q1 := 100) 100 1 120 dX1_init_54 rfl (by decide) zb_153 (by decide +kernel) (by decide) (by decide) (by decide) (by decide) rfl rfl rfl i (by decide) rfl (by decide +kernel) (fun h i => ?_)
  refine y_fldF (k := 10) (kz := 10) pk1 dX1_init_56 (by decide) zb_293 rfl rfl rfl (by decide) (zFit_arr _ _) (zOb.lit (by decide +kernel)) rfl i (by decide) (by decide +kernel) (fun h i => ?_)
  refine y_aload_n 0 dX1_init_59 rfl ?_
  refine y_bipush dX1_init_60 ⟨by decide, by decide⟩ (by decide) ?_
  refine y_arr (t := 1) (N := 120) (q := 100) (q1 := 101) 101 0 0 dX1_init_62 rfl (by decide) zb_153 (by decide +kernel) (by decide) (by decide) (by decide) (by decide) rfl rfl rfl i (by decide) rfl (by decide +kernel) (fun h i => ?_)
  refine y_fldF (k := 11) (kz := 11) pk1 dX1_init_64 (by decide) zb_294 rfl rfl rfl (by decide) (zFit_arr _ _) (zOb.lit (by decide +kernel)) rfl i (by decide) (by decide +kernel) (fun h i => ?_)
  exact y_end dX1_init_67 rfl rfl i (by decide +kernel)
theorem k_101 {X : zX} {dep : Nat} {h : zH} (h0 : h 101 = zd 101) (hdep : 1 ≤ dep) : yW mX1_init X dep 5 200 102 0 (zar 0 [xR 101]) [] h (zKq 101 107 107 h) := by
  have i := zIn.start h0
  have i : zIn 101 102 h h [(101, [])] := i
  refine y_aload_n 0 dX1_init_0 rfl ?_
  refine y_obj dX1_init_1 zb_271 zb_111 zb_112 (by decide) (by omega) (by decide) (by decide) ?_
  refine y_aload_n 0 dX1_init_4 rfl ?_
  refine y_iconst dX1_init_5 ⟨by decide, by decide⟩ ?_
  refine y_fld (k := 1) (kz := 1) pk1 dX1_init_6 (by decide) zb_273 rfl (zFit_int _) (zOb.lit (by decide +kernel)) rfl i (by decide) (by decide +kernel) (fun h i => ?_)
  refine y_aload_n 0 dX1_init_9 rfl ?_
  refine y_bipush dX1_init_10 ⟨by decide, by decide⟩ (by decide) ?_
  refine y_fld (k := 2) (kz := 2) pk1 dX1_init_12 (by decide) zb_275 rfl (zFit_int _) (zOb.lit (by decide +kernel)) rfl i (by decide) (by decide +kernel) (fun h i => ?_)
  refine y_aload_n 0 dX1_init_15 rfl ?_
  refine y_bipush dX1_init_16 ⟨by decide, by decide⟩ (by decide) ?_
  refine y_fld (k := 3) (kz := 3) pk1 dX1_init_18 (by decide) zb_278 rfl (zFit_int _) (zOb.lit (by decide +kernel)) rfl i (by decide) (by decide +kernel) (fun h i => ?_)
  refine y_aload_n 0 dX1_init_21 rfl ?_
  refine y_bipush dX1_init_22 ⟨by decide, by decide⟩ (by decide) ?_
  refine y_fld (k := 4) (kz := 4) pk1 dX1_init_24 (by decide) zb_281 rfl (zFit_int _) (zOb.lit (by decide +kernel)) rfl i (by decide) (by decide +kernel) (fun h i => ?_)
  refine y_aload_n 0 dX1_init_27 rfl ?_
  refine y_bipush dX1_init_28 ⟨by decide, by decide⟩ (by decide) ?_
  refine y_arr (t := 1) (N := 20) (q := 102) (q1 := 103) 103 4 180 dX1_init_30 rfl (by decide) zb_153 (by decide +kernel) (by decide) (by decide) (by decide) (by decide) rfl rfl rfl i (by decide) rfl (by decide +kernel) (fun h i => ?_)
  refine y_fldF (k := 7) (kz := 7) pk1 dX1_init_32 (by decide) zb_290 rfl rfl rfl (by decide) (zFit_arr _ _) (zOb.lit (by decide +kernel)) rfl i (by decide) (by decide +kernel) (fun h i => ?_)
  refine y_aload_n 0 dX1_init_35 rfl ?_
  refine y_bipush dX1_init_36 ⟨by decide, by decide⟩ (by decide) ?_
  refine y_arr (t := 1) (N := 20) (q := 103) (q1 := 104) 104 3 160 dX1_init_38 rfl (by decide) zb_153 (by decide +kernel) (by decide) (by decide) (by decide) (by decide) rfl rfl rfl i (by decide) rfl (by decide +kernel) (fun h i => ?_)
  refine y_fldF (k := 8) (kz := 8) pk1 dX1_init_40 (by decide) zb_291 rfl rfl rfl (by decide) (zFit_arr _ _) (zOb.lit (by decide +kernel)) rfl i (by decide) (by decide +kernel) (fun h i => ?_)
  refine y_aload_n 0 dX1_init_43 rfl ?_
  refine y_bipush dX1_init_44 ⟨by decide, by decide⟩ (by decide) ?_
  refine y_arr (t := 1) (N := 20) (q := 104) (q1 := 105) 105 2 140 dX1_init_46 rfl (by decide) zb_153 (by decide +kernel) (by decide) (by decide) (by decide) (by decide) rfl rfl rfl i (by decide) rfl (by decide +kernel) (fun h i => ?_)
  refine y_fldF (k := 9) (kz := 9) pk1 dX1_init_48 (by decide) zb_292 rfl rfl rfl (by decide) (zFit_arr _ _) (zOb.lit (by decide +kernel)) rfl i (by decide) (by decide +kernel) (fun h i => ?_)
  refine y_aload_n 0 dX1_init_51 rfl ?_
  refine y_bipush dX1_init_52 ⟨by decide, by decide⟩ (by decide) ?_
  refine y_arr (t := 1) (N := 20) (q := 105) (q1 := 106) 106 1 120 dX1_init_54 rfl (by decide) zb_153 (by decide +kernel) (by decide) (by decide) (by decide) (by decide) rfl rfl rfl i (by decide) rfl (by decide +kernel) (fun h i => ?_)
  refine y_fldF (k := 10) (kz := 10) pk1 dX1_init_56 (by decide) zb_293 rfl rfl rfl (by decide) (zFit_arr _ _) (zOb.lit (by decide +kernel)) rfl i (by decide) (by decide +kernel) (fun h i => ?_)
  refine y_aload_n 0 dX1_init_59 rfl ?_
  refine y_bipush dX1_init_60 ⟨by decide, by decide⟩ (by decide) ?_
  refine y_arr (t := 1) (N := 120) (q := 106) (q1 := 107) 107 0 0 dX1_init_62 rfl (by decide) zb_153 (by decide +kernel) (by decide) (by decide) (by decide) (by decide) rfl rfl rfl i (by decide) rfl (by decide +kernel) (fun h i => ?_)
  refine y_fldF (k := 11) (kz := 11) pk1 dX1_init_64 (by decide) zb_294 rfl rfl rfl (by decide) (zFit_arr _ _) (zOb.lit (by decide +kernel)) rfl i (by decide) (by decide +kernel) (fun h i => ?_)
  exact y_end dX1_init_67 rfl rfl i (by decide +kernel)
theorem k_107 {X : zX} {dep : Nat} {h : zH} (h0 : h 107 = zd 107) (hdep : 1 ≤ dep) : yW mX1_init X dep 5 200 108 0 (zar 0 [xR 107]) [] h (zKq 107 113 113 h) := by
  have i := zIn.start h0
  have i : zIn 107 108 h h [(107, [])] := i
  refine y_aload_n 0 dX1_init_0 rfl ?_
  refine y_obj dX1_init_1 zb_271 zb_111 zb_112 (by decide) (by omega) (by decide) (by decide) ?_
  refine y_aload_n 0 dX1_init_4 rfl ?_
  refine y_iconst dX1_init_5 ⟨by decide, by decide⟩ ?_
  refine y_fld (k := 1) (kz := 1) pk1 dX1_init_6 (by decide) zb_273 rfl (zFit_int _) (zOb.lit (by decide +kernel)) rfl i (by decide) (by decide +kernel) (fun h i => ?_)
  refine y_aload_n 0 dX1_init_9 rfl ?_
  refine y_bipush dX1_init_10 ⟨by decide, by decide⟩ (by decide) ?_
  refine y_fld (k := 2) (kz := 2) pk1 dX1_init_12 (by decide) zb_275 rfl (zFit_int _) (zOb.lit (by decide +kernel)) rfl i (by decide) (by decide +kernel) (fun h i => ?_)
  refine y_aload_n 0 dX1_init_15 rfl ?_
  refine y_bipush dX1_init_16 ⟨by decide, by decide⟩ (by decide) ?_
  refine y_fld (k := 3) (kz := 3) pk1 dX1_init_18 (by decide) zb_278 rfl (zFit_int _) (zOb.lit (by decide +kernel)) rfl i (by decide) (by decide +kernel) (fun h i => ?_)
  refine y_aload_n 0 dX1_init_21 rfl ?_
  refine y_bipush dX1_init_22 ⟨by decide, by decide⟩ (by decide) ?_
  refine y_fld (k := 4) (kz := 4) pk1 dX1_init_24 (by decide) zb_281 rfl (zFit_int _) (zOb.lit (by decide +kernel)) rfl i (by decide) (by decide +kernel) (fun h i => ?_)
  refine y_aload_n 0 dX1_init_27 rfl ?_
  refine y_bipush dX1_init_28 ⟨by decide, by decide⟩ (by decide) ?_
  refine y_arr (t := 1) (N := 20) (q := 108) (q1 := 109) 109 4 180 dX1_init_30 rfl (by decide) zb_153 (by decide +kernel) (by decide) (by decide) (by decide) (by decide) rfl rfl rfl i (by decide) rfl (by decide +kernel) (fun h i => ?_)
  refine y_fldF (k := 7) (kz := 7) pk1 dX1_init_32 (by decide) zb_290 rfl rfl rfl (by decide) (zFit_arr _ _) (zOb.lit (by decide +kernel)) rfl i (by decide) (by decide +kernel) (fun h i => ?_)
  refine y_aload_n 0 dX1_init_35 rfl ?_
  refine y_bipush dX1_init_36 ⟨by decide, by decide⟩ (by decide) ?_
  refine y_arr (t := 1) (N := 20) (q := 109) (q1 := 110) 110 3 160 dX1_init_38 rfl (by decide) zb_153 (by decide +kernel) (by decide) (by decide) (by decide) (by decide) rfl rfl rfl i (by decide) rfl (by decide +kernel) (fun h i => ?_)
  refine y_fldF (k := 8) (kz := 8) pk1 dX1_init_40 (by decide) zb_291 rfl rfl rfl (by decide) (zFit_arr _ _) (zOb.lit (by decide +kernel)) rfl i (by decide) (by decide +kernel) (fun h i => ?_)
  refine y_aload_n 0 dX1_init_43 rfl ?_
  refine y_bipush dX1_init_44 ⟨by decide, by decide⟩ (by decide) ?_
  refine y_arr (t := 1) (N := 20) (q := 110) (q1 := 111) 111 2 140 dX1_init_46 rfl (by decide) zb_153 (by decide +kernel) (by decide) (by decide) (by decide) (by decide) rfl rfl rfl i (by decide) rfl (by decide +kernel) (fun h i => ?_)
  refine y_fldF (k := 9) (kz := 9) pk1 dX1_init_48 (by decide) zb_292 rfl rfl rfl (by decide) (zFit_arr _ _) (zOb.lit (by decide +kernel)) rfl i (by decide) (by decide +kernel) (fun h i => ?_)
  refine y_aload_n 0 dX1_init_51 rfl ?_
  refine y_bipush dX1_init_52 ⟨by decide, by decide⟩ (by decide) ?_
  refine y_arr (t := 1) (N := 20) (q := 111) (q1 := 112) 112 1 120 dX1_init_54 rfl (by decide) zb_153 (by decide +kernel) (by decide) (by decide) (by decide) (by decide) rfl rfl rfl i (by decide) rfl (by decide +kernel) (fun h i => ?_)
  refine y_fldF (k := 10) (kz := 10) pk1 dX1_init_56 (by decide) zb_293 rfl rfl rfl (by decide) (zFit_arr _ _) (zOb.lit (by decide +kernel)) rfl i (by decide) (by decide +kernel) (fun h i => ?_)
  refine y_aload_n 0 dX1_init_59 rfl ?_
  refine y_bipush dX1_init_60 ⟨by decide, by decide⟩ (by decide) ?_
  refine y_arr (t := 1) (N := 120) (q := 112) (q1 := 113) 113 0 0 dX1_init_62 rfl (by decide) zb_153 (by decide +kernel) (by decide) (by decide) (by decide) (by decide) rfl rfl rfl i (by decide) rfl (by decide +kernel) (fun h i => ?_)
  refine y_fldF (k := 11) (kz := 11) pk1 dX1_init_64 (by decide) zb_294 rfl rfl rfl (by decide) (zFit_arr _ _) (zOb.lit (by decide +kernel)) rfl i (by decide) (by decide +kernel) (fun h i => ?_)
  exact y_end dX1_init_67 rfl rfl i (by decide +kernel)
theorem k_25 {X : zX} {dep : Nat} {h : zH} (h0 : h 25 = zd 25) (hdep : 1 ≤ dep) : yW mX8_init X dep 4 1204 26 0 (zar 0 [xR 25]) [] h (zKq 25 30 30 h) := by
  have i := zIn.start h0
  have i : zIn 25 26 h h [(25, [])] := i
  refine y_aload_n 0 dX8_init_0 rfl ?_
  refine y_obj dX8_init_1 zb_238 zb_111 zb_112 (by decide) (by omega) (by decide) (by decide) ?_
  refine y_aload_n 0 dX8_init_4 rfl ?_
  refine y_sipush dX8_init_5 ⟨by decide, by decide⟩ (by decide) ?_
  refine y_arr (t := 1) (N := 301) (q := 26) (q1 := 27) 27 3 903 dX8_init_8 rfl (by decide) zb_153 (by decide +kernel) (by decide) (by decide) (by decide) (by decide) rfl rfl rfl i (by decide) rfl (by decide +kernel) (fun h i => ?_)
  refine y_fldF (k := 0) (kz := 0) pk8 dX8_init_10 (by decide) zb_241 rfl rfl rfl (by decide) (zFit_arr _ _) (zOb.lit (by decide +kernel)) rfl i (by decide) (by decide +kernel) (fun h i => ?_)
  refine y_aload_n 0 dX8_init_13 rfl ?_
  refine y_sipush dX8_init_14 ⟨by decide, by decide⟩ (by decide) ?_
  refine y_arr (t := 1) (N := 301) (q := 27) (q1 := 28) 28 2 602 dX8_init_17 rfl (by decide) zb_153 (by decide +kernel) (by decide) (by decide) (by decide) (by decide) rfl rfl rfl i (by decide) rfl (by decide +kernel) (fun h i => ?_)
  refine y_fldF (k := 1) (kz := 1) pk8 dX8_init_19 (by decide) zb_243 rfl rfl rfl (by decide) (zFit_arr _ _) (zOb.lit (by decide +kernel)) rfl i (by decide) (by decide +kernel) (fun h i => ?_)
  refine y_aload_n 0 dX8_init_22 rfl ?_
  refine y_sipush dX8_init_23 ⟨by decide, by decide⟩ (by decide) ?_
  refine y_arr (t := 1) (N := 301) (q := 28) (q1 := 29) 29 1 301 dX8_init_26 rfl (by decide) zb_153 (by decide +kernel) (by decide) (by decide) (by decide) (by decide) rfl rfl rfl i (by decide) rfl (by decide +kernel) (fun h i => ?_)
  refine y_fldF (k := 2) (kz := 2) pk8 dX8_init_28 (by decide) zb_245 rfl rfl rfl (by decide) (zFit_arr _ _) (zOb.lit (by decide +kernel)) rfl i (by decide) (by decide +kernel) (fun h i => ?_)
  refine y_aload_n 0 dX8_init_31 rfl ?_
  refine y_sipush dX8_init_32 ⟨by decide, by decide⟩ (by decide) ?_
  refine y_arq (t := 5) (N := 301) (q := 29) (q1 := 30) 30 0 0 dX8_init_35 rfl (by decide) zb_239 (fun _ z => z.2.2.1) (by decide +kernel) (by decide) (by decide) (by decide) (by decide) rfl rfl rfl i (by decide) rfl (by decide +kernel) (fun h i => ?_)
  refine y_fldF (k := 3) (kz := 3) pk8 dX8_init_38 (by decide) zb_247 rfl rfl rfl (by decide) (zFit_arr _ _) (zOb.lit (by decide +kernel)) rfl i (by decide) (by decide +kernel) (fun h i => ?_)
  exact y_end dX8_init_41 rfl rfl i (by decide +kernel)
