set_option maxRecDepth 4000 in
theorem k_44 {X : zX} {dep : Nat} {h : zH} (h0 : h 44 = zd 44) (hdep : 1 ≤ dep) : yW mX0_init X dep 18 208 45 0 (zar 0 [xR 44]) [] h (zKq 44 63 63 h) := by
  have i := zIn.start h0
  have i : zIn 44 45 h h [(44, [])] := i
  refine y_aload_n 0 dX0_init_0 rfl ?_
  refine y_obj dX0_init_1 zb_360 zb_111 zb_112 (by decide) (by omega) (by decide) (by decide) ?_
  refine y_aload_n 0 dX0_init_4 rfl ?_
  refine y_bipush dX0_init_5 ⟨by decide, by decide⟩ (by decide) ?_
  refine y_bipush dX0_init_7 ⟨by decide, by decide⟩ (by decide) ?_
  refine y_grid (q := 45) (q1 := 54) 54 9 104 dX0_init_9 zb_361 zb_153 (by decide +kernel) zS_45 (by decide) (by decide) (by decide) (by decide) rfl rfl rfl zJ0_45 zJ0_45j i (by decide) (by decide) (fun h i => ?_)
  refine y_fldF (k := 0) (kz := 0) pk0 dX0_init_13 (by decide) zb_363 rfl rfl rfl (by decide) (zFit_arr _ _) (zOb.lit (by decide +kernel)) rfl i (by decide) (by decide +kernel) (fun h i => ?_)
  refine y_aload_n 0 dX0_init_16 rfl ?_
  refine y_bipush dX0_init_17 ⟨by decide, by decide⟩ (by decide) ?_
  refine y_bipush dX0_init_19 ⟨by decide, by decide⟩ (by decide) ?_
  refine y_grid (q := 54) (q1 := 63) 63 0 0 dX0_init_21 zb_361 zb_153 (by decide +kernel) zS_54 (by decide) (by decide) (by decide) (by decide) rfl rfl rfl zJ0_54 zJ0_54j i (by decide) (by decide) (fun h i => ?_)
  refine y_fldF (k := 1) (kz := 1) pk0 dX0_init_25 (by decide) zb_365 rfl rfl rfl (by decide) (zFit_arr _ _) (zOb.lit (by decide +kernel)) rfl i (by decide) (by decide +kernel) (fun h i => ?_)
  exact y_end dX0_init_28 rfl rfl i (by decide +kernel)
