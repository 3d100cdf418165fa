/-! laws: small ones -/
set_option maxRecDepth 20000 in
theorem bX1_empty_0 {X : zX} {dep bc bs : Nat} (L : Int) {h : zH} {Q : Nat → zH → List zV → Prop} (hL : zLawO L)
    (k1 : Q 239 (zst (zst (zst (zst (zst (zst h L 2 20) L 3 25) L 4 30) L 5 0) L 6 0) L 12 0) []) : zW mX1_empty X dep bc bs 239 0 [(0, xR L)] [] h Q := by
  refine z_aload_n 0 dX1_empty_0 rfl ?_
  refine z_bipush dX1_empty_1 (zi32_d rfl) (by decide) ?_
  refine z_putI (k := 2) (kz := 2) pk1 dX1_empty_3 (by decide) zb_275 rfl (zFit_int _) hL.1 rfl ?_
  refine z_aload_n 0 dX1_empty_6 rfl ?_
  refine z_bipush dX1_empty_7 (zi32_d rfl) (by decide) ?_
  refine z_putI (k := 3) (kz := 3) pk1 dX1_empty_9 (by decide) zb_278 rfl (zFit_int _) hL.1 rfl ?_
  refine z_aload_n 0 dX1_empty_12 rfl ?_
  refine z_bipush dX1_empty_13 (zi32_d rfl) (by decide) ?_
  refine z_putI (k := 4) (kz := 4) pk1 dX1_empty_15 (by decide) zb_281 rfl (zFit_int _) hL.1 rfl ?_
  refine z_aload_n 0 dX1_empty_18 rfl ?_
  refine z_iconst dX1_empty_19 (zi32_d rfl) ?_
  refine z_putI (k := 5) (kz := 5) pk1 dX1_empty_20 (by decide) zb_284 rfl (zFit_bool (Or.inl rfl)) hL.1 rfl ?_
  refine z_aload_n 0 dX1_empty_23 rfl ?_
  refine z_iconst dX1_empty_24 (zi32_d rfl) ?_
  refine z_putI (k := 6) (kz := 6) pk1 dX1_empty_25 (by decide) zb_287 rfl (zFit_int _) hL.1 rfl ?_
  refine z_aload_n 0 dX1_empty_28 rfl ?_
  refine z_iconst dX1_empty_29 (zi32_d rfl) ?_
  refine z_putI (k := 12) (kz := 12) pk1 dX1_empty_30 (by decide) zb_295 rfl (zFit_int _) hL.1 rfl ?_
  exact z_ret dX1_empty_33 rfl (k1)
theorem f_X1_empty {X : zX} {dep : Nat} (L : Int) {h : zH} (hL : zLawO L) : zW mX1_empty X dep 0 0 239 0 (zar 0 [xR L]) [] h (zF (zst (zst (zst (zst (zst (zst h L 2 20) L 3 25) L 4 30) L 5 0) L 6 0) L 12 0) []) := by
  refine bX1_empty_0 L hL ?_
  all_goals intros
  all_goals exact ⟨rfl, rfl, rfl⟩

set_option maxRecDepth 20000 in
theorem bX1_addLine_0 {X : zX} {dep bc bs : Nat} (L : Int) (k : Int) {h : zH} {Q : Nat → zH → List zV → Prop} (hL : zLawO L) (hb : 0 ≤ h L 6 ∧ h L 6 < 20)
    (k1 : 20 ≤ (h L 6) → Q 239 h [])
    (k2 : ¬ (20 ≤ (h L 6)) → Q 239 (zst (zst (zst (zst (zst h (L + 1) (h L 6) k) (L + 2) (h L 6) 0) (L + 3) (h L 6) (h L 12)) (L + 4) (h L 6) (h L 12)) L 6 ((h L 6) + 1)) []) : zW mX1_addLine X dep bc bs 239 0 [(0, xR L), (1, xI k)] [] h Q := by
  refine z_aload_n 0 dX1_addLine_0 rfl ?_
  refine z_getI (k := 6) (kz := 6) pk1 dX1_addLine_1 (by decide) zb_287 rfl hL.1 rfl ?_
  refine z_bipush dX1_addLine_4 (zi32_d rfl) (by decide) ?_
  refine z_icmp_ge (tgt := 65) dX1_addLine_6 (by decide) (fun c1 => ?_) (fun c1 => ?_)
  ·
    exact z_ret dX1_addLine_65 rfl (k1 c1)
  ·
    refine z_aload_n 0 dX1_addLine_9 rfl ?_
    refine z_getS (v := (L + 1)) (k := 7) (kz := 7) pk1 dX1_addLine_10 (by decide) zb_290 rfl hL.1 rfl hL.2.2.2.2.2.2.1 ?_
    refine z_aload_n 0 dX1_addLine_13 rfl ?_
    refine z_getI (k := 6) (kz := 6) pk1 dX1_addLine_14 (by decide) zb_287 rfl hL.1 rfl ?_
    refine z_iload_n 1 dX1_addLine_17 rfl ?_
    refine z_iast dX1_addLine_18 hL.2.1 (show 0 ≤ (h L 6) ∧ (h L 6) < 20 from ⟨by omega, by omega⟩).1 (show 0 ≤ (h L 6) ∧ (h L 6) < 20 from ⟨by omega, by omega⟩).2 ?_
    refine z_aload_n 0 dX1_addLine_19 rfl ?_
    refine z_getS (v := (L + 2)) (k := 8) (kz := 8) pk1 dX1_addLine_20 (by decide) zb_291 rfl hL.1 rfl hL.2.2.2.2.2.2.2.1 ?_
    refine z_aload_n 0 dX1_addLine_23 rfl ?_
    refine z_getIV (v := (h L 6)) (k := 6) (kz := 6) pk1 dX1_addLine_24 (by decide) zb_287 rfl hL.1 rfl (zst_ne (Or.inl (by omega))) ?_
    refine z_iconst dX1_addLine_27 (zi32_d rfl) ?_
    refine z_iast dX1_addLine_28 hL.2.2.1 (show 0 ≤ (h L 6) ∧ (h L 6) < 20 from ⟨by omega, by omega⟩).1 (show 0 ≤ (h L 6) ∧ (h L 6) < 20 from ⟨by omega, by omega⟩).2 ?_
    refine z_aload_n 0 dX1_addLine_29 rfl ?_
    refine z_getS (v := (L + 3)) (k := 9) (kz := 9) pk1 dX1_addLine_30 (by decide) zb_292 rfl hL.1 rfl hL.2.2.2.2.2.2.2.2.1 ?_
    refine z_aload_n 0 dX1_addLine_33 rfl ?_
    refine z_getIV (v := (h L 6)) (k := 6) (kz := 6) pk1 dX1_addLine_34 (by decide) zb_287 rfl hL.1 rfl ((zst_ne (Or.inl (by omega))).trans (zst_ne (Or.inl (by omega)))) ?_
    refine z_aload_n 0 dX1_addLine_37 rfl ?_
    refine z_getIV (v := (h L 12)) (k := 12) (kz := 12) pk1 dX1_addLine_38 (by decide) zb_295 rfl hL.1 rfl ((zst_ne (Or.inl (by omega))).trans (zst_ne (Or.inl (by omega)))) ?_
    refine z_iast dX1_addLine_41 hL.2.2.2.1 (show 0 ≤ (h L 6) ∧ (h L 6) < 20 from ⟨by omega, by omega⟩).1 (show 0 ≤ (h L 6) ∧ (h L 6) < 20 from ⟨by omega, by omega⟩).2 ?_
    refine z_aload_n 0 dX1_addLine_42 rfl ?_
    refine z_getS (v := (L + 4)) (k := 10) (kz := 10) pk1 dX1_addLine_43 (by decide) zb_293 rfl hL.1 rfl hL.2.2.2.2.2.2.2.2.2.1 ?_
    refine z_aload_n 0 dX1_addLine_46 rfl ?_
    refine z_getIV (v := (h L 6)) (k := 6) (kz := 6) pk1 dX1_addLine_47 (by decide) zb_287 rfl hL.1 rfl ((zst_ne (Or.inl (by omega))).trans ((zst_ne (Or.inl (by omega))).trans (zst_ne (Or.inl (by omega))))) ?_
    refine z_aload_n 0 dX1_addLine_50 rfl ?_
    refine z_getIV (v := (h L 12)) (k := 12) (kz := 12) pk1 dX1_addLine_51 (by decide) zb_295 rfl hL.1 rfl ((zst_ne (Or.inl (by omega))).trans ((zst_ne (Or.inl (by omega))).trans (zst_ne (Or.inl (by omega))))) ?_
    refine z_iast dX1_addLine_54 hL.2.2.2.2.1 (show 0 ≤ (h L 6) ∧ (h L 6) < 20 from ⟨by omega, by omega⟩).1 (show 0 ≤ (h L 6) ∧ (h L 6) < 20 from ⟨by omega, by omega⟩).2 ?_
    refine z_aload_n 0 dX1_addLine_55 rfl ?_
    refine z_dup dX1_addLine_56 zt2 ?_
    refine z_getIV (v := (h L 6)) (k := 6) (kz := 6) pk1 dX1_addLine_57 (by decide) zb_287 rfl hL.1 rfl ((zst_ne (Or.inl (by omega))).trans ((zst_ne (Or.inl (by omega))).trans ((zst_ne (Or.inl (by omega))).trans (zst_ne (Or.inl (by omega)))))) ?_
    refine z_iconst dX1_addLine_60 (zi32_d rfl) ?_
    refine z_iaddN dX1_addLine_61 (show -2147483648 ≤ (h L 6) + 1 ∧ (h L 6) + 1 < 2147483648 from ⟨by omega, by omega⟩).1 (show -2147483648 ≤ (h L 6) + 1 ∧ (h L 6) + 1 < 2147483648 from ⟨by omega, by omega⟩).2 ?_
    refine z_putI (k := 6) (kz := 6) pk1 dX1_addLine_62 (by decide) zb_287 rfl (zFit_int _) hL.1 rfl ?_
    exact z_ret dX1_addLine_65 rfl (k2 c1)
theorem f_X1_addLine {X : zX} {dep : Nat} (L : Int) (k : Int) {h : zH} (hL : zLawO L) (hb : 0 ≤ h L 6 ∧ h L 6 < 20) : zW mX1_addLine X dep 0 0 239 0 (zar 0 [xR L, xI k]) [] h (zF (zst (zst (zst (zst (zst h (L + 1) (h L 6) k) (L + 2) (h L 6) 0) (L + 3) (h L 6) (h L 12)) (L + 4) (h L 6) (h L 12)) L 6 (h L 6 + 1)) []) := by
  refine bX1_addLine_0 L k hL hb ?_ ?_
  all_goals intros
  · exfalso; omega
  · exact ⟨rfl, rfl, rfl⟩

set_option maxRecDepth 20000 in
theorem bX1_setNumber_0 {X : zX} {dep bc bs : Nat} (L : Int) (v : Int) {h : zH} {Q : Nat → zH → List zV → Prop} (hL : zLawO L) (hb : 0 < h L 6 ∧ h L 6 ≤ 20)
    (k1 : (h L 6) ≤ 0 → Q 239 h [])
    (k2 : ¬ ((h L 6) ≤ 0) → Q 239 (zst h (L + 2) ((h L 6) - 1) v) []) : zW mX1_setNumber X dep bc bs 239 0 [(0, xR L), (1, xI v)] [] h Q := by
  refine z_aload_n 0 dX1_setNumber_0 rfl ?_
  refine z_getI (k := 6) (kz := 6) pk1 dX1_setNumber_1 (by decide) zb_287 rfl hL.1 rfl ?_
  refine z_if_le (tgt := 19) dX1_setNumber_4 (by decide) (fun c1 => ?_) (fun c1 => ?_)
  ·
    exact z_ret dX1_setNumber_19 rfl (k1 c1)
  ·
    refine z_aload_n 0 dX1_setNumber_7 rfl ?_
    refine z_getS (v := (L + 2)) (k := 8) (kz := 8) pk1 dX1_setNumber_8 (by decide) zb_291 rfl hL.1 rfl hL.2.2.2.2.2.2.2.1 ?_
    refine z_aload_n 0 dX1_setNumber_11 rfl ?_
    refine z_getI (k := 6) (kz := 6) pk1 dX1_setNumber_12 (by decide) zb_287 rfl hL.1 rfl ?_
    refine z_iconst dX1_setNumber_15 (zi32_d rfl) ?_
    refine z_isubN dX1_setNumber_16 (show -2147483648 ≤ (h L 6) - 1 ∧ (h L 6) - 1 < 2147483648 from ⟨by omega, by omega⟩).1 (show -2147483648 ≤ (h L 6) - 1 ∧ (h L 6) - 1 < 2147483648 from ⟨by omega, by omega⟩).2 ?_
    refine z_iload_n 1 dX1_setNumber_17 rfl ?_
    refine z_iast dX1_setNumber_18 hL.2.2.1 (show 0 ≤ ((h L 6) - 1) ∧ ((h L 6) - 1) < 20 from ⟨by omega, by omega⟩).1 (show 0 ≤ ((h L 6) - 1) ∧ ((h L 6) - 1) < 20 from ⟨by omega, by omega⟩).2 ?_
    exact z_ret dX1_setNumber_19 rfl (k2 c1)
theorem f_X1_setNumber {X : zX} {dep : Nat} (L : Int) (v : Int) {h : zH} (hL : zLawO L) (hb : 0 < h L 6 ∧ h L 6 ≤ 20) : zW mX1_setNumber X dep 0 0 239 0 (zar 0 [xR L, xI v]) [] h (zF (zst h (L + 2) (h L 6 - 1) v) []) := by
  refine bX1_setNumber_0 L v hL hb ?_ ?_
  all_goals intros
  all_goals first
    | exact ⟨rfl, rfl, rfl⟩
    | (exfalso; omega)

set_option maxRecDepth 20000 in
theorem bX1_addStep_0 {X : zX} {dep bc bs : Nat} (L : Int) (x : Int) {h : zH} {Q : Nat → zH → List zV → Prop} (hL : zLawO L) (hb : 0 ≤ h L 12 ∧ h L 12 < 120) (hl : 0 < h L 6 ∧ h L 6 ≤ 20)
    (k1 : 120 ≤ (h L 12) → Q 239 h [])
    (k2 : ¬ (120 ≤ (h L 12)) → (h L 6) ≤ 0 → Q 239 h [])
    (k3 : ¬ (120 ≤ (h L 12)) → ¬ ((h L 6) ≤ 0) → ¬ (h L 5) = 0 → Q 239 (zst (zst (zst (zst h (L + 5) (h L 12) x) L 12 ((h L 12) + 1)) (L + 4) ((h L 6) - 1) ((h L 12) + 1)) L 5 1) [])
    (k4 : ¬ (120 ≤ (h L 12)) → ¬ ((h L 6) ≤ 0) → (h L 5) = 0 → x < 0 → Q 239 (zst (zst (zst (zst h (L + 5) (h L 12) x) L 12 ((h L 12) + 1)) (L + 4) ((h L 6) - 1) ((h L 12) + 1)) L 5 0) [])
    (k5 : ¬ (120 ≤ (h L 12)) → ¬ ((h L 6) ≤ 0) → (h L 5) = 0 → ¬ (x < 0) → Q 239 (zst (zst (zst (zst h (L + 5) (h L 12) x) L 12 ((h L 12) + 1)) (L + 4) ((h L 6) - 1) ((h L 12) + 1)) L 5 (if (zand x 15) = 9 then 1 else 0 : Int)) []) : zW mX1_addStep X dep bc bs 239 0 [(0, xR L), (1, xI x)] [] h Q := by
  refine z_aload_n 0 dX1_addStep_0 rfl ?_
  refine z_getI (k := 12) (kz := 12) pk1 dX1_addStep_1 (by decide) zb_295 rfl hL.1 rfl ?_
  refine z_aload_n 0 dX1_addStep_4 rfl ?_
  refine z_getS (v := (L + 5)) (k := 11) (kz := 11) pk1 dX1_addStep_5 (by decide) zb_294 rfl hL.1 rfl hL.2.2.2.2.2.2.2.2.2.2 ?_
  refine z_alen (kd := 0) (N := 120) dX1_addStep_8 hL.2.2.2.2.2.1 (by decide) ?_
  show zW mX1_addStep X dep bc bs 239 9 [(0, xR L), (1, xI x)] [xI 120, xI (h L 12)] h Q
  refine z_icmp_ge (tgt := 83) dX1_addStep_9 (by decide) (fun c1 => ?_) (fun c1 => ?_)
  ·
    exact z_ret dX1_addStep_83 rfl (k1 c1)
  ·
    refine z_aload_n 0 dX1_addStep_12 rfl ?_
    refine z_getI (k := 6) (kz := 6) pk1 dX1_addStep_13 (by decide) zb_287 rfl hL.1 rfl ?_
    refine z_if_le (tgt := 83) dX1_addStep_16 (by decide) (fun c2 => ?_) (fun c2 => ?_)
    ·
      exact z_ret dX1_addStep_83 rfl (k2 c1 c2)
    ·
      refine z_aload_n 0 dX1_addStep_19 rfl ?_
      refine z_getS (v := (L + 5)) (k := 11) (kz := 11) pk1 dX1_addStep_20 (by decide) zb_294 rfl hL.1 rfl hL.2.2.2.2.2.2.2.2.2.2 ?_
      refine z_aload_n 0 dX1_addStep_23 rfl ?_
      refine z_getI (k := 12) (kz := 12) pk1 dX1_addStep_24 (by decide) zb_295 rfl hL.1 rfl ?_
      refine z_iload_n 1 dX1_addStep_27 rfl ?_
      refine z_iast dX1_addStep_28 hL.2.2.2.2.2.1 (show 0 ≤ (h L 12) ∧ (h L 12) < 120 from ⟨by omega, by omega⟩).1 (show 0 ≤ (h L 12) ∧ (h L 12) < 120 from ⟨by omega, by omega⟩).2 ?_
      refine z_aload_n 0 dX1_addStep_29 rfl ?_
      refine z_dup dX1_addStep_30 zt2 ?_
      refine z_getIV (v := (h L 12)) (k := 12) (kz := 12) pk1 dX1_addStep_31 (by decide) zb_295 rfl hL.1 rfl (zst_ne (Or.inl (by omega))) ?_
      refine z_iconst dX1_addStep_34 (zi32_d rfl) ?_
      refine z_iaddN dX1_addStep_35 (show -2147483648 ≤ (h L 12) + 1 ∧ (h L 12) + 1 < 2147483648 from ⟨by omega, by omega⟩).1 (show -2147483648 ≤ (h L 12) + 1 ∧ (h L 12) + 1 < 2147483648 from ⟨by omega, by omega⟩).2 ?_
      refine z_putI (k := 12) (kz := 12) pk1 dX1_addStep_36 (by decide) zb_295 rfl (zFit_int _) hL.1 rfl ?_
      refine z_aload_n 0 dX1_addStep_39 rfl ?_
      refine z_getS (v := (L + 4)) (k := 10) (kz := 10) pk1 dX1_addStep_40 (by decide) zb_293 rfl hL.1 rfl hL.2.2.2.2.2.2.2.2.2.1 ?_
      refine z_aload_n 0 dX1_addStep_43 rfl ?_
      refine z_getIV (v := (h L 6)) (k := 6) (kz := 6) pk1 dX1_addStep_44 (by decide) zb_287 rfl hL.1 rfl ((zst_ne (Or.inr (by decide))).trans (zst_ne (Or.inl (by omega)))) ?_
      refine z_iconst dX1_addStep_47 (zi32_d rfl) ?_
      refine z_isubN dX1_addStep_48 (show -2147483648 ≤ (h L 6) - 1 ∧ (h L 6) - 1 < 2147483648 from ⟨by omega, by omega⟩).1 (show -2147483648 ≤ (h L 6) - 1 ∧ (h L 6) - 1 < 2147483648 from ⟨by omega, by omega⟩).2 ?_
      refine z_aload_n 0 dX1_addStep_49 rfl ?_
      refine z_getIV (v := ((h L 12) + 1)) (k := 12) (kz := 12) pk1 dX1_addStep_50 (by decide) zb_295 rfl hL.1 rfl (zst_self _ _ _ _) ?_
      refine z_iast dX1_addStep_53 hL.2.2.2.2.1 (show 0 ≤ ((h L 6) - 1) ∧ ((h L 6) - 1) < 20 from ⟨by omega, by omega⟩).1 (show 0 ≤ ((h L 6) - 1) ∧ ((h L 6) - 1) < 20 from ⟨by omega, by omega⟩).2 ?_
      refine z_aload_n 0 dX1_addStep_54 rfl ?_
      refine z_aload_n 0 dX1_addStep_55 rfl ?_
      refine z_getIV (v := (h L 5)) (k := 5) (kz := 5) pk1 dX1_addStep_56 (by decide) zb_284 rfl hL.1 rfl ((zst_ne (Or.inl (by omega))).trans ((zst_ne (Or.inr (by decide))).trans (zst_ne (Or.inl (by omega))))) ?_
      refine z_if_ne (tgt := 75) dX1_addStep_59 (by decide) (fun c3 => ?_) (fun c3 => ?_)
      ·
        refine z_iconst dX1_addStep_75 (zi32_d rfl) ?_
        refine z_goto (tgt := 80) dX1_addStep_76 (by decide) ?_
        refine z_putI (k := 5) (kz := 5) pk1 dX1_addStep_80 (by decide) zb_284 rfl (zFit_bool (Or.inr rfl)) hL.1 rfl ?_
        exact z_ret dX1_addStep_83 rfl (k3 c1 c2 c3)
      ·
        refine z_iload_n 1 dX1_addStep_62 rfl ?_
        refine z_if_lt (tgt := 79) dX1_addStep_63 (by decide) (fun c4 => ?_) (fun c4 => ?_)
        ·
          refine z_iconst dX1_addStep_79 (zi32_d rfl) ?_
          refine z_putI (k := 5) (kz := 5) pk1 dX1_addStep_80 (by decide) zb_284 rfl (zFit_bool (Or.inl rfl)) hL.1 rfl ?_
          exact z_ret dX1_addStep_83 rfl (k4 c1 c2 c3 c4)
        ·
          refine z_iload_n 1 dX1_addStep_66 rfl ?_
          refine z_bipush dX1_addStep_67 (zi32_d rfl) (by decide) ?_
          refine z_iand dX1_addStep_69 ?_
          refine z_bipush dX1_addStep_70 (zi32_d rfl) (by decide) ?_
          suffices KJ : zW mX1_addStep X dep bc bs 239 80 [(0, xR L), (1, xI x)] [xI (if (zand x 15) = 9 then 1 else 0 : Int), xR L] (zst (zst (zst h (L + 5) (h L 12) x) L 12 ((h L 12) + 1)) (L + 4) ((h L 6) - 1) ((h L 12) + 1)) Q by
            refine z_icmp_ne (tgt := 79) dX1_addStep_72 (by decide) (fun j1 => ?_) (fun j1 => ?_)
            ·
              refine z_iconst dX1_addStep_79 (zi32_d rfl) ?_
              rw [if_neg j1] at KJ
              exact KJ
            ·
              refine z_iconst dX1_addStep_75 (zi32_d rfl) ?_
              refine z_goto (tgt := 80) dX1_addStep_76 (by decide) ?_
              rw [if_pos j1] at KJ
              exact KJ
          refine z_putI (k := 5) (kz := 5) pk1 dX1_addStep_80 (by decide) zb_284 rfl (zFit_bool (by repeat (first | (left; rfl) | (right; rfl) | split))) hL.1 rfl ?_
          exact z_ret dX1_addStep_83 rfl (k5 c1 c2 c3 c4)

set_option maxRecDepth 20000 in
theorem bX1_question_0 {X : zX} {dep bc bs : Nat} (a : Int) (s : Int) (t : Int) {h : zH} {Q : Nat → zH → List zV → Prop}
    (k1 : Q 239 h [xI (zor (zor (zshl t 12) (zshl s 4)) a)]) : zW mX1_question X dep bc bs 239 0 [(0, xI a), (1, xI s), (2, xI t)] [] h Q := by
  refine z_iload_n 2 dX1_question_0 rfl ?_
  refine z_bipush dX1_question_1 (zi32_d rfl) (by decide) ?_
  refine z_ishl dX1_question_3 ?_
  refine z_iload_n 1 dX1_question_4 rfl ?_
  refine z_iconst dX1_question_5 (zi32_d rfl) ?_
  refine z_ishl dX1_question_6 ?_
  refine z_ior dX1_question_7 ?_
  refine z_iload_n 0 dX1_question_8 rfl ?_
  refine z_ior dX1_question_9 ?_
  exact z_iret dX1_question_10 rfl (k1)

set_option maxRecDepth 20000 in
theorem bX1_hasLine_0 {X : zX} {dep bc bs : Nat} (L : Int) (k : Int) {h : zH} {Q : Nat → zH → List zV → Prop} (hL : zLawO L)
    (k1 : zW mX1_hasLine X dep bc bs 239 2 [(0, xR L), (1, xI k), (2, xI 0)] [] h Q) : zW mX1_hasLine X dep bc bs 239 0 [(0, xR L), (1, xI k)] [] h Q := by
  refine z_iconst dX1_hasLine_0 (zi32_d rfl) ?_
  refine z_istore_n (lv' := [(2, xI 0), (0, xR L), (1, xI k)]) dX1_hasLine_1 (by decide) rfl ?_
  refine zW.sub (lv' := [(0, xR L), (1, xI k), (2, xI 0)]) [1, 2, 0] rfl ?_
  exact k1

set_option maxRecDepth 20000 in
theorem bX1_hasLine_2 {X : zX} {dep bc bs : Nat} (L : Int) (k : Int) (i : Int) {h : zH} {Q : Nat → zH → List zV → Prop} (hL : zLawO L) (hl : 0 ≤ h L 6 ∧ h L 6 ≤ 20) (hi : 0 ≤ i)
    (k1 : (h L 6) ≤ i → Q 239 h [xI 0])
    (k2 : ¬ ((h L 6) ≤ i) → ¬ (h (L + 1) i) = k → zW mX1_hasLine X dep bc bs 239 2 [(0, xR L), (1, xI k), (2, xI (i + 1))] [] h Q)
    (k3 : ¬ ((h L 6) ≤ i) → (h (L + 1) i) = k → Q 239 h [xI 1]) : zW mX1_hasLine X dep bc bs 239 2 [(0, xR L), (1, xI k), (2, xI i)] [] h Q := by
  refine z_iload_n 2 dX1_hasLine_2 rfl ?_
  refine z_aload_n 0 dX1_hasLine_3 rfl ?_
  refine z_getI (k := 6) (kz := 6) pk1 dX1_hasLine_4 (by decide) zb_287 rfl hL.1 rfl ?_
  refine z_icmp_ge (tgt := 28) dX1_hasLine_7 (by decide) (fun c1 => ?_) (fun c1 => ?_)
  ·
    refine z_iconst dX1_hasLine_28 (zi32_d rfl) ?_
    exact z_zret dX1_hasLine_29 rfl (Or.inl rfl) (k1 c1)
  ·
    refine z_aload_n 0 dX1_hasLine_10 rfl ?_
    refine z_getS (v := (L + 1)) (k := 7) (kz := 7) pk1 dX1_hasLine_11 (by decide) zb_290 rfl hL.1 rfl hL.2.2.2.2.2.2.1 ?_
    refine z_iload_n 2 dX1_hasLine_14 rfl ?_
    refine z_iald dX1_hasLine_15 hL.2.1 (show 0 ≤ i ∧ i < 20 from ⟨by omega, by omega⟩).1 (show 0 ≤ i ∧ i < 20 from ⟨by omega, by omega⟩).2 ?_
    refine z_iload_n 1 dX1_hasLine_16 rfl ?_
    refine z_icmp_ne (tgt := 22) dX1_hasLine_17 (by decide) (fun c2 => ?_) (fun c2 => ?_)
    ·
      refine z_iincN (lv' := [(2, xI (i + 1)), (0, xR L), (1, xI k)]) 2 dX1_hasLine_22 rfl (by decide) rfl (show -2147483648 ≤ i + 1 ∧ i + 1 < 2147483648 from ⟨by omega, by omega⟩).1 (show -2147483648 ≤ i + 1 ∧ i + 1 < 2147483648 from ⟨by omega, by omega⟩).2 ?_
      refine z_goto (tgt := 2) dX1_hasLine_25 (by decide) ?_
      refine zW.sub (lv' := [(0, xR L), (1, xI k), (2, xI (i + 1))]) [1, 2, 0] rfl ?_
      exact k2 c1 c2
    ·
      refine z_iconst dX1_hasLine_20 (zi32_d rfl) ?_
      exact z_zret dX1_hasLine_21 rfl (Or.inr rfl) (k3 c1 c2)

set_option maxRecDepth 20000 in
theorem bX8_isSign_0 {X : zX} {dep bc bs : Nat} (c : Int) {h : zH} {Q : Nat → zH → List zV → Prop}
    (k1 : Q 239 h [xI (if c = 59 then 1 else if c = 40 then 1 else if c = 41 then 1 else if c = 60 then 1 else if c = 61 then 1 else if c = 62 then 1 else 0 : Int)]) : zW mX8_isSign X dep bc bs 239 0 [(0, xI c)] [] h Q := by
  refine z_iload_n 0 dX8_isSign_0 rfl ?_
  refine z_bipush dX8_isSign_1 (zi32_d rfl) (by decide) ?_
  suffices KJ : zW mX8_isSign X dep bc bs 239 41 [(0, xI c)] [xI (if c = 59 then 1 else if c = 40 then 1 else if c = 41 then 1 else if c = 60 then 1 else if c = 61 then 1 else if c = 62 then 1 else 0 : Int)] h Q by
    refine z_icmp_eq (tgt := 36) dX8_isSign_3 (by decide) (fun j1 => ?_) (fun j1 => ?_)
    ·
      refine z_iconst dX8_isSign_36 (zi32_d rfl) ?_
      refine z_goto (tgt := 41) dX8_isSign_37 (by decide) ?_
      rw [if_pos j1] at KJ
      exact KJ
    ·
      refine z_iload_n 0 dX8_isSign_6 rfl ?_
      refine z_bipush dX8_isSign_7 (zi32_d rfl) (by decide) ?_
      refine z_icmp_eq (tgt := 36) dX8_isSign_9 (by decide) (fun j2 => ?_) (fun j2 => ?_)
      ·
        refine z_iconst dX8_isSign_36 (zi32_d rfl) ?_
        refine z_goto (tgt := 41) dX8_isSign_37 (by decide) ?_
        rw [if_neg j1] at KJ
        rw [if_pos j2] at KJ
        exact KJ
      ·
        refine z_iload_n 0 dX8_isSign_12 rfl ?_
        refine z_bipush dX8_isSign_13 (zi32_d rfl) (by decide) ?_
        refine z_icmp_eq (tgt := 36) dX8_isSign_15 (by decide) (fun j3 => ?_) (fun j3 => ?_)
        ·
          refine z_iconst dX8_isSign_36 (zi32_d rfl) ?_
          refine z_goto (tgt := 41) dX8_isSign_37 (by decide) ?_
          rw [if_neg j1] at KJ
          rw [if_neg j2] at KJ
          rw [if_pos j3] at KJ
          exact KJ
        ·
          refine z_iload_n 0 dX8_isSign_18 rfl ?_
          refine z_bipush dX8_isSign_19 (zi32_d rfl) (by decide) ?_
          refine z_icmp_eq (tgt := 36) dX8_isSign_21 (by decide) (fun j4 => ?_) (fun j4 => ?_)
          ·
            refine z_iconst dX8_isSign_36 (zi32_d rfl) ?_
            refine z_goto (tgt := 41) dX8_isSign_37 (by decide) ?_
            rw [if_neg j1] at KJ
            rw [if_neg j2] at KJ
            rw [if_neg j3] at KJ
            rw [if_pos j4] at KJ
            exact KJ
          ·
            refine z_iload_n 0 dX8_isSign_24 rfl ?_
            refine z_bipush dX8_isSign_25 (zi32_d rfl) (by decide) ?_
            refine z_icmp_eq (tgt := 36) dX8_isSign_27 (by decide) (fun j5 => ?_) (fun j5 => ?_)
            ·
              refine z_iconst dX8_isSign_36 (zi32_d rfl) ?_
              refine z_goto (tgt := 41) dX8_isSign_37 (by decide) ?_
              rw [if_neg j1] at KJ
              rw [if_neg j2] at KJ
              rw [if_neg j3] at KJ
              rw [if_neg j4] at KJ
              rw [if_pos j5] at KJ
              exact KJ
            ·
              refine z_iload_n 0 dX8_isSign_30 rfl ?_
              refine z_bipush dX8_isSign_31 (zi32_d rfl) (by decide) ?_
              refine z_icmp_ne (tgt := 40) dX8_isSign_33 (by decide) (fun j6 => ?_) (fun j6 => ?_)
              ·
                refine z_iconst dX8_isSign_40 (zi32_d rfl) ?_
                rw [if_neg j1] at KJ
                rw [if_neg j2] at KJ
                rw [if_neg j3] at KJ
                rw [if_neg j4] at KJ
                rw [if_neg j5] at KJ
                rw [if_neg j6] at KJ
                exact KJ
              ·
                refine z_iconst dX8_isSign_36 (zi32_d rfl) ?_
                refine z_goto (tgt := 41) dX8_isSign_37 (by decide) ?_
                rw [if_neg j1] at KJ
                rw [if_neg j2] at KJ
                rw [if_neg j3] at KJ
                rw [if_neg j4] at KJ
                rw [if_neg j5] at KJ
                rw [if_pos j6] at KJ
                exact KJ
  exact z_zret dX8_isSign_41 rfl (by repeat (first | (left; rfl) | (right; rfl) | split)) (k1)
theorem f_X8_isSign {X : zX} {dep : Nat} (c : Int) {h : zH} : zW mX8_isSign X dep 0 0 239 0 (zar 0 [xI c]) [] h (zF h [xI (zb (c = 59 ∨ c = 40 ∨ c = 41 ∨ c = 60 ∨ c = 61 ∨ c = 62))]) := by
  refine bX8_isSign_0 c ?_
  all_goals intros
  all_goals refine ⟨rfl, ?_, ?_⟩
  all_goals first
    | (rw [if_pos (by omega)])
    | (rw [if_neg (by omega)])
    | (first | rfl | (refine congrArg (fun x => [xI x]) ?_; unfold zb; (repeat' split) <;> first | rfl | omega))

set_option maxRecDepth 20000 in
theorem bX8_add_0 {X : zX} {dep bc bs : Nat} (k : Int) (s : Int) (v : Int) (w : Int) {h : zH} {Q : Nat → zH → List zV → Prop} (hc : 0 ≤ h 25 4 ∧ h 25 4 < 301) (hw : zWd w)
    (k1 : 301 ≤ (h 25 4) → Q 239 h [])
    (k2 : ¬ (301 ≤ (h 25 4)) → Q 239 (zst (zst (zst (zst (zst h 26 (h 25 4) k) 27 (h 25 4) s) 28 (h 25 4) v) 29 (h 25 4) w) 25 4 ((h 25 4) + 1)) []) : zW mX8_add X dep bc bs 239 0 [(0, xR 25), (1, xI k), (2, xI s), (3, xI v), (4, xR w)] [] h Q := by
  refine z_aload_n 0 dX8_add_0 rfl ?_
  refine z_getI (k := 4) (kz := 4) pk8 dX8_add_1 (by decide) zb_249 rfl (zOb.lit (by decide +kernel)) rfl ?_
  refine z_aload_n 0 dX8_add_4 rfl ?_
  refine z_getS (v := 26) (k := 0) (kz := 0) pk8 dX8_add_5 (by decide) zb_241 rfl (zOb.lit (by decide +kernel)) rfl (by decide +kernel) ?_
  refine z_alen (kd := 0) (N := 301) dX8_add_8 (zOb.lit (by decide +kernel)) (by decide) ?_
  show zW mX8_add X dep bc bs 239 9 [(0, xR 25), (1, xI k), (2, xI s), (3, xI v), (4, xR w)] [xI 301, xI (h 25 4)] h Q
  refine z_icmp_ge (tgt := 63) dX8_add_9 (by decide) (fun c1 => ?_) (fun c1 => ?_)
  ·
    exact z_ret dX8_add_63 rfl (k1 c1)
  ·
    refine z_aload_n 0 dX8_add_12 rfl ?_
    refine z_getS (v := 26) (k := 0) (kz := 0) pk8 dX8_add_13 (by decide) zb_241 rfl (zOb.lit (by decide +kernel)) rfl (by decide +kernel) ?_
    refine z_aload_n 0 dX8_add_16 rfl ?_
    refine z_getI (k := 4) (kz := 4) pk8 dX8_add_17 (by decide) zb_249 rfl (zOb.lit (by decide +kernel)) rfl ?_
    refine z_iload_n 1 dX8_add_20 rfl ?_
    refine z_iast dX8_add_21 (zOb.lit (by decide +kernel)) (show 0 ≤ (h 25 4) ∧ (h 25 4) < 301 from ⟨by omega, by omega⟩).1 (show 0 ≤ (h 25 4) ∧ (h 25 4) < 301 from ⟨by omega, by omega⟩).2 ?_
    refine z_aload_n 0 dX8_add_22 rfl ?_
    refine z_getS (v := 27) (k := 1) (kz := 1) pk8 dX8_add_23 (by decide) zb_243 rfl (zOb.lit (by decide +kernel)) rfl (by decide +kernel) ?_
    refine z_aload_n 0 dX8_add_26 rfl ?_
    refine z_getIV (v := (h 25 4)) (k := 4) (kz := 4) pk8 dX8_add_27 (by decide) zb_249 rfl (zOb.lit (by decide +kernel)) rfl (zst_ne (Or.inl (by decide))) ?_
    refine z_iload_n 2 dX8_add_30 rfl ?_
    refine z_iast dX8_add_31 (zOb.lit (by decide +kernel)) (show 0 ≤ (h 25 4) ∧ (h 25 4) < 301 from ⟨by omega, by omega⟩).1 (show 0 ≤ (h 25 4) ∧ (h 25 4) < 301 from ⟨by omega, by omega⟩).2 ?_
    refine z_aload_n 0 dX8_add_32 rfl ?_
    refine z_getS (v := 28) (k := 2) (kz := 2) pk8 dX8_add_33 (by decide) zb_245 rfl (zOb.lit (by decide +kernel)) rfl (by decide +kernel) ?_
    refine z_aload_n 0 dX8_add_36 rfl ?_
    refine z_getIV (v := (h 25 4)) (k := 4) (kz := 4) pk8 dX8_add_37 (by decide) zb_249 rfl (zOb.lit (by decide +kernel)) rfl ((zst_ne (Or.inl (by decide))).trans (zst_ne (Or.inl (by decide)))) ?_
    refine z_iload_n 3 dX8_add_40 rfl ?_
    refine z_iast dX8_add_41 (zOb.lit (by decide +kernel)) (show 0 ≤ (h 25 4) ∧ (h 25 4) < 301 from ⟨by omega, by omega⟩).1 (show 0 ≤ (h 25 4) ∧ (h 25 4) < 301 from ⟨by omega, by omega⟩).2 ?_
    refine z_aload_n 0 dX8_add_42 rfl ?_
    refine z_getS (v := 29) (k := 3) (kz := 3) pk8 dX8_add_43 (by decide) zb_247 rfl (zOb.lit (by decide +kernel)) rfl (by decide +kernel) ?_
    refine z_aload_n 0 dX8_add_46 rfl ?_
    refine z_getIV (v := (h 25 4)) (k := 4) (kz := 4) pk8 dX8_add_47 (by decide) zb_249 rfl (zOb.lit (by decide +kernel)) rfl ((zst_ne (Or.inl (by decide))).trans ((zst_ne (Or.inl (by decide))).trans (zst_ne (Or.inl (by decide))))) ?_
    refine z_aload 4 dX8_add_50 rfl ?_
    refine z_aastW dX8_add_52 (zOb.lit (by decide +kernel)) (show 0 ≤ (h 25 4) ∧ (h 25 4) < 301 from ⟨by omega, by omega⟩).1 (show 0 ≤ (h 25 4) ∧ (h 25 4) < 301 from ⟨by omega, by omega⟩).2 hw ?_
    refine z_aload_n 0 dX8_add_53 rfl ?_
    refine z_dup dX8_add_54 zt2 ?_
    refine z_getIV (v := (h 25 4)) (k := 4) (kz := 4) pk8 dX8_add_55 (by decide) zb_249 rfl (zOb.lit (by decide +kernel)) rfl ((zst_ne (Or.inl (by decide))).trans ((zst_ne (Or.inl (by decide))).trans ((zst_ne (Or.inl (by decide))).trans (zst_ne (Or.inl (by decide)))))) ?_
    refine z_iconst dX8_add_58 (zi32_d rfl) ?_
    refine z_iaddN dX8_add_59 (show -2147483648 ≤ (h 25 4) + 1 ∧ (h 25 4) + 1 < 2147483648 from ⟨by omega, by omega⟩).1 (show -2147483648 ≤ (h 25 4) + 1 ∧ (h 25 4) + 1 < 2147483648 from ⟨by omega, by omega⟩).2 ?_
    refine z_putI (k := 4) (kz := 4) pk8 dX8_add_60 (by decide) zb_249 rfl (zFit_int _) (zOb.lit (by decide +kernel)) rfl ?_
    exact z_ret dX8_add_63 rfl (k2 c1)

/-- a step more -/
def zstp (h : zH) (L x : Int) : zH := zst (zst (zst (zst h (L + 5) (h L 12) x) L 12 ((h L 12) + 1)) (L + 4) ((h L 6) - 1) ((h L 12) + 1)) L 5 (if h L 5 = 0 ∧ ¬ (0 ≤ x ∧ zand x 15 = 9) then 0 else 1)
theorem f_X1_addStep {X : zX} {dep : Nat} (L x : Int) {h : zH} (hL : zLawO L) (hb : 0 ≤ h L 12 ∧ h L 12 < 120) (hl : 0 < h L 6 ∧ h L 6 ≤ 20) : zW mX1_addStep X dep 0 0 239 0 (zar 0 [xR L, xI x]) [] h (zF (zstp h L x) []) := by
  refine bX1_addStep_0 L x hL hb hl (fun c => absurd c (by omega)) (fun _ c => absurd c (by omega)) (fun _ _ c => ?_) (fun _ _ c c2 => ?_) (fun _ _ c c2 => ?_)
  · refine ⟨rfl, ?_, rfl⟩
    unfold zstp
    rw [if_neg (fun z => c z.1)]
  · refine ⟨rfl, ?_, rfl⟩
    unfold zstp
    rw [if_pos ⟨c, fun z => by omega⟩]
  · refine ⟨rfl, ?_, rfl⟩
    unfold zstp
    by_cases c3 : zand x 15 = 9
    · rw [if_pos c3, if_neg (fun z => z.2 ⟨by omega, c3⟩)]
    · rw [if_neg c3, if_pos ⟨c, fun z => c3 z.2⟩]
/-- a question's number -/
def zqs (a s t : Int) : Int := zor (zor (zshl t 12) (zshl s 4)) a
theorem f_X1_question {X : zX} {dep : Nat} (a s t : Int) {h : zH} : zW mX1_question X dep 0 0 239 0 (zar 0 [xI a, xI s, xI t]) [] h (zF h [xI (zqs a s t)]) := bX1_question_0 a s t ⟨rfl, rfl, rfl⟩
theorem l_X1_hasLine {X : zX} {dep : Nat} (L k : Int) {h : zH} (hL : zLawO L) (hl : 0 ≤ h L 6 ∧ h L 6 ≤ 20) : ∀ (r j : Nat), (j : Int) + r = h L 6 → (∀ i : Int, 0 ≤ i → i < j → h (L + 1) i ≠ k) → zW mX1_hasLine X dep 0 0 239 2 [(0, xR L), (1, xI k), (2, xI j)] [] h (zF h [xI (zb (∃ i : Int, 0 ≤ i ∧ i < h L 6 ∧ h (L + 1) i = k))]) := by
  intro r
  induction r with
  | zero =>
    intro j hj a
    refine bX1_hasLine_2 L k j hL hl (by omega) (fun _ => ?_) (fun c => absurd (by omega) c) (fun c => absurd (by omega) c)
    refine ⟨rfl, rfl, ?_⟩
    rw [zb_f]
    rintro ⟨i, i0, i1, i2⟩
    exact a i i0 (by omega) i2
  | succ r ih =>
    intro j hj a
    refine bX1_hasLine_2 L k j hL hl (by omega) (fun c => absurd c (by omega)) (fun _ c => ?_) (fun _ c => ?_)
    · refine ih (j + 1) (by omega) (fun i i0 i1 => ?_)
      by_cases e : i = j
      · rw [e]; exact c
      · exact a i i0 (by omega)
    · refine ⟨rfl, rfl, ?_⟩
      rw [zb_t ⟨j, by omega, by omega, c⟩]
theorem f_X1_hasLine {X : zX} {dep : Nat} (L k : Int) {h : zH} (hL : zLawO L) (hl : 0 ≤ h L 6 ∧ h L 6 ≤ 20) : zW mX1_hasLine X dep 0 0 239 0 (zar 0 [xR L, xI k]) [] h (zF h [xI (zb (∃ i : Int, 0 ≤ i ∧ i < h L 6 ∧ h (L + 1) i = k))]) :=
  bX1_hasLine_0 L k hL (l_X1_hasLine L k hL hl (h L 6).toNat 0 (by omega) (fun i i0 i1 => by omega))
/-! the tokens of a text: b tells its bytes -/
abbrev zsm1 (c : Int) : Prop := 97 ≤ c ∧ c ≤ 122
abbrev zdg1 (c : Int) : Prop := 48 ≤ c ∧ c ≤ 57
abbrev zrc (c : Int) : Prop := zsm1 c ∨ zdg1 c
abbrev zsg (c : Int) : Prop := c = 59 ∨ c = 40 ∨ c = 41 ∨ c = 60 ∨ c = 61 ∨ c = 62
def zsk (b : Int → Int) : Nat → Int → Int
  | 0, p => p
  | k + 1, p => if b p = 32 ∨ b p = 10 then zsk b k (p + 1) else p
def zre (b : Int → Int) : Nat → Int → Int
  | 0, p => p
  | k + 1, p => if zrc (b p) then zre b k (p + 1) else p
def znx (b : Int → Int) (p : Int) : Int := if zrc (b p) then zre b 400 p else p + 1
def zps (b : Int → Int) : Nat → Int
  | 0 => zsk b 400 0
  | j + 1 => zsk b 400 (znx b (zps b j))
/-- digits, and the number that they make -/
def zvl (b : Int → Int) (p : Int) : Nat → Int × Int
  | 0 => (0, 0)
  | n + 1 => if zsm1 (b (p + n)) then zvl b p n else ((zvl b p n).1 + 1, if 4 < (zvl b p n).1 + 1 then 0 else (zvl b p n).2 * 10 + b (p + n) - 48)
def zrn (b : Int → Int) (p : Int) : Nat := (zre b 400 p - p).toNat
def zkd (b : Int → Int) (p : Int) : Int := if zrc (b p) then (if (zvl b p (zrn b p)).1 = 0 ∧ zrn b p ≤ 8 then 1 else if (zvl b p (zrn b p)).1 = (zrn b p : Nat) ∧ (zvl b p (zrn b p)).1 ≤ 4 then 2 else 3) else if zsg (b p) then b p else 3
/-- word i stands from p to e -/
def zhw (b : Int → Int) (i p e : Int) : Prop := e - p = zTl i ∧ ∀ k : Int, 0 ≤ k → k < zTl i → b (p + k) = zTb i k
noncomputable def zfw (b : Int → Int) (p e : Int) : Nat → Int → Int
  | 0, _ => -1
  | k + 1, i => @ite Int (zhw b i p e) (Classical.propDecidable _) (1000000 + i) (zfw b p e k (i + 1))
noncomputable def zww (b : Int → Int) (p : Int) : Int := if zrc (b p) ∧ zkd b p = 1 then zfw b p (zre b 400 p) 22 0 else -1
def zvv (b : Int → Int) (p : Int) : Int := if zrc (b p) ∧ zkd b p = 2 then (zvl b p (zrn b p)).2 else 0
theorem zsk_f {b : Int → Int} (hb : ∀ q : Int, 340 ≤ q → b q = -1) : ∀ (k : Nat) (p : Int), 341 ≤ p + k → zsk b k p = zsk b (k + 1) p
  | 0, p, hp => by
    show p = if b p = 32 ∨ b p = 10 then _ else p
    rw [hb p (by omega), if_neg (by omega)]
  | k + 1, p, hp => by
    show (if b p = 32 ∨ b p = 10 then zsk b k (p + 1) else p) = if b p = 32 ∨ b p = 10 then zsk b (k + 1) (p + 1) else p
    rw [zsk_f hb k (p + 1) (by omega)]
theorem zsk_s {b : Int → Int} (hb : ∀ q : Int, 340 ≤ q → b q = -1) {p : Int} (h0 : 0 ≤ p) : zsk b 400 p = if b p = 32 ∨ b p = 10 then zsk b 400 (p + 1) else p := by
  rw [← zsk_f hb 399 (p + 1) (by omega)]
  rfl
theorem zre_f {b : Int → Int} (hb : ∀ q : Int, 340 ≤ q → b q = -1) : ∀ (k : Nat) (p : Int), 341 ≤ p + k → zre b k p = zre b (k + 1) p
  | 0, p, hp => by
    show p = if zrc (b p) then _ else p
    rw [hb p (by omega), if_neg (by simp only [zrc, zsm1, zdg1]; omega)]
  | k + 1, p, hp => by
    show (if zrc (b p) then zre b k (p + 1) else p) = if zrc (b p) then zre b (k + 1) (p + 1) else p
    rw [zre_f hb k (p + 1) (by omega)]
theorem zre_s {b : Int → Int} (hb : ∀ q : Int, 340 ≤ q → b q = -1) {p : Int} (h0 : 0 ≤ p) : zre b 400 p = if zrc (b p) then zre b 400 (p + 1) else p := by
  rw [← zre_f hb 399 (p + 1) (by omega)]
  rfl
theorem zsk_in {b : Int → Int} : ∀ (k : Nat) (p : Int), p ≤ zsk b k p
  | 0, p => Int.le_refl _
  | k + 1, p => by
    unfold zsk
    split
    · have := zsk_in (b := b) k (p + 1)
      omega
    · omega
theorem zre_in {b : Int → Int} : ∀ (k : Nat) (p : Int), p ≤ zre b k p
  | 0, p => Int.le_refl _
  | k + 1, p => by
    unfold zre
    split
    · have := zre_in (b := b) k (p + 1)
      omega
    · omega
theorem zsk_le {b : Int → Int} (hb : ∀ q : Int, 340 ≤ q → b q = -1) : ∀ (k : Nat) (p : Int), p ≤ 340 → zsk b k p ≤ 340
  | 0, p, hp => hp
  | k + 1, p, hp => by
    unfold zsk
    split
    · rename_i c
      refine zsk_le hb k (p + 1) ?_
      by_cases e : p = 340
      · rw [e, hb 340 (by omega)] at c
        omega
      · omega
    · exact hp
theorem zre_le {b : Int → Int} (hb : ∀ q : Int, 340 ≤ q → b q = -1) : ∀ (k : Nat) (p : Int), p ≤ 340 → zre b k p ≤ 340
  | 0, p, hp => hp
  | k + 1, p, hp => by
    unfold zre
    split
    · rename_i c
      refine zre_le hb k (p + 1) ?_
      by_cases e : p = 340
      · rw [e, hb 340 (by omega)] at c
        simp only [zrc, zsm1, zdg1] at c
        omega
      · omega
    · exact hp
theorem znx_in {b : Int → Int} (hb : ∀ q : Int, 340 ≤ q → b q = -1) {p : Int} (h0 : 0 ≤ p) (h1 : p < 340) : p < znx b p ∧ znx b p ≤ 340 := by
  unfold znx
  split
  · rename_i c
    rw [zre_s hb h0, if_pos c]
    have := zre_in (b := b) 400 (p + 1)
    have := zre_le hb 400 (p + 1) (by omega)
    omega
  · omega
theorem zre_run {b : Int → Int} : ∀ (n k : Nat) (p : Int), n ≤ k → (∀ i : Int, 0 ≤ i → i < n → zrc (b (p + i))) → ¬ zrc (b (p + n)) → zre b k p = p + n
  | 0, 0, p, _, _, _ => by unfold zre; omega
  | 0, k + 1, p, _, _, h2 => by
    unfold zre
    rw [if_neg (by rw [show p + ((0 : Nat) : Int) = p by omega] at h2; exact h2)]
    omega
  | n + 1, 0, p, hk, _, _ => by omega
  | n + 1, k + 1, p, hk, h1, h2 => by
    have a := h1 0 (by omega) (by omega)
    rw [Int.add_zero] at a
    unfold zre
    rw [if_pos a, zre_run n k (p + 1) (by omega) (fun i i0 i1 => by have := h1 (i + 1) (by omega) (by omega); rw [show p + (i + 1) = p + 1 + i by omega] at this; exact this) (by rw [show p + 1 + (n : Int) = p + ((n + 1 : Nat) : Int) by omega]; exact h2)]
    omega
theorem zvl_in {b : Int → Int} {p : Int} : ∀ n : Nat, (∀ i : Int, 0 ≤ i → i < n → zrc (b (p + i))) → (0 ≤ (zvl b p n).1 ∧ (zvl b p n).1 ≤ n) ∧ 0 ≤ (zvl b p n).2 ∧ ((zvl b p n).1 = 0 → (zvl b p n).2 = 0) ∧ ((zvl b p n).1 = 1 → (zvl b p n).2 ≤ 9) ∧ ((zvl b p n).1 = 2 → (zvl b p n).2 ≤ 99) ∧ ((zvl b p n).1 = 3 → (zvl b p n).2 ≤ 999) ∧ ((zvl b p n).1 = 4 → (zvl b p n).2 ≤ 9999) ∧ (4 < (zvl b p n).1 → (zvl b p n).2 = 0)
  | 0, _ => by unfold zvl; omega
  | n + 1, h => by
    have i1 := zvl_in n (fun i i0 i1 => h i i0 (by omega))
    have c := h n (by omega) (by omega)
    simp only [zrc, zsm1, zdg1] at c
    unfold zvl
    by_cases s : zsm1 (b (p + n))
    · rw [if_pos s]
      omega
    · rw [if_neg s]
      simp only [zsm1] at s
      by_cases t : 4 < (zvl b p n).1 + 1
      · refine ⟨⟨?_, ?_⟩, ?_, ?_, ?_, ?_, ?_, ?_, ?_⟩ <;> (try dsimp only) <;> (try rw [if_pos t]) <;> (try intro _) <;>
        omega
      · simp only [if_neg t]
        omega
theorem zat_out {h : zH} (ht : 0 ≤ h 1 1 ∧ h 1 1 ≤ 340) (q : Int) (hq : h 1 1 ≤ q) : zat h q = -1 := by
  unfold zat
  rw [if_neg (by omega)]
theorem zat_bd {h : zH} (ht : 0 ≤ h 1 1 ∧ h 1 1 ≤ 340) (q : Int) : -1 ≤ zat h q ∧ zat h q ≤ 255 := by
  by_cases c : 0 ≤ q ∧ q < h 1 1
  · have := zat_in (h := h) (i := q) c.1 c.2
    omega
  · unfold zat
    rw [if_neg c]
    omega

set_option maxRecDepth 20000 in
theorem bX7_holdsWord_0 {X : zX} {dep bc bs : Nat} (i : Int) (p : Int) (e : Int) {h : zH} {Q : Nat → zH → List zV → Prop} (hi : 0 ≤ i ∧ i < 22) (hp : 0 ≤ p ∧ p ≤ 340 ∧ 0 ≤ e ∧ e ≤ 340) (hdep : 2 ≤ dep)
    (k1 : (e - p) = (zTl i) → zW mX7_holdsWord X dep bc bs 239 15 [(0, xR 1), (1, xR (1000100 + i)), (2, xI p), (4, xI 0)] [] h Q)
    (k2 : ¬ ((e - p) = (zTl i)) → Q 239 h [xI 0]) : zW mX7_holdsWord X dep bc bs 239 0 [(0, xR 1), (1, xR (1000100 + i)), (2, xI p), (3, xI e)] [] h Q := by
  refine z_iload_n 3 dX7_holdsWord_0 rfl ?_
  refine z_iload_n 2 dX7_holdsWord_1 rfl ?_
  refine z_isubN dX7_holdsWord_2 (show -2147483648 ≤ e - p ∧ e - p < 2147483648 from ⟨by omega, by omega⟩).1 (show -2147483648 ≤ e - p ∧ e - p < 2147483648 from ⟨by omega, by omega⟩).2 ?_
  refine z_aload_n 1 dX7_holdsWord_3 rfl ?_
  refine z_invT (i := i) (as := []) (st := [xI (e - p)]) (ra := []) (dep' := dep - 1) (rs := [xI (zTl i)]) (h' := h) (f_J0_length_8abf5 (X := X) (dep := dep - 1) i (h := h) hi.1 hi.2 (by omega)) dX7_holdsWord_4 nJ0_length_8abf5 zb_630 zb_631 zb_632 zb_96 hi.1 hi.2 (by omega) zne_I (Nat.le_of_ble_eq_true rfl) (Nat.le_of_ble_eq_true rfl) rfl ?_
  refine z_icmp_eq (tgt := 12) dX7_holdsWord_7 (by decide) (fun c1 => ?_) (fun c1 => ?_)
  ·
    refine z_iconst dX7_holdsWord_12 (zi32_d rfl) ?_
    refine z_istore (lv' := [(4, xI 0), (0, xR 1), (1, xR (1000100 + i)), (2, xI p), (3, xI e)]) dX7_holdsWord_13 (by decide) rfl ?_
    refine zW.sub (lv' := [(0, xR 1), (1, xR (1000100 + i)), (2, xI p), (4, xI 0)]) [1, 2, 3, 0] rfl ?_
    exact k1 c1
  ·
    refine z_iconst dX7_holdsWord_10 (zi32_d rfl) ?_
    exact z_zret dX7_holdsWord_11 rfl (Or.inl rfl) (k2 c1)

set_option maxRecDepth 20000 in
theorem bX7_holdsWord_15 {X : zX} {dep bc bs : Nat} (i : Int) (p : Int) (k : Int) {h : zH} {Q : Nat → zH → List zV → Prop} (ht : 0 ≤ h 1 1 ∧ h 1 1 ≤ 340) (hi : 0 ≤ i ∧ i < 22) (hp : 0 ≤ p ∧ p ≤ 340) (hk : 0 ≤ k ∧ k ≤ 100) (hdep : 4 ≤ dep)
    (k1 : (zTl i) ≤ k → Q 239 h [xI 1])
    (k2 : ¬ ((zTl i) ≤ k) → (zat h (p + k)) = (zTb i k) → zW mX7_holdsWord X dep bc bs 239 15 [(0, xR 1), (1, xR (1000100 + i)), (2, xI p), (4, xI (k + 1))] [] h Q)
    (k3 : ¬ ((zTl i) ≤ k) → ¬ ((zat h (p + k)) = (zTb i k)) → Q 239 h [xI 0]) : zW mX7_holdsWord X dep bc bs 239 15 [(0, xR 1), (1, xR (1000100 + i)), (2, xI p), (4, xI k)] [] h Q := by
  refine z_iload 3 dX7_holdsWord_15 rfl ?_
  refine z_aload_n 1 dX7_holdsWord_17 rfl ?_
  refine z_invT (i := i) (as := []) (st := [xI k]) (ra := []) (dep' := dep - 1) (rs := [xI (zTl i)]) (h' := h) (f_J0_length_8abf5 (X := X) (dep := dep - 1) i (h := h) hi.1 hi.2 (by omega)) dX7_holdsWord_18 nJ0_length_8abf5 zb_630 zb_631 zb_632 zb_96 hi.1 hi.2 (by omega) zne_I (Nat.le_of_ble_eq_true rfl) (Nat.le_of_ble_eq_true rfl) rfl ?_
  refine z_icmp_ge (tgt := 49) dX7_holdsWord_21 (by decide) (fun c1 => ?_) (fun c1 => ?_)
  ·
    refine z_iconst dX7_holdsWord_49 (zi32_d rfl) ?_
    exact z_zret dX7_holdsWord_50 rfl (Or.inr rfl) (k1 c1)
  ·
    refine z_aload_n 0 dX7_holdsWord_24 rfl ?_
    refine z_iload_n 2 dX7_holdsWord_25 rfl ?_
    refine z_iload 3 dX7_holdsWord_26 rfl ?_
    refine z_iaddN dX7_holdsWord_28 (show -2147483648 ≤ p + k ∧ p + k < 2147483648 from ⟨by omega, by omega⟩).1 (show -2147483648 ≤ p + k ∧ p + k < 2147483648 from ⟨by omega, by omega⟩).2 ?_
    refine z_invF (ci := 7) (N := 2) (as := [xI (p + k)]) (st := []) (ra := [xI (p + k)]) (dep' := dep - 1) (rs := [xI (zat h (p + k))]) (h' := h) (f_X7_at (p + k) (h := h) ht) dX7_holdsWord_29 nX7_at zb_540 zb_541 zb_542 zb_83 (zOb.lit (by decide +kernel)) rfl (by omega) zne_I (Nat.le_of_ble_eq_true rfl) (Nat.le_of_ble_eq_true rfl) rfl ?_
    refine z_aload_n 1 dX7_holdsWord_32 rfl ?_
    refine z_iload 3 dX7_holdsWord_33 rfl ?_
    refine z_invT (i := i) (as := [xI k]) (st := [xI (zat h (p + k))]) (ra := [xI k]) (dep' := dep - 1) (rs := [xI (zTb i k)]) (h' := h) (f_J0_charAt_5068e (X := X) (dep := dep - 1) i k (h := h) hi.1 hi.2 (by omega) (by omega) (by omega)) dX7_holdsWord_35 nJ0_charAt_5068e zb_640 zb_641 zb_642 zb_96 hi.1 hi.2 (by omega) zne_I (Nat.le_of_ble_eq_true rfl) (Nat.le_of_ble_eq_true rfl) rfl ?_
    refine z_icmp_eq (tgt := 43) dX7_holdsWord_38 (by decide) (fun c2 => ?_) (fun c2 => ?_)
    ·
      refine z_iincN (lv' := [(4, xI (k + 1)), (0, xR 1), (1, xR (1000100 + i)), (2, xI p)]) 3 dX7_holdsWord_43 rfl (by decide) rfl (show -2147483648 ≤ k + 1 ∧ k + 1 < 2147483648 from ⟨by omega, by omega⟩).1 (show -2147483648 ≤ k + 1 ∧ k + 1 < 2147483648 from ⟨by omega, by omega⟩).2 ?_
      refine z_goto (tgt := 15) dX7_holdsWord_46 (by decide) ?_
      refine zW.sub (lv' := [(0, xR 1), (1, xR (1000100 + i)), (2, xI p), (4, xI (k + 1))]) [1, 2, 3, 0] rfl ?_
      exact k2 c1 c2
    ·
      refine z_iconst dX7_holdsWord_41 (zi32_d rfl) ?_
      exact z_zret dX7_holdsWord_42 rfl (Or.inl rfl) (k3 c1 c2)

theorem l_X7_holdsWord {X : zX} {dep : Nat} (i p e : Int) {h : zH} (ht : 0 ≤ h 1 1 ∧ h 1 1 ≤ 340) (hi : 0 ≤ i ∧ i < 22) (hp : 0 ≤ p ∧ p ≤ 340) (he : e - p = zTl i) (hdep : 4 ≤ dep) : ∀ (r j : Nat), (j : Int) + r = zTl i → (∀ k : Int, 0 ≤ k → k < j → zat h (p + k) = zTb i k) → zW mX7_holdsWord X dep 0 0 239 15 [(0, xR 1), (1, xR (1000100 + i)), (2, xI p), (4, xI j)] [] h (zF h [xI (zb (zhw (zat h) i p e))]) := by
  have tl := zTlen_in i.toNat (by omega)
  intro r
  induction r with
  | zero =>
    intro j hj a
    refine bX7_holdsWord_15 i p j ht hi hp (by unfold zTl at hj; omega) hdep (fun _ => ?_) (fun c => absurd (by omega) c) (fun c => absurd (by omega) c)
    refine ⟨rfl, rfl, ?_⟩
    rw [zb_t ⟨he, fun k k0 k1 => a k k0 (by omega)⟩]
  | succ r ih =>
    intro j hj a
    refine bX7_holdsWord_15 i p j ht hi hp (by unfold zTl at hj; omega) hdep (fun c => absurd c (by omega)) (fun _ c => ?_) (fun _ c => ?_)
    · refine ih (j + 1) (by omega) (fun k k0 k1 => ?_)
      by_cases e : k = j
      · rw [e]; exact c
      · exact a k k0 (by omega)
    · refine ⟨rfl, rfl, ?_⟩
      rw [zb_f (fun z => c (z.2 j (by omega) (by omega)))]
theorem f_X7_holdsWord {X : zX} {dep : Nat} (i p e : Int) {h : zH} (ht : 0 ≤ h 1 1 ∧ h 1 1 ≤ 340) (hi : 0 ≤ i ∧ i < 22) (hp : 0 ≤ p ∧ p ≤ 340 ∧ 0 ≤ e ∧ e ≤ 340) (hdep : 4 ≤ dep) : zW mX7_holdsWord X dep 0 0 239 0 (zar 0 [xR 1, xR (1000100 + i), xI p, xI e]) [] h (zF h [xI (zb (zhw (zat h) i p e))]) := by
  have tl := zTlen_in i.toNat (by omega)
  refine bX7_holdsWord_0 i p e hi hp (by omega) (fun c => ?_) (fun c => ?_)
  · exact l_X7_holdsWord i p e ht hi (by omega) c hdep (zTl i).toNat 0 (by unfold zTl; omega) (fun k k0 k1 => by omega)
  · refine ⟨rfl, rfl, ?_⟩
    rw [zb_f (fun z => c z.1)]

set_option maxRecDepth 20000 in
theorem bX9_find_0 {X : zX} {dep bc bs : Nat} (p : Int) (e : Int) {h : zH} {Q : Nat → zH → List zV → Prop}
    (k1 : zW mX9_find X dep bc bs 239 11 [(0, xR 1), (1, xI p), (2, xI e), (3, xR 1000200), (4, xI 22), (5, xI 0)] [] h Q) : zW mX9_find X dep bc bs 239 0 [(0, xR 1), (1, xI p), (2, xI e)] [] h Q := by
  refine z_getALL dX9_find_0 zb_624 ?_
  refine z_astore_n (lv' := [(3, xR 1000200), (0, xR 1), (1, xI p), (2, xI e)]) dX9_find_3 (by decide) rfl ?_
  refine z_aload_n 0 dX9_find_4 rfl ?_
  refine z_alenALL dX9_find_5 ?_
  refine z_istore (lv' := [(4, xI 22), (3, xR 1000200), (0, xR 1), (1, xI p), (2, xI e)]) dX9_find_6 (by decide) rfl ?_
  refine z_iconst dX9_find_8 (zi32_d rfl) ?_
  refine z_istore (lv' := [(5, xI 0), (4, xI 22), (3, xR 1000200), (0, xR 1), (1, xI p), (2, xI e)]) dX9_find_9 (by decide) rfl ?_
  refine zW.sub (lv' := [(0, xR 1), (1, xI p), (2, xI e), (3, xR 1000200), (4, xI 22), (5, xI 0)]) [3, 4, 5, 2, 1, 0] rfl ?_
  exact k1

set_option maxRecDepth 20000 in
theorem bX9_find_11 {X : zX} {dep bc bs : Nat} (p : Int) (e : Int) (i : Int) {h : zH} {Q : Nat → zH → List zV → Prop} (ht : 0 ≤ h 1 1 ∧ h 1 1 ≤ 340) (hp : 0 ≤ p ∧ p ≤ 340 ∧ 0 ≤ e ∧ e ≤ 340) (hi : 0 ≤ i ∧ i ≤ 22) (hdep : 5 ≤ dep)
    (k1 : 22 ≤ i → Q 239 h [xR (-1)])
    (k2 : ¬ (22 ≤ i) → ¬ (zhw (zat h) i p e) → zW mX9_find X dep bc bs 239 11 [(0, xR 1), (1, xI p), (2, xI e), (3, xR 1000200), (4, xI 22), (5, xI (i + 1))] [] h Q)
    (k3 : ¬ (22 ≤ i) → zhw (zat h) i p e → Q 239 h [xR (1000000 + i)]) : zW mX9_find X dep bc bs 239 11 [(0, xR 1), (1, xI p), (2, xI e), (3, xR 1000200), (4, xI 22), (5, xI i)] [] h Q := by
  refine z_iload 5 dX9_find_11 rfl ?_
  refine z_iload 4 dX9_find_13 rfl ?_
  refine z_icmp_ge (tgt := 47) dX9_find_15 (by decide) (fun c1 => ?_) (fun c1 => ?_)
  ·
    refine z_anull dX9_find_47 ?_
    exact z_aret dX9_find_48 rfl (k1 c1)
  ·
    refine z_aload_n 3 dX9_find_18 rfl ?_
    refine z_iload 5 dX9_find_19 rfl ?_
    refine z_aaldALL (show 0 ≤ i ∧ i < 22 from ⟨by omega, by omega⟩).1 (show 0 ≤ i ∧ i < 22 from ⟨by omega, by omega⟩).2 dX9_find_21 ?_
    refine z_astore (lv' := [(6, xR (1000000 + i)), (0, xR 1), (1, xI p), (2, xI e), (3, xR 1000200), (4, xI 22), (5, xI i)]) dX9_find_22 (by decide) rfl ?_
    refine z_aload_n 1 dX9_find_24 rfl ?_
    refine z_aload 0 dX9_find_25 rfl ?_
    refine z_getWt (show 0 ≤ i ∧ i < 22 from ⟨by omega, by omega⟩).1 (show 0 ≤ i ∧ i < 22 from ⟨by omega, by omega⟩).2 dX9_find_27 zb_1785 ?_
    refine z_iload_n 2 dX9_find_30 rfl ?_
    refine z_iload_n 3 dX9_find_31 rfl ?_
    refine z_invF (ci := 7) (N := 2) (as := [xR (1000100 + i), xI p, xI e]) (st := []) (ra := [xI e, xI p, xR (1000100 + i)]) (dep' := dep - 1) (rs := [xI (zb (zhw (zat h) i p e))]) (h' := h) (f_X7_holdsWord (X := X) (dep := dep - 1) i p e (h := h) ht (by omega) hp (by omega)) dX9_find_32 nX7_holdsWord zb_626 zb_627 zb_628 zb_83 (zOb.lit (by decide +kernel)) rfl (by omega) zne_I (Nat.le_of_ble_eq_true rfl) (Nat.le_of_ble_eq_true rfl) rfl ?_
    refine z_ifB_eq (C := zhw (zat h) i p e) (tgt := 41) dX9_find_35 (by decide) (fun c2 => ?_) (fun c2 => ?_)
    ·
      refine z_iincN (lv' := [(5, xI (i + 1)), (6, xR (1000000 + i)), (0, xR 1), (1, xI p), (2, xI e), (3, xR 1000200), (4, xI 22)]) 6 dX9_find_41 rfl (by decide) rfl (show -2147483648 ≤ i + 1 ∧ i + 1 < 2147483648 from ⟨by omega, by omega⟩).1 (show -2147483648 ≤ i + 1 ∧ i + 1 < 2147483648 from ⟨by omega, by omega⟩).2 ?_
      refine z_goto (tgt := 11) dX9_find_44 (by decide) ?_
      refine zW.sub (lv' := [(0, xR 1), (1, xI p), (2, xI e), (3, xR 1000200), (4, xI 22), (5, xI (i + 1))]) [2, 3, 4, 5, 6, 0] rfl ?_
      exact k2 c1 c2
    ·
      refine z_aload 0 dX9_find_38 rfl ?_
      exact z_aret dX9_find_40 rfl (k3 c1 c2)

theorem l_X9_find {X : zX} {dep : Nat} (p e : Int) {h : zH} (ht : 0 ≤ h 1 1 ∧ h 1 1 ≤ 340) (hp : 0 ≤ p ∧ p ≤ 340 ∧ 0 ≤ e ∧ e ≤ 340) (hdep : 5 ≤ dep) : ∀ (r j : Nat), j + r = 22 → zW mX9_find X dep 0 0 239 11 [(0, xR 1), (1, xI p), (2, xI e), (3, xR 1000200), (4, xI 22), (5, xI j)] [] h (zF h [xR (zfw (zat h) p e r j)]) := by
  intro r
  induction r with
  | zero =>
    intro j hj
    refine bX9_find_11 p e j ht hp (by omega) hdep (fun _ => ⟨rfl, rfl, rfl⟩) (fun c => absurd (by omega) c) (fun c => absurd (by omega) c)
  | succ r ih =>
    intro j hj
    refine bX9_find_11 p e j ht hp (by omega) hdep (fun c => absurd c (by omega)) (fun _ c => ?_) (fun _ c => ?_)
    · have go := ih (j + 1) (by omega)
      unfold zfw
      rw [if_neg c]
      exact go
    · refine ⟨rfl, rfl, ?_⟩
      unfold zfw
      rw [if_pos c]
theorem f_X9_find {X : zX} {dep : Nat} (p e : Int) {h : zH} (ht : 0 ≤ h 1 1 ∧ h 1 1 ≤ 340) (hp : 0 ≤ p ∧ p ≤ 340 ∧ 0 ≤ e ∧ e ≤ 340) (hdep : 5 ≤ dep) : zW mX9_find X dep 0 0 239 0 (zar 0 [xR 1, xI p, xI e]) [] h (zF h [xR (zfw (zat h) p e 22 0)]) :=
  bX9_find_0 p e (l_X9_find p e ht hp hdep 22 0 rfl)
theorem zfw_in (b : Int → Int) (p e : Int) : ∀ (k : Nat) (i : Int), 0 ≤ i → i + k ≤ 22 → zWd (zfw b p e k i)
  | 0, i, _, _ => Or.inl rfl
  | k + 1, i, h0, h1 => by
    unfold zfw
    split
    · exact Or.inr (by omega)
    · exact zfw_in b p e k (i + 1) (by omega) (by omega)
theorem zww_in (b : Int → Int) (p : Int) : zWd (zww b p) := by
  unfold zww
  split
  · exact zfw_in _ _ _ 22 0 (by omega) (by omega)
  · exact Or.inl rfl

set_option maxRecDepth 20000 in
theorem bX8_readRun_0 {X : zX} {dep bc bs : Nat} (p : Int) {h : zH} {Q : Nat → zH → List zV → Prop}
    (k1 : zW mX8_readRun X dep bc bs 239 11 [(0, xR 25), (1, xR 1), (2, xI p), (3, xI 0), (4, xI 0), (5, xI 0), (6, xI p)] [] h Q) : zW mX8_readRun X dep bc bs 239 0 [(0, xR 25), (1, xR 1), (2, xI p)] [] h Q := by
  refine z_iconst dX8_readRun_0 (zi32_d rfl) ?_
  refine z_istore_n (lv' := [(3, xI 0), (0, xR 25), (1, xR 1), (2, xI p)]) dX8_readRun_1 (by decide) rfl ?_
  refine z_iconst dX8_readRun_2 (zi32_d rfl) ?_
  refine z_istore (lv' := [(4, xI 0), (3, xI 0), (0, xR 25), (1, xR 1), (2, xI p)]) dX8_readRun_3 (by decide) rfl ?_
  refine z_iconst dX8_readRun_5 (zi32_d rfl) ?_
  refine z_istore (lv' := [(5, xI 0), (4, xI 0), (3, xI 0), (0, xR 25), (1, xR 1), (2, xI p)]) dX8_readRun_6 (by decide) rfl ?_
  refine z_iload_n 5 dX8_readRun_8 rfl ?_
  refine z_istore (lv' := [(6, xI p), (5, xI 0), (4, xI 0), (3, xI 0), (0, xR 25), (1, xR 1), (2, xI p)]) dX8_readRun_9 (by decide) rfl ?_
  refine zW.sub (lv' := [(0, xR 25), (1, xR 1), (2, xI p), (3, xI 0), (4, xI 0), (5, xI 0), (6, xI p)]) [4, 5, 6, 3, 2, 1, 0] rfl ?_
  exact k1

set_option maxRecDepth 20000 in
theorem bX8_readRun_11 {X : zX} {dep bc bs : Nat} (p : Int) (l : Int) (d : Int) (n : Int) (e : Int) {h : zH} {Q : Nat → zH → List zV → Prop} (ht : 0 ≤ h 1 1 ∧ h 1 1 ≤ 340) (he : 0 ≤ e ∧ e ≤ 340 ∧ 0 ≤ l ∧ l ≤ 340 ∧ 0 ≤ d ∧ d ≤ 340) (hn : 0 ≤ n ∧ n ≤ 99999) (hz : -1 ≤ zat h e ∧ zat h e ≤ 255) (hdep : 2 ≤ dep)
    (k1 : (h 1 1) ≤ e → zW mX8_readRun X dep bc bs 239 89 [(0, xR 25), (1, xR 1), (2, xI p), (3, xI l), (4, xI d), (5, xI n), (6, xI e)] [] h Q)
    (k2 : ¬ ((h 1 1) ≤ e) → 97 ≤ zat h e ∧ zat h e ≤ 122 → ¬ (97 ≤ zat h e ∧ zat h e ≤ 122) → (d + 1) ≤ 4 → zW mX8_readRun X dep bc bs 239 11 [(0, xR 25), (1, xR 1), (2, xI p), (3, xI l), (4, xI (d + 1)), (5, xI (((n * 10) + (zat h e)) - 48)), (6, xI (e + 1))] [] h Q)
    (k3 : ¬ ((h 1 1) ≤ e) → 97 ≤ zat h e ∧ zat h e ≤ 122 → ¬ (97 ≤ zat h e ∧ zat h e ≤ 122) → ¬ ((d + 1) ≤ 4) → zW mX8_readRun X dep bc bs 239 11 [(0, xR 25), (1, xR 1), (2, xI p), (3, xI l), (4, xI (d + 1)), (5, xI 0), (6, xI (e + 1))] [] h Q)
    (k4 : ¬ ((h 1 1) ≤ e) → 97 ≤ zat h e ∧ zat h e ≤ 122 → 97 ≤ zat h e ∧ zat h e ≤ 122 → zW mX8_readRun X dep bc bs 239 11 [(0, xR 25), (1, xR 1), (2, xI p), (3, xI (l + 1)), (4, xI d), (5, xI n), (6, xI (e + 1))] [] h Q)
    (k5 : ¬ ((h 1 1) ≤ e) → ¬ (97 ≤ zat h e ∧ zat h e ≤ 122) → ¬ (48 ≤ zat h e ∧ zat h e ≤ 57) → zW mX8_readRun X dep bc bs 239 89 [(0, xR 25), (1, xR 1), (2, xI p), (3, xI l), (4, xI d), (5, xI n), (6, xI e)] [] h Q)
    (k6 : ¬ ((h 1 1) ≤ e) → ¬ (97 ≤ zat h e ∧ zat h e ≤ 122) → 48 ≤ zat h e ∧ zat h e ≤ 57 → ¬ (97 ≤ zat h e ∧ zat h e ≤ 122) → (d + 1) ≤ 4 → zW mX8_readRun X dep bc bs 239 11 [(0, xR 25), (1, xR 1), (2, xI p), (3, xI l), (4, xI (d + 1)), (5, xI (((n * 10) + (zat h e)) - 48)), (6, xI (e + 1))] [] h Q)
    (k7 : ¬ ((h 1 1) ≤ e) → ¬ (97 ≤ zat h e ∧ zat h e ≤ 122) → 48 ≤ zat h e ∧ zat h e ≤ 57 → ¬ (97 ≤ zat h e ∧ zat h e ≤ 122) → ¬ ((d + 1) ≤ 4) → zW mX8_readRun X dep bc bs 239 11 [(0, xR 25), (1, xR 1), (2, xI p), (3, xI l), (4, xI (d + 1)), (5, xI 0), (6, xI (e + 1))] [] h Q)
    (k8 : ¬ ((h 1 1) ≤ e) → ¬ (97 ≤ zat h e ∧ zat h e ≤ 122) → 48 ≤ zat h e ∧ zat h e ≤ 57 → 97 ≤ zat h e ∧ zat h e ≤ 122 → zW mX8_readRun X dep bc bs 239 11 [(0, xR 25), (1, xR 1), (2, xI p), (3, xI (l + 1)), (4, xI d), (5, xI n), (6, xI (e + 1))] [] h Q) : zW mX8_readRun X dep bc bs 239 11 [(0, xR 25), (1, xR 1), (2, xI p), (3, xI l), (4, xI d), (5, xI n), (6, xI e)] [] h Q := by
  refine z_iload 6 dX8_readRun_11 rfl ?_
  refine z_aload_n 1 dX8_readRun_13 rfl ?_
  refine z_getI (k := 1) (kz := 1) pk7 dX8_readRun_14 (by decide) zb_120 rfl (zOb.lit (by decide +kernel)) rfl ?_
  refine z_icmp_ge (tgt := 89) dX8_readRun_17 (by decide) (fun c1 => ?_) (fun c1 => ?_)
  ·
    exact k1 c1
  ·
    refine z_aload_n 1 dX8_readRun_20 rfl ?_
    refine z_iload 6 dX8_readRun_21 rfl ?_
    refine z_invF (ci := 7) (N := 2) (as := [xI e]) (st := []) (ra := [xI e]) (dep' := dep - 1) (rs := [xI (zb (97 ≤ zat h e ∧ zat h e ≤ 122))]) (h' := h) (f_X7_isLetter e (h := h) ht (by omega)) dX8_readRun_23 nX7_isLetter zb_611 zb_537 zb_538 zb_83 (zOb.lit (by decide +kernel)) rfl (by omega) zne_I (Nat.le_of_ble_eq_true rfl) (Nat.le_of_ble_eq_true rfl) rfl ?_
    refine z_ifB_ne (C := 97 ≤ zat h e ∧ zat h e ≤ 122) (tgt := 38) dX8_readRun_26 (by decide) (fun c2 => ?_) (fun c2 => ?_)
    ·
      refine z_aload_n 1 dX8_readRun_38 rfl ?_
      refine z_iload 6 dX8_readRun_39 rfl ?_
      refine z_invF (ci := 7) (N := 2) (as := [xI e]) (st := []) (ra := [xI e]) (dep' := dep - 1) (rs := [xI (zb (97 ≤ zat h e ∧ zat h e ≤ 122))]) (h' := h) (f_X7_isLetter e (h := h) ht (by omega)) dX8_readRun_41 nX7_isLetter zb_611 zb_537 zb_538 zb_83 (zOb.lit (by decide +kernel)) rfl (by omega) zne_I (Nat.le_of_ble_eq_true rfl) (Nat.le_of_ble_eq_true rfl) rfl ?_
      refine z_ifB_eq (C := 97 ≤ zat h e ∧ zat h e ≤ 122) (tgt := 53) dX8_readRun_44 (by decide) (fun c3 => ?_) (fun c3 => ?_)
      ·
        refine z_iincN (lv' := [(4, xI (d + 1)), (0, xR 25), (1, xR 1), (2, xI p), (3, xI l), (5, xI n), (6, xI e)]) 4 dX8_readRun_53 rfl (by decide) rfl (show -2147483648 ≤ d + 1 ∧ d + 1 < 2147483648 from ⟨by omega, by omega⟩).1 (show -2147483648 ≤ d + 1 ∧ d + 1 < 2147483648 from ⟨by omega, by omega⟩).2 ?_
        refine z_iload 0 dX8_readRun_56 rfl ?_
        refine z_iconst dX8_readRun_58 (zi32_d rfl) ?_
        refine z_icmp_le (tgt := 66) dX8_readRun_59 (by decide) (fun c4 => ?_) (fun c4 => ?_)
        ·
          refine z_iload 5 dX8_readRun_66 rfl ?_
          refine z_bipush dX8_readRun_68 (zi32_d rfl) (by decide) ?_
          refine z_imulN dX8_readRun_70 (show -2147483648 ≤ n * 10 ∧ n * 10 < 2147483648 from ⟨by omega, by omega⟩).1 (show -2147483648 ≤ n * 10 ∧ n * 10 < 2147483648 from ⟨by omega, by omega⟩).2 ?_
          refine z_aload_n 2 dX8_readRun_71 rfl ?_
          refine z_iload 6 dX8_readRun_72 rfl ?_
          refine z_invF (ci := 7) (N := 2) (as := [xI e]) (st := [xI (n * 10)]) (ra := [xI e]) (dep' := dep - 1) (rs := [xI (zat h e)]) (h' := h) (f_X7_at e (h := h) ht) dX8_readRun_74 nX7_at zb_620 zb_541 zb_542 zb_83 (zOb.lit (by decide +kernel)) rfl (by omega) zne_I (Nat.le_of_ble_eq_true rfl) (Nat.le_of_ble_eq_true rfl) rfl ?_
          refine z_iaddN dX8_readRun_77 (show -2147483648 ≤ (n * 10) + (zat h e) ∧ (n * 10) + (zat h e) < 2147483648 from ⟨by omega, by omega⟩).1 (show -2147483648 ≤ (n * 10) + (zat h e) ∧ (n * 10) + (zat h e) < 2147483648 from ⟨by omega, by omega⟩).2 ?_
          refine z_bipush dX8_readRun_78 (zi32_d rfl) (by decide) ?_
          refine z_isubN dX8_readRun_80 (show -2147483648 ≤ ((n * 10) + (zat h e)) - 48 ∧ ((n * 10) + (zat h e)) - 48 < 2147483648 from ⟨by omega, by omega⟩).1 (show -2147483648 ≤ ((n * 10) + (zat h e)) - 48 ∧ ((n * 10) + (zat h e)) - 48 < 2147483648 from ⟨by omega, by omega⟩).2 ?_
          refine z_istore (lv' := [(5, xI (((n * 10) + (zat h e)) - 48)), (4, xI (d + 1)), (0, xR 25), (1, xR 1), (2, xI p), (3, xI l), (6, xI e)]) dX8_readRun_81 (by decide) rfl ?_
          refine z_iincN (lv' := [(6, xI (e + 1)), (5, xI (((n * 10) + (zat h e)) - 48)), (4, xI (d + 1)), (0, xR 25), (1, xR 1), (2, xI p), (3, xI l)]) 6 dX8_readRun_83 rfl (by decide) rfl (show -2147483648 ≤ e + 1 ∧ e + 1 < 2147483648 from ⟨by omega, by omega⟩).1 (show -2147483648 ≤ e + 1 ∧ e + 1 < 2147483648 from ⟨by omega, by omega⟩).2 ?_
          refine z_goto (tgt := 11) dX8_readRun_86 (by decide) ?_
          refine zW.sub (lv' := [(0, xR 25), (1, xR 1), (2, xI p), (3, xI l), (4, xI (d + 1)), (5, xI (((n * 10) + (zat h e)) - 48)), (6, xI (e + 1))]) [3, 4, 5, 6, 2, 1, 0] rfl ?_
          exact k2 c1 c2 c3 c4
        ·
          refine z_iconst dX8_readRun_62 (zi32_d rfl) ?_
          refine z_goto (tgt := 81) dX8_readRun_63 (by decide) ?_
          refine z_istore (lv' := [(5, xI 0), (4, xI (d + 1)), (0, xR 25), (1, xR 1), (2, xI p), (3, xI l), (6, xI e)]) dX8_readRun_81 (by decide) rfl ?_
          refine z_iincN (lv' := [(6, xI (e + 1)), (5, xI 0), (4, xI (d + 1)), (0, xR 25), (1, xR 1), (2, xI p), (3, xI l)]) 6 dX8_readRun_83 rfl (by decide) rfl (show -2147483648 ≤ e + 1 ∧ e + 1 < 2147483648 from ⟨by omega, by omega⟩).1 (show -2147483648 ≤ e + 1 ∧ e + 1 < 2147483648 from ⟨by omega, by omega⟩).2 ?_
          refine z_goto (tgt := 11) dX8_readRun_86 (by decide) ?_
          refine zW.sub (lv' := [(0, xR 25), (1, xR 1), (2, xI p), (3, xI l), (4, xI (d + 1)), (5, xI 0), (6, xI (e + 1))]) [3, 4, 5, 6, 2, 1, 0] rfl ?_
          exact k3 c1 c2 c3 c4
      ·
        refine z_iincN (lv' := [(3, xI (l + 1)), (0, xR 25), (1, xR 1), (2, xI p), (4, xI d), (5, xI n), (6, xI e)]) 3 dX8_readRun_47 rfl (by decide) rfl (show -2147483648 ≤ l + 1 ∧ l + 1 < 2147483648 from ⟨by omega, by omega⟩).1 (show -2147483648 ≤ l + 1 ∧ l + 1 < 2147483648 from ⟨by omega, by omega⟩).2 ?_
        refine z_goto (tgt := 83) dX8_readRun_50 (by decide) ?_
        refine z_iincN (lv' := [(6, xI (e + 1)), (3, xI (l + 1)), (0, xR 25), (1, xR 1), (2, xI p), (4, xI d), (5, xI n)]) 6 dX8_readRun_83 rfl (by decide) rfl (show -2147483648 ≤ e + 1 ∧ e + 1 < 2147483648 from ⟨by omega, by omega⟩).1 (show -2147483648 ≤ e + 1 ∧ e + 1 < 2147483648 from ⟨by omega, by omega⟩).2 ?_
        refine z_goto (tgt := 11) dX8_readRun_86 (by decide) ?_
        refine zW.sub (lv' := [(0, xR 25), (1, xR 1), (2, xI p), (3, xI (l + 1)), (4, xI d), (5, xI n), (6, xI (e + 1))]) [2, 3, 4, 1, 5, 6, 0] rfl ?_
        exact k4 c1 c2 c3
    ·
      refine z_aload_n 1 dX8_readRun_29 rfl ?_
      refine z_iload 6 dX8_readRun_30 rfl ?_
      refine z_invF (ci := 7) (N := 2) (as := [xI e]) (st := []) (ra := [xI e]) (dep' := dep - 1) (rs := [xI (zb (48 ≤ zat h e ∧ zat h e ≤ 57))]) (h' := h) (f_X7_isDigit e (h := h) ht (by omega)) dX8_readRun_32 nX7_isDigit zb_612 zb_613 zb_614 zb_83 (zOb.lit (by decide +kernel)) rfl (by omega) zne_I (Nat.le_of_ble_eq_true rfl) (Nat.le_of_ble_eq_true rfl) rfl ?_
      refine z_ifB_eq (C := 48 ≤ zat h e ∧ zat h e ≤ 57) (tgt := 89) dX8_readRun_35 (by decide) (fun c3 => ?_) (fun c3 => ?_)
      ·
        exact k5 c1 c2 c3
      ·
        refine z_aload_n 1 dX8_readRun_38 rfl ?_
        refine z_iload 6 dX8_readRun_39 rfl ?_
        refine z_invF (ci := 7) (N := 2) (as := [xI e]) (st := []) (ra := [xI e]) (dep' := dep - 1) (rs := [xI (zb (97 ≤ zat h e ∧ zat h e ≤ 122))]) (h' := h) (f_X7_isLetter e (h := h) ht (by omega)) dX8_readRun_41 nX7_isLetter zb_611 zb_537 zb_538 zb_83 (zOb.lit (by decide +kernel)) rfl (by omega) zne_I (Nat.le_of_ble_eq_true rfl) (Nat.le_of_ble_eq_true rfl) rfl ?_
        refine z_ifB_eq (C := 97 ≤ zat h e ∧ zat h e ≤ 122) (tgt := 53) dX8_readRun_44 (by decide) (fun c4 => ?_) (fun c4 => ?_)
        ·
          refine z_iincN (lv' := [(4, xI (d + 1)), (0, xR 25), (1, xR 1), (2, xI p), (3, xI l), (5, xI n), (6, xI e)]) 4 dX8_readRun_53 rfl (by decide) rfl (show -2147483648 ≤ d + 1 ∧ d + 1 < 2147483648 from ⟨by omega, by omega⟩).1 (show -2147483648 ≤ d + 1 ∧ d + 1 < 2147483648 from ⟨by omega, by omega⟩).2 ?_
          refine z_iload 0 dX8_readRun_56 rfl ?_
          refine z_iconst dX8_readRun_58 (zi32_d rfl) ?_
          refine z_icmp_le (tgt := 66) dX8_readRun_59 (by decide) (fun c5 => ?_) (fun c5 => ?_)
          ·
            refine z_iload 5 dX8_readRun_66 rfl ?_
            refine z_bipush dX8_readRun_68 (zi32_d rfl) (by decide) ?_
            refine z_imulN dX8_readRun_70 (show -2147483648 ≤ n * 10 ∧ n * 10 < 2147483648 from ⟨by omega, by omega⟩).1 (show -2147483648 ≤ n * 10 ∧ n * 10 < 2147483648 from ⟨by omega, by omega⟩).2 ?_
            refine z_aload_n 2 dX8_readRun_71 rfl ?_
            refine z_iload 6 dX8_readRun_72 rfl ?_
            refine z_invF (ci := 7) (N := 2) (as := [xI e]) (st := [xI (n * 10)]) (ra := [xI e]) (dep' := dep - 1) (rs := [xI (zat h e)]) (h' := h) (f_X7_at e (h := h) ht) dX8_readRun_74 nX7_at zb_620 zb_541 zb_542 zb_83 (zOb.lit (by decide +kernel)) rfl (by omega) zne_I (Nat.le_of_ble_eq_true rfl) (Nat.le_of_ble_eq_true rfl) rfl ?_
            refine z_iaddN dX8_readRun_77 (show -2147483648 ≤ (n * 10) + (zat h e) ∧ (n * 10) + (zat h e) < 2147483648 from ⟨by omega, by omega⟩).1 (show -2147483648 ≤ (n * 10) + (zat h e) ∧ (n * 10) + (zat h e) < 2147483648 from ⟨by omega, by omega⟩).2 ?_
            refine z_bipush dX8_readRun_78 (zi32_d rfl) (by decide) ?_
            refine z_isubN dX8_readRun_80 (show -2147483648 ≤ ((n * 10) + (zat h e)) - 48 ∧ ((n * 10) + (zat h e)) - 48 < 2147483648 from ⟨by omega, by omega⟩).1 (show -2147483648 ≤ ((n * 10) + (zat h e)) - 48 ∧ ((n * 10) + (zat h e)) - 48 < 2147483648 from ⟨by omega, by omega⟩).2 ?_
            refine z_istore (lv' := [(5, xI (((n * 10) + (zat h e)) - 48)), (4, xI (d + 1)), (0, xR 25), (1, xR 1), (2, xI p), (3, xI l), (6, xI e)]) dX8_readRun_81 (by decide) rfl ?_
            refine z_iincN (lv' := [(6, xI (e + 1)), (5, xI (((n * 10) + (zat h e)) - 48)), (4, xI (d + 1)), (0, xR 25), (1, xR 1), (2, xI p), (3, xI l)]) 6 dX8_readRun_83 rfl (by decide) rfl (show -2147483648 ≤ e + 1 ∧ e + 1 < 2147483648 from ⟨by omega, by omega⟩).1 (show -2147483648 ≤ e + 1 ∧ e + 1 < 2147483648 from ⟨by omega, by omega⟩).2 ?_
            refine z_goto (tgt := 11) dX8_readRun_86 (by decide) ?_
            refine zW.sub (lv' := [(0, xR 25), (1, xR 1), (2, xI p), (3, xI l), (4, xI (d + 1)), (5, xI (((n * 10) + (zat h e)) - 48)), (6, xI (e + 1))]) [3, 4, 5, 6, 2, 1, 0] rfl ?_
            exact k6 c1 c2 c3 c4 c5
          ·
            refine z_iconst dX8_readRun_62 (zi32_d rfl) ?_
            refine z_goto (tgt := 81) dX8_readRun_63 (by decide) ?_
            refine z_istore (lv' := [(5, xI 0), (4, xI (d + 1)), (0, xR 25), (1, xR 1), (2, xI p), (3, xI l), (6, xI e)]) dX8_readRun_81 (by decide) rfl ?_
            refine z_iincN (lv' := [(6, xI (e + 1)), (5, xI 0), (4, xI (d + 1)), (0, xR 25), (1, xR 1), (2, xI p), (3, xI l)]) 6 dX8_readRun_83 rfl (by decide) rfl (show -2147483648 ≤ e + 1 ∧ e + 1 < 2147483648 from ⟨by omega, by omega⟩).1 (show -2147483648 ≤ e + 1 ∧ e + 1 < 2147483648 from ⟨by omega, by omega⟩).2 ?_
            refine z_goto (tgt := 11) dX8_readRun_86 (by decide) ?_
            refine zW.sub (lv' := [(0, xR 25), (1, xR 1), (2, xI p), (3, xI l), (4, xI (d + 1)), (5, xI 0), (6, xI (e + 1))]) [3, 4, 5, 6, 2, 1, 0] rfl ?_
            exact k7 c1 c2 c3 c4 c5
        ·
          refine z_iincN (lv' := [(3, xI (l + 1)), (0, xR 25), (1, xR 1), (2, xI p), (4, xI d), (5, xI n), (6, xI e)]) 3 dX8_readRun_47 rfl (by decide) rfl (show -2147483648 ≤ l + 1 ∧ l + 1 < 2147483648 from ⟨by omega, by omega⟩).1 (show -2147483648 ≤ l + 1 ∧ l + 1 < 2147483648 from ⟨by omega, by omega⟩).2 ?_
          refine z_goto (tgt := 83) dX8_readRun_50 (by decide) ?_
          refine z_iincN (lv' := [(6, xI (e + 1)), (3, xI (l + 1)), (0, xR 25), (1, xR 1), (2, xI p), (4, xI d), (5, xI n)]) 6 dX8_readRun_83 rfl (by decide) rfl (show -2147483648 ≤ e + 1 ∧ e + 1 < 2147483648 from ⟨by omega, by omega⟩).1 (show -2147483648 ≤ e + 1 ∧ e + 1 < 2147483648 from ⟨by omega, by omega⟩).2 ?_
          refine z_goto (tgt := 11) dX8_readRun_86 (by decide) ?_
          refine zW.sub (lv' := [(0, xR 25), (1, xR 1), (2, xI p), (3, xI (l + 1)), (4, xI d), (5, xI n), (6, xI (e + 1))]) [2, 3, 4, 1, 5, 6, 0] rfl ?_
          exact k8 c1 c2 c3 c4

set_option maxRecDepth 20000 in
theorem bX8_readRun_89 {X : zX} {dep bc bs : Nat} (p : Int) (l : Int) (d : Int) (n : Int) (e : Int) {h : zH} {Q : Nat → zH → List zV → Prop}
    (k1 : ¬ d = 0 → ¬ l = 0 → zW mX8_readRun X dep bc bs 239 144 [(0, xR 25), (1, xR 1), (2, xI p), (3, xI l), (4, xI d), (5, xI n), (6, xI e)] [xR (-1), xI 0, xI p, xI 3, xR 25] h Q)
    (k2 : ¬ d = 0 → l = 0 → 4 < d → zW mX8_readRun X dep bc bs 239 144 [(0, xR 25), (1, xR 1), (2, xI p), (3, xI l), (4, xI d), (5, xI n), (6, xI e)] [xR (-1), xI 0, xI p, xI 3, xR 25] h Q)
    (k3 : ¬ d = 0 → l = 0 → ¬ (4 < d) → zW mX8_readRun X dep bc bs 239 133 [(0, xR 25), (1, xR 1), (2, xI p), (3, xI l), (4, xI d), (5, xI n), (6, xI e)] [xR (-1), xI n, xI p, xI 2, xR 25] h Q)
    (k4 : d = 0 → 8 < l → ¬ l = 0 → zW mX8_readRun X dep bc bs 239 144 [(0, xR 25), (1, xR 1), (2, xI p), (3, xI l), (4, xI d), (5, xI n), (6, xI e)] [xR (-1), xI 0, xI p, xI 3, xR 25] h Q)
    (k5 : d = 0 → 8 < l → l = 0 → 4 < d → zW mX8_readRun X dep bc bs 239 144 [(0, xR 25), (1, xR 1), (2, xI p), (3, xI l), (4, xI d), (5, xI n), (6, xI e)] [xR (-1), xI 0, xI p, xI 3, xR 25] h Q)
    (k6 : d = 0 → 8 < l → l = 0 → ¬ (4 < d) → zW mX8_readRun X dep bc bs 239 133 [(0, xR 25), (1, xR 1), (2, xI p), (3, xI l), (4, xI d), (5, xI n), (6, xI e)] [xR (-1), xI n, xI p, xI 2, xR 25] h Q)
    (k7 : d = 0 → ¬ (8 < l) → zW mX8_readRun X dep bc bs 239 108 [(0, xR 25), (1, xR 1), (2, xI p), (3, xI l), (4, xI d), (5, xI n), (6, xI e)] [xI e, xI p, xR 1, xI 0, xI p, xI 1, xR 25] h Q) : zW mX8_readRun X dep bc bs 239 89 [(0, xR 25), (1, xR 1), (2, xI p), (3, xI l), (4, xI d), (5, xI n), (6, xI e)] [] h Q := by
  refine z_iload 4 dX8_readRun_89 rfl ?_
  refine z_if_ne (tgt := 117) dX8_readRun_91 (by decide) (fun c1 => ?_) (fun c1 => ?_)
  ·
    refine z_iload_n 3 dX8_readRun_117 rfl ?_
    refine z_if_ne (tgt := 139) dX8_readRun_118 (by decide) (fun c2 => ?_) (fun c2 => ?_)
    ·
      refine z_aload_n 0 dX8_readRun_139 rfl ?_
      refine z_iconst dX8_readRun_140 (zi32_d rfl) ?_
      refine z_iload_n 2 dX8_readRun_141 rfl ?_
      refine z_iconst dX8_readRun_142 (zi32_d rfl) ?_
      refine z_anull dX8_readRun_143 ?_
      exact k1 c1 c2
    ·
      refine z_iload 4 dX8_readRun_121 rfl ?_
      refine z_iconst dX8_readRun_123 (zi32_d rfl) ?_
      refine z_icmp_gt (tgt := 139) dX8_readRun_124 (by decide) (fun c3 => ?_) (fun c3 => ?_)
      ·
        refine z_aload_n 0 dX8_readRun_139 rfl ?_
        refine z_iconst dX8_readRun_140 (zi32_d rfl) ?_
        refine z_iload_n 2 dX8_readRun_141 rfl ?_
        refine z_iconst dX8_readRun_142 (zi32_d rfl) ?_
        refine z_anull dX8_readRun_143 ?_
        exact k2 c1 c2 c3
      ·
        refine z_aload_n 0 dX8_readRun_127 rfl ?_
        refine z_iconst dX8_readRun_128 (zi32_d rfl) ?_
        refine z_iload_n 2 dX8_readRun_129 rfl ?_
        refine z_iload 5 dX8_readRun_130 rfl ?_
        refine z_anull dX8_readRun_132 ?_
        exact k3 c1 c2 c3
  ·
    refine z_iload_n 3 dX8_readRun_94 rfl ?_
    refine z_bipush dX8_readRun_95 (zi32_d rfl) (by decide) ?_
    refine z_icmp_gt (tgt := 117) dX8_readRun_97 (by decide) (fun c2 => ?_) (fun c2 => ?_)
    ·
      refine z_iload_n 3 dX8_readRun_117 rfl ?_
      refine z_if_ne (tgt := 139) dX8_readRun_118 (by decide) (fun c3 => ?_) (fun c3 => ?_)
      ·
        refine z_aload_n 0 dX8_readRun_139 rfl ?_
        refine z_iconst dX8_readRun_140 (zi32_d rfl) ?_
        refine z_iload_n 2 dX8_readRun_141 rfl ?_
        refine z_iconst dX8_readRun_142 (zi32_d rfl) ?_
        refine z_anull dX8_readRun_143 ?_
        exact k4 c1 c2 c3
      ·
        refine z_iload 4 dX8_readRun_121 rfl ?_
        refine z_iconst dX8_readRun_123 (zi32_d rfl) ?_
        refine z_icmp_gt (tgt := 139) dX8_readRun_124 (by decide) (fun c4 => ?_) (fun c4 => ?_)
        ·
          refine z_aload_n 0 dX8_readRun_139 rfl ?_
          refine z_iconst dX8_readRun_140 (zi32_d rfl) ?_
          refine z_iload_n 2 dX8_readRun_141 rfl ?_
          refine z_iconst dX8_readRun_142 (zi32_d rfl) ?_
          refine z_anull dX8_readRun_143 ?_
          exact k5 c1 c2 c3 c4
        ·
          refine z_aload_n 0 dX8_readRun_127 rfl ?_
          refine z_iconst dX8_readRun_128 (zi32_d rfl) ?_
          refine z_iload_n 2 dX8_readRun_129 rfl ?_
          refine z_iload 5 dX8_readRun_130 rfl ?_
          refine z_anull dX8_readRun_132 ?_
          exact k6 c1 c2 c3 c4
    ·
      refine z_aload_n 0 dX8_readRun_100 rfl ?_
      refine z_iconst dX8_readRun_101 (zi32_d rfl) ?_
      refine z_iload_n 2 dX8_readRun_102 rfl ?_
      refine z_iconst dX8_readRun_103 (zi32_d rfl) ?_
      refine z_aload_n 1 dX8_readRun_104 rfl ?_
      refine z_iload_n 2 dX8_readRun_105 rfl ?_
      refine z_iload 6 dX8_readRun_106 rfl ?_
      exact k7 c1 c2

set_option maxRecDepth 20000 in
theorem rX8_readRun_108 {X : zX} {dep bc bs : Nat} (p : Int) (l : Int) (d : Int) (n : Int) (e : Int) {h : zH} {Q : Nat → zH → List zV → Prop} {P : Int → zH → Prop}
    (hZ : zW mX9_find X (dep - 1) 0 0 239 0 (zar 0 [xR 1, xI p, xI e]) [] h (zQR P)) (hdep : 1 ≤ dep)
    (k : ∀ (v : Int) (g : zH), P v g → zW mX8_readRun X dep bc bs 239 111 [(0, xR 25), (1, xR 1), (2, xI p), (3, xI l), (4, xI d), (5, xI n), (6, xI e)] [xR v, xI 0, xI p, xI 1, xR 25] g Q) : zW mX8_readRun X dep bc bs 239 108 [(0, xR 25), (1, xR 1), (2, xI p), (3, xI l), (4, xI d), (5, xI n), (6, xI e)] [xI e, xI p, xR 1, xI 0, xI p, xI 1, xR 25] h Q :=
  z_invSQR (as := [xR 1, xI p, xI e]) (st := [xI 0, xI p, xI 1, xR 25]) (ra := [xI e, xI p, xR 1]) hZ dX8_readRun_108 nX9_find zb_621 zb_622 zb_95 (by omega) (Nat.le_of_ble_eq_true rfl) (Nat.le_of_ble_eq_true rfl) rfl (fun v g hg => k v g hg)

set_option maxRecDepth 20000 in
theorem rX8_readRun_111 {X : zX} {dep bc bs : Nat} (p : Int) (l : Int) (d : Int) (n : Int) (e : Int) (w : Int) {h : zH} {Q : Nat → zH → List zV → Prop} {P : zH → Prop}
    (hZ : zW mX8_add X (dep - 1) 0 0 239 0 (zar 0 [xR 25, xI 1, xI p, xI 0, xR w]) [] h (zQ0 P)) (hdep : 1 ≤ dep)
    (k : ∀ g : zH, P g → zW mX8_readRun X dep bc bs 239 114 [(0, xR 25), (1, xR 1), (2, xI p), (3, xI l), (4, xI d), (5, xI n), (6, xI e)] [] g Q) : zW mX8_readRun X dep bc bs 239 111 [(0, xR 25), (1, xR 1), (2, xI p), (3, xI l), (4, xI d), (5, xI n), (6, xI e)] [xR w, xI 0, xI p, xI 1, xR 25] h Q :=
  z_invQ0 (ci := 8) (N := 6) (as := [xI 1, xI p, xI 0, xR w]) (st := []) (ra := [xR w, xI 0, xI p, xI 1]) hZ dX8_readRun_111 nX8_add zb_678 zb_680 zb_2 zb_87 (zOb.lit (by decide +kernel)) rfl (by omega) (Nat.le_of_ble_eq_true rfl) (Nat.le_of_ble_eq_true rfl) rfl (fun g hg => k g hg)

set_option maxRecDepth 20000 in
theorem bX8_readRun_114 {X : zX} {dep bc bs : Nat} (p : Int) (l : Int) (d : Int) (n : Int) (e : Int) {h : zH} {Q : Nat → zH → List zV → Prop}
    (k1 : Q 239 h [xI e]) : zW mX8_readRun X dep bc bs 239 114 [(0, xR 25), (1, xR 1), (2, xI p), (3, xI l), (4, xI d), (5, xI n), (6, xI e)] [] h Q := by
  refine z_goto (tgt := 147) dX8_readRun_114 (by decide) ?_
  refine z_iload 6 dX8_readRun_147 rfl ?_
  exact z_iret dX8_readRun_149 rfl (k1)

set_option maxRecDepth 20000 in
theorem rX8_readRun_133 {X : zX} {dep bc bs : Nat} (p : Int) (l : Int) (d : Int) (n : Int) (e : Int) {h : zH} {Q : Nat → zH → List zV → Prop} {P : zH → Prop}
    (hZ : zW mX8_add X (dep - 1) 0 0 239 0 (zar 0 [xR 25, xI 2, xI p, xI n, xR (-1)]) [] h (zQ0 P)) (hdep : 1 ≤ dep)
    (k : ∀ g : zH, P g → zW mX8_readRun X dep bc bs 239 136 [(0, xR 25), (1, xR 1), (2, xI p), (3, xI l), (4, xI d), (5, xI n), (6, xI e)] [] g Q) : zW mX8_readRun X dep bc bs 239 133 [(0, xR 25), (1, xR 1), (2, xI p), (3, xI l), (4, xI d), (5, xI n), (6, xI e)] [xR (-1), xI n, xI p, xI 2, xR 25] h Q :=
  z_invQ0 (ci := 8) (N := 6) (as := [xI 2, xI p, xI n, xR (-1)]) (st := []) (ra := [xR (-1), xI n, xI p, xI 2]) hZ dX8_readRun_133 nX8_add zb_678 zb_680 zb_2 zb_87 (zOb.lit (by decide +kernel)) rfl (by omega) (Nat.le_of_ble_eq_true rfl) (Nat.le_of_ble_eq_true rfl) rfl (fun g hg => k g hg)

set_option maxRecDepth 20000 in
theorem bX8_readRun_136 {X : zX} {dep bc bs : Nat} (p : Int) (l : Int) (d : Int) (n : Int) (e : Int) {h : zH} {Q : Nat → zH → List zV → Prop}
    (k1 : Q 239 h [xI e]) : zW mX8_readRun X dep bc bs 239 136 [(0, xR 25), (1, xR 1), (2, xI p), (3, xI l), (4, xI d), (5, xI n), (6, xI e)] [] h Q := by
  refine z_goto (tgt := 147) dX8_readRun_136 (by decide) ?_
  refine z_iload 6 dX8_readRun_147 rfl ?_
  exact z_iret dX8_readRun_149 rfl (k1)

set_option maxRecDepth 20000 in
theorem rX8_readRun_144 {X : zX} {dep bc bs : Nat} (p : Int) (l : Int) (d : Int) (n : Int) (e : Int) {h : zH} {Q : Nat → zH → List zV → Prop} {P : zH → Prop}
    (hZ : zW mX8_add X (dep - 1) 0 0 239 0 (zar 0 [xR 25, xI 3, xI p, xI 0, xR (-1)]) [] h (zQ0 P)) (hdep : 1 ≤ dep)
    (k : ∀ g : zH, P g → zW mX8_readRun X dep bc bs 239 147 [(0, xR 25), (1, xR 1), (2, xI p), (3, xI l), (4, xI d), (5, xI n), (6, xI e)] [] g Q) : zW mX8_readRun X dep bc bs 239 144 [(0, xR 25), (1, xR 1), (2, xI p), (3, xI l), (4, xI d), (5, xI n), (6, xI e)] [xR (-1), xI 0, xI p, xI 3, xR 25] h Q :=
  z_invQ0 (ci := 8) (N := 6) (as := [xI 3, xI p, xI 0, xR (-1)]) (st := []) (ra := [xR (-1), xI 0, xI p, xI 3]) hZ dX8_readRun_144 nX8_add zb_678 zb_680 zb_2 zb_87 (zOb.lit (by decide +kernel)) rfl (by omega) (Nat.le_of_ble_eq_true rfl) (Nat.le_of_ble_eq_true rfl) rfl (fun g hg => k g hg)

set_option maxRecDepth 20000 in
theorem bX8_readRun_147 {X : zX} {dep bc bs : Nat} (p : Int) (l : Int) (d : Int) (n : Int) (e : Int) {h : zH} {Q : Nat → zH → List zV → Prop}
    (k1 : Q 239 h [xI e]) : zW mX8_readRun X dep bc bs 239 147 [(0, xR 25), (1, xR 1), (2, xI p), (3, xI l), (4, xI d), (5, xI n), (6, xI e)] [] h Q := by
  refine z_iload 6 dX8_readRun_147 rfl ?_
  exact z_iret dX8_readRun_149 rfl (k1)

set_option maxRecDepth 20000 in
theorem bX8_read_0 {X : zX} {dep bc bs : Nat} {h : zH} {Q : Nat → zH → List zV → Prop} (ht : 0 ≤ h 1 1 ∧ h 1 1 ≤ 340) (hdep : 1 ≤ dep)
    (k1 : zW mX8_read X dep bc bs 239 40 [(0, xR 25), (1, xR 1), (2, xI (min (h 1 1) 300)), (3, xI 0), (4, xI 0)] [] (zst (zst h 25 5 (if (h 1 1) ≤ 300 then 0 else 1 : Int)) 25 4 0) Q) : zW mX8_read X dep bc bs 239 0 [(0, xR 25), (1, xR 1)] [] h Q := by
  refine z_aload_n 1 dX8_read_0 rfl ?_
  refine z_getI (k := 1) (kz := 1) pk7 dX8_read_1 (by decide) zb_120 rfl (zOb.lit (by decide +kernel)) rfl ?_
  refine z_sipush dX8_read_4 (zi32_d rfl) (by decide) ?_
  refine z_invSF (as := [xI (h 1 1), xI 300]) (st := []) (ra := [xI 300, xI (h 1 1)]) (dep' := dep - 1) (rs := [xI (min (h 1 1) 300)]) (h' := h) (f_J9_min_7cf53 (h 1 1) 300 (h := h) ) dX8_read_7 nJ9_min_7cf53 zb_604 zb_605 zb_93 (by omega) zne_I (Nat.le_of_ble_eq_true rfl) (Nat.le_of_ble_eq_true rfl) rfl ?_
  refine z_istore_n (lv' := [(2, xI (min (h 1 1) 300)), (0, xR 25), (1, xR 1)]) dX8_read_10 (by decide) rfl ?_
  refine z_aload_n 1 dX8_read_11 rfl ?_
  refine z_aload_n 2 dX8_read_12 rfl ?_
  refine z_getI (k := 1) (kz := 1) pk7 dX8_read_13 (by decide) zb_120 rfl (zOb.lit (by decide +kernel)) rfl ?_
  refine z_sipush dX8_read_16 (zi32_d rfl) (by decide) ?_
  suffices KJ : zW mX8_read X dep bc bs 239 27 [(2, xI (min (h 1 1) 300)), (0, xR 25), (1, xR 1)] [xI (if (h 1 1) ≤ 300 then 0 else 1 : Int), xR 25] h Q by
    refine z_icmp_le (tgt := 26) dX8_read_19 (by decide) (fun j1 => ?_) (fun j1 => ?_)
    ·
      refine z_iconst dX8_read_26 (zi32_d rfl) ?_
      rw [if_pos j1] at KJ
      exact KJ
    ·
      refine z_iconst dX8_read_22 (zi32_d rfl) ?_
      refine z_goto (tgt := 27) dX8_read_23 (by decide) ?_
      rw [if_neg j1] at KJ
      exact KJ
  refine z_putI (k := 5) (kz := 5) pk8 dX8_read_27 (by decide) zb_251 rfl (zFit_bool (by repeat (first | (left; rfl) | (right; rfl) | split))) (zOb.lit (by decide +kernel)) rfl ?_
  refine z_aload_n 1 dX8_read_30 rfl ?_
  refine z_iconst dX8_read_31 (zi32_d rfl) ?_
  refine z_putI (k := 4) (kz := 4) pk8 dX8_read_32 (by decide) zb_249 rfl (zFit_int _) (zOb.lit (by decide +kernel)) rfl ?_
  refine z_iconst dX8_read_35 (zi32_d rfl) ?_
  refine z_istore_n (lv' := [(3, xI 0), (2, xI (min (h 1 1) 300)), (0, xR 25), (1, xR 1)]) dX8_read_36 (by decide) rfl ?_
  refine z_iconst dX8_read_37 (zi32_d rfl) ?_
  refine z_istore (lv' := [(4, xI 0), (3, xI 0), (2, xI (min (h 1 1) 300)), (0, xR 25), (1, xR 1)]) dX8_read_38 (by decide) rfl ?_
  refine zW.sub (lv' := [(0, xR 25), (1, xR 1), (2, xI (min (h 1 1) 300)), (3, xI 0), (4, xI 0)]) [3, 4, 2, 1, 0] rfl ?_
  exact k1

set_option maxRecDepth 20000 in
theorem bX8_read_40 {X : zX} {dep bc bs : Nat} (x : Int) (a : Int) (n : Int) {h : zH} {Q : Nat → zH → List zV → Prop} (ht : 0 ≤ h 1 1 ∧ h 1 1 ≤ 340) (ha : 0 ≤ a ∧ a ≤ 340 ∧ 0 ≤ n ∧ n ≤ 300) (hdep : 2 ≤ dep)
    (k1 : 300 ≤ n → zW mX8_read X dep bc bs 239 134 [(0, xR 25), (1, xR 1), (2, xI x), (3, xI a), (4, xI n)] [xR (-1), xI 0, xI x, xI 0, xR 25] h Q)
    (k2 : ¬ (300 ≤ n) → x ≤ a → zW mX8_read X dep bc bs 239 134 [(0, xR 25), (1, xR 1), (2, xI x), (3, xI a), (4, xI n)] [xR (-1), xI 0, xI x, xI 0, xR 25] h Q)
    (k3 : ¬ (300 ≤ n) → ¬ (x ≤ a) → ¬ (zat h a = 32 ∨ zat h a = 10) → 97 ≤ zat h a ∧ zat h a ≤ 122 → zW mX8_read X dep bc bs 239 86 [(0, xR 25), (1, xR 1), (2, xI x), (3, xI a), (4, xI n)] [xI a, xR 1, xR 25] h Q)
    (k4 : ¬ (300 ≤ n) → ¬ (x ≤ a) → ¬ (zat h a = 32 ∨ zat h a = 10) → ¬ (97 ≤ zat h a ∧ zat h a ≤ 122) → ¬ (48 ≤ zat h a ∧ zat h a ≤ 57) → ¬ ((zat h a) = 59 ∨ (zat h a) = 40 ∨ (zat h a) = 41 ∨ (zat h a) = 60 ∨ (zat h a) = 61 ∨ (zat h a) = 62) → zW mX8_read X dep bc bs 239 117 [(0, xR 25), (1, xR 1), (2, xI x), (3, xI a), (4, xI n)] [xR (-1), xI 0, xI a, xI 3, xR 25] h Q)
    (k5 : ¬ (300 ≤ n) → ¬ (x ≤ a) → ¬ (zat h a = 32 ∨ zat h a = 10) → ¬ (97 ≤ zat h a ∧ zat h a ≤ 122) → ¬ (48 ≤ zat h a ∧ zat h a ≤ 57) → (zat h a) = 59 ∨ (zat h a) = 40 ∨ (zat h a) = 41 ∨ (zat h a) = 60 ∨ (zat h a) = 61 ∨ (zat h a) = 62 → zW mX8_read X dep bc bs 239 117 [(0, xR 25), (1, xR 1), (2, xI x), (3, xI a), (4, xI n)] [xR (-1), xI 0, xI a, xI (zat h a), xR 25] h Q)
    (k6 : ¬ (300 ≤ n) → ¬ (x ≤ a) → ¬ (zat h a = 32 ∨ zat h a = 10) → ¬ (97 ≤ zat h a ∧ zat h a ≤ 122) → 48 ≤ zat h a ∧ zat h a ≤ 57 → zW mX8_read X dep bc bs 239 86 [(0, xR 25), (1, xR 1), (2, xI x), (3, xI a), (4, xI n)] [xI a, xR 1, xR 25] h Q)
    (k7 : ¬ (300 ≤ n) → ¬ (x ≤ a) → zat h a = 32 ∨ zat h a = 10 → zW mX8_read X dep bc bs 239 40 [(0, xR 25), (1, xR 1), (2, xI x), (3, xI (a + 1)), (4, xI (n + 1))] [] h Q) : zW mX8_read X dep bc bs 239 40 [(0, xR 25), (1, xR 1), (2, xI x), (3, xI a), (4, xI n)] [] h Q := by
  refine z_iload 4 dX8_read_40 rfl ?_
  refine z_sipush dX8_read_42 (zi32_d rfl) (by decide) ?_
  refine z_icmp_ge (tgt := 129) dX8_read_45 (by decide) (fun c1 => ?_) (fun c1 => ?_)
  ·
    refine z_aload_n 0 dX8_read_129 rfl ?_
    refine z_iconst dX8_read_130 (zi32_d rfl) ?_
    refine z_iload_n 2 dX8_read_131 rfl ?_
    refine z_iconst dX8_read_132 (zi32_d rfl) ?_
    refine z_anull dX8_read_133 ?_
    exact k1 c1
  ·
    refine z_iload_n 3 dX8_read_48 rfl ?_
    refine z_iload_n 2 dX8_read_49 rfl ?_
    refine z_icmp_ge (tgt := 129) dX8_read_50 (by decide) (fun c2 => ?_) (fun c2 => ?_)
    ·
      refine z_aload_n 0 dX8_read_129 rfl ?_
      refine z_iconst dX8_read_130 (zi32_d rfl) ?_
      refine z_iload_n 2 dX8_read_131 rfl ?_
      refine z_iconst dX8_read_132 (zi32_d rfl) ?_
      refine z_anull dX8_read_133 ?_
      exact k2 c1 c2
    ·
      refine z_aload_n 1 dX8_read_53 rfl ?_
      refine z_iload_n 3 dX8_read_54 rfl ?_
      refine z_invF (ci := 7) (N := 2) (as := [xI a]) (st := []) (ra := [xI a]) (dep' := dep - 1) (rs := [xI (zb (zat h a = 32 ∨ zat h a = 10))]) (h' := h) (f_X7_isBlank a (h := h) ht (by omega)) dX8_read_55 nX7_isBlank zb_607 zb_608 zb_609 zb_83 (zOb.lit (by decide +kernel)) rfl (by omega) zne_I (Nat.le_of_ble_eq_true rfl) (Nat.le_of_ble_eq_true rfl) rfl ?_
      refine z_ifB_eq (C := zat h a = 32 ∨ zat h a = 10) (tgt := 67) dX8_read_58 (by decide) (fun c3 => ?_) (fun c3 => ?_)
      ·
        refine z_aload_n 1 dX8_read_67 rfl ?_
        refine z_iload_n 3 dX8_read_68 rfl ?_
        refine z_invF (ci := 7) (N := 2) (as := [xI a]) (st := []) (ra := [xI a]) (dep' := dep - 1) (rs := [xI (zb (97 ≤ zat h a ∧ zat h a ≤ 122))]) (h' := h) (f_X7_isLetter a (h := h) ht (by omega)) dX8_read_69 nX7_isLetter zb_611 zb_537 zb_538 zb_83 (zOb.lit (by decide +kernel)) rfl (by omega) zne_I (Nat.le_of_ble_eq_true rfl) (Nat.le_of_ble_eq_true rfl) rfl ?_
        refine z_ifB_ne (C := 97 ≤ zat h a ∧ zat h a ≤ 122) (tgt := 83) dX8_read_72 (by decide) (fun c4 => ?_) (fun c4 => ?_)
        ·
          refine z_aload_n 0 dX8_read_83 rfl ?_
          refine z_aload_n 1 dX8_read_84 rfl ?_
          refine z_iload_n 3 dX8_read_85 rfl ?_
          exact k3 c1 c2 c3 c4
        ·
          refine z_aload_n 1 dX8_read_75 rfl ?_
          refine z_iload_n 3 dX8_read_76 rfl ?_
          refine z_invF (ci := 7) (N := 2) (as := [xI a]) (st := []) (ra := [xI a]) (dep' := dep - 1) (rs := [xI (zb (48 ≤ zat h a ∧ zat h a ≤ 57))]) (h' := h) (f_X7_isDigit a (h := h) ht (by omega)) dX8_read_77 nX7_isDigit zb_612 zb_613 zb_614 zb_83 (zOb.lit (by decide +kernel)) rfl (by omega) zne_I (Nat.le_of_ble_eq_true rfl) (Nat.le_of_ble_eq_true rfl) rfl ?_
          refine z_ifB_eq (C := 48 ≤ zat h a ∧ zat h a ≤ 57) (tgt := 93) dX8_read_80 (by decide) (fun c5 => ?_) (fun c5 => ?_)
          ·
            refine z_aload_n 0 dX8_read_93 rfl ?_
            refine z_aload_n 1 dX8_read_94 rfl ?_
            refine z_iload_n 3 dX8_read_95 rfl ?_
            refine z_invF (ci := 7) (N := 2) (as := [xI a]) (st := [xR 25]) (ra := [xI a]) (dep' := dep - 1) (rs := [xI (zat h a)]) (h' := h) (f_X7_at a (h := h) ht) dX8_read_96 nX7_at zb_620 zb_541 zb_542 zb_83 (zOb.lit (by decide +kernel)) rfl (by omega) zne_I (Nat.le_of_ble_eq_true rfl) (Nat.le_of_ble_eq_true rfl) rfl ?_
            refine z_invSF (as := [xI (zat h a)]) (st := [xR 25]) (ra := [xI (zat h a)]) (dep' := dep - 1) (rs := [xI (zb ((zat h a) = 59 ∨ (zat h a) = 40 ∨ (zat h a) = 41 ∨ (zat h a) = 60 ∨ (zat h a) = 61 ∨ (zat h a) = 62))]) (h' := h) (f_X8_isSign (zat h a) (h := h) ) dX8_read_99 nX8_isSign zb_682 zb_683 zb_87 (by omega) zne_I (Nat.le_of_ble_eq_true rfl) (Nat.le_of_ble_eq_true rfl) rfl ?_
            refine z_ifB_eq (C := (zat h a) = 59 ∨ (zat h a) = 40 ∨ (zat h a) = 41 ∨ (zat h a) = 60 ∨ (zat h a) = 61 ∨ (zat h a) = 62) (tgt := 113) dX8_read_102 (by decide) (fun c6 => ?_) (fun c6 => ?_)
            ·
              refine z_iconst dX8_read_113 (zi32_d rfl) ?_
              refine z_iload_n 3 dX8_read_114 rfl ?_
              refine z_iconst dX8_read_115 (zi32_d rfl) ?_
              refine z_anull dX8_read_116 ?_
              exact k4 c1 c2 c3 c4 c5 c6
            ·
              refine z_aload_n 1 dX8_read_105 rfl ?_
              refine z_iload_n 3 dX8_read_106 rfl ?_
              refine z_invF (ci := 7) (N := 2) (as := [xI a]) (st := [xR 25]) (ra := [xI a]) (dep' := dep - 1) (rs := [xI (zat h a)]) (h' := h) (f_X7_at a (h := h) ht) dX8_read_107 nX7_at zb_620 zb_541 zb_542 zb_83 (zOb.lit (by decide +kernel)) rfl (by omega) zne_I (Nat.le_of_ble_eq_true rfl) (Nat.le_of_ble_eq_true rfl) rfl ?_
              refine z_goto (tgt := 114) dX8_read_110 (by decide) ?_
              refine z_iload_n 3 dX8_read_114 rfl ?_
              refine z_iconst dX8_read_115 (zi32_d rfl) ?_
              refine z_anull dX8_read_116 ?_
              exact k5 c1 c2 c3 c4 c5 c6
          ·
            refine z_aload_n 0 dX8_read_83 rfl ?_
            refine z_aload_n 1 dX8_read_84 rfl ?_
            refine z_iload_n 3 dX8_read_85 rfl ?_
            exact k6 c1 c2 c3 c4 c5
      ·
        refine z_iincN (lv' := [(3, xI (a + 1)), (0, xR 25), (1, xR 1), (2, xI x), (4, xI n)]) 3 dX8_read_61 rfl (by decide) rfl (show -2147483648 ≤ a + 1 ∧ a + 1 < 2147483648 from ⟨by omega, by omega⟩).1 (show -2147483648 ≤ a + 1 ∧ a + 1 < 2147483648 from ⟨by omega, by omega⟩).2 ?_
        refine z_goto (tgt := 123) dX8_read_64 (by decide) ?_
        refine z_iincN (lv' := [(4, xI (n + 1)), (3, xI (a + 1)), (0, xR 25), (1, xR 1), (2, xI x)]) 4 dX8_read_123 rfl (by decide) rfl (show -2147483648 ≤ n + 1 ∧ n + 1 < 2147483648 from ⟨by omega, by omega⟩).1 (show -2147483648 ≤ n + 1 ∧ n + 1 < 2147483648 from ⟨by omega, by omega⟩).2 ?_
        refine z_goto (tgt := 40) dX8_read_126 (by decide) ?_
        refine zW.sub (lv' := [(0, xR 25), (1, xR 1), (2, xI x), (3, xI (a + 1)), (4, xI (n + 1))]) [2, 3, 4, 1, 0] rfl ?_
        exact k7 c1 c2 c3

set_option maxRecDepth 20000 in
theorem rX8_read_86 {X : zX} {dep bc bs : Nat} (x : Int) (a : Int) (n : Int) {h : zH} {Q : Nat → zH → List zV → Prop} {P : Int → zH → Prop}
    (hZ : zW mX8_readRun X (dep - 1) 0 0 239 0 (zar 0 [xR 25, xR 1, xI a]) [] h (zQI P)) (hdep : 1 ≤ dep)
    (k : ∀ (v : Int) (g : zH), P v g → zW mX8_read X dep bc bs 239 89 [(0, xR 25), (1, xR 1), (2, xI x), (3, xI a), (4, xI n)] [xI v] g Q) : zW mX8_read X dep bc bs 239 86 [(0, xR 25), (1, xR 1), (2, xI x), (3, xI a), (4, xI n)] [xI a, xR 1, xR 25] h Q :=
  z_invQI (ci := 8) (N := 6) (as := [xR 1, xI a]) (st := []) (ra := [xI a, xR 1]) hZ dX8_read_86 nX8_readRun zb_616 zb_618 zb_1 zb_87 (zOb.lit (by decide +kernel)) rfl (by omega) (Nat.le_of_ble_eq_true rfl) (Nat.le_of_ble_eq_true rfl) rfl (fun v g hg => k v g hg)

set_option maxRecDepth 20000 in
theorem bX8_read_89 {X : zX} {dep bc bs : Nat} (x : Int) (a : Int) (n : Int) (y : Int) {h : zH} {Q : Nat → zH → List zV → Prop} (hn : 0 ≤ n ∧ n ≤ 300)
    (k1 : zW mX8_read X dep bc bs 239 40 [(0, xR 25), (1, xR 1), (2, xI x), (3, xI y), (4, xI (n + 1))] [] h Q) : zW mX8_read X dep bc bs 239 89 [(0, xR 25), (1, xR 1), (2, xI x), (3, xI a), (4, xI n)] [xI y] h Q := by
  refine z_istore_n (lv' := [(3, xI y), (0, xR 25), (1, xR 1), (2, xI x), (4, xI n)]) dX8_read_89 (by decide) rfl ?_
  refine z_goto (tgt := 123) dX8_read_90 (by decide) ?_
  refine z_iincN (lv' := [(4, xI (n + 1)), (3, xI y), (0, xR 25), (1, xR 1), (2, xI x)]) 4 dX8_read_123 rfl (by decide) rfl (show -2147483648 ≤ n + 1 ∧ n + 1 < 2147483648 from ⟨by omega, by omega⟩).1 (show -2147483648 ≤ n + 1 ∧ n + 1 < 2147483648 from ⟨by omega, by omega⟩).2 ?_
  refine z_goto (tgt := 40) dX8_read_126 (by decide) ?_
  refine zW.sub (lv' := [(0, xR 25), (1, xR 1), (2, xI x), (3, xI y), (4, xI (n + 1))]) [2, 3, 4, 1, 0] rfl ?_
  exact k1

set_option maxRecDepth 20000 in
theorem rX8_read_117 {X : zX} {dep bc bs : Nat} (x : Int) (a : Int) (n : Int) (y : Int) {h : zH} {Q : Nat → zH → List zV → Prop} {P : zH → Prop}
    (hZ : zW mX8_add X (dep - 1) 0 0 239 0 (zar 0 [xR 25, xI y, xI a, xI 0, xR (-1)]) [] h (zQ0 P)) (hdep : 1 ≤ dep)
    (k : ∀ g : zH, P g → zW mX8_read X dep bc bs 239 120 [(0, xR 25), (1, xR 1), (2, xI x), (3, xI a), (4, xI n)] [] g Q) : zW mX8_read X dep bc bs 239 117 [(0, xR 25), (1, xR 1), (2, xI x), (3, xI a), (4, xI n)] [xR (-1), xI 0, xI a, xI y, xR 25] h Q :=
  z_invQ0 (ci := 8) (N := 6) (as := [xI y, xI a, xI 0, xR (-1)]) (st := []) (ra := [xR (-1), xI 0, xI a, xI y]) hZ dX8_read_117 nX8_add zb_678 zb_680 zb_2 zb_87 (zOb.lit (by decide +kernel)) rfl (by omega) (Nat.le_of_ble_eq_true rfl) (Nat.le_of_ble_eq_true rfl) rfl (fun g hg => k g hg)

set_option maxRecDepth 20000 in
theorem bX8_read_120 {X : zX} {dep bc bs : Nat} (x : Int) (a : Int) (n : Int) {h : zH} {Q : Nat → zH → List zV → Prop} (ha : 0 ≤ a ∧ a ≤ 340 ∧ 0 ≤ n ∧ n ≤ 300)
    (k1 : zW mX8_read X dep bc bs 239 40 [(0, xR 25), (1, xR 1), (2, xI x), (3, xI (a + 1)), (4, xI (n + 1))] [] h Q) : zW mX8_read X dep bc bs 239 120 [(0, xR 25), (1, xR 1), (2, xI x), (3, xI a), (4, xI n)] [] h Q := by
  refine z_iincN (lv' := [(3, xI (a + 1)), (0, xR 25), (1, xR 1), (2, xI x), (4, xI n)]) 3 dX8_read_120 rfl (by decide) rfl (show -2147483648 ≤ a + 1 ∧ a + 1 < 2147483648 from ⟨by omega, by omega⟩).1 (show -2147483648 ≤ a + 1 ∧ a + 1 < 2147483648 from ⟨by omega, by omega⟩).2 ?_
  refine z_iincN (lv' := [(4, xI (n + 1)), (3, xI (a + 1)), (0, xR 25), (1, xR 1), (2, xI x)]) 4 dX8_read_123 rfl (by decide) rfl (show -2147483648 ≤ n + 1 ∧ n + 1 < 2147483648 from ⟨by omega, by omega⟩).1 (show -2147483648 ≤ n + 1 ∧ n + 1 < 2147483648 from ⟨by omega, by omega⟩).2 ?_
  refine z_goto (tgt := 40) dX8_read_126 (by decide) ?_
  refine zW.sub (lv' := [(0, xR 25), (1, xR 1), (2, xI x), (3, xI (a + 1)), (4, xI (n + 1))]) [2, 3, 4, 1, 0] rfl ?_
  exact k1

set_option maxRecDepth 20000 in
theorem bX8_read_129 {X : zX} {dep bc bs : Nat} (x : Int) (a : Int) (n : Int) {h : zH} {Q : Nat → zH → List zV → Prop}
    (k1 : zW mX8_read X dep bc bs 239 134 [(0, xR 25), (1, xR 1), (2, xI x), (3, xI a), (4, xI n)] [xR (-1), xI 0, xI x, xI 0, xR 25] h Q) : zW mX8_read X dep bc bs 239 129 [(0, xR 25), (1, xR 1), (2, xI x), (3, xI a), (4, xI n)] [] h Q := by
  refine z_aload_n 0 dX8_read_129 rfl ?_
  refine z_iconst dX8_read_130 (zi32_d rfl) ?_
  refine z_iload_n 2 dX8_read_131 rfl ?_
  refine z_iconst dX8_read_132 (zi32_d rfl) ?_
  refine z_anull dX8_read_133 ?_
  exact k1

set_option maxRecDepth 20000 in
theorem rX8_read_134 {X : zX} {dep bc bs : Nat} (x : Int) (a : Int) (n : Int) {h : zH} {Q : Nat → zH → List zV → Prop} {P : zH → Prop}
    (hZ : zW mX8_add X (dep - 1) 0 0 239 0 (zar 0 [xR 25, xI 0, xI x, xI 0, xR (-1)]) [] h (zQ0 P)) (hdep : 1 ≤ dep)
    (k : ∀ g : zH, P g → zW mX8_read X dep bc bs 239 137 [(0, xR 25), (1, xR 1), (2, xI x), (3, xI a), (4, xI n)] [] g Q) : zW mX8_read X dep bc bs 239 134 [(0, xR 25), (1, xR 1), (2, xI x), (3, xI a), (4, xI n)] [xR (-1), xI 0, xI x, xI 0, xR 25] h Q :=
  z_invQ0 (ci := 8) (N := 6) (as := [xI 0, xI x, xI 0, xR (-1)]) (st := []) (ra := [xR (-1), xI 0, xI x, xI 0]) hZ dX8_read_134 nX8_add zb_678 zb_680 zb_2 zb_87 (zOb.lit (by decide +kernel)) rfl (by omega) (Nat.le_of_ble_eq_true rfl) (Nat.le_of_ble_eq_true rfl) rfl (fun g hg => k g hg)

set_option maxRecDepth 20000 in
theorem bX8_read_137 {X : zX} {dep bc bs : Nat} (x : Int) (a : Int) (n : Int) {h : zH} {Q : Nat → zH → List zV → Prop}
    (k1 : Q 239 h []) : zW mX8_read X dep bc bs 239 137 [(0, xR 25), (1, xR 1), (2, xI x), (3, xI a), (4, xI n)] [] h Q := by
  exact z_ret dX8_read_137 rfl (k1)

/-- a token more -/
def zadT (h : zH) (k s v w : Int) : zH := zst (zst (zst (zst (zst h 26 (h 25 4) k) 27 (h 25 4) s) 28 (h 25 4) v) 29 (h 25 4) w) 25 4 (h 25 4 + 1)
theorem f_X8_add {X : zX} {dep : Nat} (k s v w : Int) {h : zH} (hc : 0 ≤ h 25 4 ∧ h 25 4 < 301) (hw : zWd w) : zW mX8_add X dep 0 0 239 0 (zar 0 [xR 25, xI k, xI s, xI v, xR w]) [] h (zQ0 (fun g => g = zadT h k s v w)) :=
  bX8_add_0 k s v w hc hw (fun c => absurd c (by omega)) (fun _ => ⟨rfl, rfl, rfl⟩)
theorem l_X8_readRun_89 {X : zX} {dep : Nat} (p : Int) (n : Nat) {h : zH} (ht : 0 ≤ h 1 1 ∧ h 1 1 ≤ 340) (hc : 0 ≤ h 25 4 ∧ h 25 4 < 301) (hp : 0 ≤ p ∧ p + n ≤ 340) (hn : 1 ≤ n) (hr : ∀ i : Int, 0 ≤ i → i < n → zrc (zat h (p + i))) (he : ¬ zrc (zat h (p + n))) (hdep : 6 ≤ dep) :
    zW mX8_readRun X dep 0 0 239 89 [(0, xR 25), (1, xR 1), (2, xI p), (3, xI (n - (zvl (zat h) p n).1)), (4, xI (zvl (zat h) p n).1), (5, xI (zvl (zat h) p n).2), (6, xI (p + n))] [] h
      (zQI (fun v g => v = zre (zat h) 400 p ∧ g = zadT h (zkd (zat h) p) p (zvv (zat h) p) (zww (zat h) p))) := by
  have e1 : zre (zat h) 400 p = p + n := zre_run n 400 p (by omega) hr he
  have e2 : zrn (zat h) p = n := by unfold zrn; rw [e1]; omega
  have r0 : zrc (zat h p) := by have := hr 0 (by omega) (by omega); rw [Int.add_zero] at this; exact this
  have vi := zvl_in n hr
  have k3 : ¬ ((zvl (zat h) p n).1 = 0 ∧ n ≤ 8) → ¬ ((zvl (zat h) p n).1 = (n : Nat) ∧ (zvl (zat h) p n).1 ≤ 4) → zW mX8_readRun X dep 0 0 239 144 [(0, xR 25), (1, xR 1), (2, xI p), (3, xI (n - (zvl (zat h) p n).1)), (4, xI (zvl (zat h) p n).1), (5, xI (zvl (zat h) p n).2), (6, xI (p + n))] [xR (-1), xI 0, xI p, xI 3, xR 25] h
      (zQI (fun v g => v = zre (zat h) 400 p ∧ g = zadT h (zkd (zat h) p) p (zvv (zat h) p) (zww (zat h) p))) := by
    intro c1 c2
    have ek : zkd (zat h) p = 3 := by unfold zkd; rw [if_pos r0, e2, if_neg c1, if_neg c2]
    refine rX8_readRun_144 p _ _ _ _ (f_X8_add 3 p 0 (-1) hc (Or.inl rfl)) (by omega) (fun g hg => ?_)
    refine bX8_readRun_147 p _ _ _ _ ?_
    refine ⟨rfl, _, rfl, e1.symm, ?_⟩
    rw [hg, ek, show zvv (zat h) p = 0 from if_neg (fun z => by rw [ek] at z; exact absurd z.2 (by decide)), show zww (zat h) p = -1 from if_neg (fun z => by rw [ek] at z; exact absurd z.2 (by decide))]
  have k2 : ¬ ((zvl (zat h) p n).1 = 0 ∧ n ≤ 8) → ((zvl (zat h) p n).1 = (n : Nat) ∧ (zvl (zat h) p n).1 ≤ 4) → zW mX8_readRun X dep 0 0 239 133 [(0, xR 25), (1, xR 1), (2, xI p), (3, xI (n - (zvl (zat h) p n).1)), (4, xI (zvl (zat h) p n).1), (5, xI (zvl (zat h) p n).2), (6, xI (p + n))] [xR (-1), xI (zvl (zat h) p n).2, xI p, xI 2, xR 25] h
      (zQI (fun v g => v = zre (zat h) 400 p ∧ g = zadT h (zkd (zat h) p) p (zvv (zat h) p) (zww (zat h) p))) := by
    intro c1 c2
    have ek : zkd (zat h) p = 2 := by unfold zkd; rw [if_pos r0, e2, if_neg c1, if_pos c2]
    refine rX8_readRun_133 p _ _ _ _ (f_X8_add 2 p _ (-1) hc (Or.inl rfl)) (by omega) (fun g hg => ?_)
    refine bX8_readRun_136 p _ _ _ _ ?_
    refine ⟨rfl, _, rfl, e1.symm, ?_⟩
    rw [hg, ek, show zvv (zat h) p = (zvl (zat h) p n).2 by unfold zvv; rw [if_pos ⟨r0, ek⟩, e2], show zww (zat h) p = -1 from if_neg (fun z => by rw [ek] at z; exact absurd z.2 (by decide))]
  refine bX8_readRun_89 p _ _ _ _ (fun c1 c2 => k3 (by omega) (by omega)) (fun c1 c2 c3 => k3 (by omega) (by omega)) (fun c1 c2 c3 => k2 (by omega) (by omega)) (fun c1 c2 c3 => k3 (by omega) (by omega)) (fun c1 c2 c3 c4 => k3 (by omega) (by omega)) (fun c1 c2 c3 c4 => k2 (by omega) (by omega)) (fun c1 c2 => ?_)
  have ek : zkd (zat h) p = 1 := by unfold zkd; rw [if_pos r0, e2, if_pos ⟨c1, by omega⟩]
  refine rX8_readRun_108 p _ _ _ _ (P := fun v g => v = zfw (zat h) p (p + n) 22 0 ∧ h = g) ((f_X9_find p (p + n) ht (by omega) (by omega)).weaken (fun _ _ _ q => ⟨q.1, _, q.2.2, rfl, q.2.1.symm⟩)) (by omega) (fun v g hg => ?_)
  obtain ⟨rfl, rfl⟩ := hg
  refine rX8_readRun_111 p _ _ _ _ _ (f_X8_add 1 p 0 _ hc (zfw_in _ _ _ 22 0 (by omega) (by omega))) (by omega) (fun g hg => ?_)
  refine bX8_readRun_114 p _ _ _ _ ?_
  refine ⟨rfl, _, rfl, e1.symm, ?_⟩
  rw [hg, ek, show zvv (zat h) p = 0 from if_neg (fun z => by rw [ek] at z; exact absurd z.2 (by decide)), show zww (zat h) p = zfw (zat h) p (p + n) 22 0 by unfold zww; rw [if_pos ⟨r0, ek⟩, e1]]
theorem l_X8_readRun_11 {X : zX} {dep : Nat} (p : Int) {h : zH} (ht : 0 ≤ h 1 1 ∧ h 1 1 ≤ 340) (hc : 0 ≤ h 25 4 ∧ h 25 4 < 301) (hp : 0 ≤ p ∧ p < h 1 1) (hp1 : zrc (zat h p)) (hdep : 6 ≤ dep) : ∀ (k n : Nat), p + n + k = h 1 1 → (∀ i : Int, 0 ≤ i → i < n → zrc (zat h (p + i))) →
    zW mX8_readRun X dep 0 0 239 11 [(0, xR 25), (1, xR 1), (2, xI p), (3, xI (n - (zvl (zat h) p n).1)), (4, xI (zvl (zat h) p n).1), (5, xI (zvl (zat h) p n).2), (6, xI (p + n))] [] h
      (zQI (fun v g => v = zre (zat h) 400 p ∧ g = zadT h (zkd (zat h) p) p (zvv (zat h) p) (zww (zat h) p))) := by
  intro k
  induction k with
  | zero =>
    intro n hn hr
    have vi := zvl_in n hr
    have zb1 := zat_bd ht (p + n)
    have ne : ¬ zrc (zat h (p + n)) := by rw [zat_out ht _ (by omega)]; simp only [zrc, zsm1, zdg1]; omega
    have n0 : 1 ≤ n := by omega
    refine bX8_readRun_11 p _ _ _ _ ht (by omega) (by omega) zb1 (by omega) (fun _ => ?_) (fun c => absurd (by omega) c) (fun c => absurd (by omega) c) (fun c => absurd (by omega) c) (fun c => absurd (by omega) c) (fun c => absurd (by omega) c) (fun c => absurd (by omega) c) (fun c => absurd (by omega) c)
    exact l_X8_readRun_89 p n ht hc (by omega) n0 hr ne hdep
  | succ k ih =>
    intro n hn hr
    have vi := zvl_in n hr
    have zb1 := zat_bd ht (p + n)
    have stp : zrc (zat h (p + n)) → ∀ i : Int, 0 ≤ i → i < (n + 1 : Nat) → zrc (zat h (p + i)) := fun c i i0 i1 => by
      by_cases e : i = n
      · rw [e]; exact c
      · exact hr i i0 (by omega)
    have dg : ∀ (x : Int), ¬ zsm1 (zat h (p + n)) → zdg1 (zat h (p + n)) → x = (if 4 < (zvl (zat h) p n).1 + 1 then 0 else (zvl (zat h) p n).2 * 10 + zat h (p + n) - 48) → zW mX8_readRun X dep 0 0 239 11 [(0, xR 25), (1, xR 1), (2, xI p), (3, xI (n - (zvl (zat h) p n).1)), (4, xI ((zvl (zat h) p n).1 + 1)), (5, xI x), (6, xI (p + n + 1))] [] h
      (zQI (fun v g => v = zre (zat h) 400 p ∧ g = zadT h (zkd (zat h) p) p (zvv (zat h) p) (zww (zat h) p))) := by
      intro x c1 c2 hx
      have go := ih (n + 1) (by omega) (stp (Or.inr c2))
      have e : zvl (zat h) p (n + 1) = ((zvl (zat h) p n).1 + 1, x) := by rw [hx]; exact if_neg c1
      rw [e, show ((n + 1 : Nat) : Int) - ((zvl (zat h) p n).1 + 1) = n - (zvl (zat h) p n).1 by omega, show p + ((n + 1 : Nat) : Int) = p + n + 1 by omega] at go
      exact go
    refine bX8_readRun_11 p _ _ _ _ ht (by omega) (by omega) zb1 (by omega) (fun c => absurd c (by omega)) (fun _ c c2 => absurd c c2) (fun _ c c2 => absurd c c2) (fun _ c _ => ?_) (fun _ c c2 => ?_) (fun _ c c2 _ c4 => ?_) (fun _ c c2 _ c4 => ?_) (fun _ c _ c2 => absurd c2 c)
    · have go := ih (n + 1) (by omega) (stp (Or.inl c))
      have e : zvl (zat h) p (n + 1) = zvl (zat h) p n := if_pos c
      rw [e, show ((n + 1 : Nat) : Int) - (zvl (zat h) p n).1 = n - (zvl (zat h) p n).1 + 1 by omega, show p + ((n + 1 : Nat) : Int) = p + n + 1 by omega] at go
      exact go
    · have ne : ¬ zrc (zat h (p + n)) := by simp only [zrc, zsm1, zdg1]; omega
      have n0 : 1 ≤ n := by
        rcases Nat.eq_zero_or_pos n with z | z
        · subst z
          rw [show p + ((0 : Nat) : Int) = p by omega] at ne
          exact absurd hp1 ne
        · exact z
      exact l_X8_readRun_89 p n ht hc (by omega) n0 hr ne hdep
    · exact dg _ c c2 (by rw [if_neg (by omega)])
    · exact dg _ c c2 (by rw [if_pos (by omega)])
theorem f_X8_readRun {X : zX} {dep : Nat} (p : Int) {h : zH} (ht : 0 ≤ h 1 1 ∧ h 1 1 ≤ 340) (hc : 0 ≤ h 25 4 ∧ h 25 4 < 301) (hp : 0 ≤ p ∧ p < h 1 1) (hp1 : zrc (zat h p)) (hdep : 6 ≤ dep) :
    zW mX8_readRun X dep 0 0 239 0 (zar 0 [xR 25, xR 1, xI p]) [] h (zQI (fun v g => v = zre (zat h) 400 p ∧ g = zadT h (zkd (zat h) p) p (zvv (zat h) p) (zww (zat h) p))) := by
  refine bX8_readRun_0 p ?_
  have go := l_X8_readRun_11 (X := X) (dep := dep) p ht hc hp hp1 hdep (h 1 1 - p).toNat 0 (by omega) (fun i i0 i1 => by omega)
  rw [show p + ((0 : Nat) : Int) = p by omega] at go
  exact go
/-- the tokens told of a text whose first x bytes count -/
def zTK (b : Int → Int) (x j : Int) : Int := if zps b j.toNat < x then zkd b (zps b j.toNat) else 0
def zTS (b : Int → Int) (x j : Int) : Int := if zps b j.toNat < x then zps b j.toNat else x
def zTV (b : Int → Int) (x j : Int) : Int := if zps b j.toNat < x then zvv b (zps b j.toNat) else 0
noncomputable def zTW (b : Int → Int) (x j : Int) : Int := if zps b j.toNat < x then zww b (zps b j.toNat) else -1
abbrev zT5 : Int → Prop := fun q => 25 ≤ q ∧ q ≤ 29
/-- the first n tokens stand in the rows -/
def zTr (h : zH) (x n : Int) (g : zH) : Prop := zap zT5 h g ∧ g 25 4 = n ∧ g 25 5 = (if h 1 1 ≤ 300 then 0 else 1) ∧ ∀ j : Int, 0 ≤ j → j < n → g 26 j = zTK (zat h) x j ∧ g 27 j = zTS (zat h) x j ∧ g 28 j = zTV (zat h) x j ∧ g 29 j = zTW (zat h) x j
theorem zTr.at {h g : zH} {x n : Int} (a : zTr h x n g) : zat g = zat h := funext fun i => by
  unfold zat
  rw [a.1 1 1 (by simp only [zT5]; omega), a.1 2 i (by simp only [zT5]; omega)]
theorem zTr.add {h g : zH} {x n : Int} (a : zTr h x n g) {k s v w : Int} (h1 : k = zTK (zat h) x n) (h2 : s = zTS (zat h) x n) (h3 : v = zTV (zat h) x n) (h4 : w = zTW (zat h) x n) : zTr h x (n + 1) (zadT g k s v w) := by
  have e4 := a.2.1
  unfold zadT
  refine ⟨((((a.1.st (by simp only [zT5]; omega) _ _).st (by simp only [zT5]; omega) _ _).st (by simp only [zT5]; omega) _ _).st (by simp only [zT5]; omega) _ _).st (by simp only [zT5]; omega) _ _, ?_, ?_, fun j j0 j1 => ?_⟩
  · rw [zst_self, e4]
  · rw [zst_ne (Or.inr (by omega)), zst_ne (Or.inl (by omega)), zst_ne (Or.inl (by omega)), zst_ne (Or.inl (by omega)), zst_ne (Or.inl (by omega))]
    exact a.2.2.1
  · by_cases e : j = n
    · subst e
      refine ⟨?_, ?_, ?_, ?_⟩
      · rw [zst_ne (Or.inl (by omega)), zst_ne (Or.inl (by omega)), zst_ne (Or.inl (by omega)), zst_ne (Or.inl (by omega)), e4, zst_self, h1]
      · rw [zst_ne (Or.inl (by omega)), zst_ne (Or.inl (by omega)), zst_ne (Or.inl (by omega)), e4, zst_self, h2]
      · rw [zst_ne (Or.inl (by omega)), zst_ne (Or.inl (by omega)), e4, zst_self, h3]
      · rw [zst_ne (Or.inl (by omega)), e4, zst_self, h4]
    · have b := a.2.2.2 j j0 (by omega)
      refine ⟨?_, ?_, ?_, ?_⟩
      · rw [zst_ne (Or.inl (by omega)), zst_ne (Or.inl (by omega)), zst_ne (Or.inl (by omega)), zst_ne (Or.inl (by omega)), zst_ne (Or.inr (by omega))]; exact b.1
      · rw [zst_ne (Or.inl (by omega)), zst_ne (Or.inl (by omega)), zst_ne (Or.inl (by omega)), zst_ne (Or.inr (by omega)), zst_ne (Or.inl (by omega))]; exact b.2.1
      · rw [zst_ne (Or.inl (by omega)), zst_ne (Or.inl (by omega)), zst_ne (Or.inr (by omega)), zst_ne (Or.inl (by omega)), zst_ne (Or.inl (by omega))]; exact b.2.2.1
      · rw [zst_ne (Or.inl (by omega)), zst_ne (Or.inr (by omega)), zst_ne (Or.inl (by omega)), zst_ne (Or.inl (by omega)), zst_ne (Or.inl (by omega))]; exact b.2.2.2
/-- all tokens and their end stand in the rows -/
def zTks (h : zH) (g : zH) : Prop := ∃ n : Nat, n ≤ 300 ∧ (∀ j : Nat, j < n → zps (zat h) j < min (h 1 1) 300) ∧ min (h 1 1) 300 ≤ zps (zat h) n ∧ zTr h (min (h 1 1) 300) (n + 1) g
theorem l_X8_read_134 {X : zX} {dep : Nat} (a n : Int) (c : Nat) {h g : zH} (ht : 0 ≤ h 1 1 ∧ h 1 1 ≤ 340) (t : zTr h (min (h 1 1) 300) c g) (hc : c ≤ 300) (hl : ∀ j : Nat, j < c → zps (zat h) j < min (h 1 1) 300) (he : min (h 1 1) 300 ≤ zps (zat h) c) (hdep : 1 ≤ dep) :
    zW mX8_read X dep 0 0 239 134 [(0, xR 25), (1, xR 1), (2, xI (min (h 1 1) 300)), (3, xI a), (4, xI n)] [xR (-1), xI 0, xI (min (h 1 1) 300), xI 0, xR 25] g (zQ0 (zTks h)) := by
  refine rX8_read_134 _ a n (f_X8_add 0 _ 0 (-1) (by rw [t.2.1]; omega) (Or.inl rfl)) hdep (fun f hf => ?_)
  refine bX8_read_137 _ a n ⟨rfl, rfl, c, hc, hl, he, ?_⟩
  rw [hf]
  refine t.add ?_ ?_ ?_ ?_
  · unfold zTK; rw [Int.toNat_natCast, if_neg (by omega)]
  · unfold zTS; rw [Int.toNat_natCast, if_neg (by omega)]
  · unfold zTV; rw [Int.toNat_natCast, if_neg (by omega)]
  · unfold zTW; rw [Int.toNat_natCast, if_neg (by omega)]
theorem l_X8_read_40 {X : zX} {dep : Nat} {h : zH} (ht : 0 ≤ h 1 1 ∧ h 1 1 ≤ 340) (hdep : 7 ≤ dep) : ∀ (k n c : Nat) (a : Int) (g : zH), n + k = 300 → c ≤ n → n ≤ a → a ≤ 340 → zsk (zat h) 400 a = zps (zat h) c → (∀ j : Nat, j < c → zps (zat h) j < min (h 1 1) 300) → zTr h (min (h 1 1) 300) c g →
    zW mX8_read X dep 0 0 239 40 [(0, xR 25), (1, xR 1), (2, xI (min (h 1 1) 300)), (3, xI a), (4, xI n)] [] g (zQ0 (zTks h)) := by
  have hb : ∀ q : Int, 340 ≤ q → zat h q = -1 := fun q hq => zat_out ht q (by omega)
  intro k
  induction k with
  | zero =>
    intro n c a g hk hcn hna ha hs hl t
    have s1 := zsk_in (b := zat h) 400 a
    have e11 : g 1 1 = h 1 1 := t.1 1 1 (by simp only [zT5]; omega)
    have fin := l_X8_read_134 (X := X) (dep := dep) a n c ht t (by omega) hl (by omega) (by omega)
    refine bX8_read_40 _ a n (by omega) (by omega) (by omega) (fun _ => fin) (fun c => absurd (by omega) c) (fun c => absurd (by omega) c) (fun c => absurd (by omega) c) (fun c => absurd (by omega) c) (fun c => absurd (by omega) c) (fun c => absurd (by omega) c)
  | succ k ih =>
    intro n c a g hk hcn hna ha hs hl t
    have s1 := zsk_in (b := zat h) 400 a
    have e11 : g 1 1 = h 1 1 := t.1 1 1 (by simp only [zT5]; omega)
    have ez := t.at
    have c4 := t.2.1
    have run : ¬ min (h 1 1) 300 ≤ a → ¬ (zat h a = 32 ∨ zat h a = 10) → zrc (zat h a) → zW mX8_read X dep 0 0 239 86 [(0, xR 25), (1, xR 1), (2, xI (min (h 1 1) 300)), (3, xI a), (4, xI n)] [xI a, xR 1, xR 25] g (zQ0 (zTks h)) := by
      intro q1 q2 q3
      have ea : zps (zat h) c = a := by rw [← hs, zsk_s hb (by omega), if_neg q2]
      refine rX8_read_86 _ a n (f_X8_readRun a (by omega) (by omega) (by omega) (by rw [ez]; exact q3) (by omega)) (by omega) (fun v f hf => ?_)
      obtain ⟨rfl, rfl⟩ := hf
      rw [ez]
      refine bX8_read_89 _ a n _ (by omega) ?_
      have nx : znx (zat h) a = zre (zat h) 400 a := if_pos q3
      have ni := znx_in hb (p := a) (by omega) (by omega)
      have go := ih (n + 1) (c + 1) (zre (zat h) 400 a) (zadT g (zkd (zat h) a) a (zvv (zat h) a) (zww (zat h) a)) (by omega) (by omega) (by omega) (by omega) (by rw [← nx, ← ea]; rfl) (fun j hj => ?_) ?_
      · exact go
      · by_cases e : j = c
        · rw [e, ea]; omega
        · exact hl j (by omega)
      · refine t.add ?_ ?_ ?_ ?_
        · unfold zTK; rw [Int.toNat_natCast, ea, if_pos (by omega)]
        · unfold zTS; rw [Int.toNat_natCast, ea, if_pos (by omega)]
        · unfold zTV; rw [Int.toNat_natCast, ea, if_pos (by omega)]
        · unfold zTW; rw [Int.toNat_natCast, ea, if_pos (by omega)]
    have sgn : ∀ y : Int, ¬ min (h 1 1) 300 ≤ a → ¬ (zat h a = 32 ∨ zat h a = 10) → ¬ zrc (zat h a) → y = (if zsg (zat h a) then zat h a else 3) → zW mX8_read X dep 0 0 239 117 [(0, xR 25), (1, xR 1), (2, xI (min (h 1 1) 300)), (3, xI a), (4, xI n)] [xR (-1), xI 0, xI a, xI y, xR 25] g (zQ0 (zTks h)) := by
      intro y q1 q2 q3 hy
      have ea : zps (zat h) c = a := by rw [← hs, zsk_s hb (by omega), if_neg q2]
      refine rX8_read_117 _ a n y (f_X8_add y a 0 (-1) (by omega) (Or.inl rfl)) (by omega) (fun f hf => ?_)
      subst hf
      refine bX8_read_120 _ a n (by omega) ?_
      have nx : znx (zat h) a = a + 1 := if_neg q3
      have go := ih (n + 1) (c + 1) (a + 1) (zadT g y a 0 (-1)) (by omega) (by omega) (by omega) (by omega) (by rw [← nx, ← ea]; rfl) (fun j hj => ?_) ?_
      · exact go
      · by_cases e : j = c
        · rw [e, ea]; omega
        · exact hl j (by omega)
      · refine t.add ?_ ?_ ?_ ?_
        · unfold zTK; rw [Int.toNat_natCast, ea, if_pos (by omega)]; unfold zkd; rw [if_neg q3]; exact hy
        · unfold zTS; rw [Int.toNat_natCast, ea, if_pos (by omega)]
        · unfold zTV; rw [Int.toNat_natCast, ea, if_pos (by omega)]; unfold zvv; rw [if_neg (fun z => q3 z.1)]
        · unfold zTW; rw [Int.toNat_natCast, ea, if_pos (by omega)]; unfold zww; rw [if_neg (fun z => q3 z.1)]
    refine bX8_read_40 _ a n (by omega) (by omega) (by omega) (fun c => absurd c (by omega)) (fun _ q => ?_) (fun _ q q2 q3 => ?_) (fun _ q q2 q3 q4 q5 => ?_) (fun _ q q2 q3 q4 q5 => ?_) (fun _ q q2 q3 q4 => ?_) (fun _ q q2 => ?_)
    · exact l_X8_read_134 (X := X) (dep := dep) a n c ht t (by omega) hl (by omega) (by omega)
    · rw [ez] at q2 q3
      exact run q q2 (Or.inl q3)
    · rw [ez] at q2 q3 q4 q5
      exact sgn 3 q q2 (fun z => z.elim q3 q4) (if_neg q5).symm
    · rw [ez] at q2 q3 q4 q5 ⊢
      exact sgn _ q q2 (fun z => z.elim q3 q4) (if_pos q5).symm
    · rw [ez] at q2 q3 q4
      exact run q q2 (Or.inr q4)
    · rw [ez] at q2
      have go := ih (n + 1) c (a + 1) g (by omega) (by omega) (by omega) (by omega) (by rw [← hs, zsk_s hb (p := a) (by omega), if_pos q2]) hl t
      exact go
theorem f_X8_read {X : zX} {dep : Nat} {h : zH} (ht : 0 ≤ h 1 1 ∧ h 1 1 ≤ 340) (hdep : 7 ≤ dep) : zW mX8_read X dep 0 0 239 0 (zar 0 [xR 25, xR 1]) [] h (zQ0 (zTks h)) := by
  refine bX8_read_0 ht (by omega) ?_
  refine l_X8_read_40 ht hdep 300 0 0 0 _ rfl (by omega) (by omega) (by omega) rfl (fun j hj => by omega) ⟨((zap.rf _ h).st (by simp only [zT5]; omega) _ _).st (by simp only [zT5]; omega) _ _, zst_self _ _ _ _, ?_, fun j j0 j1 => by omega⟩
  rw [zst_ne (Or.inr (by omega)), zst_self]
