/-! the model: lines and judgement -/
set_option maxRecDepth 20000 in
theorem bX11_lineOf_0 {X : zX} {dep bc bs : Nat} (w : Int) (kd : Int) (m : Int) (l : Int) {g : zH} {Q : Nat → zH → List zV → Prop} (hw : w < 8)
    (k1 : 0 ≤ w → zW mX11_lineOf X dep bc bs 239 12 [(0, xR 169), (1, xI w), (2, xI kd), (3, xI m), (4, xI l), (5, xI (20 * w))] [] g Q)
    (k2 : ¬ (0 ≤ w) → Q 239 g [xI (-1)]) : zW mX11_lineOf X dep bc bs 239 0 [(0, xR 169), (1, xI w), (2, xI kd), (3, xI m), (4, xI l)] [] g Q := by
  refine z_iload_n 1 dX11_lineOf_0 rfl ?_
  refine z_if_ge (tgt := 6) dX11_lineOf_1 (by decide) (fun c1 => ?_) (fun c1 => ?_)
  ·
    refine z_bipush dX11_lineOf_6 (zi32_d rfl) (by decide) ?_
    refine z_iload_n 1 dX11_lineOf_8 rfl ?_
    refine z_imulN dX11_lineOf_9 (show -2147483648 ≤ 20 * w ∧ 20 * w < 2147483648 from ⟨by omega, by omega⟩).1 (show -2147483648 ≤ 20 * w ∧ 20 * w < 2147483648 from ⟨by omega, by omega⟩).2 ?_
    refine z_istore (lv' := [(5, xI (20 * w)), (0, xR 169), (1, xI w), (2, xI kd), (3, xI m), (4, xI l)]) dX11_lineOf_10 (by decide) rfl ?_
    refine zW.sub (lv' := [(0, xR 169), (1, xI w), (2, xI kd), (3, xI m), (4, xI l), (5, xI (20 * w))]) [1, 2, 3, 4, 5, 0] rfl ?_
    exact k1 c1
  ·
    refine z_iconst dX11_lineOf_4 (zi32_d rfl) ?_
    exact z_iret dX11_lineOf_5 rfl (k2 c1)

set_option maxRecDepth 20000 in
theorem bX11_lineOf_12 {X : zX} {dep bc bs : Nat} (w : Int) (kd : Int) (m : Int) (l : Int) (x : Int) {g : zH} {Q : Nat → zH → List zV → Prop} (hw : 0 ≤ w ∧ w < 8) (hn : 0 ≤ g 195 w ∧ g 195 w ≤ 20) (hx : 0 ≤ x ∧ x ≤ 180) (hx2 : 20 * w + g 195 w ≤ x ∨ x < 180)
    (k1 : ((20 * w) + (g 195 w)) ≤ x → Q 239 g [xI (-1)])
    (k2 : ¬ (((20 * w) + (g 195 w)) ≤ x) → ¬ (g 196 x) = kd → zW mX11_lineOf X dep bc bs 239 12 [(0, xR 169), (1, xI w), (2, xI kd), (3, xI m), (4, xI l), (5, xI (x + 1))] [] g Q)
    (k3 : ¬ (((20 * w) + (g 195 w)) ≤ x) → (g 196 x) = kd → zW mX11_lineOf X dep bc bs 239 46 [(0, xR 169), (1, xI w), (2, xI kd), (3, xI m), (4, xI l), (5, xI x)] [xI l, xI m, xI x, xI w, xR 169] g Q) : zW mX11_lineOf X dep bc bs 239 12 [(0, xR 169), (1, xI w), (2, xI kd), (3, xI m), (4, xI l), (5, xI x)] [] g Q := by
  refine z_iload 5 dX11_lineOf_12 rfl ?_
  refine z_bipush dX11_lineOf_14 (zi32_d rfl) (by decide) ?_
  refine z_iload_n 1 dX11_lineOf_16 rfl ?_
  refine z_imulN dX11_lineOf_17 (show -2147483648 ≤ 20 * w ∧ 20 * w < 2147483648 from ⟨by omega, by omega⟩).1 (show -2147483648 ≤ 20 * w ∧ 20 * w < 2147483648 from ⟨by omega, by omega⟩).2 ?_
  refine z_aload_n 0 dX11_lineOf_18 rfl ?_
  refine z_getS (v := 195) (k := 35) (kz := 35) pk11 dX11_lineOf_19 (by decide) zb_1159 rfl (zOb.lit (by decide +kernel)) rfl (by decide +kernel) ?_
  refine z_iload_n 1 dX11_lineOf_22 rfl ?_
  refine z_iald dX11_lineOf_23 (zOb.lit (by decide +kernel)) (show 0 ≤ w ∧ w < 9 from ⟨by omega, by omega⟩).1 (show 0 ≤ w ∧ w < 9 from ⟨by omega, by omega⟩).2 ?_
  refine z_iaddN dX11_lineOf_24 (show -2147483648 ≤ (20 * w) + (g 195 w) ∧ (20 * w) + (g 195 w) < 2147483648 from ⟨by omega, by omega⟩).1 (show -2147483648 ≤ (20 * w) + (g 195 w) ∧ (20 * w) + (g 195 w) < 2147483648 from ⟨by omega, by omega⟩).2 ?_
  refine z_icmp_ge (tgt := 61) dX11_lineOf_25 (by decide) (fun c1 => ?_) (fun c1 => ?_)
  ·
    refine z_iconst dX11_lineOf_61 (zi32_d rfl) ?_
    exact z_iret dX11_lineOf_62 rfl (k1 c1)
  ·
    refine z_aload_n 0 dX11_lineOf_28 rfl ?_
    refine z_getS (v := 196) (k := 36) (kz := 36) pk11 dX11_lineOf_29 (by decide) zb_1160 rfl (zOb.lit (by decide +kernel)) rfl (by decide +kernel) ?_
    refine z_iload 5 dX11_lineOf_32 rfl ?_
    refine z_iald dX11_lineOf_34 (zOb.lit (by decide +kernel)) (show 0 ≤ x ∧ x < 180 from ⟨by omega, by omega⟩).1 (show 0 ≤ x ∧ x < 180 from ⟨by omega, by omega⟩).2 ?_
    refine z_iload_n 2 dX11_lineOf_35 rfl ?_
    refine z_icmp_ne (tgt := 55) dX11_lineOf_36 (by decide) (fun c2 => ?_) (fun c2 => ?_)
    ·
      refine z_iincN (lv' := [(5, xI (x + 1)), (0, xR 169), (1, xI w), (2, xI kd), (3, xI m), (4, xI l)]) 5 dX11_lineOf_55 rfl (by decide) rfl (show -2147483648 ≤ x + 1 ∧ x + 1 < 2147483648 from ⟨by omega, by omega⟩).1 (show -2147483648 ≤ x + 1 ∧ x + 1 < 2147483648 from ⟨by omega, by omega⟩).2 ?_
      refine z_goto (tgt := 12) dX11_lineOf_58 (by decide) ?_
      refine zW.sub (lv' := [(0, xR 169), (1, xI w), (2, xI kd), (3, xI m), (4, xI l), (5, xI (x + 1))]) [1, 2, 3, 4, 5, 0] rfl ?_
      exact k2 c1 c2
    ·
      refine z_aload_n 0 dX11_lineOf_39 rfl ?_
      refine z_iload_n 1 dX11_lineOf_40 rfl ?_
      refine z_iload 5 dX11_lineOf_41 rfl ?_
      refine z_iload_n 3 dX11_lineOf_43 rfl ?_
      refine z_iload 4 dX11_lineOf_44 rfl ?_
      exact k3 c1 c2

set_option maxRecDepth 20000 in
theorem rX11_lineOf_46 {X : zX} {dep bc bs : Nat} (w : Int) (kd : Int) (m : Int) (l : Int) (x : Int) {g : zH} {Q : Nat → zH → List zV → Prop} {P : Int → zH → Prop}
    (hZ : zW mX11_isSo X (dep - 1) 0 0 239 0 (zar 0 [xR 169, xI w, xI x, xI m, xI l]) [] g (zQI P)) (hdep : 1 ≤ dep)
    (k : ∀ (v : Int) (g : zH), P v g → zW mX11_lineOf X dep bc bs 239 49 [(0, xR 169), (1, xI w), (2, xI kd), (3, xI m), (4, xI l), (5, xI x)] [xI v] g Q) : zW mX11_lineOf X dep bc bs 239 46 [(0, xR 169), (1, xI w), (2, xI kd), (3, xI m), (4, xI l), (5, xI x)] [xI l, xI m, xI x, xI w, xR 169] g Q :=
  z_invQI (ci := 11) (N := 97) (as := [xI w, xI x, xI m, xI l]) (st := []) (ra := [xI l, xI m, xI x, xI w]) hZ dX11_lineOf_46 nX11_isSo zb_1647 zb_1649 zb_66 zb_92 (zOb.lit (by decide +kernel)) rfl (by omega) (Nat.le_of_ble_eq_true rfl) (Nat.le_of_ble_eq_true rfl) rfl (fun v g hg => k v g hg)

set_option maxRecDepth 20000 in
theorem bX11_lineOf_49 {X : zX} {dep bc bs : Nat} (w : Int) (kd : Int) (m : Int) (l : Int) (x : Int) (y : Int) {g : zH} {Q : Nat → zH → List zV → Prop} (hx : 0 ≤ x ∧ x < 180)
    (k1 : y = 0 → zW mX11_lineOf X dep bc bs 239 12 [(0, xR 169), (1, xI w), (2, xI kd), (3, xI m), (4, xI l), (5, xI (x + 1))] [] g Q)
    (k2 : ¬ (y = 0) → Q 239 g [xI x]) : zW mX11_lineOf X dep bc bs 239 49 [(0, xR 169), (1, xI w), (2, xI kd), (3, xI m), (4, xI l), (5, xI x)] [xI y] g Q := by
  refine z_if_eq (tgt := 55) dX11_lineOf_49 (by decide) (fun c1 => ?_) (fun c1 => ?_)
  ·
    refine z_iincN (lv' := [(5, xI (x + 1)), (0, xR 169), (1, xI w), (2, xI kd), (3, xI m), (4, xI l)]) 5 dX11_lineOf_55 rfl (by decide) rfl (show -2147483648 ≤ x + 1 ∧ x + 1 < 2147483648 from ⟨by omega, by omega⟩).1 (show -2147483648 ≤ x + 1 ∧ x + 1 < 2147483648 from ⟨by omega, by omega⟩).2 ?_
    refine z_goto (tgt := 12) dX11_lineOf_58 (by decide) ?_
    refine zW.sub (lv' := [(0, xR 169), (1, xI w), (2, xI kd), (3, xI m), (4, xI l), (5, xI (x + 1))]) [1, 2, 3, 4, 5, 0] rfl ?_
    exact k1 c1
  ·
    refine z_iload 5 dX11_lineOf_52 rfl ?_
    exact z_iret dX11_lineOf_54 rfl (k2 c1)

set_option maxRecDepth 20000 in
theorem bX11_judge_0a {X : zX} {dep bc bs : Nat} (l : Int) (w : Int) (m : Int) {h : zH} {Q : Nat → zH → List zV → Prop} (hl : 0 ≤ l ∧ l < 4) (hw : w < 8) (hm : 0 ≤ m ∧ m < 60) (hb : h 215 m = 0 ∨ (-3120 ≤ h 214 m ∧ h 214 m < 520)) (hd : 0 ≤ h 205 l ∧ h 205 l ≤ 3639) (hdep : 1 ≤ dep)
    (k1 : ¬ (h 215 m) = 0 → zW mX11_judge X dep bc bs 239 56 [(0, xR 169), (1, xI l), (2, xI w), (3, xI m), (4, xI ((60 * l) + m)), (5, xI (zage ((h 214 m)) (h 205 l)))] [] (zst (zst (zst h 219 ((60 * l) + m) 0) 220 ((60 * l) + m) (-1)) 221 ((60 * l) + m) 9) Q)
    (k2 : (h 215 m) = 0 → Q 239 (zst (zst (zst h 219 ((60 * l) + m) 0) 220 ((60 * l) + m) (-1)) 221 ((60 * l) + m) 9) []) : zW mX11_judge X dep bc bs 239 0 [(0, xR 169), (1, xI l), (2, xI w), (3, xI m)] [] h Q := by
  refine z_bipush dX11_judge_0 (zi32_d rfl) (by decide) ?_
  refine z_iload_n 1 dX11_judge_2 rfl ?_
  refine z_imulN dX11_judge_3 (show -2147483648 ≤ 60 * l ∧ 60 * l < 2147483648 from ⟨by omega, by omega⟩).1 (show -2147483648 ≤ 60 * l ∧ 60 * l < 2147483648 from ⟨by omega, by omega⟩).2 ?_
  refine z_iload_n 3 dX11_judge_4 rfl ?_
  refine z_iaddN dX11_judge_5 (show -2147483648 ≤ (60 * l) + m ∧ (60 * l) + m < 2147483648 from ⟨by omega, by omega⟩).1 (show -2147483648 ≤ (60 * l) + m ∧ (60 * l) + m < 2147483648 from ⟨by omega, by omega⟩).2 ?_
  refine z_istore (lv' := [(4, xI ((60 * l) + m)), (0, xR 169), (1, xI l), (2, xI w), (3, xI m)]) dX11_judge_6 (by decide) rfl ?_
  refine z_aload_n 1 dX11_judge_8 rfl ?_
  refine z_getS (v := 219) (k := 72) (kz := 72) pk11 dX11_judge_9 (by decide) zb_1196 rfl (zOb.lit (by decide +kernel)) rfl (by decide +kernel) ?_
  refine z_iload 0 dX11_judge_12 rfl ?_
  refine z_iconst dX11_judge_14 (zi32_d rfl) ?_
  refine z_iast dX11_judge_15 (zOb.lit (by decide +kernel)) (show 0 ≤ ((60 * l) + m) ∧ ((60 * l) + m) < 240 from ⟨by omega, by omega⟩).1 (show 0 ≤ ((60 * l) + m) ∧ ((60 * l) + m) < 240 from ⟨by omega, by omega⟩).2 ?_
  refine z_aload_n 1 dX11_judge_16 rfl ?_
  refine z_getS (v := 220) (k := 73) (kz := 73) pk11 dX11_judge_17 (by decide) zb_1197 rfl (zOb.lit (by decide +kernel)) rfl (by decide +kernel) ?_
  refine z_iload 0 dX11_judge_20 rfl ?_
  refine z_iconst dX11_judge_22 (zi32_d rfl) ?_
  refine z_iast dX11_judge_23 (zOb.lit (by decide +kernel)) (show 0 ≤ ((60 * l) + m) ∧ ((60 * l) + m) < 240 from ⟨by omega, by omega⟩).1 (show 0 ≤ ((60 * l) + m) ∧ ((60 * l) + m) < 240 from ⟨by omega, by omega⟩).2 ?_
  refine z_aload_n 1 dX11_judge_24 rfl ?_
  refine z_getS (v := 221) (k := 74) (kz := 74) pk11 dX11_judge_25 (by decide) zb_1198 rfl (zOb.lit (by decide +kernel)) rfl (by decide +kernel) ?_
  refine z_iload 0 dX11_judge_28 rfl ?_
  refine z_bipush dX11_judge_30 (zi32_d rfl) (by decide) ?_
  refine z_iast dX11_judge_32 (zOb.lit (by decide +kernel)) (show 0 ≤ ((60 * l) + m) ∧ ((60 * l) + m) < 240 from ⟨by omega, by omega⟩).1 (show 0 ≤ ((60 * l) + m) ∧ ((60 * l) + m) < 240 from ⟨by omega, by omega⟩).2 ?_
  refine z_aload_n 1 dX11_judge_33 rfl ?_
  refine z_getS (v := 215) (k := 68) (kz := 68) pk11 dX11_judge_34 (by decide) zb_1192 rfl (zOb.lit (by decide +kernel)) rfl (by decide +kernel) ?_
  refine z_iload_n 4 dX11_judge_37 rfl ?_
  refine z_zaldV (v := (h 215 m)) dX11_judge_38 (zOb.lit (by decide +kernel)) hm.1 hm.2 ((zst_ne (Or.inl (by decide))).trans ((zst_ne (Or.inl (by decide))).trans (zst_ne (Or.inl (by decide))))) ?_
  refine z_if_ne (tgt := 43) dX11_judge_39 (by decide) (fun c1 => ?_) (fun c1 => ?_)
  ·
    refine z_aload_n 1 dX11_judge_43 rfl ?_
    refine z_iload_n 4 dX11_judge_44 rfl ?_
    refine z_aload_n 1 dX11_judge_45 rfl ?_
    refine z_getS (v := 205) (k := 57) (kz := 57) pk11 dX11_judge_46 (by decide) zb_1181 rfl (zOb.lit (by decide +kernel)) rfl (by decide +kernel) ?_
    refine z_iload_n 2 dX11_judge_49 rfl ?_
    refine z_ialdV (v := (h 205 l)) dX11_judge_50 (zOb.lit (by decide +kernel)) hl.1 hl.2 ((zst_ne (Or.inl (by decide))).trans ((zst_ne (Or.inl (by decide))).trans (zst_ne (Or.inl (by decide))))) ?_
    refine z_invF (ci := 11) (N := 97) (as := [xI m, xI (h 205 l)]) (st := []) (ra := [xI (h 205 l), xI m]) (dep' := dep - 1) (rs := [xI (zage ((h 214 m)) (h 205 l))]) (h' := (zst (zst (zst h 219 ((60 * l) + m) 0) 220 ((60 * l) + m) (-1)) 221 ((60 * l) + m) 9)) (by have e1 : (zst (zst (zst h 219 ((60 * l) + m) 0) 220 ((60 * l) + m) (-1)) 221 ((60 * l) + m) 9) 214 m = (h 214 m) := ((zst_ne (Or.inl (by decide))).trans ((zst_ne (Or.inl (by decide))).trans (zst_ne (Or.inl (by decide))))); have z9 := f_X11_ageOf (X := X) (dep := dep - 1) m (h 205 l) (h := (zst (zst (zst h 219 ((60 * l) + m) 0) 220 ((60 * l) + m) (-1)) 221 ((60 * l) + m) 9)) hm (show 0 ≤ (h 205 l) ∧ (h 205 l) ≤ 3639 from ⟨by omega, by omega⟩) (by have y1 : (zst (zst (zst h 219 ((60 * l) + m) 0) 220 ((60 * l) + m) (-1)) 221 ((60 * l) + m) 9) 214 m = (h 214 m) := ((zst_ne (Or.inl (by decide))).trans ((zst_ne (Or.inl (by decide))).trans (zst_ne (Or.inl (by decide))))); simp only [y1]; omega); rw [e1] at z9; exact z9) dX11_judge_51 nX11_ageOf zb_1607 zb_1609 zb_58 zb_92 (zOb.lit (by decide +kernel)) rfl (by omega) zne_I (Nat.le_of_ble_eq_true rfl) (Nat.le_of_ble_eq_true rfl) rfl ?_
    refine z_istore (lv' := [(5, xI (zage ((h 214 m)) (h 205 l))), (4, xI ((60 * l) + m)), (0, xR 169), (1, xI l), (2, xI w), (3, xI m)]) dX11_judge_54 (by decide) rfl ?_
    refine zW.sub (lv' := [(0, xR 169), (1, xI l), (2, xI w), (3, xI m), (4, xI ((60 * l) + m)), (5, xI (zage ((h 214 m)) (h 205 l)))]) [2, 3, 4, 5, 1, 0] rfl ?_
    exact k1 c1
  ·
    exact z_ret dX11_judge_42 rfl (k2 c1)

set_option maxRecDepth 20000 in
theorem bX11_judge_56 {X : zX} {dep bc bs : Nat} (l : Int) (w : Int) (m : Int) (y : Int) {h : zH} {Q : Nat → zH → List zV → Prop} (hl : 0 ≤ l ∧ l < 4) (hw : w < 8) (hm : 0 ≤ m ∧ m < 60) (hdep : 1 ≤ dep)
    (k1 : 0 ≤ w → 0 ≤ w → (h 192 w) ≤ y ∧ y ≤ (h 193 w) → zW mX11_judge X dep bc bs 239 118 [(0, xR 169), (1, xI l), (2, xI w), (3, xI m), (4, xI ((60 * l) + m)), (6, xI 1)] [xI l, xI m, xI 1, xI w, xR 169] (zst (zst (zst h 219 ((60 * l) + m) 0) 220 ((60 * l) + m) (-1)) 221 ((60 * l) + m) 9) Q)
    (k2 : 0 ≤ w → 0 ≤ w → ¬ ((h 192 w) ≤ y ∧ y ≤ (h 193 w)) → Q 239 (zst (zst (zst (zst h 219 ((60 * l) + m) 0) 220 ((60 * l) + m) (-1)) 221 ((60 * l) + m) 9) 219 ((60 * l) + m) 1) [])
    (k3 : 0 ≤ w → ¬ (0 ≤ w) → (h 192 w) ≤ y ∧ y ≤ 25 → zW mX11_judge X dep bc bs 239 118 [(0, xR 169), (1, xI l), (2, xI w), (3, xI m), (4, xI ((60 * l) + m)), (6, xI 1)] [xI l, xI m, xI 1, xI w, xR 169] (zst (zst (zst h 219 ((60 * l) + m) 0) 220 ((60 * l) + m) (-1)) 221 ((60 * l) + m) 9) Q)
    (k4 : 0 ≤ w → ¬ (0 ≤ w) → ¬ ((h 192 w) ≤ y ∧ y ≤ 25) → Q 239 (zst (zst (zst (zst h 219 ((60 * l) + m) 0) 220 ((60 * l) + m) (-1)) 221 ((60 * l) + m) 9) 219 ((60 * l) + m) 1) [])
    (k5 : ¬ (0 ≤ w) → 0 ≤ w → 20 ≤ y ∧ y ≤ (h 193 w) → zW mX11_judge X dep bc bs 239 118 [(0, xR 169), (1, xI l), (2, xI w), (3, xI m), (4, xI ((60 * l) + m)), (6, xI 1)] [xI l, xI m, xI 1, xI w, xR 169] (zst (zst (zst h 219 ((60 * l) + m) 0) 220 ((60 * l) + m) (-1)) 221 ((60 * l) + m) 9) Q)
    (k6 : ¬ (0 ≤ w) → 0 ≤ w → ¬ (20 ≤ y ∧ y ≤ (h 193 w)) → Q 239 (zst (zst (zst (zst h 219 ((60 * l) + m) 0) 220 ((60 * l) + m) (-1)) 221 ((60 * l) + m) 9) 219 ((60 * l) + m) 1) [])
    (k7 : ¬ (0 ≤ w) → ¬ (0 ≤ w) → 20 ≤ y ∧ y ≤ 25 → zW mX11_judge X dep bc bs 239 118 [(0, xR 169), (1, xI l), (2, xI w), (3, xI m), (4, xI ((60 * l) + m)), (6, xI 1)] [xI l, xI m, xI 1, xI w, xR 169] (zst (zst (zst h 219 ((60 * l) + m) 0) 220 ((60 * l) + m) (-1)) 221 ((60 * l) + m) 9) Q)
    (k8 : ¬ (0 ≤ w) → ¬ (0 ≤ w) → ¬ (20 ≤ y ∧ y ≤ 25) → Q 239 (zst (zst (zst (zst h 219 ((60 * l) + m) 0) 220 ((60 * l) + m) (-1)) 221 ((60 * l) + m) 9) 219 ((60 * l) + m) 1) []) : zW mX11_judge X dep bc bs 239 56 [(0, xR 169), (1, xI l), (2, xI w), (3, xI m), (4, xI ((60 * l) + m)), (5, xI y)] [] (zst (zst (zst h 219 ((60 * l) + m) 0) 220 ((60 * l) + m) (-1)) 221 ((60 * l) + m) 9) Q := by
  refine z_iload 5 dX11_judge_56 rfl ?_
  refine z_iload_n 2 dX11_judge_58 rfl ?_
  refine z_if_ge (tgt := 67) dX11_judge_59 (by decide) (fun c1 => ?_) (fun c1 => ?_)
  ·
    refine z_aload_n 0 dX11_judge_67 rfl ?_
    refine z_getS (v := 192) (k := 32) (kz := 32) pk11 dX11_judge_68 (by decide) zb_1156 rfl (zOb.lit (by decide +kernel)) rfl (by decide +kernel) ?_
    refine z_iload_n 2 dX11_judge_71 rfl ?_
    refine z_ialdV (v := (h 192 w)) dX11_judge_72 (zOb.lit (by decide +kernel)) (show 0 ≤ w ∧ w < 9 from ⟨by omega, by omega⟩).1 (show 0 ≤ w ∧ w < 9 from ⟨by omega, by omega⟩).2 ((zst_ne (Or.inl (by decide))).trans ((zst_ne (Or.inl (by decide))).trans (zst_ne (Or.inl (by decide))))) ?_
    refine z_iload_n 2 dX11_judge_73 rfl ?_
    refine z_if_ge (tgt := 82) dX11_judge_74 (by decide) (fun c2 => ?_) (fun c2 => ?_)
    ·
      refine z_aload_n 0 dX11_judge_82 rfl ?_
      refine z_getS (v := 193) (k := 33) (kz := 33) pk11 dX11_judge_83 (by decide) zb_1157 rfl (zOb.lit (by decide +kernel)) rfl (by decide +kernel) ?_
      refine z_iload_n 2 dX11_judge_86 rfl ?_
      refine z_ialdV (v := (h 193 w)) dX11_judge_87 (zOb.lit (by decide +kernel)) (show 0 ≤ w ∧ w < 9 from ⟨by omega, by omega⟩).1 (show 0 ≤ w ∧ w < 9 from ⟨by omega, by omega⟩).2 ((zst_ne (Or.inl (by decide))).trans ((zst_ne (Or.inl (by decide))).trans (zst_ne (Or.inl (by decide))))) ?_
      refine z_invSF (as := [xI y, xI (h 192 w), xI (h 193 w)]) (st := []) (ra := [xI (h 193 w), xI (h 192 w), xI y]) (dep' := dep - 1) (rs := [xI (zb ((h 192 w) ≤ y ∧ y ≤ (h 193 w)))]) (h' := (zst (zst (zst h 219 ((60 * l) + m) 0) 220 ((60 * l) + m) (-1)) 221 ((60 * l) + m) 9)) (f_X11_isIn y (h 192 w) (h 193 w) (h := (zst (zst (zst h 219 ((60 * l) + m) 0) 220 ((60 * l) + m) (-1)) 221 ((60 * l) + m) 9)) ) dX11_judge_88 nX11_isIn zb_1437 zb_1438 zb_92 (by omega) zne_I (Nat.le_of_ble_eq_true rfl) (Nat.le_of_ble_eq_true rfl) rfl ?_
      refine z_ifB_ne (C := (h 192 w) ≤ y ∧ y ≤ (h 193 w)) (tgt := 103) dX11_judge_91 (by decide) (fun c3 => ?_) (fun c3 => ?_)
      ·
        refine z_iconst dX11_judge_103 (zi32_d rfl) ?_
        refine z_istore (lv' := [(6, xI 1), (0, xR 169), (1, xI l), (2, xI w), (3, xI m), (4, xI ((60 * l) + m)), (5, xI y)]) dX11_judge_104 (by decide) rfl ?_
        refine z_iload 0 dX11_judge_106 rfl ?_
        refine z_iconst dX11_judge_108 (zi32_d rfl) ?_
        refine z_icmp_gt (tgt := 161) dX11_judge_109 (by decide) (fun c => absurd c (by decide)) (fun _ => ?_)
        refine z_aload_n 1 dX11_judge_112 rfl ?_
        refine z_iload_n 3 dX11_judge_113 rfl ?_
        refine z_iload 0 dX11_judge_114 rfl ?_
        refine z_iload_n 4 dX11_judge_116 rfl ?_
        refine z_iload_n 2 dX11_judge_117 rfl ?_
        refine zW.sub (lv' := [(0, xR 169), (1, xI l), (2, xI w), (3, xI m), (4, xI ((60 * l) + m)), (6, xI 1)]) [1, 2, 3, 4, 5, 0] rfl ?_
        exact k1 c1 c2 c3
      ·
        refine z_aload_n 0 dX11_judge_94 rfl ?_
        refine z_getS (v := 219) (k := 72) (kz := 72) pk11 dX11_judge_95 (by decide) zb_1196 rfl (zOb.lit (by decide +kernel)) rfl (by decide +kernel) ?_
        refine z_iload 4 dX11_judge_98 rfl ?_
        refine z_iconst dX11_judge_100 (zi32_d rfl) ?_
        refine z_iast dX11_judge_101 (zOb.lit (by decide +kernel)) (show 0 ≤ ((60 * l) + m) ∧ ((60 * l) + m) < 240 from ⟨by omega, by omega⟩).1 (show 0 ≤ ((60 * l) + m) ∧ ((60 * l) + m) < 240 from ⟨by omega, by omega⟩).2 ?_
        exact z_ret dX11_judge_102 rfl (k2 c1 c2 c3)
    ·
      refine z_bipush dX11_judge_77 (zi32_d rfl) (by decide) ?_
      refine z_goto (tgt := 88) dX11_judge_79 (by decide) ?_
      refine z_invSF (as := [xI y, xI (h 192 w), xI 25]) (st := []) (ra := [xI 25, xI (h 192 w), xI y]) (dep' := dep - 1) (rs := [xI (zb ((h 192 w) ≤ y ∧ y ≤ 25))]) (h' := (zst (zst (zst h 219 ((60 * l) + m) 0) 220 ((60 * l) + m) (-1)) 221 ((60 * l) + m) 9)) (f_X11_isIn y (h 192 w) 25 (h := (zst (zst (zst h 219 ((60 * l) + m) 0) 220 ((60 * l) + m) (-1)) 221 ((60 * l) + m) 9)) ) dX11_judge_88 nX11_isIn zb_1437 zb_1438 zb_92 (by omega) zne_I (Nat.le_of_ble_eq_true rfl) (Nat.le_of_ble_eq_true rfl) rfl ?_
      refine z_ifB_ne (C := (h 192 w) ≤ y ∧ y ≤ 25) (tgt := 103) dX11_judge_91 (by decide) (fun c3 => ?_) (fun c3 => ?_)
      ·
        refine z_iconst dX11_judge_103 (zi32_d rfl) ?_
        refine z_istore (lv' := [(6, xI 1), (0, xR 169), (1, xI l), (2, xI w), (3, xI m), (4, xI ((60 * l) + m)), (5, xI y)]) dX11_judge_104 (by decide) rfl ?_
        refine z_iload 0 dX11_judge_106 rfl ?_
        refine z_iconst dX11_judge_108 (zi32_d rfl) ?_
        refine z_icmp_gt (tgt := 161) dX11_judge_109 (by decide) (fun c => absurd c (by decide)) (fun _ => ?_)
        refine z_aload_n 1 dX11_judge_112 rfl ?_
        refine z_iload_n 3 dX11_judge_113 rfl ?_
        refine z_iload 0 dX11_judge_114 rfl ?_
        refine z_iload_n 4 dX11_judge_116 rfl ?_
        refine z_iload_n 2 dX11_judge_117 rfl ?_
        refine zW.sub (lv' := [(0, xR 169), (1, xI l), (2, xI w), (3, xI m), (4, xI ((60 * l) + m)), (6, xI 1)]) [1, 2, 3, 4, 5, 0] rfl ?_
        exact k3 c1 c2 c3
      ·
        refine z_aload_n 0 dX11_judge_94 rfl ?_
        refine z_getS (v := 219) (k := 72) (kz := 72) pk11 dX11_judge_95 (by decide) zb_1196 rfl (zOb.lit (by decide +kernel)) rfl (by decide +kernel) ?_
        refine z_iload 4 dX11_judge_98 rfl ?_
        refine z_iconst dX11_judge_100 (zi32_d rfl) ?_
        refine z_iast dX11_judge_101 (zOb.lit (by decide +kernel)) (show 0 ≤ ((60 * l) + m) ∧ ((60 * l) + m) < 240 from ⟨by omega, by omega⟩).1 (show 0 ≤ ((60 * l) + m) ∧ ((60 * l) + m) < 240 from ⟨by omega, by omega⟩).2 ?_
        exact z_ret dX11_judge_102 rfl (k4 c1 c2 c3)
  ·
    refine z_bipush dX11_judge_62 (zi32_d rfl) (by decide) ?_
    refine z_goto (tgt := 73) dX11_judge_64 (by decide) ?_
    refine z_iload_n 2 dX11_judge_73 rfl ?_
    refine z_if_ge (tgt := 82) dX11_judge_74 (by decide) (fun c2 => ?_) (fun c2 => ?_)
    ·
      refine z_aload_n 0 dX11_judge_82 rfl ?_
      refine z_getS (v := 193) (k := 33) (kz := 33) pk11 dX11_judge_83 (by decide) zb_1157 rfl (zOb.lit (by decide +kernel)) rfl (by decide +kernel) ?_
      refine z_iload_n 2 dX11_judge_86 rfl ?_
      refine z_ialdV (v := (h 193 w)) dX11_judge_87 (zOb.lit (by decide +kernel)) (show 0 ≤ w ∧ w < 9 from ⟨by omega, by omega⟩).1 (show 0 ≤ w ∧ w < 9 from ⟨by omega, by omega⟩).2 ((zst_ne (Or.inl (by decide))).trans ((zst_ne (Or.inl (by decide))).trans (zst_ne (Or.inl (by decide))))) ?_
      refine z_invSF (as := [xI y, xI 20, xI (h 193 w)]) (st := []) (ra := [xI (h 193 w), xI 20, xI y]) (dep' := dep - 1) (rs := [xI (zb (20 ≤ y ∧ y ≤ (h 193 w)))]) (h' := (zst (zst (zst h 219 ((60 * l) + m) 0) 220 ((60 * l) + m) (-1)) 221 ((60 * l) + m) 9)) (f_X11_isIn y 20 (h 193 w) (h := (zst (zst (zst h 219 ((60 * l) + m) 0) 220 ((60 * l) + m) (-1)) 221 ((60 * l) + m) 9)) ) dX11_judge_88 nX11_isIn zb_1437 zb_1438 zb_92 (by omega) zne_I (Nat.le_of_ble_eq_true rfl) (Nat.le_of_ble_eq_true rfl) rfl ?_
      refine z_ifB_ne (C := 20 ≤ y ∧ y ≤ (h 193 w)) (tgt := 103) dX11_judge_91 (by decide) (fun c3 => ?_) (fun c3 => ?_)
      ·
        refine z_iconst dX11_judge_103 (zi32_d rfl) ?_
        refine z_istore (lv' := [(6, xI 1), (0, xR 169), (1, xI l), (2, xI w), (3, xI m), (4, xI ((60 * l) + m)), (5, xI y)]) dX11_judge_104 (by decide) rfl ?_
        refine z_iload 0 dX11_judge_106 rfl ?_
        refine z_iconst dX11_judge_108 (zi32_d rfl) ?_
        refine z_icmp_gt (tgt := 161) dX11_judge_109 (by decide) (fun c => absurd c (by decide)) (fun _ => ?_)
        refine z_aload_n 1 dX11_judge_112 rfl ?_
        refine z_iload_n 3 dX11_judge_113 rfl ?_
        refine z_iload 0 dX11_judge_114 rfl ?_
        refine z_iload_n 4 dX11_judge_116 rfl ?_
        refine z_iload_n 2 dX11_judge_117 rfl ?_
        refine zW.sub (lv' := [(0, xR 169), (1, xI l), (2, xI w), (3, xI m), (4, xI ((60 * l) + m)), (6, xI 1)]) [1, 2, 3, 4, 5, 0] rfl ?_
        exact k5 c1 c2 c3
      ·
        refine z_aload_n 0 dX11_judge_94 rfl ?_
        refine z_getS (v := 219) (k := 72) (kz := 72) pk11 dX11_judge_95 (by decide) zb_1196 rfl (zOb.lit (by decide +kernel)) rfl (by decide +kernel) ?_
        refine z_iload 4 dX11_judge_98 rfl ?_
        refine z_iconst dX11_judge_100 (zi32_d rfl) ?_
        refine z_iast dX11_judge_101 (zOb.lit (by decide +kernel)) (show 0 ≤ ((60 * l) + m) ∧ ((60 * l) + m) < 240 from ⟨by omega, by omega⟩).1 (show 0 ≤ ((60 * l) + m) ∧ ((60 * l) + m) < 240 from ⟨by omega, by omega⟩).2 ?_
        exact z_ret dX11_judge_102 rfl (k6 c1 c2 c3)
    ·
      refine z_bipush dX11_judge_77 (zi32_d rfl) (by decide) ?_
      refine z_goto (tgt := 88) dX11_judge_79 (by decide) ?_
      refine z_invSF (as := [xI y, xI 20, xI 25]) (st := []) (ra := [xI 25, xI 20, xI y]) (dep' := dep - 1) (rs := [xI (zb (20 ≤ y ∧ y ≤ 25))]) (h' := (zst (zst (zst h 219 ((60 * l) + m) 0) 220 ((60 * l) + m) (-1)) 221 ((60 * l) + m) 9)) (f_X11_isIn y 20 25 (h := (zst (zst (zst h 219 ((60 * l) + m) 0) 220 ((60 * l) + m) (-1)) 221 ((60 * l) + m) 9)) ) dX11_judge_88 nX11_isIn zb_1437 zb_1438 zb_92 (by omega) zne_I (Nat.le_of_ble_eq_true rfl) (Nat.le_of_ble_eq_true rfl) rfl ?_
      refine z_ifB_ne (C := 20 ≤ y ∧ y ≤ 25) (tgt := 103) dX11_judge_91 (by decide) (fun c3 => ?_) (fun c3 => ?_)
      ·
        refine z_iconst dX11_judge_103 (zi32_d rfl) ?_
        refine z_istore (lv' := [(6, xI 1), (0, xR 169), (1, xI l), (2, xI w), (3, xI m), (4, xI ((60 * l) + m)), (5, xI y)]) dX11_judge_104 (by decide) rfl ?_
        refine z_iload 0 dX11_judge_106 rfl ?_
        refine z_iconst dX11_judge_108 (zi32_d rfl) ?_
        refine z_icmp_gt (tgt := 161) dX11_judge_109 (by decide) (fun c => absurd c (by decide)) (fun _ => ?_)
        refine z_aload_n 1 dX11_judge_112 rfl ?_
        refine z_iload_n 3 dX11_judge_113 rfl ?_
        refine z_iload 0 dX11_judge_114 rfl ?_
        refine z_iload_n 4 dX11_judge_116 rfl ?_
        refine z_iload_n 2 dX11_judge_117 rfl ?_
        refine zW.sub (lv' := [(0, xR 169), (1, xI l), (2, xI w), (3, xI m), (4, xI ((60 * l) + m)), (6, xI 1)]) [1, 2, 3, 4, 5, 0] rfl ?_
        exact k7 c1 c2 c3
      ·
        refine z_aload_n 0 dX11_judge_94 rfl ?_
        refine z_getS (v := 219) (k := 72) (kz := 72) pk11 dX11_judge_95 (by decide) zb_1196 rfl (zOb.lit (by decide +kernel)) rfl (by decide +kernel) ?_
        refine z_iload 4 dX11_judge_98 rfl ?_
        refine z_iconst dX11_judge_100 (zi32_d rfl) ?_
        refine z_iast dX11_judge_101 (zOb.lit (by decide +kernel)) (show 0 ≤ ((60 * l) + m) ∧ ((60 * l) + m) < 240 from ⟨by omega, by omega⟩).1 (show 0 ≤ ((60 * l) + m) ∧ ((60 * l) + m) < 240 from ⟨by omega, by omega⟩).2 ?_
        exact z_ret dX11_judge_102 rfl (k8 c1 c2 c3)

set_option maxRecDepth 20000 in
theorem bX11_judge_0 {X : zX} {dep bc bs : Nat} (l : Int) (w : Int) (m : Int) {h : zH} {Q : Nat → zH → List zV → Prop} (hl : 0 ≤ l ∧ l < 4) (hw : w < 8) (hm : 0 ≤ m ∧ m < 60) (hb : h 215 m = 0 ∨ (-3120 ≤ h 214 m ∧ h 214 m < 520)) (hd : 0 ≤ h 205 l ∧ h 205 l ≤ 3639) (hdep : 1 ≤ dep)
    (k1 : ¬ (h 215 m) = 0 → 0 ≤ w → 0 ≤ w → (h 192 w) ≤ (zage (h 214 m) (h 205 l)) ∧ (zage (h 214 m) (h 205 l)) ≤ (h 193 w) → zW mX11_judge X dep bc bs 239 118 [(0, xR 169), (1, xI l), (2, xI w), (3, xI m), (4, xI ((60 * l) + m)), (6, xI 1)] [xI l, xI m, xI 1, xI w, xR 169] (zst (zst (zst h 219 ((60 * l) + m) 0) 220 ((60 * l) + m) (-1)) 221 ((60 * l) + m) 9) Q)
    (k2 : ¬ (h 215 m) = 0 → 0 ≤ w → 0 ≤ w → ¬ ((h 192 w) ≤ (zage (h 214 m) (h 205 l)) ∧ (zage (h 214 m) (h 205 l)) ≤ (h 193 w)) → Q 239 (zst (zst (zst (zst h 219 ((60 * l) + m) 0) 220 ((60 * l) + m) (-1)) 221 ((60 * l) + m) 9) 219 ((60 * l) + m) 1) [])
    (k3 : ¬ (h 215 m) = 0 → 0 ≤ w → ¬ (0 ≤ w) → (h 192 w) ≤ (zage (h 214 m) (h 205 l)) ∧ (zage (h 214 m) (h 205 l)) ≤ 25 → zW mX11_judge X dep bc bs 239 118 [(0, xR 169), (1, xI l), (2, xI w), (3, xI m), (4, xI ((60 * l) + m)), (6, xI 1)] [xI l, xI m, xI 1, xI w, xR 169] (zst (zst (zst h 219 ((60 * l) + m) 0) 220 ((60 * l) + m) (-1)) 221 ((60 * l) + m) 9) Q)
    (k4 : ¬ (h 215 m) = 0 → 0 ≤ w → ¬ (0 ≤ w) → ¬ ((h 192 w) ≤ (zage (h 214 m) (h 205 l)) ∧ (zage (h 214 m) (h 205 l)) ≤ 25) → Q 239 (zst (zst (zst (zst h 219 ((60 * l) + m) 0) 220 ((60 * l) + m) (-1)) 221 ((60 * l) + m) 9) 219 ((60 * l) + m) 1) [])
    (k5 : ¬ (h 215 m) = 0 → ¬ (0 ≤ w) → 0 ≤ w → 20 ≤ (zage (h 214 m) (h 205 l)) ∧ (zage (h 214 m) (h 205 l)) ≤ (h 193 w) → zW mX11_judge X dep bc bs 239 118 [(0, xR 169), (1, xI l), (2, xI w), (3, xI m), (4, xI ((60 * l) + m)), (6, xI 1)] [xI l, xI m, xI 1, xI w, xR 169] (zst (zst (zst h 219 ((60 * l) + m) 0) 220 ((60 * l) + m) (-1)) 221 ((60 * l) + m) 9) Q)
    (k6 : ¬ (h 215 m) = 0 → ¬ (0 ≤ w) → 0 ≤ w → ¬ (20 ≤ (zage (h 214 m) (h 205 l)) ∧ (zage (h 214 m) (h 205 l)) ≤ (h 193 w)) → Q 239 (zst (zst (zst (zst h 219 ((60 * l) + m) 0) 220 ((60 * l) + m) (-1)) 221 ((60 * l) + m) 9) 219 ((60 * l) + m) 1) [])
    (k7 : ¬ (h 215 m) = 0 → ¬ (0 ≤ w) → ¬ (0 ≤ w) → 20 ≤ (zage (h 214 m) (h 205 l)) ∧ (zage (h 214 m) (h 205 l)) ≤ 25 → zW mX11_judge X dep bc bs 239 118 [(0, xR 169), (1, xI l), (2, xI w), (3, xI m), (4, xI ((60 * l) + m)), (6, xI 1)] [xI l, xI m, xI 1, xI w, xR 169] (zst (zst (zst h 219 ((60 * l) + m) 0) 220 ((60 * l) + m) (-1)) 221 ((60 * l) + m) 9) Q)
    (k8 : ¬ (h 215 m) = 0 → ¬ (0 ≤ w) → ¬ (0 ≤ w) → ¬ (20 ≤ (zage (h 214 m) (h 205 l)) ∧ (zage (h 214 m) (h 205 l)) ≤ 25) → Q 239 (zst (zst (zst (zst h 219 ((60 * l) + m) 0) 220 ((60 * l) + m) (-1)) 221 ((60 * l) + m) 9) 219 ((60 * l) + m) 1) [])
    (k9 : (h 215 m) = 0 → Q 239 (zst (zst (zst h 219 ((60 * l) + m) 0) 220 ((60 * l) + m) (-1)) 221 ((60 * l) + m) 9) []) : zW mX11_judge X dep bc bs 239 0 [(0, xR 169), (1, xI l), (2, xI w), (3, xI m)] [] h Q := by
  refine bX11_judge_0a l w m hl hw hm hb hd hdep (fun c => ?_) k9
  exact bX11_judge_56 l w m _ hl hw hm hdep (k1 c) (k2 c) (k3 c) (k4 c) (k5 c) (k6 c) (k7 c) (k8 c)

set_option maxRecDepth 20000 in
theorem rX11_judge_118_1 {X : zX} {dep bc bs : Nat} (l : Int) (w : Int) (m : Int) (kk : Int) {g : zH} {Q : Nat → zH → List zV → Prop} {P : Int → zH → Prop}
    (hZ : zW mX11_lineOf X (dep - 1) 0 0 239 0 (zar 0 [xR 169, xI w, xI 1, xI m, xI l]) [] g (zQI P)) (hdep : 1 ≤ dep)
    (k : ∀ (v : Int) (g : zH), P v g → zW mX11_judge X dep bc bs 239 121 [(0, xR 169), (1, xI l), (2, xI w), (3, xI m), (4, xI kk), (6, xI 1)] [xI v] g Q) : zW mX11_judge X dep bc bs 239 118 [(0, xR 169), (1, xI l), (2, xI w), (3, xI m), (4, xI kk), (6, xI 1)] [xI l, xI m, xI 1, xI w, xR 169] g Q :=
  z_invQI (ci := 11) (N := 97) (as := [xI w, xI 1, xI m, xI l]) (st := []) (ra := [xI l, xI m, xI 1, xI w]) hZ dX11_judge_118 nX11_lineOf zb_1643 zb_1645 zb_65 zb_92 (zOb.lit (by decide +kernel)) rfl (by omega) (Nat.le_of_ble_eq_true rfl) (Nat.le_of_ble_eq_true rfl) rfl (fun v g hg => k v g hg)

set_option maxRecDepth 20000 in
theorem bX11_judge_121_1 {X : zX} {dep bc bs : Nat} (l : Int) (w : Int) (m : Int) (kk : Int) (y : Int) {g : zH} {Q : Nat → zH → List zV → Prop} (hk : 0 ≤ kk ∧ kk < 240)
    (k1 : 0 ≤ y → Q 239 (zst (zst g 219 kk 2) 220 kk (zrem y 20)) [])
    (k2 : ¬ (0 ≤ y) → zW mX11_judge X dep bc bs 239 118 [(0, xR 169), (1, xI l), (2, xI w), (3, xI m), (4, xI kk), (6, xI 2)] [xI l, xI m, xI 2, xI w, xR 169] g Q) : zW mX11_judge X dep bc bs 239 121 [(0, xR 169), (1, xI l), (2, xI w), (3, xI m), (4, xI kk), (6, xI 1)] [xI y] g Q := by
  refine z_istore (lv' := [(7, xI y), (0, xR 169), (1, xI l), (2, xI w), (3, xI m), (4, xI kk), (6, xI 1)]) dX11_judge_121 (by decide) rfl ?_
  refine z_iload 0 dX11_judge_123 rfl ?_
  refine z_if_ge (tgt := 131) dX11_judge_125 (by decide) (fun c1 => ?_) (fun c1 => ?_)
  ·
    refine z_aload_n 1 dX11_judge_131 rfl ?_
    refine z_getS (v := 219) (k := 72) (kz := 72) pk11 dX11_judge_132 (by decide) zb_1196 rfl (zOb.lit (by decide +kernel)) rfl (by decide +kernel) ?_
    refine z_iload 5 dX11_judge_135 rfl ?_
    refine z_iload 6 dX11_judge_137 rfl ?_
    refine z_iconst dX11_judge_139 (zi32_d rfl) ?_
    refine z_iaddV (v := 2) dX11_judge_140 (by decide) (by decide) (by decide) ?_
    refine z_iast dX11_judge_141 (zOb.lit (by decide +kernel)) hk.1 hk.2 ?_
    refine z_aload_n 1 dX11_judge_142 rfl ?_
    refine z_getS (v := 220) (k := 73) (kz := 73) pk11 dX11_judge_143 (by decide) zb_1197 rfl (zOb.lit (by decide +kernel)) rfl (by decide +kernel) ?_
    refine z_iload 5 dX11_judge_146 rfl ?_
    refine z_iload 0 dX11_judge_148 rfl ?_
    refine z_bipush dX11_judge_150 (zi32_d rfl) (by decide) ?_
    refine z_irem dX11_judge_152 (by decide) ?_
    refine z_iast dX11_judge_153 (zOb.lit (by decide +kernel)) hk.1 hk.2 ?_
    exact z_ret dX11_judge_154 rfl (k1 c1)
  ·
    refine z_goto (tgt := 155) dX11_judge_128 (by decide) ?_
    refine z_iinc (lv' := [(6, xI 2), (7, xI y), (0, xR 169), (1, xI l), (2, xI w), (3, xI m), (4, xI kk)]) 6 dX11_judge_155 rfl (by decide) (by rw [show w32 (1 + 1) = 2 by decide]; rfl) ?_
    refine z_goto (tgt := 106) dX11_judge_158 (by decide) ?_
    refine z_iload 0 dX11_judge_106 rfl ?_
    refine z_iconst dX11_judge_108 (zi32_d rfl) ?_
    refine z_icmp_gt (tgt := 161) dX11_judge_109 (by decide) (fun c => absurd c (by decide)) (fun _ => ?_)
    refine z_aload_n 2 dX11_judge_112 rfl ?_
    refine z_iload_n 4 dX11_judge_113 rfl ?_
    refine z_iload 0 dX11_judge_114 rfl ?_
    refine z_iload_n 5 dX11_judge_116 rfl ?_
    refine z_iload_n 3 dX11_judge_117 rfl ?_
    refine zW.sub (lv' := [(0, xR 169), (1, xI l), (2, xI w), (3, xI m), (4, xI kk), (6, xI 2)]) [2, 3, 4, 5, 6, 0] rfl ?_
    exact k2 c1

set_option maxRecDepth 20000 in
theorem rX11_judge_118_2 {X : zX} {dep bc bs : Nat} (l : Int) (w : Int) (m : Int) (kk : Int) {g : zH} {Q : Nat → zH → List zV → Prop} {P : Int → zH → Prop}
    (hZ : zW mX11_lineOf X (dep - 1) 0 0 239 0 (zar 0 [xR 169, xI w, xI 2, xI m, xI l]) [] g (zQI P)) (hdep : 1 ≤ dep)
    (k : ∀ (v : Int) (g : zH), P v g → zW mX11_judge X dep bc bs 239 121 [(0, xR 169), (1, xI l), (2, xI w), (3, xI m), (4, xI kk), (6, xI 2)] [xI v] g Q) : zW mX11_judge X dep bc bs 239 118 [(0, xR 169), (1, xI l), (2, xI w), (3, xI m), (4, xI kk), (6, xI 2)] [xI l, xI m, xI 2, xI w, xR 169] g Q :=
  z_invQI (ci := 11) (N := 97) (as := [xI w, xI 2, xI m, xI l]) (st := []) (ra := [xI l, xI m, xI 2, xI w]) hZ dX11_judge_118 nX11_lineOf zb_1643 zb_1645 zb_65 zb_92 (zOb.lit (by decide +kernel)) rfl (by omega) (Nat.le_of_ble_eq_true rfl) (Nat.le_of_ble_eq_true rfl) rfl (fun v g hg => k v g hg)

set_option maxRecDepth 20000 in
theorem bX11_judge_121_2 {X : zX} {dep bc bs : Nat} (l : Int) (w : Int) (m : Int) (kk : Int) (y : Int) {g : zH} {Q : Nat → zH → List zV → Prop} (hk : 0 ≤ kk ∧ kk < 240)
    (k1 : 0 ≤ y → Q 239 (zst (zst g 219 kk 3) 220 kk (zrem y 20)) [])
    (k2 : ¬ (0 ≤ y) → zW mX11_judge X dep bc bs 239 174 [(0, xR 169), (1, xI l), (2, xI w), (3, xI m), (4, xI kk)] [xI l, xI m, xI 3, xI w, xR 169] (zst g 219 kk 4) Q) : zW mX11_judge X dep bc bs 239 121 [(0, xR 169), (1, xI l), (2, xI w), (3, xI m), (4, xI kk), (6, xI 2)] [xI y] g Q := by
  refine z_istore (lv' := [(7, xI y), (0, xR 169), (1, xI l), (2, xI w), (3, xI m), (4, xI kk), (6, xI 2)]) dX11_judge_121 (by decide) rfl ?_
  refine z_iload 0 dX11_judge_123 rfl ?_
  refine z_if_ge (tgt := 131) dX11_judge_125 (by decide) (fun c1 => ?_) (fun c1 => ?_)
  ·
    refine z_aload_n 1 dX11_judge_131 rfl ?_
    refine z_getS (v := 219) (k := 72) (kz := 72) pk11 dX11_judge_132 (by decide) zb_1196 rfl (zOb.lit (by decide +kernel)) rfl (by decide +kernel) ?_
    refine z_iload 5 dX11_judge_135 rfl ?_
    refine z_iload 6 dX11_judge_137 rfl ?_
    refine z_iconst dX11_judge_139 (zi32_d rfl) ?_
    refine z_iaddV (v := 3) dX11_judge_140 (by decide) (by decide) (by decide) ?_
    refine z_iast dX11_judge_141 (zOb.lit (by decide +kernel)) hk.1 hk.2 ?_
    refine z_aload_n 1 dX11_judge_142 rfl ?_
    refine z_getS (v := 220) (k := 73) (kz := 73) pk11 dX11_judge_143 (by decide) zb_1197 rfl (zOb.lit (by decide +kernel)) rfl (by decide +kernel) ?_
    refine z_iload 5 dX11_judge_146 rfl ?_
    refine z_iload 0 dX11_judge_148 rfl ?_
    refine z_bipush dX11_judge_150 (zi32_d rfl) (by decide) ?_
    refine z_irem dX11_judge_152 (by decide) ?_
    refine z_iast dX11_judge_153 (zOb.lit (by decide +kernel)) hk.1 hk.2 ?_
    exact z_ret dX11_judge_154 rfl (k1 c1)
  ·
    refine z_goto (tgt := 155) dX11_judge_128 (by decide) ?_
    refine z_iinc (lv' := [(6, xI 3), (7, xI y), (0, xR 169), (1, xI l), (2, xI w), (3, xI m), (4, xI kk)]) 6 dX11_judge_155 rfl (by decide) (by rw [show w32 (2 + 1) = 3 by decide]; rfl) ?_
    refine z_goto (tgt := 106) dX11_judge_158 (by decide) ?_
    refine z_iload 0 dX11_judge_106 rfl ?_
    refine z_iconst dX11_judge_108 (zi32_d rfl) ?_
    refine z_icmp_gt (tgt := 161) dX11_judge_109 (by decide) (fun _ => ?_) (fun c => absurd c (by decide))
    refine z_aload_n 2 dX11_judge_161 rfl ?_
    refine z_getS (v := 219) (k := 72) (kz := 72) pk11 dX11_judge_162 (by decide) zb_1196 rfl (zOb.lit (by decide +kernel)) rfl (by decide +kernel) ?_
    refine z_iload 6 dX11_judge_165 rfl ?_
    refine z_iconst dX11_judge_167 (zi32_d rfl) ?_
    refine z_iast dX11_judge_168 (zOb.lit (by decide +kernel)) hk.1 hk.2 ?_
    refine z_aload_n 2 dX11_judge_169 rfl ?_
    refine z_iload_n 4 dX11_judge_170 rfl ?_
    refine z_iconst dX11_judge_171 (zi32_d rfl) ?_
    refine z_iload_n 5 dX11_judge_172 rfl ?_
    refine z_iload_n 3 dX11_judge_173 rfl ?_
    refine zW.sub (lv' := [(0, xR 169), (1, xI l), (2, xI w), (3, xI m), (4, xI kk)]) [2, 3, 4, 5, 6] rfl ?_
    exact k2 c1

set_option maxRecDepth 20000 in
theorem rX11_judge_174 {X : zX} {dep bc bs : Nat} (l : Int) (w : Int) (m : Int) (kk : Int) {g : zH} {Q : Nat → zH → List zV → Prop} {P : Int → zH → Prop}
    (hZ : zW mX11_lineOf X (dep - 1) 0 0 239 0 (zar 0 [xR 169, xI w, xI 3, xI m, xI l]) [] g (zQI P)) (hdep : 1 ≤ dep)
    (k : ∀ (v : Int) (g : zH), P v g → zW mX11_judge X dep bc bs 239 177 [(0, xR 169), (1, xI l), (2, xI w), (3, xI m), (4, xI kk)] [xI v] g Q) : zW mX11_judge X dep bc bs 239 174 [(0, xR 169), (1, xI l), (2, xI w), (3, xI m), (4, xI kk)] [xI l, xI m, xI 3, xI w, xR 169] g Q :=
  z_invQI (ci := 11) (N := 97) (as := [xI w, xI 3, xI m, xI l]) (st := []) (ra := [xI l, xI m, xI 3, xI w]) hZ dX11_judge_174 nX11_lineOf zb_1643 zb_1645 zb_65 zb_92 (zOb.lit (by decide +kernel)) rfl (by omega) (Nat.le_of_ble_eq_true rfl) (Nat.le_of_ble_eq_true rfl) rfl (fun v g hg => k v g hg)

set_option maxRecDepth 20000 in
theorem bX11_judge_177 {X : zX} {dep bc bs : Nat} (l : Int) (w : Int) (m : Int) (kk : Int) (y : Int) {g : zH} {Q : Nat → zH → List zV → Prop} (hk : 0 ≤ kk ∧ kk < 240) (hy : y < 180)
    (k1 : 0 ≤ y → Q 239 (zst (zst g 220 kk (zrem y 20)) 221 kk (g 197 y)) [])
    (k2 : ¬ (0 ≤ y) → Q 239 g []) : zW mX11_judge X dep bc bs 239 177 [(0, xR 169), (1, xI l), (2, xI w), (3, xI m), (4, xI kk)] [xI y] g Q := by
  refine z_istore (lv' := [(6, xI y), (0, xR 169), (1, xI l), (2, xI w), (3, xI m), (4, xI kk)]) dX11_judge_177 (by decide) rfl ?_
  refine z_iload 0 dX11_judge_179 rfl ?_
  refine z_if_ge (tgt := 185) dX11_judge_181 (by decide) (fun c1 => ?_) (fun c1 => ?_)
  ·
    refine z_aload_n 1 dX11_judge_185 rfl ?_
    refine z_getS (v := 220) (k := 73) (kz := 73) pk11 dX11_judge_186 (by decide) zb_1197 rfl (zOb.lit (by decide +kernel)) rfl (by decide +kernel) ?_
    refine z_iload 5 dX11_judge_189 rfl ?_
    refine z_iload 0 dX11_judge_191 rfl ?_
    refine z_bipush dX11_judge_193 (zi32_d rfl) (by decide) ?_
    refine z_irem dX11_judge_195 (by decide) ?_
    refine z_iast dX11_judge_196 (zOb.lit (by decide +kernel)) hk.1 hk.2 ?_
    refine z_aload_n 1 dX11_judge_197 rfl ?_
    refine z_getS (v := 221) (k := 74) (kz := 74) pk11 dX11_judge_198 (by decide) zb_1198 rfl (zOb.lit (by decide +kernel)) rfl (by decide +kernel) ?_
    refine z_iload 5 dX11_judge_201 rfl ?_
    refine z_aload_n 1 dX11_judge_203 rfl ?_
    refine z_getS (v := 197) (k := 37) (kz := 37) pk11 dX11_judge_204 (by decide) zb_1161 rfl (zOb.lit (by decide +kernel)) rfl (by decide +kernel) ?_
    refine z_iload 0 dX11_judge_207 rfl ?_
    refine z_ialdV (v := (g 197 y)) dX11_judge_209 (zOb.lit (by decide +kernel)) (show 0 ≤ y ∧ y < 180 from ⟨by omega, by omega⟩).1 (show 0 ≤ y ∧ y < 180 from ⟨by omega, by omega⟩).2 (zst_ne (Or.inl (by decide))) ?_
    refine z_iast dX11_judge_210 (zOb.lit (by decide +kernel)) hk.1 hk.2 ?_
    exact z_ret dX11_judge_211 rfl (k1 c1)
  ·
    exact z_ret dX11_judge_184 rfl (k2 c1)

/-- where the model reads, to judge -/
abbrev mRd : List Int := [214, 205, 217, 218, 215, 173, 230, 169, 172, 201, 202, 203, 195, 196, 197, 198, 199, 192, 193]
theorem mdp_ag {S : List Int} {h g : zH} (ha : zag S h g) (h1 : (201 : Int) ∉ S) (a : Int) : ∀ n : Nat, mdp g a n = mdp h a n
  | 0 => rfl
  | n + 1 => by
    unfold mdp
    rw [mdp_ag ha h1 a n, ha 201 _ h1]
theorem mat_ag {S : List Int} {h g : zH} (ha : zag S h g) (hS : ∀ o ∈ mRd, o ∉ S) (k m l : Int) : mat g k m l = mat h k m l := by
  unfold mat
  rw [ha 201 k (hS _ (by decide)), ha 202 k (hS _ (by decide)), ha 203 k (hS _ (by decide)), mnum_ag ha (fun o ho => hS o (by revert o; decide)), mBro_ag ha (hS _ (by decide)) (hS _ (by decide)), ha 169 _ (hS _ (by decide)), ha 217 _ (hS _ (by decide))]
theorem mstk_ag {S : List Int} {h g : zH} (ha : zag S h g) (hS : ∀ o ∈ mRd, o ∉ S) (m l a : Int) : ∀ n : Nat, mstk g m l a n = mstk h m l a n
  | 0 => rfl
  | n + 1 => by
    funext q
    unfold mstk
    rw [mstk_ag ha hS m l a n, mdp_ag ha (hS _ (by decide)) a n, mat_ag ha hS, ha 201 _ (hS _ (by decide))]
theorem mGood_ag {S : List Int} {h g : zH} (ha : zag S h g) (h1 : (201 : Int) ∉ S) {a : Int} {n : Nat} (hg : mGood h a n) : mGood g a n := fun j hj => by
  rw [mdp_ag ha h1, ha 201 _ h1]
  exact hg j hj
theorem mSo_ag {S : List Int} {h g : zH} (ha : zag S h g) (hS : ∀ o ∈ mRd, o ∉ S) (w x m l : Int) : mSo g w x m l = mSo h w x m l := by
  unfold mSo
  rw [ha 198 _ (hS _ (by decide)), ha 199 _ (hS _ (by decide)), mdp_ag ha (hS _ (by decide)), mstk_ag ha hS]
theorem mPer_ag {S : List Int} {h g : zH} (ha : zag S h g) (hS : ∀ o ∈ mRd, o ∉ S) {m l : Int} (hp : mPer h m l) : mPer g m l := by
  unfold mPer
  rw [ha 169 _ (hS _ (by decide)), ha 214 _ (hS _ (by decide)), ha 205 _ (hS _ (by decide))]
  exact hp
/-- a law that can be read -/
def mLOK (h : zH) (w : Int) : Prop := (0 ≤ h 195 w ∧ h 195 w ≤ 20) ∧ ∀ i : Int, 0 ≤ i → i < h 195 w → (0 ≤ h 198 (20 * w + i) ∧ h 198 (20 * w + i) ≤ h 199 (20 * w + i) ∧ h 199 (20 * w + i) ≤ 130) ∧ mGood h (130 * w + h 198 (20 * w + i)) (h 199 (20 * w + i) - h 198 (20 * w + i)).toNat
theorem mLOK_ag {S : List Int} {h g : zH} (ha : zag S h g) (hS : ∀ o ∈ mRd, o ∉ S) {w : Int} (hp : mLOK h w) : mLOK g w := by
  unfold mLOK
  rw [ha 195 _ (hS _ (by decide))]
  refine ⟨hp.1, fun i i0 i1 => ?_⟩
  have e := hp.2 i i0 i1
  rw [ha 198 _ (hS _ (by decide)), ha 199 _ (hS _ (by decide))]
  exact ⟨e.1, mGood_ag ha (hS _ (by decide)) e.2⟩
/-- the first line of a kind that holds -/
noncomputable def mlf (h : zH) (w kd m l : Int) : Nat → Int → Int
  | 0, _ => -1
  | n + 1, i => @ite Int (h 196 (20 * w + i) = kd ∧ mSo h w (20 * w + i) m l) (Classical.propDecidable _) (20 * w + i) (mlf h w kd m l n (i + 1))
noncomputable def mline (h : zH) (w kd m l : Int) : Int := if w < 0 then -1 else mlf h w kd m l (h 195 w).toNat 0
theorem mlf_ag {S : List Int} {h g : zH} (ha : zag S h g) (hS : ∀ o ∈ mRd, o ∉ S) (w kd m l : Int) : ∀ (n : Nat) (i : Int), mlf g w kd m l n i = mlf h w kd m l n i
  | 0, _ => rfl
  | n + 1, i => by
    unfold mlf
    rw [ha 196 _ (hS _ (by decide)), mSo_ag ha hS, mlf_ag ha hS w kd m l n (i + 1)]
theorem mline_ag {S : List Int} {h g : zH} (ha : zag S h g) (hS : ∀ o ∈ mRd, o ∉ S) (w kd m l : Int) : mline g w kd m l = mline h w kd m l := by
  unfold mline
  rw [ha 195 _ (hS _ (by decide)), mlf_ag ha hS]
theorem mlf_in (h : zH) (w kd m l : Int) : ∀ (n : Nat) (i : Int), 0 ≤ i → mlf h w kd m l n i = -1 ∨ (20 * w + i ≤ mlf h w kd m l n i ∧ mlf h w kd m l n i < 20 * w + i + n)
  | 0, _, _ => Or.inl rfl
  | n + 1, i, h0 => by
    by_cases c : h 196 (20 * w + i) = kd ∧ mSo h w (20 * w + i) m l
    · rw [show mlf h w kd m l (n + 1) i = 20 * w + i from if_pos c]
      right
      omega
    · rw [show mlf h w kd m l (n + 1) i = mlf h w kd m l n (i + 1) from if_neg c]
      rcases mlf_in h w kd m l n (i + 1) (by omega) with e | e
      · exact Or.inl e
      · right
        omega
theorem mline_in {h : zH} {w : Int} (hw : w < 8) (hok : 0 ≤ w → mLOK h w) (kd m l : Int) : mline h w kd m l = -1 ∨ ((0 ≤ w ∧ 20 * w ≤ mline h w kd m l ∧ mline h w kd m l < 20 * w + h 195 w) ∧ 0 ≤ mline h w kd m l ∧ mline h w kd m l < 160) := by
  unfold mline
  split
  · exact Or.inl rfl
  · rename_i c
    have e1 := (hok (by omega)).1
    rcases mlf_in h w kd m l (h 195 w).toNat 0 (Int.le_refl _) with e | e
    · exact Or.inl e
    · right
      omega
theorem f_X11_lineOf {X : zX} {dep : Nat} (w kd m l : Int) {h : zH} (hp : mPer h m l) (hw : w < 8) (hok : 0 ≤ w → mLOK h w) (hdep : 4 ≤ dep) :
    zW mX11_lineOf X dep 0 0 239 0 (zar 0 [xR 169, xI w, xI kd, xI m, xI l]) [] h (zQI (fun v g => zag [231] h g ∧ v = mline h w kd m l)) := by
  refine bX11_lineOf_0 w kd m l hw (fun c => ?_) (fun c => ?_)
  · have ok := hok c
    have main : ∀ (n : Nat) (i : Int) (g : zH), 0 ≤ i → i + n = h 195 w → zag [231] h g → zW mX11_lineOf X dep 0 0 239 12 [(0, xR 169), (1, xI w), (2, xI kd), (3, xI m), (4, xI l), (5, xI (20 * w + i))] [] g (zQI (fun v g => zag [231] h g ∧ v = mlf h w kd m l n i)) := by
      intro n
      induction n with
      | zero =>
        intro i g h0 hk ha
        have e1 := ha 195 w (by decide)
        refine bX11_lineOf_12 w kd m l _ ⟨c, hw⟩ (by rw [e1]; exact ok.1) (by have := ok.1; omega) (by omega) ?_ ?_ ?_
        · intro c1
          exact ⟨rfl, _, rfl, ha, rfl⟩
        all_goals
          intro c1
          exfalso
          omega
      | succ n ih =>
        intro i g h0 hk ha
        have e1 := ha 195 w (by decide)
        have e2 := ha 196 (20 * w + i) (by decide)
        have oki := ok.2 i h0 (by omega)
        have no : ∀ g' : zH, zag [231] h g' → ¬ (h 196 (20 * w + i) = kd ∧ mSo h w (20 * w + i) m l) → zW mX11_lineOf X dep 0 0 239 12 [(0, xR 169), (1, xI w), (2, xI kd), (3, xI m), (4, xI l), (5, xI (20 * w + i + 1))] [] g' (zQI (fun v g => zag [231] h g ∧ v = mlf h w kd m l (n + 1) i)) := fun g' ha' c2 => by
          have := ih (i + 1) g' (by omega) (by omega) ha'
          rw [show mlf h w kd m l (n + 1) i = mlf h w kd m l n (i + 1) from if_neg c2, show 20 * w + i + 1 = 20 * w + (i + 1) by omega]
          exact this
        refine bX11_lineOf_12 w kd m l _ ⟨c, hw⟩ (by rw [e1]; exact ok.1) (by have := ok.1; omega) (by have := ok.1; omega) ?_ ?_ ?_
        · intro c1
          exfalso
          omega
        · intro c1 c2
          exact no g ha (fun z => c2 (e2.trans z.1))
        · intro c1 c2
          rw [e2] at c2
          refine rX11_lineOf_46 w kd m l _ (P := fun v g' => zag [231] g g' ∧ v = zb (mSo g w (20 * w + i) m l)) (f_X11_isSo w (20 * w + i) m l (mPer_ag ha (by decide) hp) ⟨c, hw⟩ (by have := ok.1; omega) (by rw [ha 198 _ (by decide), ha 199 _ (by decide)]; exact oki.1) (by rw [ha 198 _ (by decide), ha 199 _ (by decide)]; exact mGood_ag ha (by decide) oki.2) (by omega)) (by omega) (fun v g' hg => ?_)
          have ha' : zag [231] h g' := ha.tr hg.1
          have hv := hg.2
          rw [mSo_ag ha (by decide)] at hv
          refine bX11_lineOf_49 w kd m l _ v (by have := ok.1; omega) ?_ ?_
          · intro c3
            refine no g' ha' (fun z => ?_)
            rw [zb_t z.2] at hv
            omega
          · intro c3
            refine ⟨rfl, _, rfl, ha', ?_⟩
            refine (if_pos ⟨c2, ?_⟩ : mlf h w kd m l (n + 1) i = 20 * w + i).symm
            by_cases z : mSo h w (20 * w + i) m l
            · exact z
            · rw [zb_f z] at hv
              exact absurd hv c3
    have e0 := main (h 195 w).toNat 0 h (Int.le_refl _) (by have := ok.1; omega) (zag.rf _ _)
    rw [Int.add_zero] at e0
    rw [show mline h w kd m l = mlf h w kd m l (h 195 w).toNat 0 from if_neg (by omega)]
    exact e0
  · exact ⟨rfl, _, rfl, zag.rf _ _, by unfold mline; rw [if_pos (by omega)]⟩
/-- what a man is, by the law -/
noncomputable def mjs (h : zH) (l w m : Int) : Int :=
  if h 215 m = 0 then 0 else if (if w < 0 then 20 else h 192 w) ≤ zage (h 214 m) (h 205 l) ∧ zage (h 214 m) (h 205 l) ≤ (if w < 0 then 25 else h 193 w) then (if 0 ≤ mline h w 1 m l then 2 else if 0 ≤ mline h w 2 m l then 3 else 4) else 1
noncomputable def mjt (h : zH) (l w m : Int) : Int := if mjs h l w m = 2 then mline h w 1 m l % 20 else if mjs h l w m = 3 then mline h w 2 m l % 20 else if mjs h l w m = 4 ∧ 0 ≤ mline h w 3 m l then mline h w 3 m l % 20 else -1
noncomputable def mjc (h : zH) (l w m : Int) : Int := if mjs h l w m = 4 ∧ 0 ≤ mline h w 3 m l then h 197 (mline h w 3 m l) else 9
def mJd (h : zH) (l w m : Int) (g : zH) : Prop := zag [219, 220, 221, 231] h g ∧ (∀ q : Int, q ≠ 60 * l + m → g 219 q = h 219 q ∧ g 220 q = h 220 q ∧ g 221 q = h 221 q) ∧ g 219 (60 * l + m) = mjs h l w m ∧ g 220 (60 * l + m) = mjt h l w m ∧ g 221 (60 * l + m) = mjc h l w m
abbrev mJS : List Int := [219, 220, 221, 231]
theorem zrem_eq {a b : Int} (h0 : 0 ≤ a) (h1 : a < 2147483648) (h2 : 0 < b) (h3 : b < 2147483648) : zrem a b = a % b := by
  have q0 : 0 ≤ a / b := Int.ediv_nonneg h0 (by omega)
  have q1 : a / b ≤ a := Int.ediv_le_self b h0
  have e1 : Int32.ofInt a / Int32.ofInt b = Int32.ofInt (a / b) := by
    rw [← Int32.toInt_inj, Int32.toInt_ofInt_of_le (by omega) (by omega)]
    exact zdiv_eq h0 h1 h2 h3
  have r0 := Int.emod_nonneg a (show b ≠ 0 by omega)
  have r1 := Int.emod_lt_of_pos a h2
  have e2 : a - a / b * b = a % b := by
    have := Int.emod_def a b
    rw [Int.mul_comm] at this
    omega
  unfold zrem
  rw [e1, ← Int32.ofInt_mul, ← Int32.ofInt_sub, e2, Int32.toInt_ofInt_of_le (by omega) (by omega)]
theorem zrem20 {y : Int} (h0 : 0 ≤ y) (h1 : y < 180) : zrem y 20 = y % 20 := zrem_eq h0 (by omega) (by decide) (by decide)
theorem mJd_of {h g : zH} {l w m s t c : Int} (ha : zag [219, 220, 221, 231] h g) (hq : ∀ q : Int, q ≠ 60 * l + m → g 219 q = h 219 q ∧ g 220 q = h 220 q ∧ g 221 q = h 221 q) (h1 : g 219 (60 * l + m) = s) (h2 : g 220 (60 * l + m) = t) (h3 : g 221 (60 * l + m) = c) (e1 : mjs h l w m = s) (e2 : mjt h l w m = t) (e3 : mjc h l w m = c) : mJd h l w m g := ⟨ha, hq, h1.trans e1.symm, h2.trans e2.symm, h3.trans e3.symm⟩
theorem l_X11_judge_118 {X : zX} {dep : Nat} (l w m : Int) {h g0 : zH} (hm : 0 ≤ h 169 25 ∧ h 169 25 ≤ 60) (hx : 0 ≤ m ∧ m < 60) (hl : 0 ≤ l ∧ l < 4) (hb : h 215 m = 0 ∨ (-3120 ≤ h 214 m ∧ h 214 m < 520)) (hd : 0 ≤ h 205 l ∧ h 205 l ≤ 3639) (hw : w < 8) (hok : 0 ≤ w → mLOK h w) (hdep : 5 ≤ dep) (a0 : zag mJS h g0) (q0 : ∀ q : Int, q ≠ 60 * l + m → g0 219 q = h 219 q ∧ g0 220 q = h 220 q ∧ g0 221 q = h 221 q) (s0 : g0 219 (60 * l + m) = 0) (t0 : g0 220 (60 * l + m) = -1) (c0 : g0 221 (60 * l + m) = 9) (c : h 215 m ≠ 0) (es : mjs h l w m = (if 0 ≤ mline h w 1 m l then 2 else if 0 ≤ mline h w 2 m l then 3 else 4)) :
    zW mX11_judge X dep 0 0 239 118 [(0, xR 169), (1, xI l), (2, xI w), (3, xI m), (4, xI (60 * l + m)), (6, xI 1)] [xI l, xI m, xI 1, xI w, xR 169] g0 (zQ0 (mJd h l w m)) := by
  have hk : 0 ≤ 60 * l + m ∧ 60 * l + m < 240 := by omega
  have er : ∀ kd : Int, mline g0 w kd m l = mline h w kd m l := fun kd => mline_ag a0 (by decide) w kd m l
  have dis : ∀ g : zH, zag [231] g0 g → zag mJS h g ∧ (∀ q : Int, g 219 q = g0 219 q ∧ g 220 q = g0 220 q ∧ g 221 q = g0 221 q) := fun g hg => ⟨a0.tr (hg.mono (by decide)), fun q => ⟨hg 219 q (by decide), hg 220 q (by decide), hg 221 q (by decide)⟩⟩
  have nin : h 215 m ≠ 0 → mPer h m l := fun c => ⟨hm, hx, hl, hb.elim (fun z => absurd z c) id, hd⟩
  have hp := nin c
  have i1 := mline_in hw hok 1 m l
  have i2 := mline_in hw hok 2 m l
  have i3 := mline_in hw hok 3 m l
  refine rX11_judge_118_1 l w m _ (f_X11_lineOf w 1 m l (mPer_ag a0 (by decide) hp) hw (fun z => mLOK_ag a0 (by decide) (hok z)) (by omega)) (by omega) (fun v g hg => ?_)
  obtain ⟨hg, hv⟩ := hg
  rw [er] at hv
  obtain ⟨ha1, hq1⟩ := dis g hg
  refine bX11_judge_121_1 l w m _ v hk ?_ ?_
  · intro c1
    rw [hv] at c1 ⊢
    rw [if_pos c1] at es
    refine ⟨rfl, rfl, mJd_of (s := 2) (t := mline h w 1 m l % 20) (c := 9) ((ha1.st (by decide) _ _).st (by decide) _ _) (fun q hq => ?_) ?_ ?_ ?_ es ?_ ?_⟩
    · rw [zst_ne (Or.inr hq), zst_ne (Or.inr hq), zst_ne (Or.inr hq), zst_ne (Or.inr hq), zst_ne (Or.inr hq), zst_ne (Or.inr hq), (hq1 q).1, (hq1 q).2.1, (hq1 q).2.2]
      exact q0 q hq
    · rw [zst_ne (Or.inl (by decide)), zst_self]
    · rw [zst_self, zrem20 c1 (by omega)]
    · rw [zst_ne (Or.inl (by decide)), zst_ne (Or.inl (by decide)), (hq1 _).2.2, c0]
    · unfold mjt
      rw [if_pos es]
    · unfold mjc
      rw [if_neg (by omega)]
  · intro c1
    rw [hv] at c1
    rw [if_neg c1] at es
    refine rX11_judge_118_2 l w m _ (f_X11_lineOf w 2 m l (mPer_ag ha1 (by decide) hp) hw (fun z => mLOK_ag ha1 (by decide) (hok z)) (by omega)) (by omega) (fun v2 g2 hg2 => ?_)
    obtain ⟨hg2, hv2⟩ := hg2
    rw [mline_ag ha1 (by decide)] at hv2
    obtain ⟨ha2, hq2⟩ := dis g2 (hg.tr hg2)
    refine bX11_judge_121_2 l w m _ v2 hk ?_ ?_
    · intro c2
      rw [hv2] at c2 ⊢
      rw [if_pos c2] at es
      refine ⟨rfl, rfl, mJd_of (s := 3) (t := mline h w 2 m l % 20) (c := 9) ((ha2.st (by decide) _ _).st (by decide) _ _) (fun q hq => ?_) ?_ ?_ ?_ es ?_ ?_⟩
      · rw [zst_ne (Or.inr hq), zst_ne (Or.inr hq), zst_ne (Or.inr hq), zst_ne (Or.inr hq), zst_ne (Or.inr hq), zst_ne (Or.inr hq), (hq2 q).1, (hq2 q).2.1, (hq2 q).2.2]
        exact q0 q hq
      · rw [zst_ne (Or.inl (by decide)), zst_self]
      · rw [zst_self, zrem20 c2 (by omega)]
      · rw [zst_ne (Or.inl (by decide)), zst_ne (Or.inl (by decide)), (hq2 _).2.2, c0]
      · unfold mjt
        rw [if_neg (by omega), if_pos es]
      · unfold mjc
        rw [if_neg (by omega)]
    · intro c2
      rw [hv2] at c2
      rw [if_neg c2] at es
      have ha3 : zag mJS h (zst g2 219 (60 * l + m) 4) := ha2.st (by decide) _ _
      refine rX11_judge_174 l w m _ (f_X11_lineOf w 3 m l (mPer_ag ha3 (by decide) hp) hw (fun z => mLOK_ag ha3 (by decide) (hok z)) (by omega)) (by omega) (fun v3 g3 hg3 => ?_)
      obtain ⟨hg3, hv3⟩ := hg3
      rw [mline_ag ha3 (by decide)] at hv3
      have ha4 : zag mJS h g3 := ha3.tr (hg3.mono (by decide))
      have h219 : ∀ q : Int, g3 219 q = if q = 60 * l + m then 4 else g0 219 q := fun q => by
        rw [hg3 219 q (by decide), zst_or, (hq2 q).1]
      have h220 : ∀ q : Int, g3 220 q = g0 220 q := fun q => by
        rw [hg3 220 q (by decide), zst_ne (Or.inl (by decide)), (hq2 q).2.1]
      have h221 : ∀ q : Int, g3 221 q = g0 221 q := fun q => by
        rw [hg3 221 q (by decide), zst_ne (Or.inl (by decide)), (hq2 q).2.2]
      refine bX11_judge_177 l w m _ v3 hk (by omega) ?_ ?_
      · intro c3
        rw [hv3] at c3 ⊢
        refine ⟨rfl, rfl, mJd_of (s := 4) (t := mline h w 3 m l % 20) (c := h 197 (mline h w 3 m l)) ((ha4.st (by decide) _ _).st (by decide) _ _) (fun q hq => ?_) ?_ ?_ ?_ es ?_ ?_⟩
        · rw [zst_ne (Or.inr hq), zst_ne (Or.inr hq), zst_ne (Or.inr hq), zst_ne (Or.inr hq), zst_ne (Or.inr hq), zst_ne (Or.inr hq), h219, h220, h221, if_neg hq]
          exact q0 q hq
        · rw [zst_ne (Or.inl (by decide)), zst_ne (Or.inl (by decide)), h219, if_pos rfl]
        · rw [zst_ne (Or.inl (by decide)), zst_self, zrem20 c3 (by omega)]
        · rw [zst_self, ha4 197 _ (by decide)]
        · unfold mjt
          rw [if_neg (by omega), if_neg (by omega), if_pos ⟨es, c3⟩]
        · unfold mjc
          rw [if_pos ⟨es, c3⟩]
      · intro c3
        rw [hv3] at c3
        refine ⟨rfl, rfl, mJd_of (s := 4) (t := -1) (c := 9) ha4 (fun q hq => ?_) ?_ ?_ ?_ es ?_ ?_⟩
        · rw [h219, h220, h221, if_neg hq]
          exact q0 q hq
        · rw [h219, if_pos rfl]
        · rw [h220, t0]
        · rw [h221, c0]
        · unfold mjt
          rw [if_neg (by omega), if_neg (by omega), if_neg (fun z => c3 z.2)]
        · unfold mjc
          rw [if_neg (fun z => c3 z.2)]
theorem l_X11_judge_1 (l w m : Int) {h g0 : zH} (a0 : zag mJS h g0) (q0 : ∀ q : Int, q ≠ 60 * l + m → g0 219 q = h 219 q ∧ g0 220 q = h 220 q ∧ g0 221 q = h 221 q) (s0 : g0 219 (60 * l + m) = 0) (t0 : g0 220 (60 * l + m) = -1) (c0 : g0 221 (60 * l + m) = 9) (es : mjs h l w m = 1) : zQ0 (mJd h l w m) 239 (zst g0 219 (60 * l + m) 1) [] := by
  refine ⟨rfl, rfl, mJd_of (s := 1) (t := -1) (c := 9) (a0.st (by decide) _ _) (fun q hq => ?_) ?_ ?_ ?_ es ?_ ?_⟩
  · rw [zst_ne (Or.inr hq), zst_ne (Or.inr hq), zst_ne (Or.inr hq)]
    exact q0 q hq
  · rw [zst_self]
  · rw [zst_ne (Or.inl (by decide)), t0]
  · rw [zst_ne (Or.inl (by decide)), c0]
  · unfold mjt
    rw [if_neg (by omega), if_neg (by omega), if_neg (by omega)]
  · unfold mjc
    rw [if_neg (by omega)]
theorem f_X11_judge {X : zX} {dep : Nat} (l w m : Int) {h : zH} (hm : 0 ≤ h 169 25 ∧ h 169 25 ≤ 60) (hx : 0 ≤ m ∧ m < 60) (hl : 0 ≤ l ∧ l < 4) (hb : h 215 m = 0 ∨ (-3120 ≤ h 214 m ∧ h 214 m < 520)) (hd : 0 ≤ h 205 l ∧ h 205 l ≤ 3639) (hw : w < 8) (hok : 0 ≤ w → mLOK h w) (hdep : 5 ≤ dep) :
    zW mX11_judge X dep 0 0 239 0 (zar 0 [xR 169, xI l, xI w, xI m]) [] h (zQ0 (mJd h l w m)) := by
  have a0 : zag [219, 220, 221, 231] h (zst (zst (zst h 219 (60 * l + m) 0) 220 (60 * l + m) (-1)) 221 (60 * l + m) 9) := (((zag.rf _ h).st (by decide) _ _).st (by decide) _ _).st (by decide) _ _
  have q0 : ∀ q : Int, q ≠ 60 * l + m → zst (zst (zst h 219 (60 * l + m) 0) 220 (60 * l + m) (-1)) 221 (60 * l + m) 9 219 q = h 219 q ∧ zst (zst (zst h 219 (60 * l + m) 0) 220 (60 * l + m) (-1)) 221 (60 * l + m) 9 220 q = h 220 q ∧ zst (zst (zst h 219 (60 * l + m) 0) 220 (60 * l + m) (-1)) 221 (60 * l + m) 9 221 q = h 221 q := fun q hq => by
    rw [zst_ne (Or.inr hq), zst_ne (Or.inr hq), zst_ne (Or.inr hq), zst_ne (Or.inr hq), zst_ne (Or.inr hq), zst_ne (Or.inr hq), zst_ne (Or.inr hq), zst_ne (Or.inr hq), zst_ne (Or.inr hq)]
    exact ⟨rfl, rfl, rfl⟩
  have s0 : zst (zst (zst h 219 (60 * l + m) 0) 220 (60 * l + m) (-1)) 221 (60 * l + m) 9 219 (60 * l + m) = 0 := by
    rw [zst_ne (Or.inl (by decide)), zst_ne (Or.inl (by decide)), zst_self]
  have t0 : zst (zst (zst h 219 (60 * l + m) 0) 220 (60 * l + m) (-1)) 221 (60 * l + m) 9 220 (60 * l + m) = -1 := by
    rw [zst_ne (Or.inl (by decide)), zst_self]
  have c0 : zst (zst (zst h 219 (60 * l + m) 0) 220 (60 * l + m) (-1)) 221 (60 * l + m) 9 221 (60 * l + m) = 9 := zst_self _ _ _ _
  refine bX11_judge_0 l w m hl hw hx hb hd (by omega) ?_ ?_ ?_ ?_ ?_ ?_ ?_ ?_ ?_
  all_goals generalize zst (zst (zst h 219 (60 * l + m) 0) 220 (60 * l + m) (-1)) 221 (60 * l + m) 9 = g0 at a0 q0 s0 t0 c0 ⊢
  · intro c c1 c2 c3
    refine l_X11_judge_118 l w m hm hx hl hb hd hw hok hdep a0 q0 s0 t0 c0 c ?_
    have e1 : (if w < 0 then 20 else h 192 w) = h 192 w := if_neg (by omega)
    have e2 : (if w < 0 then 25 else h 193 w) = h 193 w := if_neg (by omega)
    unfold mjs
    rw [if_neg c, e1, e2, if_pos c3]
  · intro c c1 c2 c3
    refine l_X11_judge_1 l w m a0 q0 s0 t0 c0 ?_
    have e1 : (if w < 0 then 20 else h 192 w) = h 192 w := if_neg (by omega)
    have e2 : (if w < 0 then 25 else h 193 w) = h 193 w := if_neg (by omega)
    unfold mjs
    rw [if_neg c, e1, e2, if_neg c3]
  · intro c c1 c2
    exact absurd c1 c2
  · intro c c1 c2
    exact absurd c1 c2
  · intro c c1 c2
    exact absurd c2 c1
  · intro c c1 c2
    exact absurd c2 c1
  · intro c c1 c2 c3
    refine l_X11_judge_118 l w m hm hx hl hb hd hw hok hdep a0 q0 s0 t0 c0 c ?_
    have e1 : (if w < 0 then 20 else h 192 w) = 20 := if_pos (by omega)
    have e2 : (if w < 0 then 25 else h 193 w) = 25 := if_pos (by omega)
    unfold mjs
    rw [if_neg c, e1, e2, if_pos c3]
  · intro c c1 c2 c3
    refine l_X11_judge_1 l w m a0 q0 s0 t0 c0 ?_
    have e1 : (if w < 0 then 20 else h 192 w) = 20 := if_pos (by omega)
    have e2 : (if w < 0 then 25 else h 193 w) = 25 := if_pos (by omega)
    unfold mjs
    rw [if_neg c, e1, e2, if_neg c3]
  · intro c
    have es : mjs h l w m = 0 := if_pos c
    refine ⟨rfl, rfl, mJd_of (s := 0) (t := -1) (c := 9) a0 q0 s0 t0 c0 es ?_ ?_⟩
    · unfold mjt
      rw [if_neg (by omega), if_neg (by omega), if_neg (by omega)]
    · unfold mjc
      rw [if_neg (by omega)]
