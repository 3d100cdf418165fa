/-! the model: faces -/
set_option maxRecDepth 20000 in
theorem bX11_who_0 {X : zX} {dep bc bs : Nat} (m : Int) (t : Int) {h : zH} {Q : Nat → zH → List zV → Prop} (hm : 0 ≤ h 169 25 ∧ h 169 25 ≤ 60) (hdep : 2 ≤ dep)
    (k1 : 0 ≤ m ∧ m < (h 169 25) → zW mX11_who X dep bc bs 239 17 [(0, xR 169), (1, xI m), (2, xI t)] [xI t, xR 169] (zst h 169 0 0) Q)
    (k2 : ¬ (0 ≤ m ∧ m < (h 169 25)) → Q 239 (zst h 169 0 0) [xI (-1)]) : zW mX11_who X dep bc bs 239 0 [(0, xR 169), (1, xI m), (2, xI t)] [] h Q := by
  refine z_aload_n 0 dX11_who_0 rfl ?_
  refine z_iconst dX11_who_1 (zi32_d rfl) ?_
  refine z_putI (k := 0) (kz := 0) pk11 dX11_who_2 (by decide) zb_1124 rfl (zFit_int _) (zOb.lit (by decide +kernel)) rfl ?_
  refine z_aload_n 0 dX11_who_5 rfl ?_
  refine z_iload_n 1 dX11_who_6 rfl ?_
  refine z_invF (ci := 11) (N := 97) (as := [xI m]) (st := []) (ra := [xI m]) (dep' := dep - 1) (rs := [xI (zb (0 ≤ m ∧ m < (h 169 25)))]) (h' := (zst h 169 0 0)) (by have e1 : (zst h 169 0 0) 169 25 = (h 169 25) := (zst_ne (Or.inr (by decide))); have z9 := f_X11_isMan (X := X) (dep := dep - 1) m (h := (zst h 169 0 0)) (by have y1 : (zst h 169 0 0) 169 25 = (h 169 25) := (zst_ne (Or.inr (by decide))); simp only [y1]; omega) (by omega); rw [e1] at z9; exact z9) dX11_who_7 nX11_isMan zb_1455 zb_1457 zb_37 zb_92 (zOb.lit (by decide +kernel)) rfl (by omega) zne_I (Nat.le_of_ble_eq_true rfl) (Nat.le_of_ble_eq_true rfl) rfl ?_
  refine z_ifB_ne (C := 0 ≤ m ∧ m < (h 169 25)) (tgt := 15) dX11_who_10 (by decide) (fun c1 => ?_) (fun c1 => ?_)
  ·
    refine z_aload_n 0 dX11_who_15 rfl ?_
    refine z_iload_n 2 dX11_who_16 rfl ?_
    exact k1 c1
  ·
    refine z_iconst dX11_who_13 (zi32_d rfl) ?_
    exact z_iret dX11_who_14 rfl (k2 c1)

set_option maxRecDepth 20000 in
theorem rX11_who_17 {X : zX} {dep bc bs : Nat} (m : Int) (t : Int) {h : zH} {Q : Nat → zH → List zV → Prop} {P : zH → Prop}
    (hZ : zW mX11_people X (dep - 1) 0 0 239 0 (zar 0 [xR 169, xI t]) [] h (zQ0 P)) (hdep : 1 ≤ dep)
    (k : ∀ g : zH, P g → zW mX11_who X dep bc bs 239 20 [(0, xR 169), (1, xI m), (2, xI t)] [] g Q) : zW mX11_who X dep bc bs 239 17 [(0, xR 169), (1, xI m), (2, xI t)] [xI t, xR 169] h Q :=
  z_invQ0 (ci := 11) (N := 97) (as := [xI t]) (st := []) (ra := [xI t]) hZ dX11_who_17 nX11_people zb_1599 zb_1601 zb_57 zb_92 (zOb.lit (by decide +kernel)) rfl (by omega) (Nat.le_of_ble_eq_true rfl) (Nat.le_of_ble_eq_true rfl) rfl (fun g hg => k g hg)

set_option maxRecDepth 20000 in
theorem bX11_who_20 {X : zX} {dep bc bs : Nat} (m : Int) (t : Int) {g : zH} {Q : Nat → zH → List zV → Prop} (hx : 0 ≤ m ∧ m < 60)
    (k1 : Q 239 g [xI (g 213 m)]) : zW mX11_who X dep bc bs 239 20 [(0, xR 169), (1, xI m), (2, xI t)] [] g Q := by
  refine z_aload_n 0 dX11_who_20 rfl ?_
  refine z_getS (v := 213) (k := 66) (kz := 66) pk11 dX11_who_21 (by decide) zb_1190 rfl (zOb.lit (by decide +kernel)) rfl (by decide +kernel) ?_
  refine z_iload_n 1 dX11_who_24 rfl ?_
  refine z_iald dX11_who_25 (zOb.lit (by decide +kernel)) hx.1 hx.2 ?_
  exact z_iret dX11_who_26 rfl (k1)

set_option maxRecDepth 20000 in
theorem bX11_age_0 {X : zX} {dep bc bs : Nat} (m : Int) (d : Int) (t : Int) {h : zH} {Q : Nat → zH → List zV → Prop} (hm : 0 ≤ h 169 25 ∧ h 169 25 ≤ 60) (hdep : 2 ≤ dep)
    (k1 : ¬ (0 ≤ m ∧ m < (h 169 25)) → Q 239 (zst h 169 0 0) [xI (-1)])
    (k2 : 0 ≤ m ∧ m < (h 169 25) → 0 ≤ d ∧ d ≤ 3639 → zW mX11_age X dep bc bs 239 28 [(0, xR 169), (1, xI m), (2, xI d), (3, xI t)] [xI t, xR 169] (zst h 169 0 0) Q)
    (k3 : 0 ≤ m ∧ m < (h 169 25) → ¬ (0 ≤ d ∧ d ≤ 3639) → Q 239 (zst h 169 0 0) [xI (-1)]) : zW mX11_age X dep bc bs 239 0 [(0, xR 169), (1, xI m), (2, xI d), (3, xI t)] [] h Q := by
  refine z_aload_n 0 dX11_age_0 rfl ?_
  refine z_iconst dX11_age_1 (zi32_d rfl) ?_
  refine z_putI (k := 0) (kz := 0) pk11 dX11_age_2 (by decide) zb_1124 rfl (zFit_int _) (zOb.lit (by decide +kernel)) rfl ?_
  refine z_aload_n 0 dX11_age_5 rfl ?_
  refine z_iload_n 1 dX11_age_6 rfl ?_
  refine z_invF (ci := 11) (N := 97) (as := [xI m]) (st := []) (ra := [xI m]) (dep' := dep - 1) (rs := [xI (zb (0 ≤ m ∧ m < (h 169 25)))]) (h' := (zst h 169 0 0)) (by have e1 : (zst h 169 0 0) 169 25 = (h 169 25) := (zst_ne (Or.inr (by decide))); have z9 := f_X11_isMan (X := X) (dep := dep - 1) m (h := (zst h 169 0 0)) (by have y1 : (zst h 169 0 0) 169 25 = (h 169 25) := (zst_ne (Or.inr (by decide))); simp only [y1]; omega) (by omega); rw [e1] at z9; exact z9) dX11_age_7 nX11_isMan zb_1455 zb_1457 zb_37 zb_92 (zOb.lit (by decide +kernel)) rfl (by omega) zne_I (Nat.le_of_ble_eq_true rfl) (Nat.le_of_ble_eq_true rfl) rfl ?_
  refine z_ifB_eq (C := 0 ≤ m ∧ m < (h 169 25)) (tgt := 24) dX11_age_10 (by decide) (fun c1 => ?_) (fun c1 => ?_)
  ·
    refine z_iconst dX11_age_24 (zi32_d rfl) ?_
    exact z_iret dX11_age_25 rfl (k1 c1)
  ·
    refine z_iload_n 2 dX11_age_13 rfl ?_
    refine z_iconst dX11_age_14 (zi32_d rfl) ?_
    refine z_sipush dX11_age_15 (zi32_d rfl) (by decide) ?_
    refine z_invSF (as := [xI d, xI 0, xI 3639]) (st := []) (ra := [xI 3639, xI 0, xI d]) (dep' := dep - 1) (rs := [xI (zb (0 ≤ d ∧ d ≤ 3639))]) (h' := (zst h 169 0 0)) (f_X11_isIn d 0 3639 (h := (zst h 169 0 0)) ) dX11_age_18 nX11_isIn zb_1437 zb_1438 zb_92 (by omega) zne_I (Nat.le_of_ble_eq_true rfl) (Nat.le_of_ble_eq_true rfl) rfl ?_
    refine z_ifB_ne (C := 0 ≤ d ∧ d ≤ 3639) (tgt := 26) dX11_age_21 (by decide) (fun c2 => ?_) (fun c2 => ?_)
    ·
      refine z_aload_n 0 dX11_age_26 rfl ?_
      refine z_iload_n 3 dX11_age_27 rfl ?_
      exact k2 c1 c2
    ·
      refine z_iconst dX11_age_24 (zi32_d rfl) ?_
      exact z_iret dX11_age_25 rfl (k3 c1 c2)

set_option maxRecDepth 20000 in
theorem rX11_age_28 {X : zX} {dep bc bs : Nat} (m : Int) (d : Int) (t : Int) {h : zH} {Q : Nat → zH → List zV → Prop} {P : zH → Prop}
    (hZ : zW mX11_people X (dep - 1) 0 0 239 0 (zar 0 [xR 169, xI t]) [] h (zQ0 P)) (hdep : 1 ≤ dep)
    (k : ∀ g : zH, P g → zW mX11_age X dep bc bs 239 31 [(0, xR 169), (1, xI m), (2, xI d), (3, xI t)] [] g Q) : zW mX11_age X dep bc bs 239 28 [(0, xR 169), (1, xI m), (2, xI d), (3, xI t)] [xI t, xR 169] h Q :=
  z_invQ0 (ci := 11) (N := 97) (as := [xI t]) (st := []) (ra := [xI t]) hZ dX11_age_28 nX11_people zb_1599 zb_1601 zb_57 zb_92 (zOb.lit (by decide +kernel)) rfl (by omega) (Nat.le_of_ble_eq_true rfl) (Nat.le_of_ble_eq_true rfl) rfl (fun g hg => k g hg)

set_option maxRecDepth 20000 in
theorem bX11_age_31 {X : zX} {dep bc bs : Nat} (m : Int) (d : Int) (t : Int) {g : zH} {Q : Nat → zH → List zV → Prop} (hx : 0 ≤ m ∧ m < 60) (hd : 0 ≤ d ∧ d ≤ 3639) (hw : g 216 m = 0 ∨ (-3120 ≤ g 214 m ∧ g 214 m < 520)) (hdep : 1 ≤ dep)
    (k1 : (g 216 m) = 0 → Q 239 g [xI (-1)])
    (k2 : ¬ ((g 216 m) = 0) → Q 239 g [xI (zage (g 214 m) d)]) : zW mX11_age X dep bc bs 239 31 [(0, xR 169), (1, xI m), (2, xI d), (3, xI t)] [] g Q := by
  refine z_aload_n 0 dX11_age_31 rfl ?_
  refine z_getS (v := 216) (k := 69) (kz := 69) pk11 dX11_age_32 (by decide) zb_1193 rfl (zOb.lit (by decide +kernel)) rfl (by decide +kernel) ?_
  refine z_iload_n 1 dX11_age_35 rfl ?_
  refine z_zald dX11_age_36 (zOb.lit (by decide +kernel)) hx.1 hx.2 ?_
  refine z_if_eq (tgt := 49) dX11_age_37 (by decide) (fun c1 => ?_) (fun c1 => ?_)
  ·
    refine z_iconst dX11_age_49 (zi32_d rfl) ?_
    exact z_iret dX11_age_50 rfl (k1 c1)
  ·
    refine z_aload_n 0 dX11_age_40 rfl ?_
    refine z_iload_n 1 dX11_age_41 rfl ?_
    refine z_iload_n 2 dX11_age_42 rfl ?_
    refine z_invF (ci := 11) (N := 97) (as := [xI m, xI d]) (st := []) (ra := [xI d, xI m]) (dep' := dep - 1) (rs := [xI (zage (g 214 m) d)]) (h' := g) (f_X11_ageOf m d (h := g) hx hd (show -3120 ≤ g 214 m ∧ g 214 m < 520 from ⟨by omega, by omega⟩)) dX11_age_43 nX11_ageOf zb_1607 zb_1609 zb_58 zb_92 (zOb.lit (by decide +kernel)) rfl (by omega) zne_I (Nat.le_of_ble_eq_true rfl) (Nat.le_of_ble_eq_true rfl) rfl ?_
    refine z_goto (tgt := 50) dX11_age_46 (by decide) ?_
    exact z_iret dX11_age_50 rfl (k2 c1)

set_option maxRecDepth 20000 in
theorem bX11_brothers_0 {X : zX} {dep bc bs : Nat} (m : Int) (t : Int) {h : zH} {Q : Nat → zH → List zV → Prop} (hm : 0 ≤ h 169 25 ∧ h 169 25 ≤ 60) (hdep : 2 ≤ dep)
    (k1 : 0 ≤ m ∧ m < (h 169 25) → zW mX11_brothers X dep bc bs 239 17 [(0, xR 169), (1, xI m), (2, xI t)] [xI t, xR 169] (zst h 169 0 0) Q)
    (k2 : ¬ (0 ≤ m ∧ m < (h 169 25)) → Q 239 (zst h 169 0 0) [xI (-1)]) : zW mX11_brothers X dep bc bs 239 0 [(0, xR 169), (1, xI m), (2, xI t)] [] h Q := by
  refine z_aload_n 0 dX11_brothers_0 rfl ?_
  refine z_iconst dX11_brothers_1 (zi32_d rfl) ?_
  refine z_putI (k := 0) (kz := 0) pk11 dX11_brothers_2 (by decide) zb_1124 rfl (zFit_int _) (zOb.lit (by decide +kernel)) rfl ?_
  refine z_aload_n 0 dX11_brothers_5 rfl ?_
  refine z_iload_n 1 dX11_brothers_6 rfl ?_
  refine z_invF (ci := 11) (N := 97) (as := [xI m]) (st := []) (ra := [xI m]) (dep' := dep - 1) (rs := [xI (zb (0 ≤ m ∧ m < (h 169 25)))]) (h' := (zst h 169 0 0)) (by have e1 : (zst h 169 0 0) 169 25 = (h 169 25) := (zst_ne (Or.inr (by decide))); have z9 := f_X11_isMan (X := X) (dep := dep - 1) m (h := (zst h 169 0 0)) (by have y1 : (zst h 169 0 0) 169 25 = (h 169 25) := (zst_ne (Or.inr (by decide))); simp only [y1]; omega) (by omega); rw [e1] at z9; exact z9) dX11_brothers_7 nX11_isMan zb_1455 zb_1457 zb_37 zb_92 (zOb.lit (by decide +kernel)) rfl (by omega) zne_I (Nat.le_of_ble_eq_true rfl) (Nat.le_of_ble_eq_true rfl) rfl ?_
  refine z_ifB_ne (C := 0 ≤ m ∧ m < (h 169 25)) (tgt := 15) dX11_brothers_10 (by decide) (fun c1 => ?_) (fun c1 => ?_)
  ·
    refine z_aload_n 0 dX11_brothers_15 rfl ?_
    refine z_iload_n 2 dX11_brothers_16 rfl ?_
    exact k1 c1
  ·
    refine z_iconst dX11_brothers_13 (zi32_d rfl) ?_
    exact z_iret dX11_brothers_14 rfl (k2 c1)

set_option maxRecDepth 20000 in
theorem rX11_brothers_17 {X : zX} {dep bc bs : Nat} (m : Int) (t : Int) {h : zH} {Q : Nat → zH → List zV → Prop} {P : zH → Prop}
    (hZ : zW mX11_people X (dep - 1) 0 0 239 0 (zar 0 [xR 169, xI t]) [] h (zQ0 P)) (hdep : 1 ≤ dep)
    (k : ∀ g : zH, P g → zW mX11_brothers X dep bc bs 239 20 [(0, xR 169), (1, xI m), (2, xI t)] [] g Q) : zW mX11_brothers X dep bc bs 239 17 [(0, xR 169), (1, xI m), (2, xI t)] [xI t, xR 169] h Q :=
  z_invQ0 (ci := 11) (N := 97) (as := [xI t]) (st := []) (ra := [xI t]) hZ dX11_brothers_17 nX11_people zb_1599 zb_1601 zb_57 zb_92 (zOb.lit (by decide +kernel)) rfl (by omega) (Nat.le_of_ble_eq_true rfl) (Nat.le_of_ble_eq_true rfl) rfl (fun g hg => k g hg)

set_option maxRecDepth 20000 in
theorem bX11_brothers_20 {X : zX} {dep bc bs : Nat} (m : Int) (t : Int) {g : zH} {Q : Nat → zH → List zV → Prop} (hm : 0 ≤ g 169 25 ∧ g 169 25 ≤ 60) (hx : 0 ≤ m ∧ m < 60) (hdep : 2 ≤ dep)
    (k1 : (g 215 m) = 0 → Q 239 g [xI (-1)])
    (k2 : ¬ ((g 215 m) = 0) → Q 239 g [xI (zcnt (mBro g m) (g 169 25).toNat)]) : zW mX11_brothers X dep bc bs 239 20 [(0, xR 169), (1, xI m), (2, xI t)] [] g Q := by
  refine z_aload_n 0 dX11_brothers_20 rfl ?_
  refine z_getS (v := 215) (k := 68) (kz := 68) pk11 dX11_brothers_21 (by decide) zb_1192 rfl (zOb.lit (by decide +kernel)) rfl (by decide +kernel) ?_
  refine z_iload_n 1 dX11_brothers_24 rfl ?_
  refine z_zald dX11_brothers_25 (zOb.lit (by decide +kernel)) hx.1 hx.2 ?_
  refine z_if_eq (tgt := 37) dX11_brothers_26 (by decide) (fun c1 => ?_) (fun c1 => ?_)
  ·
    refine z_iconst dX11_brothers_37 (zi32_d rfl) ?_
    exact z_iret dX11_brothers_38 rfl (k1 c1)
  ·
    refine z_aload_n 0 dX11_brothers_29 rfl ?_
    refine z_iload_n 1 dX11_brothers_30 rfl ?_
    refine z_invF (ci := 11) (N := 97) (as := [xI m]) (st := []) (ra := [xI m]) (dep' := dep - 1) (rs := [xI (zcnt (mBro g m) (g 169 25).toNat)]) (h' := g) (f_X11_brothersOf m (h := g) hm hx (by omega)) dX11_brothers_31 nX11_brothersOf zb_1615 zb_1617 zb_59 zb_92 (zOb.lit (by decide +kernel)) rfl (by omega) zne_I (Nat.le_of_ble_eq_true rfl) (Nat.le_of_ble_eq_true rfl) rfl ?_
    refine z_goto (tgt := 38) dX11_brothers_34 (by decide) ?_
    exact z_iret dX11_brothers_38 rfl (k2 c1)

set_option maxRecDepth 20000 in
theorem bX11_state_0 {X : zX} {dep bc bs : Nat} (l : Int) (m : Int) (t : Int) {h : zH} {Q : Nat → zH → List zV → Prop} (hm : 0 ≤ h 169 25 ∧ h 169 25 ≤ 60) (hl : 0 ≤ h 169 65 ∧ h 169 65 ≤ 4) (hdep : 2 ≤ dep)
    (k1 : ¬ (0 ≤ l ∧ l < (h 169 65)) → Q 239 (zst h 169 0 0) [xI (-1)])
    (k2 : 0 ≤ l ∧ l < (h 169 65) → 0 ≤ m ∧ m < (h 169 25) → zW mX11_state X dep bc bs 239 26 [(0, xR 169), (1, xI l), (2, xI m), (3, xI t)] [xI t, xI l, xR 169] (zst h 169 0 0) Q)
    (k3 : 0 ≤ l ∧ l < (h 169 65) → ¬ (0 ≤ m ∧ m < (h 169 25)) → Q 239 (zst h 169 0 0) [xI (-1)]) : zW mX11_state X dep bc bs 239 0 [(0, xR 169), (1, xI l), (2, xI m), (3, xI t)] [] h Q := by
  refine z_aload_n 0 dX11_state_0 rfl ?_
  refine z_iconst dX11_state_1 (zi32_d rfl) ?_
  refine z_putI (k := 0) (kz := 0) pk11 dX11_state_2 (by decide) zb_1124 rfl (zFit_int _) (zOb.lit (by decide +kernel)) rfl ?_
  refine z_aload_n 0 dX11_state_5 rfl ?_
  refine z_iload_n 1 dX11_state_6 rfl ?_
  refine z_invF (ci := 11) (N := 97) (as := [xI l]) (st := []) (ra := [xI l]) (dep' := dep - 1) (rs := [xI (zb (0 ≤ l ∧ l < (h 169 65)))]) (h' := (zst h 169 0 0)) (by have e1 : (zst h 169 0 0) 169 65 = (h 169 65) := (zst_ne (Or.inr (by decide))); have z9 := f_X11_isLot (X := X) (dep := dep - 1) l (h := (zst h 169 0 0)) (by have y1 : (zst h 169 0 0) 169 65 = (h 169 65) := (zst_ne (Or.inr (by decide))); simp only [y1]; omega) (by omega); rw [e1] at z9; exact z9) dX11_state_7 nX11_isLot zb_1583 zb_1585 zb_55 zb_92 (zOb.lit (by decide +kernel)) rfl (by omega) zne_I (Nat.le_of_ble_eq_true rfl) (Nat.le_of_ble_eq_true rfl) rfl ?_
  refine z_ifB_eq (C := 0 ≤ l ∧ l < (h 169 65)) (tgt := 21) dX11_state_10 (by decide) (fun c1 => ?_) (fun c1 => ?_)
  ·
    refine z_iconst dX11_state_21 (zi32_d rfl) ?_
    exact z_iret dX11_state_22 rfl (k1 c1)
  ·
    refine z_aload_n 0 dX11_state_13 rfl ?_
    refine z_iload_n 2 dX11_state_14 rfl ?_
    refine z_invF (ci := 11) (N := 97) (as := [xI m]) (st := []) (ra := [xI m]) (dep' := dep - 1) (rs := [xI (zb (0 ≤ m ∧ m < (h 169 25)))]) (h' := (zst h 169 0 0)) (by have e1 : (zst h 169 0 0) 169 25 = (h 169 25) := (zst_ne (Or.inr (by decide))); have z9 := f_X11_isMan (X := X) (dep := dep - 1) m (h := (zst h 169 0 0)) (by have y1 : (zst h 169 0 0) 169 25 = (h 169 25) := (zst_ne (Or.inr (by decide))); simp only [y1]; omega) (by omega); rw [e1] at z9; exact z9) dX11_state_15 nX11_isMan zb_1455 zb_1457 zb_37 zb_92 (zOb.lit (by decide +kernel)) rfl (by omega) zne_I (Nat.le_of_ble_eq_true rfl) (Nat.le_of_ble_eq_true rfl) rfl ?_
    refine z_ifB_ne (C := 0 ≤ m ∧ m < (h 169 25)) (tgt := 23) dX11_state_18 (by decide) (fun c2 => ?_) (fun c2 => ?_)
    ·
      refine z_aload_n 0 dX11_state_23 rfl ?_
      refine z_iload_n 1 dX11_state_24 rfl ?_
      refine z_iload_n 3 dX11_state_25 rfl ?_
      exact k2 c1 c2
    ·
      refine z_iconst dX11_state_21 (zi32_d rfl) ?_
      exact z_iret dX11_state_22 rfl (k3 c1 c2)

set_option maxRecDepth 20000 in
theorem rX11_state_26 {X : zX} {dep bc bs : Nat} (l : Int) (m : Int) (t : Int) {h : zH} {Q : Nat → zH → List zV → Prop} {P : zH → Prop}
    (hZ : zW mX11_roll X (dep - 1) 0 0 239 0 (zar 0 [xR 169, xI l, xI t]) [] h (zQ0 P)) (hdep : 1 ≤ dep)
    (k : ∀ g : zH, P g → zW mX11_state X dep bc bs 239 29 [(0, xR 169), (1, xI l), (2, xI m), (3, xI t)] [] g Q) : zW mX11_state X dep bc bs 239 26 [(0, xR 169), (1, xI l), (2, xI m), (3, xI t)] [xI t, xI l, xR 169] h Q :=
  z_invQ0 (ci := 11) (N := 97) (as := [xI l, xI t]) (st := []) (ra := [xI t, xI l]) hZ dX11_state_26 nX11_roll zb_1627 zb_1629 zb_61 zb_92 (zOb.lit (by decide +kernel)) rfl (by omega) (Nat.le_of_ble_eq_true rfl) (Nat.le_of_ble_eq_true rfl) rfl (fun g hg => k g hg)

set_option maxRecDepth 20000 in
theorem bX11_state_29 {X : zX} {dep bc bs : Nat} (l : Int) (m : Int) (t : Int) {g : zH} {Q : Nat → zH → List zV → Prop} (hl : 0 ≤ l ∧ l < 4) (hx : 0 ≤ m ∧ m < 60)
    (k1 : Q 239 (zst g 169 87 (g 220 ((60 * l) + m))) [xI (g 219 ((60 * l) + m))]) : zW mX11_state X dep bc bs 239 29 [(0, xR 169), (1, xI l), (2, xI m), (3, xI t)] [] g Q := by
  refine z_aload_n 0 dX11_state_29 rfl ?_
  refine z_aload_n 0 dX11_state_30 rfl ?_
  refine z_getS (v := 220) (k := 73) (kz := 73) pk11 dX11_state_31 (by decide) zb_1197 rfl (zOb.lit (by decide +kernel)) rfl (by decide +kernel) ?_
  refine z_bipush dX11_state_34 (zi32_d rfl) (by decide) ?_
  refine z_iload_n 1 dX11_state_36 rfl ?_
  refine z_imulN dX11_state_37 (show -2147483648 ≤ 60 * l ∧ 60 * l < 2147483648 from ⟨by omega, by omega⟩).1 (show -2147483648 ≤ 60 * l ∧ 60 * l < 2147483648 from ⟨by omega, by omega⟩).2 ?_
  refine z_iload_n 2 dX11_state_38 rfl ?_
  refine z_iaddN dX11_state_39 (show -2147483648 ≤ (60 * l) + m ∧ (60 * l) + m < 2147483648 from ⟨by omega, by omega⟩).1 (show -2147483648 ≤ (60 * l) + m ∧ (60 * l) + m < 2147483648 from ⟨by omega, by omega⟩).2 ?_
  refine z_iald dX11_state_40 (zOb.lit (by decide +kernel)) (show 0 ≤ ((60 * l) + m) ∧ ((60 * l) + m) < 240 from ⟨by omega, by omega⟩).1 (show 0 ≤ ((60 * l) + m) ∧ ((60 * l) + m) < 240 from ⟨by omega, by omega⟩).2 ?_
  refine z_putI (k := 87) (kz := 87) pk11 dX11_state_41 (by decide) zb_1211 rfl (zFit_int _) (zOb.lit (by decide +kernel)) rfl ?_
  refine z_aload_n 0 dX11_state_44 rfl ?_
  refine z_getS (v := 219) (k := 72) (kz := 72) pk11 dX11_state_45 (by decide) zb_1196 rfl (zOb.lit (by decide +kernel)) rfl (by decide +kernel) ?_
  refine z_bipush dX11_state_48 (zi32_d rfl) (by decide) ?_
  refine z_iload_n 1 dX11_state_50 rfl ?_
  refine z_imulN dX11_state_51 (show -2147483648 ≤ 60 * l ∧ 60 * l < 2147483648 from ⟨by omega, by omega⟩).1 (show -2147483648 ≤ 60 * l ∧ 60 * l < 2147483648 from ⟨by omega, by omega⟩).2 ?_
  refine z_iload_n 2 dX11_state_52 rfl ?_
  refine z_iaddN dX11_state_53 (show -2147483648 ≤ (60 * l) + m ∧ (60 * l) + m < 2147483648 from ⟨by omega, by omega⟩).1 (show -2147483648 ≤ (60 * l) + m ∧ (60 * l) + m < 2147483648 from ⟨by omega, by omega⟩).2 ?_
  refine z_ialdV (v := (g 219 ((60 * l) + m))) dX11_state_54 (zOb.lit (by decide +kernel)) (show 0 ≤ ((60 * l) + m) ∧ ((60 * l) + m) < 240 from ⟨by omega, by omega⟩).1 (show 0 ≤ ((60 * l) + m) ∧ ((60 * l) + m) < 240 from ⟨by omega, by omega⟩).2 (zst_ne (Or.inl (by decide))) ?_
  exact z_iret dX11_state_55 rfl (k1)

set_option maxRecDepth 20000 in
theorem bX11_place_0 {X : zX} {dep bc bs : Nat} (l : Int) (m : Int) (t : Int) {h : zH} {Q : Nat → zH → List zV → Prop} (hm : 0 ≤ h 169 25 ∧ h 169 25 ≤ 60) (hl : 0 ≤ h 169 65 ∧ h 169 65 ≤ 4) (hdep : 2 ≤ dep)
    (k1 : ¬ (0 ≤ l ∧ l < (h 169 65)) → Q 239 (zst h 169 0 0) [xI (-1)])
    (k2 : 0 ≤ l ∧ l < (h 169 65) → 0 ≤ m ∧ m < (h 169 25) → zW mX11_place X dep bc bs 239 26 [(0, xR 169), (1, xI l), (2, xI m), (3, xI t)] [xI t, xI l, xR 169] (zst h 169 0 0) Q)
    (k3 : 0 ≤ l ∧ l < (h 169 65) → ¬ (0 ≤ m ∧ m < (h 169 25)) → Q 239 (zst h 169 0 0) [xI (-1)]) : zW mX11_place X dep bc bs 239 0 [(0, xR 169), (1, xI l), (2, xI m), (3, xI t)] [] h Q := by
  refine z_aload_n 0 dX11_place_0 rfl ?_
  refine z_iconst dX11_place_1 (zi32_d rfl) ?_
  refine z_putI (k := 0) (kz := 0) pk11 dX11_place_2 (by decide) zb_1124 rfl (zFit_int _) (zOb.lit (by decide +kernel)) rfl ?_
  refine z_aload_n 0 dX11_place_5 rfl ?_
  refine z_iload_n 1 dX11_place_6 rfl ?_
  refine z_invF (ci := 11) (N := 97) (as := [xI l]) (st := []) (ra := [xI l]) (dep' := dep - 1) (rs := [xI (zb (0 ≤ l ∧ l < (h 169 65)))]) (h' := (zst h 169 0 0)) (by have e1 : (zst h 169 0 0) 169 65 = (h 169 65) := (zst_ne (Or.inr (by decide))); have z9 := f_X11_isLot (X := X) (dep := dep - 1) l (h := (zst h 169 0 0)) (by have y1 : (zst h 169 0 0) 169 65 = (h 169 65) := (zst_ne (Or.inr (by decide))); simp only [y1]; omega) (by omega); rw [e1] at z9; exact z9) dX11_place_7 nX11_isLot zb_1583 zb_1585 zb_55 zb_92 (zOb.lit (by decide +kernel)) rfl (by omega) zne_I (Nat.le_of_ble_eq_true rfl) (Nat.le_of_ble_eq_true rfl) rfl ?_
  refine z_ifB_eq (C := 0 ≤ l ∧ l < (h 169 65)) (tgt := 21) dX11_place_10 (by decide) (fun c1 => ?_) (fun c1 => ?_)
  ·
    refine z_iconst dX11_place_21 (zi32_d rfl) ?_
    exact z_iret dX11_place_22 rfl (k1 c1)
  ·
    refine z_aload_n 0 dX11_place_13 rfl ?_
    refine z_iload_n 2 dX11_place_14 rfl ?_
    refine z_invF (ci := 11) (N := 97) (as := [xI m]) (st := []) (ra := [xI m]) (dep' := dep - 1) (rs := [xI (zb (0 ≤ m ∧ m < (h 169 25)))]) (h' := (zst h 169 0 0)) (by have e1 : (zst h 169 0 0) 169 25 = (h 169 25) := (zst_ne (Or.inr (by decide))); have z9 := f_X11_isMan (X := X) (dep := dep - 1) m (h := (zst h 169 0 0)) (by have y1 : (zst h 169 0 0) 169 25 = (h 169 25) := (zst_ne (Or.inr (by decide))); simp only [y1]; omega) (by omega); rw [e1] at z9; exact z9) dX11_place_15 nX11_isMan zb_1455 zb_1457 zb_37 zb_92 (zOb.lit (by decide +kernel)) rfl (by omega) zne_I (Nat.le_of_ble_eq_true rfl) (Nat.le_of_ble_eq_true rfl) rfl ?_
    refine z_ifB_ne (C := 0 ≤ m ∧ m < (h 169 25)) (tgt := 23) dX11_place_18 (by decide) (fun c2 => ?_) (fun c2 => ?_)
    ·
      refine z_aload_n 0 dX11_place_23 rfl ?_
      refine z_iload_n 1 dX11_place_24 rfl ?_
      refine z_iload_n 3 dX11_place_25 rfl ?_
      exact k2 c1 c2
    ·
      refine z_iconst dX11_place_21 (zi32_d rfl) ?_
      exact z_iret dX11_place_22 rfl (k3 c1 c2)

set_option maxRecDepth 20000 in
theorem rX11_place_26 {X : zX} {dep bc bs : Nat} (l : Int) (m : Int) (t : Int) {h : zH} {Q : Nat → zH → List zV → Prop} {P : zH → Prop}
    (hZ : zW mX11_roll X (dep - 1) 0 0 239 0 (zar 0 [xR 169, xI l, xI t]) [] h (zQ0 P)) (hdep : 1 ≤ dep)
    (k : ∀ g : zH, P g → zW mX11_place X dep bc bs 239 29 [(0, xR 169), (1, xI l), (2, xI m), (3, xI t)] [] g Q) : zW mX11_place X dep bc bs 239 26 [(0, xR 169), (1, xI l), (2, xI m), (3, xI t)] [xI t, xI l, xR 169] h Q :=
  z_invQ0 (ci := 11) (N := 97) (as := [xI l, xI t]) (st := []) (ra := [xI t, xI l]) hZ dX11_place_26 nX11_roll zb_1627 zb_1629 zb_61 zb_92 (zOb.lit (by decide +kernel)) rfl (by omega) (Nat.le_of_ble_eq_true rfl) (Nat.le_of_ble_eq_true rfl) rfl (fun g hg => k g hg)

set_option maxRecDepth 20000 in
theorem bX11_place_29 {X : zX} {dep bc bs : Nat} (l : Int) (m : Int) (t : Int) {g : zH} {Q : Nat → zH → List zV → Prop} (hl : 0 ≤ l ∧ l < 4) (hx : 0 ≤ m ∧ m < 60)
    (k1 : Q 239 g [xI (g 222 m)]) : zW mX11_place X dep bc bs 239 29 [(0, xR 169), (1, xI l), (2, xI m), (3, xI t)] [] g Q := by
  refine z_aload_n 0 dX11_place_29 rfl ?_
  refine z_getS (v := 222) (k := 75) (kz := 75) pk11 dX11_place_30 (by decide) zb_1199 rfl (zOb.lit (by decide +kernel)) rfl (by decide +kernel) ?_
  refine z_iload_n 2 dX11_place_33 rfl ?_
  refine z_iald dX11_place_34 (zOb.lit (by decide +kernel)) hx.1 hx.2 ?_
  exact z_iret dX11_place_35 rfl (k1)

set_option maxRecDepth 20000 in
theorem bX11_serves_0 {X : zX} {dep bc bs : Nat} (l : Int) (m : Int) (t : Int) {h : zH} {Q : Nat → zH → List zV → Prop} (hm : 0 ≤ h 169 25 ∧ h 169 25 ≤ 60) (hl : 0 ≤ h 169 65 ∧ h 169 65 ≤ 4) (hdep : 2 ≤ dep)
    (k1 : ¬ (0 ≤ l ∧ l < (h 169 65)) → Q 239 (zst h 169 0 0) [xI (-1)])
    (k2 : 0 ≤ l ∧ l < (h 169 65) → 0 ≤ m ∧ m < (h 169 25) → zW mX11_serves X dep bc bs 239 26 [(0, xR 169), (1, xI l), (2, xI m), (3, xI t)] [xI t, xI l, xR 169] (zst h 169 0 0) Q)
    (k3 : 0 ≤ l ∧ l < (h 169 65) → ¬ (0 ≤ m ∧ m < (h 169 25)) → Q 239 (zst h 169 0 0) [xI (-1)]) : zW mX11_serves X dep bc bs 239 0 [(0, xR 169), (1, xI l), (2, xI m), (3, xI t)] [] h Q := by
  refine z_aload_n 0 dX11_serves_0 rfl ?_
  refine z_iconst dX11_serves_1 (zi32_d rfl) ?_
  refine z_putI (k := 0) (kz := 0) pk11 dX11_serves_2 (by decide) zb_1124 rfl (zFit_int _) (zOb.lit (by decide +kernel)) rfl ?_
  refine z_aload_n 0 dX11_serves_5 rfl ?_
  refine z_iload_n 1 dX11_serves_6 rfl ?_
  refine z_invF (ci := 11) (N := 97) (as := [xI l]) (st := []) (ra := [xI l]) (dep' := dep - 1) (rs := [xI (zb (0 ≤ l ∧ l < (h 169 65)))]) (h' := (zst h 169 0 0)) (by have e1 : (zst h 169 0 0) 169 65 = (h 169 65) := (zst_ne (Or.inr (by decide))); have z9 := f_X11_isLot (X := X) (dep := dep - 1) l (h := (zst h 169 0 0)) (by have y1 : (zst h 169 0 0) 169 65 = (h 169 65) := (zst_ne (Or.inr (by decide))); simp only [y1]; omega) (by omega); rw [e1] at z9; exact z9) dX11_serves_7 nX11_isLot zb_1583 zb_1585 zb_55 zb_92 (zOb.lit (by decide +kernel)) rfl (by omega) zne_I (Nat.le_of_ble_eq_true rfl) (Nat.le_of_ble_eq_true rfl) rfl ?_
  refine z_ifB_eq (C := 0 ≤ l ∧ l < (h 169 65)) (tgt := 21) dX11_serves_10 (by decide) (fun c1 => ?_) (fun c1 => ?_)
  ·
    refine z_iconst dX11_serves_21 (zi32_d rfl) ?_
    exact z_iret dX11_serves_22 rfl (k1 c1)
  ·
    refine z_aload_n 0 dX11_serves_13 rfl ?_
    refine z_iload_n 2 dX11_serves_14 rfl ?_
    refine z_invF (ci := 11) (N := 97) (as := [xI m]) (st := []) (ra := [xI m]) (dep' := dep - 1) (rs := [xI (zb (0 ≤ m ∧ m < (h 169 25)))]) (h' := (zst h 169 0 0)) (by have e1 : (zst h 169 0 0) 169 25 = (h 169 25) := (zst_ne (Or.inr (by decide))); have z9 := f_X11_isMan (X := X) (dep := dep - 1) m (h := (zst h 169 0 0)) (by have y1 : (zst h 169 0 0) 169 25 = (h 169 25) := (zst_ne (Or.inr (by decide))); simp only [y1]; omega) (by omega); rw [e1] at z9; exact z9) dX11_serves_15 nX11_isMan zb_1455 zb_1457 zb_37 zb_92 (zOb.lit (by decide +kernel)) rfl (by omega) zne_I (Nat.le_of_ble_eq_true rfl) (Nat.le_of_ble_eq_true rfl) rfl ?_
    refine z_ifB_ne (C := 0 ≤ m ∧ m < (h 169 25)) (tgt := 23) dX11_serves_18 (by decide) (fun c2 => ?_) (fun c2 => ?_)
    ·
      refine z_aload_n 0 dX11_serves_23 rfl ?_
      refine z_iload_n 1 dX11_serves_24 rfl ?_
      refine z_iload_n 3 dX11_serves_25 rfl ?_
      exact k2 c1 c2
    ·
      refine z_iconst dX11_serves_21 (zi32_d rfl) ?_
      exact z_iret dX11_serves_22 rfl (k3 c1 c2)

set_option maxRecDepth 20000 in
theorem rX11_serves_26 {X : zX} {dep bc bs : Nat} (l : Int) (m : Int) (t : Int) {h : zH} {Q : Nat → zH → List zV → Prop} {P : zH → Prop}
    (hZ : zW mX11_roll X (dep - 1) 0 0 239 0 (zar 0 [xR 169, xI l, xI t]) [] h (zQ0 P)) (hdep : 1 ≤ dep)
    (k : ∀ g : zH, P g → zW mX11_serves X dep bc bs 239 29 [(0, xR 169), (1, xI l), (2, xI m), (3, xI t)] [] g Q) : zW mX11_serves X dep bc bs 239 26 [(0, xR 169), (1, xI l), (2, xI m), (3, xI t)] [xI t, xI l, xR 169] h Q :=
  z_invQ0 (ci := 11) (N := 97) (as := [xI l, xI t]) (st := []) (ra := [xI t, xI l]) hZ dX11_serves_26 nX11_roll zb_1627 zb_1629 zb_61 zb_92 (zOb.lit (by decide +kernel)) rfl (by omega) (Nat.le_of_ble_eq_true rfl) (Nat.le_of_ble_eq_true rfl) rfl (fun g hg => k g hg)

set_option maxRecDepth 20000 in
theorem bX11_serves_29 {X : zX} {dep bc bs : Nat} (l : Int) (m : Int) (t : Int) {g : zH} {Q : Nat → zH → List zV → Prop} (hl : 0 ≤ l ∧ l < 4) (hx : 0 ≤ m ∧ m < 60)
    (k1 : Q 239 g [xI (g 229 ((60 * l) + m))]) : zW mX11_serves X dep bc bs 239 29 [(0, xR 169), (1, xI l), (2, xI m), (3, xI t)] [] g Q := by
  refine z_aload_n 0 dX11_serves_29 rfl ?_
  refine z_getS (v := 229) (k := 82) (kz := 82) pk11 dX11_serves_30 (by decide) zb_1206 rfl (zOb.lit (by decide +kernel)) rfl (by decide +kernel) ?_
  refine z_bipush dX11_serves_33 (zi32_d rfl) (by decide) ?_
  refine z_iload_n 1 dX11_serves_35 rfl ?_
  refine z_imulN dX11_serves_36 (show -2147483648 ≤ 60 * l ∧ 60 * l < 2147483648 from ⟨by omega, by omega⟩).1 (show -2147483648 ≤ 60 * l ∧ 60 * l < 2147483648 from ⟨by omega, by omega⟩).2 ?_
  refine z_iload_n 2 dX11_serves_37 rfl ?_
  refine z_iaddN dX11_serves_38 (show -2147483648 ≤ (60 * l) + m ∧ (60 * l) + m < 2147483648 from ⟨by omega, by omega⟩).1 (show -2147483648 ≤ (60 * l) + m ∧ (60 * l) + m < 2147483648 from ⟨by omega, by omega⟩).2 ?_
  refine z_iald dX11_serves_39 (zOb.lit (by decide +kernel)) (show 0 ≤ ((60 * l) + m) ∧ ((60 * l) + m) < 240 from ⟨by omega, by omega⟩).1 (show 0 ≤ ((60 * l) + m) ∧ ((60 * l) + m) < 240 from ⟨by omega, by omega⟩).2 ?_
  exact z_iret dX11_serves_40 rfl (k1)

set_option maxRecDepth 20000 in
theorem bX11_quota_0 {X : zX} {dep bc bs : Nat} (l : Int) (p : Int) (t : Int) {h : zH} {Q : Nat → zH → List zV → Prop} (hl : 0 ≤ h 169 65 ∧ h 169 65 ≤ 4) (hdep : 2 ≤ dep)
    (k1 : ¬ (0 ≤ l ∧ l < (h 169 65)) → Q 239 (zst h 169 0 0) [xI (-1)])
    (k2 : 0 ≤ l ∧ l < (h 169 65) → 0 ≤ p ∧ p ≤ 7 → zW mX11_quota X dep bc bs 239 28 [(0, xR 169), (1, xI l), (2, xI p), (3, xI t)] [xI t, xI l, xR 169] (zst h 169 0 0) Q)
    (k3 : 0 ≤ l ∧ l < (h 169 65) → ¬ (0 ≤ p ∧ p ≤ 7) → Q 239 (zst h 169 0 0) [xI (-1)]) : zW mX11_quota X dep bc bs 239 0 [(0, xR 169), (1, xI l), (2, xI p), (3, xI t)] [] h Q := by
  refine z_aload_n 0 dX11_quota_0 rfl ?_
  refine z_iconst dX11_quota_1 (zi32_d rfl) ?_
  refine z_putI (k := 0) (kz := 0) pk11 dX11_quota_2 (by decide) zb_1124 rfl (zFit_int _) (zOb.lit (by decide +kernel)) rfl ?_
  refine z_aload_n 0 dX11_quota_5 rfl ?_
  refine z_iload_n 1 dX11_quota_6 rfl ?_
  refine z_invF (ci := 11) (N := 97) (as := [xI l]) (st := []) (ra := [xI l]) (dep' := dep - 1) (rs := [xI (zb (0 ≤ l ∧ l < (h 169 65)))]) (h' := (zst h 169 0 0)) (by have e1 : (zst h 169 0 0) 169 65 = (h 169 65) := (zst_ne (Or.inr (by decide))); have z9 := f_X11_isLot (X := X) (dep := dep - 1) l (h := (zst h 169 0 0)) (by have y1 : (zst h 169 0 0) 169 65 = (h 169 65) := (zst_ne (Or.inr (by decide))); simp only [y1]; omega) (by omega); rw [e1] at z9; exact z9) dX11_quota_7 nX11_isLot zb_1583 zb_1585 zb_55 zb_92 (zOb.lit (by decide +kernel)) rfl (by omega) zne_I (Nat.le_of_ble_eq_true rfl) (Nat.le_of_ble_eq_true rfl) rfl ?_
  refine z_ifB_eq (C := 0 ≤ l ∧ l < (h 169 65)) (tgt := 23) dX11_quota_10 (by decide) (fun c1 => ?_) (fun c1 => ?_)
  ·
    refine z_iconst dX11_quota_23 (zi32_d rfl) ?_
    exact z_iret dX11_quota_24 rfl (k1 c1)
  ·
    refine z_iload_n 2 dX11_quota_13 rfl ?_
    refine z_iconst dX11_quota_14 (zi32_d rfl) ?_
    refine z_bipush dX11_quota_15 (zi32_d rfl) (by decide) ?_
    refine z_invSF (as := [xI p, xI 0, xI 7]) (st := []) (ra := [xI 7, xI 0, xI p]) (dep' := dep - 1) (rs := [xI (zb (0 ≤ p ∧ p ≤ 7))]) (h' := (zst h 169 0 0)) (f_X11_isIn p 0 7 (h := (zst h 169 0 0)) ) dX11_quota_17 nX11_isIn zb_1437 zb_1438 zb_92 (by omega) zne_I (Nat.le_of_ble_eq_true rfl) (Nat.le_of_ble_eq_true rfl) rfl ?_
    refine z_ifB_ne (C := 0 ≤ p ∧ p ≤ 7) (tgt := 25) dX11_quota_20 (by decide) (fun c2 => ?_) (fun c2 => ?_)
    ·
      refine z_aload_n 0 dX11_quota_25 rfl ?_
      refine z_iload_n 1 dX11_quota_26 rfl ?_
      refine z_iload_n 3 dX11_quota_27 rfl ?_
      exact k2 c1 c2
    ·
      refine z_iconst dX11_quota_23 (zi32_d rfl) ?_
      exact z_iret dX11_quota_24 rfl (k3 c1 c2)

set_option maxRecDepth 20000 in
theorem rX11_quota_28 {X : zX} {dep bc bs : Nat} (l : Int) (p : Int) (t : Int) {h : zH} {Q : Nat → zH → List zV → Prop} {P : zH → Prop}
    (hZ : zW mX11_roll X (dep - 1) 0 0 239 0 (zar 0 [xR 169, xI l, xI t]) [] h (zQ0 P)) (hdep : 1 ≤ dep)
    (k : ∀ g : zH, P g → zW mX11_quota X dep bc bs 239 31 [(0, xR 169), (1, xI l), (2, xI p), (3, xI t)] [] g Q) : zW mX11_quota X dep bc bs 239 28 [(0, xR 169), (1, xI l), (2, xI p), (3, xI t)] [xI t, xI l, xR 169] h Q :=
  z_invQ0 (ci := 11) (N := 97) (as := [xI l, xI t]) (st := []) (ra := [xI t, xI l]) hZ dX11_quota_28 nX11_roll zb_1627 zb_1629 zb_61 zb_92 (zOb.lit (by decide +kernel)) rfl (by omega) (Nat.le_of_ble_eq_true rfl) (Nat.le_of_ble_eq_true rfl) rfl (fun g hg => k g hg)

set_option maxRecDepth 20000 in
theorem bX11_quota_31 {X : zX} {dep bc bs : Nat} (l : Int) (p : Int) (t : Int) {g : zH} {Q : Nat → zH → List zV → Prop} (hl : 0 ≤ l ∧ l < 4) (hp : 0 ≤ p ∧ p < 8)
    (k1 : Q 239 g [xI (g 223 ((8 * l) + p))]) : zW mX11_quota X dep bc bs 239 31 [(0, xR 169), (1, xI l), (2, xI p), (3, xI t)] [] g Q := by
  refine z_aload_n 0 dX11_quota_31 rfl ?_
  refine z_getS (v := 223) (k := 76) (kz := 76) pk11 dX11_quota_32 (by decide) zb_1200 rfl (zOb.lit (by decide +kernel)) rfl (by decide +kernel) ?_
  refine z_bipush dX11_quota_35 (zi32_d rfl) (by decide) ?_
  refine z_iload_n 1 dX11_quota_37 rfl ?_
  refine z_imulN dX11_quota_38 (show -2147483648 ≤ 8 * l ∧ 8 * l < 2147483648 from ⟨by omega, by omega⟩).1 (show -2147483648 ≤ 8 * l ∧ 8 * l < 2147483648 from ⟨by omega, by omega⟩).2 ?_
  refine z_iload_n 2 dX11_quota_39 rfl ?_
  refine z_iaddN dX11_quota_40 (show -2147483648 ≤ (8 * l) + p ∧ (8 * l) + p < 2147483648 from ⟨by omega, by omega⟩).1 (show -2147483648 ≤ (8 * l) + p ∧ (8 * l) + p < 2147483648 from ⟨by omega, by omega⟩).2 ?_
  refine z_iald dX11_quota_41 (zOb.lit (by decide +kernel)) (show 0 ≤ ((8 * l) + p) ∧ ((8 * l) + p) < 32 from ⟨by omega, by omega⟩).1 (show 0 ≤ ((8 * l) + p) ∧ ((8 * l) + p) < 32 from ⟨by omega, by omega⟩).2 ?_
  exact z_iret dX11_quota_42 rfl (k1)

set_option maxRecDepth 20000 in
theorem bX11_called_0 {X : zX} {dep bc bs : Nat} (l : Int) (t : Int) {h : zH} {Q : Nat → zH → List zV → Prop} (hl : 0 ≤ h 169 65 ∧ h 169 65 ≤ 4) (hdep : 2 ≤ dep)
    (k1 : 0 ≤ l ∧ l < (h 169 65) → zW mX11_called X dep bc bs 239 18 [(0, xR 169), (1, xI l), (2, xI t)] [xI t, xI l, xR 169] (zst h 169 0 0) Q)
    (k2 : ¬ (0 ≤ l ∧ l < (h 169 65)) → Q 239 (zst h 169 0 0) [xI (-1)]) : zW mX11_called X dep bc bs 239 0 [(0, xR 169), (1, xI l), (2, xI t)] [] h Q := by
  refine z_aload_n 0 dX11_called_0 rfl ?_
  refine z_iconst dX11_called_1 (zi32_d rfl) ?_
  refine z_putI (k := 0) (kz := 0) pk11 dX11_called_2 (by decide) zb_1124 rfl (zFit_int _) (zOb.lit (by decide +kernel)) rfl ?_
  refine z_aload_n 0 dX11_called_5 rfl ?_
  refine z_iload_n 1 dX11_called_6 rfl ?_
  refine z_invF (ci := 11) (N := 97) (as := [xI l]) (st := []) (ra := [xI l]) (dep' := dep - 1) (rs := [xI (zb (0 ≤ l ∧ l < (h 169 65)))]) (h' := (zst h 169 0 0)) (by have e1 : (zst h 169 0 0) 169 65 = (h 169 65) := (zst_ne (Or.inr (by decide))); have z9 := f_X11_isLot (X := X) (dep := dep - 1) l (h := (zst h 169 0 0)) (by have y1 : (zst h 169 0 0) 169 65 = (h 169 65) := (zst_ne (Or.inr (by decide))); simp only [y1]; omega) (by omega); rw [e1] at z9; exact z9) dX11_called_7 nX11_isLot zb_1583 zb_1585 zb_55 zb_92 (zOb.lit (by decide +kernel)) rfl (by omega) zne_I (Nat.le_of_ble_eq_true rfl) (Nat.le_of_ble_eq_true rfl) rfl ?_
  refine z_ifB_ne (C := 0 ≤ l ∧ l < (h 169 65)) (tgt := 15) dX11_called_10 (by decide) (fun c1 => ?_) (fun c1 => ?_)
  ·
    refine z_aload_n 0 dX11_called_15 rfl ?_
    refine z_iload_n 1 dX11_called_16 rfl ?_
    refine z_iload_n 2 dX11_called_17 rfl ?_
    exact k1 c1
  ·
    refine z_iconst dX11_called_13 (zi32_d rfl) ?_
    exact z_iret dX11_called_14 rfl (k2 c1)

set_option maxRecDepth 20000 in
theorem rX11_called_18 {X : zX} {dep bc bs : Nat} (l : Int) (t : Int) {h : zH} {Q : Nat → zH → List zV → Prop} {P : zH → Prop}
    (hZ : zW mX11_roll X (dep - 1) 0 0 239 0 (zar 0 [xR 169, xI l, xI t]) [] h (zQ0 P)) (hdep : 1 ≤ dep)
    (k : ∀ g : zH, P g → zW mX11_called X dep bc bs 239 21 [(0, xR 169), (1, xI l), (2, xI t)] [] g Q) : zW mX11_called X dep bc bs 239 18 [(0, xR 169), (1, xI l), (2, xI t)] [xI t, xI l, xR 169] h Q :=
  z_invQ0 (ci := 11) (N := 97) (as := [xI l, xI t]) (st := []) (ra := [xI t, xI l]) hZ dX11_called_18 nX11_roll zb_1627 zb_1629 zb_61 zb_92 (zOb.lit (by decide +kernel)) rfl (by omega) (Nat.le_of_ble_eq_true rfl) (Nat.le_of_ble_eq_true rfl) rfl (fun g hg => k g hg)

set_option maxRecDepth 20000 in
theorem bX11_called_21 {X : zX} {dep bc bs : Nat} (l : Int) (t : Int) {g : zH} {Q : Nat → zH → List zV → Prop}
    (k1 : zW mX11_called X dep bc bs 239 26 [(0, xR 169), (1, xI l), (2, xI t), (3, xI 0), (4, xI 0)] [] g Q) : zW mX11_called X dep bc bs 239 21 [(0, xR 169), (1, xI l), (2, xI t)] [] g Q := by
  refine z_iconst dX11_called_21 (zi32_d rfl) ?_
  refine z_istore_n (lv' := [(3, xI 0), (0, xR 169), (1, xI l), (2, xI t)]) dX11_called_22 (by decide) rfl ?_
  refine z_iconst dX11_called_23 (zi32_d rfl) ?_
  refine z_istore (lv' := [(4, xI 0), (3, xI 0), (0, xR 169), (1, xI l), (2, xI t)]) dX11_called_24 (by decide) rfl ?_
  refine zW.sub (lv' := [(0, xR 169), (1, xI l), (2, xI t), (3, xI 0), (4, xI 0)]) [2, 3, 4, 1, 0] rfl ?_
  exact k1

set_option maxRecDepth 20000 in
theorem bX11_called_26 {X : zX} {dep bc bs : Nat} (l : Int) (t : Int) (n : Int) (m : Int) {g : zH} {Q : Nat → zH → List zV → Prop} (hm : 0 ≤ g 169 25 ∧ g 169 25 ≤ 60) (hl : 0 ≤ l ∧ l < 4) (hx : 0 ≤ m ∧ m ≤ 60) (hn : 0 ≤ n ∧ n ≤ m)
    (k1 : (g 169 25) ≤ m → Q 239 g [xI n])
    (k2 : ¬ ((g 169 25) ≤ m) → zW mX11_called X dep bc bs 239 26 [(0, xR 169), (1, xI l), (2, xI t), (3, xI (n + (if (g 219 ((60 * l) + m)) = 5 then 1 else 0 : Int))), (4, xI (m + 1))] [] g Q) : zW mX11_called X dep bc bs 239 26 [(0, xR 169), (1, xI l), (2, xI t), (3, xI n), (4, xI m)] [] g Q := by
  refine z_iload 4 dX11_called_26 rfl ?_
  refine z_aload_n 0 dX11_called_28 rfl ?_
  refine z_getI (k := 25) (kz := 25) pk11 dX11_called_29 (by decide) zb_1149 rfl (zOb.lit (by decide +kernel)) rfl ?_
  refine z_icmp_ge (tgt := 65) dX11_called_32 (by decide) (fun c1 => ?_) (fun c1 => ?_)
  ·
    refine z_iload_n 3 dX11_called_65 rfl ?_
    exact z_iret dX11_called_66 rfl (k1 c1)
  ·
    refine z_iload_n 3 dX11_called_35 rfl ?_
    refine z_aload_n 0 dX11_called_36 rfl ?_
    refine z_getS (v := 219) (k := 72) (kz := 72) pk11 dX11_called_37 (by decide) zb_1196 rfl (zOb.lit (by decide +kernel)) rfl (by decide +kernel) ?_
    refine z_bipush dX11_called_40 (zi32_d rfl) (by decide) ?_
    refine z_iload_n 1 dX11_called_42 rfl ?_
    refine z_imulN dX11_called_43 (show -2147483648 ≤ 60 * l ∧ 60 * l < 2147483648 from ⟨by omega, by omega⟩).1 (show -2147483648 ≤ 60 * l ∧ 60 * l < 2147483648 from ⟨by omega, by omega⟩).2 ?_
    refine z_iload 4 dX11_called_44 rfl ?_
    refine z_iaddN dX11_called_46 (show -2147483648 ≤ (60 * l) + m ∧ (60 * l) + m < 2147483648 from ⟨by omega, by omega⟩).1 (show -2147483648 ≤ (60 * l) + m ∧ (60 * l) + m < 2147483648 from ⟨by omega, by omega⟩).2 ?_
    refine z_iald dX11_called_47 (zOb.lit (by decide +kernel)) (show 0 ≤ ((60 * l) + m) ∧ ((60 * l) + m) < 240 from ⟨by omega, by omega⟩).1 (show 0 ≤ ((60 * l) + m) ∧ ((60 * l) + m) < 240 from ⟨by omega, by omega⟩).2 ?_
    refine z_iconst dX11_called_48 (zi32_d rfl) ?_
    suffices KJ : zW mX11_called X dep bc bs 239 57 [(0, xR 169), (1, xI l), (2, xI t), (3, xI n), (4, xI m)] [xI (if (g 219 ((60 * l) + m)) = 5 then 1 else 0 : Int), xI n] g Q by
      refine z_icmp_ne (tgt := 56) dX11_called_49 (by decide) (fun j1 => ?_) (fun j1 => ?_)
      ·
        refine z_iconst dX11_called_56 (zi32_d rfl) ?_
        rw [if_neg j1] at KJ
        exact KJ
      ·
        refine z_iconst dX11_called_52 (zi32_d rfl) ?_
        refine z_goto (tgt := 57) dX11_called_53 (by decide) ?_
        rw [if_pos j1] at KJ
        exact KJ
    refine z_iaddN dX11_called_57 (show -2147483648 ≤ n + (if (g 219 ((60 * l) + m)) = 5 then 1 else 0 : Int) ∧ n + (if (g 219 ((60 * l) + m)) = 5 then 1 else 0 : Int) < 2147483648 from ⟨by omega, by omega⟩).1 (show -2147483648 ≤ n + (if (g 219 ((60 * l) + m)) = 5 then 1 else 0 : Int) ∧ n + (if (g 219 ((60 * l) + m)) = 5 then 1 else 0 : Int) < 2147483648 from ⟨by omega, by omega⟩).2 ?_
    refine z_istore_n (lv' := [(3, xI (n + (if (g 219 ((60 * l) + m)) = 5 then 1 else 0 : Int))), (0, xR 169), (1, xI l), (2, xI t), (4, xI m)]) dX11_called_58 (by decide) rfl ?_
    refine z_iincN (lv' := [(4, xI (m + 1)), (3, xI (n + (if (g 219 ((60 * l) + m)) = 5 then 1 else 0 : Int))), (0, xR 169), (1, xI l), (2, xI t)]) 4 dX11_called_59 rfl (by decide) rfl (show -2147483648 ≤ m + 1 ∧ m + 1 < 2147483648 from ⟨by omega, by omega⟩).1 (show -2147483648 ≤ m + 1 ∧ m + 1 < 2147483648 from ⟨by omega, by omega⟩).2 ?_
    refine z_goto (tgt := 26) dX11_called_62 (by decide) ?_
    refine zW.sub (lv' := [(0, xR 169), (1, xI l), (2, xI t), (3, xI (n + (if (g 219 ((60 * l) + m)) = 5 then 1 else 0 : Int))), (4, xI (m + 1))]) [2, 3, 4, 1, 0] rfl ?_
    exact k2 c1

set_option maxRecDepth 20000 in
theorem bX11_send_0 {X : zX} {dep bc bs : Nat} (l : Int) (a : Int) (b : Int) {h : zH} {Q : Nat → zH → List zV → Prop} (hm : 0 ≤ h 169 25 ∧ h 169 25 ≤ 60) (hl : 0 ≤ h 169 65 ∧ h 169 65 ≤ 4) (hs : 0 ≤ h 169 85 ∧ h 169 85 ≤ 60) (hdep : 2 ≤ dep)
    (k1 : ¬ (0 ≤ l ∧ l < (h 169 65)) → Q 239 (zst h 169 0 0) [xI 0])
    (k2 : 0 ≤ l ∧ l < (h 169 65) → ¬ (0 ≤ a ∧ a < (h 169 25)) → Q 239 (zst h 169 0 0) [xI 0])
    (k3 : 0 ≤ l ∧ l < (h 169 65) → 0 ≤ a ∧ a < (h 169 25) → ¬ (0 ≤ b ∧ b < (h 169 25)) → Q 239 (zst h 169 0 0) [xI 0])
    (k4 : 0 ≤ l ∧ l < (h 169 65) → 0 ≤ a ∧ a < (h 169 25) → 0 ≤ b ∧ b < (h 169 25) → (h 169 85) = 60 → Q 239 (zst h 169 0 0) [xI 0])
    (k5 : 0 ≤ l ∧ l < (h 169 65) → 0 ≤ a ∧ a < (h 169 25) → 0 ≤ b ∧ b < (h 169 25) → ¬ ((h 169 85) = 60) → (h 205 l) ≤ (h 169 5) → zW mX11_send X dep bc bs 239 59 [(0, xR 169), (1, xI l), (2, xI a), (3, xI b)] [xI (h 169 5), xI l, xR 169] (zst h 169 0 0) Q)
    (k6 : 0 ≤ l ∧ l < (h 169 65) → 0 ≤ a ∧ a < (h 169 25) → 0 ≤ b ∧ b < (h 169 25) → ¬ ((h 169 85) = 60) → ¬ ((h 205 l) ≤ (h 169 5)) → Q 239 (zst h 169 0 0) [xI 0]) : zW mX11_send X dep bc bs 239 0 [(0, xR 169), (1, xI l), (2, xI a), (3, xI b)] [] h Q := by
  refine z_aload_n 0 dX11_send_0 rfl ?_
  refine z_iconst dX11_send_1 (zi32_d rfl) ?_
  refine z_putI (k := 0) (kz := 0) pk11 dX11_send_2 (by decide) zb_1124 rfl (zFit_int _) (zOb.lit (by decide +kernel)) rfl ?_
  refine z_aload_n 0 dX11_send_5 rfl ?_
  refine z_iload_n 1 dX11_send_6 rfl ?_
  refine z_invF (ci := 11) (N := 97) (as := [xI l]) (st := []) (ra := [xI l]) (dep' := dep - 1) (rs := [xI (zb (0 ≤ l ∧ l < (h 169 65)))]) (h' := (zst h 169 0 0)) (by have e1 : (zst h 169 0 0) 169 65 = (h 169 65) := (zst_ne (Or.inr (by decide))); have z9 := f_X11_isLot (X := X) (dep := dep - 1) l (h := (zst h 169 0 0)) (by have y1 : (zst h 169 0 0) 169 65 = (h 169 65) := (zst_ne (Or.inr (by decide))); simp only [y1]; omega) (by omega); rw [e1] at z9; exact z9) dX11_send_7 nX11_isLot zb_1583 zb_1585 zb_55 zb_92 (zOb.lit (by decide +kernel)) rfl (by omega) zne_I (Nat.le_of_ble_eq_true rfl) (Nat.le_of_ble_eq_true rfl) rfl ?_
  refine z_ifB_eq (C := 0 ≤ l ∧ l < (h 169 65)) (tgt := 51) dX11_send_10 (by decide) (fun c1 => ?_) (fun c1 => ?_)
  ·
    refine z_iconst dX11_send_51 (zi32_d rfl) ?_
    exact z_zret dX11_send_52 rfl (Or.inl rfl) (k1 c1)
  ·
    refine z_aload_n 0 dX11_send_13 rfl ?_
    refine z_iload_n 2 dX11_send_14 rfl ?_
    refine z_invF (ci := 11) (N := 97) (as := [xI a]) (st := []) (ra := [xI a]) (dep' := dep - 1) (rs := [xI (zb (0 ≤ a ∧ a < (h 169 25)))]) (h' := (zst h 169 0 0)) (by have e1 : (zst h 169 0 0) 169 25 = (h 169 25) := (zst_ne (Or.inr (by decide))); have z9 := f_X11_isMan (X := X) (dep := dep - 1) a (h := (zst h 169 0 0)) (by have y1 : (zst h 169 0 0) 169 25 = (h 169 25) := (zst_ne (Or.inr (by decide))); simp only [y1]; omega) (by omega); rw [e1] at z9; exact z9) dX11_send_15 nX11_isMan zb_1455 zb_1457 zb_37 zb_92 (zOb.lit (by decide +kernel)) rfl (by omega) zne_I (Nat.le_of_ble_eq_true rfl) (Nat.le_of_ble_eq_true rfl) rfl ?_
    refine z_ifB_eq (C := 0 ≤ a ∧ a < (h 169 25)) (tgt := 51) dX11_send_18 (by decide) (fun c2 => ?_) (fun c2 => ?_)
    ·
      refine z_iconst dX11_send_51 (zi32_d rfl) ?_
      exact z_zret dX11_send_52 rfl (Or.inl rfl) (k2 c1 c2)
    ·
      refine z_aload_n 0 dX11_send_21 rfl ?_
      refine z_iload_n 3 dX11_send_22 rfl ?_
      refine z_invF (ci := 11) (N := 97) (as := [xI b]) (st := []) (ra := [xI b]) (dep' := dep - 1) (rs := [xI (zb (0 ≤ b ∧ b < (h 169 25)))]) (h' := (zst h 169 0 0)) (by have e1 : (zst h 169 0 0) 169 25 = (h 169 25) := (zst_ne (Or.inr (by decide))); have z9 := f_X11_isMan (X := X) (dep := dep - 1) b (h := (zst h 169 0 0)) (by have y1 : (zst h 169 0 0) 169 25 = (h 169 25) := (zst_ne (Or.inr (by decide))); simp only [y1]; omega) (by omega); rw [e1] at z9; exact z9) dX11_send_23 nX11_isMan zb_1455 zb_1457 zb_37 zb_92 (zOb.lit (by decide +kernel)) rfl (by omega) zne_I (Nat.le_of_ble_eq_true rfl) (Nat.le_of_ble_eq_true rfl) rfl ?_
      refine z_ifB_eq (C := 0 ≤ b ∧ b < (h 169 25)) (tgt := 51) dX11_send_26 (by decide) (fun c3 => ?_) (fun c3 => ?_)
      ·
        refine z_iconst dX11_send_51 (zi32_d rfl) ?_
        exact z_zret dX11_send_52 rfl (Or.inl rfl) (k3 c1 c2 c3)
      ·
        refine z_aload_n 0 dX11_send_29 rfl ?_
        refine z_getIV (v := (h 169 85)) (k := 85) (kz := 85) pk11 dX11_send_30 (by decide) zb_1209 rfl (zOb.lit (by decide +kernel)) rfl (zst_ne (Or.inr (by decide))) ?_
        refine z_bipush dX11_send_33 (zi32_d rfl) (by decide) ?_
        refine z_icmp_eq (tgt := 51) dX11_send_35 (by decide) (fun c4 => ?_) (fun c4 => ?_)
        ·
          refine z_iconst dX11_send_51 (zi32_d rfl) ?_
          exact z_zret dX11_send_52 rfl (Or.inl rfl) (k4 c1 c2 c3 c4)
        ·
          refine z_aload_n 0 dX11_send_38 rfl ?_
          refine z_getIV (v := (h 169 5)) (k := 5) (kz := 5) pk11 dX11_send_39 (by decide) zb_1129 rfl (zOb.lit (by decide +kernel)) rfl (zst_ne (Or.inr (by decide))) ?_
          refine z_aload_n 0 dX11_send_42 rfl ?_
          refine z_getS (v := 205) (k := 57) (kz := 57) pk11 dX11_send_43 (by decide) zb_1181 rfl (zOb.lit (by decide +kernel)) rfl (by decide +kernel) ?_
          refine z_iload_n 1 dX11_send_46 rfl ?_
          refine z_ialdV (v := (h 205 l)) dX11_send_47 (zOb.lit (by decide +kernel)) (show 0 ≤ l ∧ l < 4 from ⟨by omega, by omega⟩).1 (show 0 ≤ l ∧ l < 4 from ⟨by omega, by omega⟩).2 (zst_ne (Or.inl (by decide))) ?_
          refine z_icmp_ge (tgt := 53) dX11_send_48 (by decide) (fun c5 => ?_) (fun c5 => ?_)
          ·
            refine z_aload_n 0 dX11_send_53 rfl ?_
            refine z_iload_n 1 dX11_send_54 rfl ?_
            refine z_aload_n 0 dX11_send_55 rfl ?_
            refine z_getIV (v := (h 169 5)) (k := 5) (kz := 5) pk11 dX11_send_56 (by decide) zb_1129 rfl (zOb.lit (by decide +kernel)) rfl (zst_ne (Or.inr (by decide))) ?_
            exact k5 c1 c2 c3 c4 c5
          ·
            refine z_iconst dX11_send_51 (zi32_d rfl) ?_
            exact z_zret dX11_send_52 rfl (Or.inl rfl) (k6 c1 c2 c3 c4 c5)

set_option maxRecDepth 20000 in
theorem rX11_send_59 {X : zX} {dep bc bs : Nat} (l : Int) (a : Int) (b : Int) (t : Int) {h : zH} {Q : Nat → zH → List zV → Prop} {P : zH → Prop}
    (hZ : zW mX11_roll X (dep - 1) 0 0 239 0 (zar 0 [xR 169, xI l, xI t]) [] h (zQ0 P)) (hdep : 1 ≤ dep)
    (k : ∀ g : zH, P g → zW mX11_send X dep bc bs 239 62 [(0, xR 169), (1, xI l), (2, xI a), (3, xI b)] [] g Q) : zW mX11_send X dep bc bs 239 59 [(0, xR 169), (1, xI l), (2, xI a), (3, xI b)] [xI t, xI l, xR 169] h Q :=
  z_invQ0 (ci := 11) (N := 97) (as := [xI l, xI t]) (st := []) (ra := [xI t, xI l]) hZ dX11_send_59 nX11_roll zb_1627 zb_1629 zb_61 zb_92 (zOb.lit (by decide +kernel)) rfl (by omega) (Nat.le_of_ble_eq_true rfl) (Nat.le_of_ble_eq_true rfl) rfl (fun g hg => k g hg)

set_option maxRecDepth 20000 in
theorem bX11_send_62 {X : zX} {dep bc bs : Nat} (l : Int) (a : Int) (b : Int) {g : zH} {Q : Nat → zH → List zV → Prop} (hl : 0 ≤ l ∧ l < 4) (hs : 0 ≤ g 169 85 ∧ g 169 85 ≤ 60) (ha : 0 ≤ a ∧ a < 60) (hb : 0 ≤ b ∧ b < 60) (hdep : 1 ≤ dep)
    (k1 : (g 219 ((60 * l) + a)) = 5 → (msent g l a (g 169 5)) < 0 → (g 219 ((60 * l) + b)) = 1 → mws g l b → Q 239 g [xI 0])
    (k2 : (g 219 ((60 * l) + a)) = 5 → (msent g l a (g 169 5)) < 0 → (g 219 ((60 * l) + b)) = 1 → ¬ (mws g l b) → (msent g l b (g 169 5)) < 0 → zW mX11_send X dep bc bs 239 159 [(0, xR 169), (1, xI l), (2, xI a), (3, xI b)] [] g Q)
    (k3 : (g 219 ((60 * l) + a)) = 5 → (msent g l a (g 169 5)) < 0 → (g 219 ((60 * l) + b)) = 1 → ¬ (mws g l b) → ¬ ((msent g l b (g 169 5)) < 0) → Q 239 g [xI 0])
    (k4 : (g 219 ((60 * l) + a)) = 5 → (msent g l a (g 169 5)) < 0 → ¬ ((g 219 ((60 * l) + b)) = 1) → ¬ (g 219 ((60 * l) + b)) = 4 → Q 239 g [xI 0])
    (k5 : (g 219 ((60 * l) + a)) = 5 → (msent g l a (g 169 5)) < 0 → ¬ ((g 219 ((60 * l) + b)) = 1) → (g 219 ((60 * l) + b)) = 4 → mws g l b → Q 239 g [xI 0])
    (k6 : (g 219 ((60 * l) + a)) = 5 → (msent g l a (g 169 5)) < 0 → ¬ ((g 219 ((60 * l) + b)) = 1) → (g 219 ((60 * l) + b)) = 4 → ¬ (mws g l b) → (msent g l b (g 169 5)) < 0 → zW mX11_send X dep bc bs 239 159 [(0, xR 169), (1, xI l), (2, xI a), (3, xI b)] [] g Q)
    (k7 : (g 219 ((60 * l) + a)) = 5 → (msent g l a (g 169 5)) < 0 → ¬ ((g 219 ((60 * l) + b)) = 1) → (g 219 ((60 * l) + b)) = 4 → ¬ (mws g l b) → ¬ ((msent g l b (g 169 5)) < 0) → Q 239 g [xI 0])
    (k8 : (g 219 ((60 * l) + a)) = 5 → ¬ ((msent g l a (g 169 5)) < 0) → Q 239 g [xI 0])
    (k9 : ¬ ((g 219 ((60 * l) + a)) = 5) → (g 219 ((60 * l) + a)) = 0 → Q 239 g [xI 0])
    (k10 : ¬ ((g 219 ((60 * l) + a)) = 5) → ¬ ((g 219 ((60 * l) + a)) = 0) → ¬ (mws g l a) → Q 239 g [xI 0])
    (k11 : ¬ ((g 219 ((60 * l) + a)) = 5) → ¬ ((g 219 ((60 * l) + a)) = 0) → mws g l a → (msent g l a (g 169 5)) < 0 → (g 219 ((60 * l) + b)) = 1 → mws g l b → Q 239 g [xI 0])
    (k12 : ¬ ((g 219 ((60 * l) + a)) = 5) → ¬ ((g 219 ((60 * l) + a)) = 0) → mws g l a → (msent g l a (g 169 5)) < 0 → (g 219 ((60 * l) + b)) = 1 → ¬ (mws g l b) → (msent g l b (g 169 5)) < 0 → zW mX11_send X dep bc bs 239 159 [(0, xR 169), (1, xI l), (2, xI a), (3, xI b)] [] g Q)
    (k13 : ¬ ((g 219 ((60 * l) + a)) = 5) → ¬ ((g 219 ((60 * l) + a)) = 0) → mws g l a → (msent g l a (g 169 5)) < 0 → (g 219 ((60 * l) + b)) = 1 → ¬ (mws g l b) → ¬ ((msent g l b (g 169 5)) < 0) → Q 239 g [xI 0])
    (k14 : ¬ ((g 219 ((60 * l) + a)) = 5) → ¬ ((g 219 ((60 * l) + a)) = 0) → mws g l a → (msent g l a (g 169 5)) < 0 → ¬ ((g 219 ((60 * l) + b)) = 1) → ¬ (g 219 ((60 * l) + b)) = 4 → Q 239 g [xI 0])
    (k15 : ¬ ((g 219 ((60 * l) + a)) = 5) → ¬ ((g 219 ((60 * l) + a)) = 0) → mws g l a → (msent g l a (g 169 5)) < 0 → ¬ ((g 219 ((60 * l) + b)) = 1) → (g 219 ((60 * l) + b)) = 4 → mws g l b → Q 239 g [xI 0])
    (k16 : ¬ ((g 219 ((60 * l) + a)) = 5) → ¬ ((g 219 ((60 * l) + a)) = 0) → mws g l a → (msent g l a (g 169 5)) < 0 → ¬ ((g 219 ((60 * l) + b)) = 1) → (g 219 ((60 * l) + b)) = 4 → ¬ (mws g l b) → (msent g l b (g 169 5)) < 0 → zW mX11_send X dep bc bs 239 159 [(0, xR 169), (1, xI l), (2, xI a), (3, xI b)] [] g Q)
    (k17 : ¬ ((g 219 ((60 * l) + a)) = 5) → ¬ ((g 219 ((60 * l) + a)) = 0) → mws g l a → (msent g l a (g 169 5)) < 0 → ¬ ((g 219 ((60 * l) + b)) = 1) → (g 219 ((60 * l) + b)) = 4 → ¬ (mws g l b) → ¬ ((msent g l b (g 169 5)) < 0) → Q 239 g [xI 0])
    (k18 : ¬ ((g 219 ((60 * l) + a)) = 5) → ¬ ((g 219 ((60 * l) + a)) = 0) → mws g l a → ¬ ((msent g l a (g 169 5)) < 0) → Q 239 g [xI 0]) : zW mX11_send X dep bc bs 239 62 [(0, xR 169), (1, xI l), (2, xI a), (3, xI b)] [] g Q := by
  refine z_aload_n 0 dX11_send_62 rfl ?_
  refine z_getS (v := 219) (k := 72) (kz := 72) pk11 dX11_send_63 (by decide) zb_1196 rfl (zOb.lit (by decide +kernel)) rfl (by decide +kernel) ?_
  refine z_bipush dX11_send_66 (zi32_d rfl) (by decide) ?_
  refine z_iload_n 1 dX11_send_68 rfl ?_
  refine z_imulN dX11_send_69 (show -2147483648 ≤ 60 * l ∧ 60 * l < 2147483648 from ⟨by omega, by omega⟩).1 (show -2147483648 ≤ 60 * l ∧ 60 * l < 2147483648 from ⟨by omega, by omega⟩).2 ?_
  refine z_iload_n 2 dX11_send_70 rfl ?_
  refine z_iaddN dX11_send_71 (show -2147483648 ≤ (60 * l) + a ∧ (60 * l) + a < 2147483648 from ⟨by omega, by omega⟩).1 (show -2147483648 ≤ (60 * l) + a ∧ (60 * l) + a < 2147483648 from ⟨by omega, by omega⟩).2 ?_
  refine z_iald dX11_send_72 (zOb.lit (by decide +kernel)) (show 0 ≤ ((60 * l) + a) ∧ ((60 * l) + a) < 240 from ⟨by omega, by omega⟩).1 (show 0 ≤ ((60 * l) + a) ∧ ((60 * l) + a) < 240 from ⟨by omega, by omega⟩).2 ?_
  refine z_istore (lv' := [(4, xI (g 219 ((60 * l) + a))), (0, xR 169), (1, xI l), (2, xI a), (3, xI b)]) dX11_send_73 (by decide) rfl ?_
  refine z_aload_n 1 dX11_send_75 rfl ?_
  refine z_getS (v := 219) (k := 72) (kz := 72) pk11 dX11_send_76 (by decide) zb_1196 rfl (zOb.lit (by decide +kernel)) rfl (by decide +kernel) ?_
  refine z_bipush dX11_send_79 (zi32_d rfl) (by decide) ?_
  refine z_iload_n 2 dX11_send_81 rfl ?_
  refine z_imulN dX11_send_82 (show -2147483648 ≤ 60 * l ∧ 60 * l < 2147483648 from ⟨by omega, by omega⟩).1 (show -2147483648 ≤ 60 * l ∧ 60 * l < 2147483648 from ⟨by omega, by omega⟩).2 ?_
  refine z_iload_n 4 dX11_send_83 rfl ?_
  refine z_iaddN dX11_send_84 (show -2147483648 ≤ (60 * l) + b ∧ (60 * l) + b < 2147483648 from ⟨by omega, by omega⟩).1 (show -2147483648 ≤ (60 * l) + b ∧ (60 * l) + b < 2147483648 from ⟨by omega, by omega⟩).2 ?_
  refine z_iald dX11_send_85 (zOb.lit (by decide +kernel)) (show 0 ≤ ((60 * l) + b) ∧ ((60 * l) + b) < 240 from ⟨by omega, by omega⟩).1 (show 0 ≤ ((60 * l) + b) ∧ ((60 * l) + b) < 240 from ⟨by omega, by omega⟩).2 ?_
  refine z_istore (lv' := [(5, xI (g 219 ((60 * l) + b))), (4, xI (g 219 ((60 * l) + a))), (0, xR 169), (1, xI l), (2, xI a), (3, xI b)]) dX11_send_86 (by decide) rfl ?_
  refine z_iload 1 dX11_send_88 rfl ?_
  refine z_iconst dX11_send_90 (zi32_d rfl) ?_
  refine z_icmp_eq (tgt := 108) dX11_send_91 (by decide) (fun c1 => ?_) (fun c1 => ?_)
  ·
    refine z_aload_n 2 dX11_send_108 rfl ?_
    refine z_iload_n 3 dX11_send_109 rfl ?_
    refine z_iload_n 4 dX11_send_110 rfl ?_
    refine z_aload_n 2 dX11_send_111 rfl ?_
    refine z_getI (k := 5) (kz := 5) pk11 dX11_send_112 (by decide) zb_1129 rfl (zOb.lit (by decide +kernel)) rfl ?_
    refine z_invF (ci := 11) (N := 97) (as := [xI l, xI a, xI (g 169 5)]) (st := []) (ra := [xI (g 169 5), xI a, xI l]) (dep' := dep - 1) (rs := [xI (msent g l a (g 169 5))]) (h' := g) (f_X11_sentBy l a (g 169 5) (h := g) hs) dX11_send_115 nX11_sentBy zb_1683 zb_1685 zb_75 zb_92 (zOb.lit (by decide +kernel)) rfl (by omega) zne_I (Nat.le_of_ble_eq_true rfl) (Nat.le_of_ble_eq_true rfl) rfl ?_
    refine z_if_lt (tgt := 123) dX11_send_118 (by decide) (fun c2 => ?_) (fun c2 => ?_)
    ·
      refine z_iload 0 dX11_send_123 rfl ?_
      refine z_iconst dX11_send_125 (zi32_d rfl) ?_
      refine z_icmp_eq (tgt := 135) dX11_send_126 (by decide) (fun c3 => ?_) (fun c3 => ?_)
      ·
        refine z_aload_n 2 dX11_send_135 rfl ?_
        refine z_iload_n 3 dX11_send_136 rfl ?_
        refine z_iload_n 5 dX11_send_137 rfl ?_
        refine z_invF (ci := 11) (N := 97) (as := [xI l, xI b]) (st := []) (ra := [xI b, xI l]) (dep' := dep - 1) (rs := [xI (zb (mws g l b))]) (h' := g) (f_X11_wasSent l b (h := g) hs) dX11_send_138 nX11_wasSent zb_1707 zb_1709 zb_76 zb_92 (zOb.lit (by decide +kernel)) rfl (by omega) zne_I (Nat.le_of_ble_eq_true rfl) (Nat.le_of_ble_eq_true rfl) rfl ?_
        refine z_ifB_ne (C := mws g l b) (tgt := 157) dX11_send_141 (by decide) (fun c4 => ?_) (fun c4 => ?_)
        ·
          refine z_iconst dX11_send_157 (zi32_d rfl) ?_
          exact z_zret dX11_send_158 rfl (Or.inl rfl) (k1 c1 c2 c3 c4)
        ·
          refine z_aload_n 2 dX11_send_144 rfl ?_
          refine z_iload_n 3 dX11_send_145 rfl ?_
          refine z_iload_n 5 dX11_send_146 rfl ?_
          refine z_aload_n 2 dX11_send_147 rfl ?_
          refine z_getI (k := 5) (kz := 5) pk11 dX11_send_148 (by decide) zb_1129 rfl (zOb.lit (by decide +kernel)) rfl ?_
          refine z_invF (ci := 11) (N := 97) (as := [xI l, xI b, xI (g 169 5)]) (st := []) (ra := [xI (g 169 5), xI b, xI l]) (dep' := dep - 1) (rs := [xI (msent g l b (g 169 5))]) (h' := g) (f_X11_sentBy l b (g 169 5) (h := g) hs) dX11_send_151 nX11_sentBy zb_1683 zb_1685 zb_75 zb_92 (zOb.lit (by decide +kernel)) rfl (by omega) zne_I (Nat.le_of_ble_eq_true rfl) (Nat.le_of_ble_eq_true rfl) rfl ?_
          refine z_if_lt (tgt := 159) dX11_send_154 (by decide) (fun c5 => ?_) (fun c5 => ?_)
          ·
            refine zW.sub (lv' := [(0, xR 169), (1, xI l), (2, xI a), (3, xI b)]) [2, 3, 4, 5] rfl ?_
            exact k2 c1 c2 c3 c4 c5
          ·
            refine z_iconst dX11_send_157 (zi32_d rfl) ?_
            exact z_zret dX11_send_158 rfl (Or.inl rfl) (k3 c1 c2 c3 c4 c5)
      ·
        refine z_iload 0 dX11_send_129 rfl ?_
        refine z_iconst dX11_send_131 (zi32_d rfl) ?_
        refine z_icmp_ne (tgt := 157) dX11_send_132 (by decide) (fun c4 => ?_) (fun c4 => ?_)
        ·
          refine z_iconst dX11_send_157 (zi32_d rfl) ?_
          exact z_zret dX11_send_158 rfl (Or.inl rfl) (k4 c1 c2 c3 c4)
        ·
          refine z_aload_n 2 dX11_send_135 rfl ?_
          refine z_iload_n 3 dX11_send_136 rfl ?_
          refine z_iload_n 5 dX11_send_137 rfl ?_
          refine z_invF (ci := 11) (N := 97) (as := [xI l, xI b]) (st := []) (ra := [xI b, xI l]) (dep' := dep - 1) (rs := [xI (zb (mws g l b))]) (h' := g) (f_X11_wasSent l b (h := g) hs) dX11_send_138 nX11_wasSent zb_1707 zb_1709 zb_76 zb_92 (zOb.lit (by decide +kernel)) rfl (by omega) zne_I (Nat.le_of_ble_eq_true rfl) (Nat.le_of_ble_eq_true rfl) rfl ?_
          refine z_ifB_ne (C := mws g l b) (tgt := 157) dX11_send_141 (by decide) (fun c5 => ?_) (fun c5 => ?_)
          ·
            refine z_iconst dX11_send_157 (zi32_d rfl) ?_
            exact z_zret dX11_send_158 rfl (Or.inl rfl) (k5 c1 c2 c3 c4 c5)
          ·
            refine z_aload_n 2 dX11_send_144 rfl ?_
            refine z_iload_n 3 dX11_send_145 rfl ?_
            refine z_iload_n 5 dX11_send_146 rfl ?_
            refine z_aload_n 2 dX11_send_147 rfl ?_
            refine z_getI (k := 5) (kz := 5) pk11 dX11_send_148 (by decide) zb_1129 rfl (zOb.lit (by decide +kernel)) rfl ?_
            refine z_invF (ci := 11) (N := 97) (as := [xI l, xI b, xI (g 169 5)]) (st := []) (ra := [xI (g 169 5), xI b, xI l]) (dep' := dep - 1) (rs := [xI (msent g l b (g 169 5))]) (h' := g) (f_X11_sentBy l b (g 169 5) (h := g) hs) dX11_send_151 nX11_sentBy zb_1683 zb_1685 zb_75 zb_92 (zOb.lit (by decide +kernel)) rfl (by omega) zne_I (Nat.le_of_ble_eq_true rfl) (Nat.le_of_ble_eq_true rfl) rfl ?_
            refine z_if_lt (tgt := 159) dX11_send_154 (by decide) (fun c6 => ?_) (fun c6 => ?_)
            ·
              refine zW.sub (lv' := [(0, xR 169), (1, xI l), (2, xI a), (3, xI b)]) [2, 3, 4, 5] rfl ?_
              exact k6 c1 c2 c3 c4 c5 c6
            ·
              refine z_iconst dX11_send_157 (zi32_d rfl) ?_
              exact z_zret dX11_send_158 rfl (Or.inl rfl) (k7 c1 c2 c3 c4 c5 c6)
    ·
      refine z_iconst dX11_send_121 (zi32_d rfl) ?_
      exact z_zret dX11_send_122 rfl (Or.inl rfl) (k8 c1 c2)
  ·
    refine z_iload 1 dX11_send_94 rfl ?_
    refine z_if_eq (tgt := 121) dX11_send_96 (by decide) (fun c2 => ?_) (fun c2 => ?_)
    ·
      refine z_iconst dX11_send_121 (zi32_d rfl) ?_
      exact z_zret dX11_send_122 rfl (Or.inl rfl) (k9 c1 c2)
    ·
      refine z_aload_n 2 dX11_send_99 rfl ?_
      refine z_iload_n 3 dX11_send_100 rfl ?_
      refine z_iload_n 4 dX11_send_101 rfl ?_
      refine z_invF (ci := 11) (N := 97) (as := [xI l, xI a]) (st := []) (ra := [xI a, xI l]) (dep' := dep - 1) (rs := [xI (zb (mws g l a))]) (h' := g) (f_X11_wasSent l a (h := g) hs) dX11_send_102 nX11_wasSent zb_1707 zb_1709 zb_76 zb_92 (zOb.lit (by decide +kernel)) rfl (by omega) zne_I (Nat.le_of_ble_eq_true rfl) (Nat.le_of_ble_eq_true rfl) rfl ?_
      refine z_ifB_eq (C := mws g l a) (tgt := 121) dX11_send_105 (by decide) (fun c3 => ?_) (fun c3 => ?_)
      ·
        refine z_iconst dX11_send_121 (zi32_d rfl) ?_
        exact z_zret dX11_send_122 rfl (Or.inl rfl) (k10 c1 c2 c3)
      ·
        refine z_aload_n 2 dX11_send_108 rfl ?_
        refine z_iload_n 3 dX11_send_109 rfl ?_
        refine z_iload_n 4 dX11_send_110 rfl ?_
        refine z_aload_n 2 dX11_send_111 rfl ?_
        refine z_getI (k := 5) (kz := 5) pk11 dX11_send_112 (by decide) zb_1129 rfl (zOb.lit (by decide +kernel)) rfl ?_
        refine z_invF (ci := 11) (N := 97) (as := [xI l, xI a, xI (g 169 5)]) (st := []) (ra := [xI (g 169 5), xI a, xI l]) (dep' := dep - 1) (rs := [xI (msent g l a (g 169 5))]) (h' := g) (f_X11_sentBy l a (g 169 5) (h := g) hs) dX11_send_115 nX11_sentBy zb_1683 zb_1685 zb_75 zb_92 (zOb.lit (by decide +kernel)) rfl (by omega) zne_I (Nat.le_of_ble_eq_true rfl) (Nat.le_of_ble_eq_true rfl) rfl ?_
        refine z_if_lt (tgt := 123) dX11_send_118 (by decide) (fun c4 => ?_) (fun c4 => ?_)
        ·
          refine z_iload 0 dX11_send_123 rfl ?_
          refine z_iconst dX11_send_125 (zi32_d rfl) ?_
          refine z_icmp_eq (tgt := 135) dX11_send_126 (by decide) (fun c5 => ?_) (fun c5 => ?_)
          ·
            refine z_aload_n 2 dX11_send_135 rfl ?_
            refine z_iload_n 3 dX11_send_136 rfl ?_
            refine z_iload_n 5 dX11_send_137 rfl ?_
            refine z_invF (ci := 11) (N := 97) (as := [xI l, xI b]) (st := []) (ra := [xI b, xI l]) (dep' := dep - 1) (rs := [xI (zb (mws g l b))]) (h' := g) (f_X11_wasSent l b (h := g) hs) dX11_send_138 nX11_wasSent zb_1707 zb_1709 zb_76 zb_92 (zOb.lit (by decide +kernel)) rfl (by omega) zne_I (Nat.le_of_ble_eq_true rfl) (Nat.le_of_ble_eq_true rfl) rfl ?_
            refine z_ifB_ne (C := mws g l b) (tgt := 157) dX11_send_141 (by decide) (fun c6 => ?_) (fun c6 => ?_)
            ·
              refine z_iconst dX11_send_157 (zi32_d rfl) ?_
              exact z_zret dX11_send_158 rfl (Or.inl rfl) (k11 c1 c2 c3 c4 c5 c6)
            ·
              refine z_aload_n 2 dX11_send_144 rfl ?_
              refine z_iload_n 3 dX11_send_145 rfl ?_
              refine z_iload_n 5 dX11_send_146 rfl ?_
              refine z_aload_n 2 dX11_send_147 rfl ?_
              refine z_getI (k := 5) (kz := 5) pk11 dX11_send_148 (by decide) zb_1129 rfl (zOb.lit (by decide +kernel)) rfl ?_
              refine z_invF (ci := 11) (N := 97) (as := [xI l, xI b, xI (g 169 5)]) (st := []) (ra := [xI (g 169 5), xI b, xI l]) (dep' := dep - 1) (rs := [xI (msent g l b (g 169 5))]) (h' := g) (f_X11_sentBy l b (g 169 5) (h := g) hs) dX11_send_151 nX11_sentBy zb_1683 zb_1685 zb_75 zb_92 (zOb.lit (by decide +kernel)) rfl (by omega) zne_I (Nat.le_of_ble_eq_true rfl) (Nat.le_of_ble_eq_true rfl) rfl ?_
              refine z_if_lt (tgt := 159) dX11_send_154 (by decide) (fun c7 => ?_) (fun c7 => ?_)
              ·
                refine zW.sub (lv' := [(0, xR 169), (1, xI l), (2, xI a), (3, xI b)]) [2, 3, 4, 5] rfl ?_
                exact k12 c1 c2 c3 c4 c5 c6 c7
              ·
                refine z_iconst dX11_send_157 (zi32_d rfl) ?_
                exact z_zret dX11_send_158 rfl (Or.inl rfl) (k13 c1 c2 c3 c4 c5 c6 c7)
          ·
            refine z_iload 0 dX11_send_129 rfl ?_
            refine z_iconst dX11_send_131 (zi32_d rfl) ?_
            refine z_icmp_ne (tgt := 157) dX11_send_132 (by decide) (fun c6 => ?_) (fun c6 => ?_)
            ·
              refine z_iconst dX11_send_157 (zi32_d rfl) ?_
              exact z_zret dX11_send_158 rfl (Or.inl rfl) (k14 c1 c2 c3 c4 c5 c6)
            ·
              refine z_aload_n 2 dX11_send_135 rfl ?_
              refine z_iload_n 3 dX11_send_136 rfl ?_
              refine z_iload_n 5 dX11_send_137 rfl ?_
              refine z_invF (ci := 11) (N := 97) (as := [xI l, xI b]) (st := []) (ra := [xI b, xI l]) (dep' := dep - 1) (rs := [xI (zb (mws g l b))]) (h' := g) (f_X11_wasSent l b (h := g) hs) dX11_send_138 nX11_wasSent zb_1707 zb_1709 zb_76 zb_92 (zOb.lit (by decide +kernel)) rfl (by omega) zne_I (Nat.le_of_ble_eq_true rfl) (Nat.le_of_ble_eq_true rfl) rfl ?_
              refine z_ifB_ne (C := mws g l b) (tgt := 157) dX11_send_141 (by decide) (fun c7 => ?_) (fun c7 => ?_)
              ·
                refine z_iconst dX11_send_157 (zi32_d rfl) ?_
                exact z_zret dX11_send_158 rfl (Or.inl rfl) (k15 c1 c2 c3 c4 c5 c6 c7)
              ·
                refine z_aload_n 2 dX11_send_144 rfl ?_
                refine z_iload_n 3 dX11_send_145 rfl ?_
                refine z_iload_n 5 dX11_send_146 rfl ?_
                refine z_aload_n 2 dX11_send_147 rfl ?_
                refine z_getI (k := 5) (kz := 5) pk11 dX11_send_148 (by decide) zb_1129 rfl (zOb.lit (by decide +kernel)) rfl ?_
                refine z_invF (ci := 11) (N := 97) (as := [xI l, xI b, xI (g 169 5)]) (st := []) (ra := [xI (g 169 5), xI b, xI l]) (dep' := dep - 1) (rs := [xI (msent g l b (g 169 5))]) (h' := g) (f_X11_sentBy l b (g 169 5) (h := g) hs) dX11_send_151 nX11_sentBy zb_1683 zb_1685 zb_75 zb_92 (zOb.lit (by decide +kernel)) rfl (by omega) zne_I (Nat.le_of_ble_eq_true rfl) (Nat.le_of_ble_eq_true rfl) rfl ?_
                refine z_if_lt (tgt := 159) dX11_send_154 (by decide) (fun c8 => ?_) (fun c8 => ?_)
                ·
                  refine zW.sub (lv' := [(0, xR 169), (1, xI l), (2, xI a), (3, xI b)]) [2, 3, 4, 5] rfl ?_
                  exact k16 c1 c2 c3 c4 c5 c6 c7 c8
                ·
                  refine z_iconst dX11_send_157 (zi32_d rfl) ?_
                  exact z_zret dX11_send_158 rfl (Or.inl rfl) (k17 c1 c2 c3 c4 c5 c6 c7 c8)
        ·
          refine z_iconst dX11_send_121 (zi32_d rfl) ?_
          exact z_zret dX11_send_122 rfl (Or.inl rfl) (k18 c1 c2 c3 c4)

set_option maxRecDepth 20000 in
theorem bX11_send_159 {X : zX} {dep bc bs : Nat} (l : Int) (a : Int) (b : Int) {g : zH} {Q : Nat → zH → List zV → Prop} (hl : 0 ≤ l ∧ l < 4)
    (k1 : zW mX11_send X dep bc bs 239 170 [(0, xR 169), (1, xI l), (2, xI a), (3, xI b)] [xI (g 169 5), xI (g 205 l), xR 169] g Q) : zW mX11_send X dep bc bs 239 159 [(0, xR 169), (1, xI l), (2, xI a), (3, xI b)] [] g Q := by
  refine z_aload_n 0 dX11_send_159 rfl ?_
  refine z_aload_n 0 dX11_send_160 rfl ?_
  refine z_getS (v := 205) (k := 57) (kz := 57) pk11 dX11_send_161 (by decide) zb_1181 rfl (zOb.lit (by decide +kernel)) rfl (by decide +kernel) ?_
  refine z_iload_n 1 dX11_send_164 rfl ?_
  refine z_iald dX11_send_165 (zOb.lit (by decide +kernel)) hl.1 hl.2 ?_
  refine z_aload_n 0 dX11_send_166 rfl ?_
  refine z_getI (k := 5) (kz := 5) pk11 dX11_send_167 (by decide) zb_1129 rfl (zOb.lit (by decide +kernel)) rfl ?_
  exact k1

set_option maxRecDepth 20000 in
theorem rX11_send_170 {X : zX} {dep bc bs : Nat} (l : Int) (a : Int) (b : Int) (d : Int) (t : Int) {g : zH} {Q : Nat → zH → List zV → Prop} {P : zH → Prop}
    (hZ : zW mX11_hold X (dep - 1) 0 0 239 0 (zar 0 [xR 169, xI d, xI t]) [] g (zQ0 P)) (hdep : 1 ≤ dep)
    (k : ∀ g : zH, P g → zW mX11_send X dep bc bs 239 173 [(0, xR 169), (1, xI l), (2, xI a), (3, xI b)] [] g Q) : zW mX11_send X dep bc bs 239 170 [(0, xR 169), (1, xI l), (2, xI a), (3, xI b)] [xI t, xI d, xR 169] g Q :=
  z_invQ0 (ci := 11) (N := 97) (as := [xI d, xI t]) (st := []) (ra := [xI t, xI d]) hZ dX11_send_170 nX11_hold zb_1631 zb_1633 zb_62 zb_92 (zOb.lit (by decide +kernel)) rfl (by omega) (Nat.le_of_ble_eq_true rfl) (Nat.le_of_ble_eq_true rfl) rfl (fun g hg => k g hg)

set_option maxRecDepth 20000 in
theorem bX11_send_173 {X : zX} {dep bc bs : Nat} (l : Int) (a : Int) (b : Int) {g : zH} {Q : Nat → zH → List zV → Prop} (hl : 0 ≤ l ∧ l < 4) (hw : 0 ≤ g 169 45 ∧ g 169 45 ≤ 8) (hdep : 1 ≤ dep)
    (k1 : zW mX11_send X dep bc bs 239 191 [(0, xR 169), (1, xI l), (2, xI a), (3, xI b)] [xI l, xI a, xI 4, xI (mlaw g (g 205 l) (g 169 5)), xR 169] g Q) : zW mX11_send X dep bc bs 239 173 [(0, xR 169), (1, xI l), (2, xI a), (3, xI b)] [] g Q := by
  refine z_aload_n 0 dX11_send_173 rfl ?_
  refine z_aload_n 0 dX11_send_174 rfl ?_
  refine z_aload_n 0 dX11_send_175 rfl ?_
  refine z_getS (v := 205) (k := 57) (kz := 57) pk11 dX11_send_176 (by decide) zb_1181 rfl (zOb.lit (by decide +kernel)) rfl (by decide +kernel) ?_
  refine z_iload_n 1 dX11_send_179 rfl ?_
  refine z_iald dX11_send_180 (zOb.lit (by decide +kernel)) hl.1 hl.2 ?_
  refine z_aload_n 0 dX11_send_181 rfl ?_
  refine z_getI (k := 5) (kz := 5) pk11 dX11_send_182 (by decide) zb_1129 rfl (zOb.lit (by decide +kernel)) rfl ?_
  refine z_invF (ci := 11) (N := 97) (as := [xI (g 205 l), xI (g 169 5)]) (st := [xR 169]) (ra := [xI (g 169 5), xI (g 205 l)]) (dep' := dep - 1) (rs := [xI (mlaw g (g 205 l) (g 169 5))]) (h' := g) (f_X11_lawFor (g 205 l) (g 169 5) (h := g) hw) dX11_send_185 nX11_lawFor zb_1635 zb_1637 zb_63 zb_92 (zOb.lit (by decide +kernel)) rfl (by omega) zne_I (Nat.le_of_ble_eq_true rfl) (Nat.le_of_ble_eq_true rfl) rfl ?_
  refine z_iconst dX11_send_188 (zi32_d rfl) ?_
  refine z_iload_n 2 dX11_send_189 rfl ?_
  refine z_iload_n 1 dX11_send_190 rfl ?_
  exact k1

set_option maxRecDepth 20000 in
theorem rX11_send_191 {X : zX} {dep bc bs : Nat} (l : Int) (a : Int) (b : Int) (w : Int) {g : zH} {Q : Nat → zH → List zV → Prop} {P : Int → zH → Prop}
    (hZ : zW mX11_lineOf X (dep - 1) 0 0 239 0 (zar 0 [xR 169, xI w, xI 4, xI a, xI l]) [] g (zQI P)) (hdep : 1 ≤ dep)
    (k : ∀ (v : Int) (g : zH), P v g → zW mX11_send X dep bc bs 239 194 [(0, xR 169), (1, xI l), (2, xI a), (3, xI b)] [xI v] g Q) : zW mX11_send X dep bc bs 239 191 [(0, xR 169), (1, xI l), (2, xI a), (3, xI b)] [xI l, xI a, xI 4, xI w, xR 169] g Q :=
  z_invQI (ci := 11) (N := 97) (as := [xI w, xI 4, xI a, xI l]) (st := []) (ra := [xI l, xI a, xI 4, xI w]) hZ dX11_send_191 nX11_lineOf zb_1643 zb_1645 zb_65 zb_92 (zOb.lit (by decide +kernel)) rfl (by omega) (Nat.le_of_ble_eq_true rfl) (Nat.le_of_ble_eq_true rfl) rfl (fun v g hg => k v g hg)

set_option maxRecDepth 20000 in
theorem bX11_send_194 {X : zX} {dep bc bs : Nat} (l : Int) (a : Int) (b : Int) (x : Int) {g : zH} {Q : Nat → zH → List zV → Prop} (hl : 0 ≤ l ∧ l < 4) (hx : x < 180) (hs : 0 ≤ g 169 85 ∧ g 169 85 < 60)
    (k1 : x < 0 → Q 239 (zst (zst (zst (zst (zst g 224 (g 169 85) l) 225 (g 169 85) a) 226 (g 169 85) b) 227 (g 169 85) (g 169 5)) 169 85 ((g 169 85) + 1)) [xI 1])
    (k2 : ¬ (x < 0) → (g 200 x) = 0 → Q 239 (zst (zst (zst (zst (zst g 224 (g 169 85) l) 225 (g 169 85) a) 226 (g 169 85) b) 227 (g 169 85) (g 169 5)) 169 85 ((g 169 85) + 1)) [xI 1])
    (k3 : ¬ (x < 0) → ¬ ((g 200 x) = 0) → Q 239 g [xI 0]) : zW mX11_send X dep bc bs 239 194 [(0, xR 169), (1, xI l), (2, xI a), (3, xI b)] [xI x] g Q := by
  refine z_istore (lv' := [(6, xI x), (0, xR 169), (1, xI l), (2, xI a), (3, xI b)]) dX11_send_194 (by decide) rfl ?_
  refine z_iload 0 dX11_send_196 rfl ?_
  refine z_if_lt (tgt := 213) dX11_send_198 (by decide) (fun c1 => ?_) (fun c1 => ?_)
  ·
    refine z_aload_n 1 dX11_send_213 rfl ?_
    refine z_getS (v := 224) (k := 77) (kz := 77) pk11 dX11_send_214 (by decide) zb_1201 rfl (zOb.lit (by decide +kernel)) rfl (by decide +kernel) ?_
    refine z_aload_n 1 dX11_send_217 rfl ?_
    refine z_getI (k := 85) (kz := 85) pk11 dX11_send_218 (by decide) zb_1209 rfl (zOb.lit (by decide +kernel)) rfl ?_
    refine z_iload_n 2 dX11_send_221 rfl ?_
    refine z_iast dX11_send_222 (zOb.lit (by decide +kernel)) (show 0 ≤ (g 169 85) ∧ (g 169 85) < 60 from ⟨by omega, by omega⟩).1 (show 0 ≤ (g 169 85) ∧ (g 169 85) < 60 from ⟨by omega, by omega⟩).2 ?_
    refine z_aload_n 1 dX11_send_223 rfl ?_
    refine z_getS (v := 225) (k := 78) (kz := 78) pk11 dX11_send_224 (by decide) zb_1202 rfl (zOb.lit (by decide +kernel)) rfl (by decide +kernel) ?_
    refine z_aload_n 1 dX11_send_227 rfl ?_
    refine z_getIV (v := (g 169 85)) (k := 85) (kz := 85) pk11 dX11_send_228 (by decide) zb_1209 rfl (zOb.lit (by decide +kernel)) rfl (zst_ne (Or.inl (by decide))) ?_
    refine z_iload_n 3 dX11_send_231 rfl ?_
    refine z_iast dX11_send_232 (zOb.lit (by decide +kernel)) (show 0 ≤ (g 169 85) ∧ (g 169 85) < 60 from ⟨by omega, by omega⟩).1 (show 0 ≤ (g 169 85) ∧ (g 169 85) < 60 from ⟨by omega, by omega⟩).2 ?_
    refine z_aload_n 1 dX11_send_233 rfl ?_
    refine z_getS (v := 226) (k := 79) (kz := 79) pk11 dX11_send_234 (by decide) zb_1203 rfl (zOb.lit (by decide +kernel)) rfl (by decide +kernel) ?_
    refine z_aload_n 1 dX11_send_237 rfl ?_
    refine z_getIV (v := (g 169 85)) (k := 85) (kz := 85) pk11 dX11_send_238 (by decide) zb_1209 rfl (zOb.lit (by decide +kernel)) rfl ((zst_ne (Or.inl (by decide))).trans (zst_ne (Or.inl (by decide)))) ?_
    refine z_iload_n 4 dX11_send_241 rfl ?_
    refine z_iast dX11_send_242 (zOb.lit (by decide +kernel)) (show 0 ≤ (g 169 85) ∧ (g 169 85) < 60 from ⟨by omega, by omega⟩).1 (show 0 ≤ (g 169 85) ∧ (g 169 85) < 60 from ⟨by omega, by omega⟩).2 ?_
    refine z_aload_n 1 dX11_send_243 rfl ?_
    refine z_getS (v := 227) (k := 80) (kz := 80) pk11 dX11_send_244 (by decide) zb_1204 rfl (zOb.lit (by decide +kernel)) rfl (by decide +kernel) ?_
    refine z_aload_n 1 dX11_send_247 rfl ?_
    refine z_getIV (v := (g 169 85)) (k := 85) (kz := 85) pk11 dX11_send_248 (by decide) zb_1209 rfl (zOb.lit (by decide +kernel)) rfl ((zst_ne (Or.inl (by decide))).trans ((zst_ne (Or.inl (by decide))).trans (zst_ne (Or.inl (by decide))))) ?_
    refine z_aload_n 1 dX11_send_251 rfl ?_
    refine z_getIV (v := (g 169 5)) (k := 5) (kz := 5) pk11 dX11_send_252 (by decide) zb_1129 rfl (zOb.lit (by decide +kernel)) rfl ((zst_ne (Or.inl (by decide))).trans ((zst_ne (Or.inl (by decide))).trans (zst_ne (Or.inl (by decide))))) ?_
    refine z_iast dX11_send_255 (zOb.lit (by decide +kernel)) (show 0 ≤ (g 169 85) ∧ (g 169 85) < 60 from ⟨by omega, by omega⟩).1 (show 0 ≤ (g 169 85) ∧ (g 169 85) < 60 from ⟨by omega, by omega⟩).2 ?_
    refine z_aload_n 1 dX11_send_256 rfl ?_
    refine z_dup dX11_send_257 zt2 ?_
    refine z_getIV (v := (g 169 85)) (k := 85) (kz := 85) pk11 dX11_send_258 (by decide) zb_1209 rfl (zOb.lit (by decide +kernel)) rfl ((zst_ne (Or.inl (by decide))).trans ((zst_ne (Or.inl (by decide))).trans ((zst_ne (Or.inl (by decide))).trans (zst_ne (Or.inl (by decide)))))) ?_
    refine z_iconst dX11_send_261 (zi32_d rfl) ?_
    refine z_iaddN dX11_send_262 (show -2147483648 ≤ (g 169 85) + 1 ∧ (g 169 85) + 1 < 2147483648 from ⟨by omega, by omega⟩).1 (show -2147483648 ≤ (g 169 85) + 1 ∧ (g 169 85) + 1 < 2147483648 from ⟨by omega, by omega⟩).2 ?_
    refine z_putI (k := 85) (kz := 85) pk11 dX11_send_263 (by decide) zb_1209 rfl (zFit_int _) (zOb.lit (by decide +kernel)) rfl ?_
    refine z_iconst dX11_send_266 (zi32_d rfl) ?_
    exact z_zret dX11_send_267 rfl (Or.inr rfl) (k1 c1)
  ·
    refine z_aload_n 1 dX11_send_201 rfl ?_
    refine z_getS (v := 200) (k := 40) (kz := 40) pk11 dX11_send_202 (by decide) zb_1164 rfl (zOb.lit (by decide +kernel)) rfl (by decide +kernel) ?_
    refine z_iload 0 dX11_send_205 rfl ?_
    refine z_zald dX11_send_207 (zOb.lit (by decide +kernel)) (show 0 ≤ x ∧ x < 180 from ⟨by omega, by omega⟩).1 (show 0 ≤ x ∧ x < 180 from ⟨by omega, by omega⟩).2 ?_
    refine z_if_eq (tgt := 213) dX11_send_208 (by decide) (fun c2 => ?_) (fun c2 => ?_)
    ·
      refine z_aload_n 1 dX11_send_213 rfl ?_
      refine z_getS (v := 224) (k := 77) (kz := 77) pk11 dX11_send_214 (by decide) zb_1201 rfl (zOb.lit (by decide +kernel)) rfl (by decide +kernel) ?_
      refine z_aload_n 1 dX11_send_217 rfl ?_
      refine z_getI (k := 85) (kz := 85) pk11 dX11_send_218 (by decide) zb_1209 rfl (zOb.lit (by decide +kernel)) rfl ?_
      refine z_iload_n 2 dX11_send_221 rfl ?_
      refine z_iast dX11_send_222 (zOb.lit (by decide +kernel)) (show 0 ≤ (g 169 85) ∧ (g 169 85) < 60 from ⟨by omega, by omega⟩).1 (show 0 ≤ (g 169 85) ∧ (g 169 85) < 60 from ⟨by omega, by omega⟩).2 ?_
      refine z_aload_n 1 dX11_send_223 rfl ?_
      refine z_getS (v := 225) (k := 78) (kz := 78) pk11 dX11_send_224 (by decide) zb_1202 rfl (zOb.lit (by decide +kernel)) rfl (by decide +kernel) ?_
      refine z_aload_n 1 dX11_send_227 rfl ?_
      refine z_getIV (v := (g 169 85)) (k := 85) (kz := 85) pk11 dX11_send_228 (by decide) zb_1209 rfl (zOb.lit (by decide +kernel)) rfl (zst_ne (Or.inl (by decide))) ?_
      refine z_iload_n 3 dX11_send_231 rfl ?_
      refine z_iast dX11_send_232 (zOb.lit (by decide +kernel)) (show 0 ≤ (g 169 85) ∧ (g 169 85) < 60 from ⟨by omega, by omega⟩).1 (show 0 ≤ (g 169 85) ∧ (g 169 85) < 60 from ⟨by omega, by omega⟩).2 ?_
      refine z_aload_n 1 dX11_send_233 rfl ?_
      refine z_getS (v := 226) (k := 79) (kz := 79) pk11 dX11_send_234 (by decide) zb_1203 rfl (zOb.lit (by decide +kernel)) rfl (by decide +kernel) ?_
      refine z_aload_n 1 dX11_send_237 rfl ?_
      refine z_getIV (v := (g 169 85)) (k := 85) (kz := 85) pk11 dX11_send_238 (by decide) zb_1209 rfl (zOb.lit (by decide +kernel)) rfl ((zst_ne (Or.inl (by decide))).trans (zst_ne (Or.inl (by decide)))) ?_
      refine z_iload_n 4 dX11_send_241 rfl ?_
      refine z_iast dX11_send_242 (zOb.lit (by decide +kernel)) (show 0 ≤ (g 169 85) ∧ (g 169 85) < 60 from ⟨by omega, by omega⟩).1 (show 0 ≤ (g 169 85) ∧ (g 169 85) < 60 from ⟨by omega, by omega⟩).2 ?_
      refine z_aload_n 1 dX11_send_243 rfl ?_
      refine z_getS (v := 227) (k := 80) (kz := 80) pk11 dX11_send_244 (by decide) zb_1204 rfl (zOb.lit (by decide +kernel)) rfl (by decide +kernel) ?_
      refine z_aload_n 1 dX11_send_247 rfl ?_
      refine z_getIV (v := (g 169 85)) (k := 85) (kz := 85) pk11 dX11_send_248 (by decide) zb_1209 rfl (zOb.lit (by decide +kernel)) rfl ((zst_ne (Or.inl (by decide))).trans ((zst_ne (Or.inl (by decide))).trans (zst_ne (Or.inl (by decide))))) ?_
      refine z_aload_n 1 dX11_send_251 rfl ?_
      refine z_getIV (v := (g 169 5)) (k := 5) (kz := 5) pk11 dX11_send_252 (by decide) zb_1129 rfl (zOb.lit (by decide +kernel)) rfl ((zst_ne (Or.inl (by decide))).trans ((zst_ne (Or.inl (by decide))).trans (zst_ne (Or.inl (by decide))))) ?_
      refine z_iast dX11_send_255 (zOb.lit (by decide +kernel)) (show 0 ≤ (g 169 85) ∧ (g 169 85) < 60 from ⟨by omega, by omega⟩).1 (show 0 ≤ (g 169 85) ∧ (g 169 85) < 60 from ⟨by omega, by omega⟩).2 ?_
      refine z_aload_n 1 dX11_send_256 rfl ?_
      refine z_dup dX11_send_257 zt2 ?_
      refine z_getIV (v := (g 169 85)) (k := 85) (kz := 85) pk11 dX11_send_258 (by decide) zb_1209 rfl (zOb.lit (by decide +kernel)) rfl ((zst_ne (Or.inl (by decide))).trans ((zst_ne (Or.inl (by decide))).trans ((zst_ne (Or.inl (by decide))).trans (zst_ne (Or.inl (by decide)))))) ?_
      refine z_iconst dX11_send_261 (zi32_d rfl) ?_
      refine z_iaddN dX11_send_262 (show -2147483648 ≤ (g 169 85) + 1 ∧ (g 169 85) + 1 < 2147483648 from ⟨by omega, by omega⟩).1 (show -2147483648 ≤ (g 169 85) + 1 ∧ (g 169 85) + 1 < 2147483648 from ⟨by omega, by omega⟩).2 ?_
      refine z_putI (k := 85) (kz := 85) pk11 dX11_send_263 (by decide) zb_1209 rfl (zFit_int _) (zOb.lit (by decide +kernel)) rfl ?_
      refine z_iconst dX11_send_266 (zi32_d rfl) ?_
      exact z_zret dX11_send_267 rfl (Or.inr rfl) (k2 c1 c2)
    ·
      refine z_iconst dX11_send_211 (zi32_d rfl) ?_
      exact z_zret dX11_send_212 rfl (Or.inl rfl) (k3 c1 c2)

set_option maxRecDepth 20000 in
theorem bX11_callOf_0 {X : zX} {dep bc bs : Nat} (l : Int) (t : Int) {h : zH} {Q : Nat → zH → List zV → Prop}
    (k1 : zW mX11_callOf X dep bc bs 239 3 [(0, xR 169), (1, xI l), (2, xI t)] [xI t, xI l, xR 169] h Q) : zW mX11_callOf X dep bc bs 239 0 [(0, xR 169), (1, xI l), (2, xI t)] [] h Q := by
  refine z_aload_n 0 dX11_callOf_0 rfl ?_
  refine z_iload_n 1 dX11_callOf_1 rfl ?_
  refine z_iload_n 2 dX11_callOf_2 rfl ?_
  exact k1

set_option maxRecDepth 20000 in
theorem rX11_callOf_3 {X : zX} {dep bc bs : Nat} (l : Int) (t : Int) {h : zH} {Q : Nat → zH → List zV → Prop} {P : zH → Prop}
    (hZ : zW mX11_roll X (dep - 1) 0 0 239 0 (zar 0 [xR 169, xI l, xI t]) [] h (zQ0 P)) (hdep : 1 ≤ dep)
    (k : ∀ g : zH, P g → zW mX11_callOf X dep bc bs 239 6 [(0, xR 169), (1, xI l), (2, xI t)] [] g Q) : zW mX11_callOf X dep bc bs 239 3 [(0, xR 169), (1, xI l), (2, xI t)] [xI t, xI l, xR 169] h Q :=
  z_invQ0 (ci := 11) (N := 97) (as := [xI l, xI t]) (st := []) (ra := [xI t, xI l]) hZ dX11_callOf_3 nX11_roll zb_1627 zb_1629 zb_61 zb_92 (zOb.lit (by decide +kernel)) rfl (by omega) (Nat.le_of_ble_eq_true rfl) (Nat.le_of_ble_eq_true rfl) rfl (fun g hg => k g hg)

set_option maxRecDepth 20000 in
theorem bX11_callOf_6 {X : zX} {dep bc bs : Nat} (l : Int) (t : Int) {g : zH} {Q : Nat → zH → List zV → Prop}
    (k1 : zW mX11_callOf X dep bc bs 239 8 [(0, xR 169), (1, xI l), (2, xI t), (3, xI 0)] [] g Q) : zW mX11_callOf X dep bc bs 239 6 [(0, xR 169), (1, xI l), (2, xI t)] [] g Q := by
  refine z_iconst dX11_callOf_6 (zi32_d rfl) ?_
  refine z_istore_n (lv' := [(3, xI 0), (0, xR 169), (1, xI l), (2, xI t)]) dX11_callOf_7 (by decide) rfl ?_
  refine zW.sub (lv' := [(0, xR 169), (1, xI l), (2, xI t), (3, xI 0)]) [1, 2, 3, 0] rfl ?_
  exact k1

set_option maxRecDepth 20000 in
theorem bX11_callOf_8 {X : zX} {dep bc bs : Nat} (l : Int) (t : Int) (m : Int) {g : zH} {Q : Nat → zH → List zV → Prop} (hm : 0 ≤ g 169 25 ∧ g 169 25 ≤ 60) (hl : 0 ≤ l ∧ l < 4) (hx : 0 ≤ m)
    (k1 : 60 ≤ m → Q 239 g [])
    (k2 : ¬ (60 ≤ m) → (g 169 25) ≤ m → zW mX11_callOf X dep bc bs 239 8 [(0, xR 169), (1, xI l), (2, xI t), (3, xI (m + 1))] [] (zst g 233 m 0) Q)
    (k3 : ¬ (60 ≤ m) → ¬ ((g 169 25) ≤ m) → zW mX11_callOf X dep bc bs 239 8 [(0, xR 169), (1, xI l), (2, xI t), (3, xI (m + 1))] [] (zst g 233 m (if (g 219 ((60 * l) + m)) = 5 then 1 else 0 : Int)) Q) : zW mX11_callOf X dep bc bs 239 8 [(0, xR 169), (1, xI l), (2, xI t), (3, xI m)] [] g Q := by
  refine z_iload_n 3 dX11_callOf_8 rfl ?_
  refine z_bipush dX11_callOf_9 (zi32_d rfl) (by decide) ?_
  refine z_icmp_ge (tgt := 54) dX11_callOf_11 (by decide) (fun c1 => ?_) (fun c1 => ?_)
  ·
    exact z_ret dX11_callOf_54 rfl (k1 c1)
  ·
    refine z_aload_n 0 dX11_callOf_14 rfl ?_
    refine z_getS (v := 233) (k := 88) (kz := 88) pk11 dX11_callOf_15 (by decide) zb_1212 rfl (zOb.lit (by decide +kernel)) rfl (by decide +kernel) ?_
    refine z_iload_n 3 dX11_callOf_18 rfl ?_
    refine z_iload_n 3 dX11_callOf_19 rfl ?_
    refine z_aload_n 0 dX11_callOf_20 rfl ?_
    refine z_getI (k := 25) (kz := 25) pk11 dX11_callOf_21 (by decide) zb_1149 rfl (zOb.lit (by decide +kernel)) rfl ?_
    refine z_icmp_ge (tgt := 46) dX11_callOf_24 (by decide) (fun c2 => ?_) (fun c2 => ?_)
    ·
      refine z_iconst dX11_callOf_46 (zi32_d rfl) ?_
      refine z_zast dX11_callOf_47 (zOb.lit (by decide +kernel)) (show 0 ≤ m ∧ m < 60 from ⟨by omega, by omega⟩).1 (show 0 ≤ m ∧ m < 60 from ⟨by omega, by omega⟩).2 (Or.inl rfl) ?_
      refine z_iincN (lv' := [(3, xI (m + 1)), (0, xR 169), (1, xI l), (2, xI t)]) 3 dX11_callOf_48 rfl (by decide) rfl (show -2147483648 ≤ m + 1 ∧ m + 1 < 2147483648 from ⟨by omega, by omega⟩).1 (show -2147483648 ≤ m + 1 ∧ m + 1 < 2147483648 from ⟨by omega, by omega⟩).2 ?_
      refine z_goto (tgt := 8) dX11_callOf_51 (by decide) ?_
      refine zW.sub (lv' := [(0, xR 169), (1, xI l), (2, xI t), (3, xI (m + 1))]) [1, 2, 3, 0] rfl ?_
      exact k2 c1 c2
    ·
      refine z_aload_n 0 dX11_callOf_27 rfl ?_
      refine z_getS (v := 219) (k := 72) (kz := 72) pk11 dX11_callOf_28 (by decide) zb_1196 rfl (zOb.lit (by decide +kernel)) rfl (by decide +kernel) ?_
      refine z_bipush dX11_callOf_31 (zi32_d rfl) (by decide) ?_
      refine z_iload_n 1 dX11_callOf_33 rfl ?_
      refine z_imulN dX11_callOf_34 (show -2147483648 ≤ 60 * l ∧ 60 * l < 2147483648 from ⟨by omega, by omega⟩).1 (show -2147483648 ≤ 60 * l ∧ 60 * l < 2147483648 from ⟨by omega, by omega⟩).2 ?_
      refine z_iload_n 3 dX11_callOf_35 rfl ?_
      refine z_iaddN dX11_callOf_36 (show -2147483648 ≤ (60 * l) + m ∧ (60 * l) + m < 2147483648 from ⟨by omega, by omega⟩).1 (show -2147483648 ≤ (60 * l) + m ∧ (60 * l) + m < 2147483648 from ⟨by omega, by omega⟩).2 ?_
      refine z_iald dX11_callOf_37 (zOb.lit (by decide +kernel)) (show 0 ≤ ((60 * l) + m) ∧ ((60 * l) + m) < 240 from ⟨by omega, by omega⟩).1 (show 0 ≤ ((60 * l) + m) ∧ ((60 * l) + m) < 240 from ⟨by omega, by omega⟩).2 ?_
      refine z_iconst dX11_callOf_38 (zi32_d rfl) ?_
      suffices KJ : zW mX11_callOf X dep bc bs 239 47 [(0, xR 169), (1, xI l), (2, xI t), (3, xI m)] [xI (if (g 219 ((60 * l) + m)) = 5 then 1 else 0 : Int), xI m, xR 233] g Q by
        refine z_icmp_ne (tgt := 46) dX11_callOf_39 (by decide) (fun j1 => ?_) (fun j1 => ?_)
        ·
          refine z_iconst dX11_callOf_46 (zi32_d rfl) ?_
          rw [if_neg j1] at KJ
          exact KJ
        ·
          refine z_iconst dX11_callOf_42 (zi32_d rfl) ?_
          refine z_goto (tgt := 47) dX11_callOf_43 (by decide) ?_
          rw [if_pos j1] at KJ
          exact KJ
      refine z_zast dX11_callOf_47 (zOb.lit (by decide +kernel)) (show 0 ≤ m ∧ m < 60 from ⟨by omega, by omega⟩).1 (show 0 ≤ m ∧ m < 60 from ⟨by omega, by omega⟩).2 (by repeat (first | (left; rfl) | (right; rfl) | split)) ?_
      refine z_iincN (lv' := [(3, xI (m + 1)), (0, xR 169), (1, xI l), (2, xI t)]) 3 dX11_callOf_48 rfl (by decide) rfl (show -2147483648 ≤ m + 1 ∧ m + 1 < 2147483648 from ⟨by omega, by omega⟩).1 (show -2147483648 ≤ m + 1 ∧ m + 1 < 2147483648 from ⟨by omega, by omega⟩).2 ?_
      refine z_goto (tgt := 8) dX11_callOf_51 (by decide) ?_
      refine zW.sub (lv' := [(0, xR 169), (1, xI l), (2, xI t), (3, xI (m + 1))]) [1, 2, 3, 0] rfl ?_
      exact k3 c1 c2

set_option maxRecDepth 20000 in
theorem bX11_mended_0 {X : zX} {dep bc bs : Nat} (l : Int) (s : Int) (t : Int) (z : Int) {h : zH} {Q : Nat → zH → List zV → Prop} (hl : 0 ≤ h 169 65 ∧ h 169 65 ≤ 4) (hdep : 2 ≤ dep)
    (k1 : 0 ≤ l ∧ l < (h 169 65) → z = 0 → zW mX11_mended X dep bc bs 239 27 [(0, xR 169), (1, xI l), (2, xI s), (3, xI t), (4, xI z)] [xI s, xI l, xR 169] (zst h 169 0 0) Q)
    (k2 : 0 ≤ l ∧ l < (h 169 65) → ¬ (z = 0) → zW mX11_mended X dep bc bs 239 27 [(0, xR 169), (1, xI l), (2, xI s), (3, xI t), (4, xI z)] [xI t, xI l, xR 169] (zst h 169 0 0) Q)
    (k3 : ¬ (0 ≤ l ∧ l < (h 169 65)) → Q 239 (zst h 169 0 0) [xI (-1)]) : zW mX11_mended X dep bc bs 239 0 [(0, xR 169), (1, xI l), (2, xI s), (3, xI t), (4, xI z)] [] h Q := by
  refine z_aload_n 0 dX11_mended_0 rfl ?_
  refine z_iconst dX11_mended_1 (zi32_d rfl) ?_
  refine z_putI (k := 0) (kz := 0) pk11 dX11_mended_2 (by decide) zb_1124 rfl (zFit_int _) (zOb.lit (by decide +kernel)) rfl ?_
  refine z_aload_n 0 dX11_mended_5 rfl ?_
  refine z_iload_n 1 dX11_mended_6 rfl ?_
  refine z_invF (ci := 11) (N := 97) (as := [xI l]) (st := []) (ra := [xI l]) (dep' := dep - 1) (rs := [xI (zb (0 ≤ l ∧ l < (h 169 65)))]) (h' := (zst h 169 0 0)) (by have e1 : (zst h 169 0 0) 169 65 = (h 169 65) := (zst_ne (Or.inr (by decide))); have z9 := f_X11_isLot (X := X) (dep := dep - 1) l (h := (zst h 169 0 0)) (by have y1 : (zst h 169 0 0) 169 65 = (h 169 65) := (zst_ne (Or.inr (by decide))); simp only [y1]; omega) (by omega); rw [e1] at z9; exact z9) dX11_mended_7 nX11_isLot zb_1583 zb_1585 zb_55 zb_92 (zOb.lit (by decide +kernel)) rfl (by omega) zne_I (Nat.le_of_ble_eq_true rfl) (Nat.le_of_ble_eq_true rfl) rfl ?_
  refine z_ifB_ne (C := 0 ≤ l ∧ l < (h 169 65)) (tgt := 15) dX11_mended_10 (by decide) (fun c1 => ?_) (fun c1 => ?_)
  ·
    refine z_aload_n 0 dX11_mended_15 rfl ?_
    refine z_iload_n 1 dX11_mended_16 rfl ?_
    refine z_iload 4 dX11_mended_17 rfl ?_
    refine z_if_eq (tgt := 26) dX11_mended_19 (by decide) (fun c2 => ?_) (fun c2 => ?_)
    ·
      refine z_iload_n 2 dX11_mended_26 rfl ?_
      exact k1 c1 c2
    ·
      refine z_iload_n 3 dX11_mended_22 rfl ?_
      refine z_goto (tgt := 27) dX11_mended_23 (by decide) ?_
      exact k2 c1 c2
  ·
    refine z_iconst dX11_mended_13 (zi32_d rfl) ?_
    exact z_iret dX11_mended_14 rfl (k3 c1)

set_option maxRecDepth 20000 in
theorem rX11_mended_27 {X : zX} {dep bc bs : Nat} (l : Int) (s : Int) (t : Int) (z : Int) (q : Int) {h : zH} {Q : Nat → zH → List zV → Prop} {P : zH → Prop}
    (hZ : zW mX11_callOf X (dep - 1) 0 0 239 0 (zar 0 [xR 169, xI l, xI q]) [] h (zQ0 P)) (hdep : 1 ≤ dep)
    (k : ∀ g : zH, P g → zW mX11_mended X dep bc bs 239 30 [(0, xR 169), (1, xI l), (2, xI s), (3, xI t), (4, xI z)] [] g Q) : zW mX11_mended X dep bc bs 239 27 [(0, xR 169), (1, xI l), (2, xI s), (3, xI t), (4, xI z)] [xI q, xI l, xR 169] h Q :=
  z_invQ0 (ci := 11) (N := 97) (as := [xI l, xI q]) (st := []) (ra := [xI q, xI l]) hZ dX11_mended_27 nX11_callOf zb_1719 zb_1721 zb_77 zb_92 (zOb.lit (by decide +kernel)) rfl (by omega) (Nat.le_of_ble_eq_true rfl) (Nat.le_of_ble_eq_true rfl) rfl (fun g hg => k g hg)

set_option maxRecDepth 20000 in
theorem bX11_mended_30 {X : zX} {dep bc bs : Nat} (l : Int) (s : Int) (t : Int) (z : Int) {g : zH} {Q : Nat → zH → List zV → Prop}
    (k1 : z = 0 → zW mX11_mended X dep bc bs 239 42 [(0, xR 169), (1, xI l), (2, xI s), (3, xI t), (4, xI z)] [xI t, xI l, xR 169] g Q)
    (k2 : ¬ (z = 0) → zW mX11_mended X dep bc bs 239 42 [(0, xR 169), (1, xI l), (2, xI s), (3, xI t), (4, xI z)] [xI s, xI l, xR 169] g Q) : zW mX11_mended X dep bc bs 239 30 [(0, xR 169), (1, xI l), (2, xI s), (3, xI t), (4, xI z)] [] g Q := by
  refine z_aload_n 0 dX11_mended_30 rfl ?_
  refine z_iload_n 1 dX11_mended_31 rfl ?_
  refine z_iload 4 dX11_mended_32 rfl ?_
  refine z_if_eq (tgt := 41) dX11_mended_34 (by decide) (fun c1 => ?_) (fun c1 => ?_)
  ·
    refine z_iload_n 3 dX11_mended_41 rfl ?_
    exact k1 c1
  ·
    refine z_iload_n 2 dX11_mended_37 rfl ?_
    refine z_goto (tgt := 42) dX11_mended_38 (by decide) ?_
    exact k2 c1

set_option maxRecDepth 20000 in
theorem rX11_mended_42 {X : zX} {dep bc bs : Nat} (l : Int) (s : Int) (t : Int) (z : Int) (q : Int) {g : zH} {Q : Nat → zH → List zV → Prop} {P : zH → Prop}
    (hZ : zW mX11_roll X (dep - 1) 0 0 239 0 (zar 0 [xR 169, xI l, xI q]) [] g (zQ0 P)) (hdep : 1 ≤ dep)
    (k : ∀ g : zH, P g → zW mX11_mended X dep bc bs 239 45 [(0, xR 169), (1, xI l), (2, xI s), (3, xI t), (4, xI z)] [] g Q) : zW mX11_mended X dep bc bs 239 42 [(0, xR 169), (1, xI l), (2, xI s), (3, xI t), (4, xI z)] [xI q, xI l, xR 169] g Q :=
  z_invQ0 (ci := 11) (N := 97) (as := [xI l, xI q]) (st := []) (ra := [xI q, xI l]) hZ dX11_mended_42 nX11_roll zb_1627 zb_1629 zb_61 zb_92 (zOb.lit (by decide +kernel)) rfl (by omega) (Nat.le_of_ble_eq_true rfl) (Nat.le_of_ble_eq_true rfl) rfl (fun g hg => k g hg)

set_option maxRecDepth 20000 in
theorem bX11_mended_45 {X : zX} {dep bc bs : Nat} (l : Int) (s : Int) (t : Int) (z : Int) {g : zH} {Q : Nat → zH → List zV → Prop}
    (k1 : zW mX11_mended X dep bc bs 239 53 [(0, xR 169), (1, xI l), (5, xI 0)] [] (zst g 169 89 0) Q) : zW mX11_mended X dep bc bs 239 45 [(0, xR 169), (1, xI l), (2, xI s), (3, xI t), (4, xI z)] [] g Q := by
  refine z_aload_n 0 dX11_mended_45 rfl ?_
  refine z_iconst dX11_mended_46 (zi32_d rfl) ?_
  refine z_putI (k := 89) (kz := 89) pk11 dX11_mended_47 (by decide) zb_1213 rfl (zFit_int _) (zOb.lit (by decide +kernel)) rfl ?_
  refine z_iconst dX11_mended_50 (zi32_d rfl) ?_
  refine z_istore (lv' := [(5, xI 0), (0, xR 169), (1, xI l), (2, xI s), (3, xI t), (4, xI z)]) dX11_mended_51 (by decide) rfl ?_
  refine zW.sub (lv' := [(0, xR 169), (1, xI l), (5, xI 0)]) [1, 2, 0] rfl ?_
  exact k1

set_option maxRecDepth 20000 in
theorem bX11_mended_53 {X : zX} {dep bc bs : Nat} (l : Int) (m : Int) {g : zH} {Q : Nat → zH → List zV → Prop} (hm : 0 ≤ g 169 25 ∧ g 169 25 ≤ 60) (hl : 0 ≤ l ∧ l < 4) (hx : 0 ≤ m) (hn : 0 ≤ g 169 89 ∧ g 169 89 ≤ m)
    (k1 : (g 169 25) ≤ m → Q 239 g [xI (g 169 89)])
    (k2 : ¬ ((g 169 25) ≤ m) → ¬ (g 219 ((60 * l) + m)) = 5 → zW mX11_mended X dep bc bs 239 53 [(0, xR 169), (1, xI l), (5, xI (m + 1))] [] g Q)
    (k3 : ¬ ((g 169 25) ≤ m) → (g 219 ((60 * l) + m)) = 5 → (g 233 m) = 0 → zW mX11_mended X dep bc bs 239 53 [(0, xR 169), (1, xI l), (5, xI (m + 1))] [] (zst (zst g 228 (g 169 89) m) 169 89 ((g 169 89) + 1)) Q)
    (k4 : ¬ ((g 169 25) ≤ m) → (g 219 ((60 * l) + m)) = 5 → ¬ ((g 233 m) = 0) → zW mX11_mended X dep bc bs 239 53 [(0, xR 169), (1, xI l), (5, xI (m + 1))] [] g Q) : zW mX11_mended X dep bc bs 239 53 [(0, xR 169), (1, xI l), (5, xI m)] [] g Q := by
  refine z_iload 2 dX11_mended_53 rfl ?_
  refine z_aload_n 0 dX11_mended_55 rfl ?_
  refine z_getI (k := 25) (kz := 25) pk11 dX11_mended_56 (by decide) zb_1149 rfl (zOb.lit (by decide +kernel)) rfl ?_
  refine z_icmp_ge (tgt := 118) dX11_mended_59 (by decide) (fun c1 => ?_) (fun c1 => ?_)
  ·
    refine z_aload_n 0 dX11_mended_118 rfl ?_
    refine z_getI (k := 89) (kz := 89) pk11 dX11_mended_119 (by decide) zb_1213 rfl (zOb.lit (by decide +kernel)) rfl ?_
    exact z_iret dX11_mended_122 rfl (k1 c1)
  ·
    refine z_aload_n 0 dX11_mended_62 rfl ?_
    refine z_getS (v := 219) (k := 72) (kz := 72) pk11 dX11_mended_63 (by decide) zb_1196 rfl (zOb.lit (by decide +kernel)) rfl (by decide +kernel) ?_
    refine z_bipush dX11_mended_66 (zi32_d rfl) (by decide) ?_
    refine z_iload_n 1 dX11_mended_68 rfl ?_
    refine z_imulN dX11_mended_69 (show -2147483648 ≤ 60 * l ∧ 60 * l < 2147483648 from ⟨by omega, by omega⟩).1 (show -2147483648 ≤ 60 * l ∧ 60 * l < 2147483648 from ⟨by omega, by omega⟩).2 ?_
    refine z_iload 2 dX11_mended_70 rfl ?_
    refine z_iaddN dX11_mended_72 (show -2147483648 ≤ (60 * l) + m ∧ (60 * l) + m < 2147483648 from ⟨by omega, by omega⟩).1 (show -2147483648 ≤ (60 * l) + m ∧ (60 * l) + m < 2147483648 from ⟨by omega, by omega⟩).2 ?_
    refine z_iald dX11_mended_73 (zOb.lit (by decide +kernel)) (show 0 ≤ ((60 * l) + m) ∧ ((60 * l) + m) < 240 from ⟨by omega, by omega⟩).1 (show 0 ≤ ((60 * l) + m) ∧ ((60 * l) + m) < 240 from ⟨by omega, by omega⟩).2 ?_
    refine z_iconst dX11_mended_74 (zi32_d rfl) ?_
    refine z_icmp_ne (tgt := 112) dX11_mended_75 (by decide) (fun c2 => ?_) (fun c2 => ?_)
    ·
      refine z_iincN (lv' := [(5, xI (m + 1)), (0, xR 169), (1, xI l)]) 2 dX11_mended_112 rfl (by decide) rfl (show -2147483648 ≤ m + 1 ∧ m + 1 < 2147483648 from ⟨by omega, by omega⟩).1 (show -2147483648 ≤ m + 1 ∧ m + 1 < 2147483648 from ⟨by omega, by omega⟩).2 ?_
      refine z_goto (tgt := 53) dX11_mended_115 (by decide) ?_
      refine zW.sub (lv' := [(0, xR 169), (1, xI l), (5, xI (m + 1))]) [1, 2, 0] rfl ?_
      exact k2 c1 c2
    ·
      refine z_aload_n 0 dX11_mended_78 rfl ?_
      refine z_getS (v := 233) (k := 88) (kz := 88) pk11 dX11_mended_79 (by decide) zb_1212 rfl (zOb.lit (by decide +kernel)) rfl (by decide +kernel) ?_
      refine z_iload 2 dX11_mended_82 rfl ?_
      refine z_zald dX11_mended_84 (zOb.lit (by decide +kernel)) (show 0 ≤ m ∧ m < 60 from ⟨by omega, by omega⟩).1 (show 0 ≤ m ∧ m < 60 from ⟨by omega, by omega⟩).2 ?_
      refine z_if_eq (tgt := 91) dX11_mended_85 (by decide) (fun c3 => ?_) (fun c3 => ?_)
      ·
        refine z_aload_n 0 dX11_mended_91 rfl ?_
        refine z_getS (v := 228) (k := 81) (kz := 81) pk11 dX11_mended_92 (by decide) zb_1205 rfl (zOb.lit (by decide +kernel)) rfl (by decide +kernel) ?_
        refine z_aload_n 0 dX11_mended_95 rfl ?_
        refine z_getI (k := 89) (kz := 89) pk11 dX11_mended_96 (by decide) zb_1213 rfl (zOb.lit (by decide +kernel)) rfl ?_
        refine z_iload 2 dX11_mended_99 rfl ?_
        refine z_iast dX11_mended_101 (zOb.lit (by decide +kernel)) (show 0 ≤ (g 169 89) ∧ (g 169 89) < 60 from ⟨by omega, by omega⟩).1 (show 0 ≤ (g 169 89) ∧ (g 169 89) < 60 from ⟨by omega, by omega⟩).2 ?_
        refine z_aload_n 0 dX11_mended_102 rfl ?_
        refine z_dup dX11_mended_103 zt2 ?_
        refine z_getIV (v := (g 169 89)) (k := 89) (kz := 89) pk11 dX11_mended_104 (by decide) zb_1213 rfl (zOb.lit (by decide +kernel)) rfl (zst_ne (Or.inl (by decide))) ?_
        refine z_iconst dX11_mended_107 (zi32_d rfl) ?_
        refine z_iaddN dX11_mended_108 (show -2147483648 ≤ (g 169 89) + 1 ∧ (g 169 89) + 1 < 2147483648 from ⟨by omega, by omega⟩).1 (show -2147483648 ≤ (g 169 89) + 1 ∧ (g 169 89) + 1 < 2147483648 from ⟨by omega, by omega⟩).2 ?_
        refine z_putI (k := 89) (kz := 89) pk11 dX11_mended_109 (by decide) zb_1213 rfl (zFit_int _) (zOb.lit (by decide +kernel)) rfl ?_
        refine z_iincN (lv' := [(5, xI (m + 1)), (0, xR 169), (1, xI l)]) 2 dX11_mended_112 rfl (by decide) rfl (show -2147483648 ≤ m + 1 ∧ m + 1 < 2147483648 from ⟨by omega, by omega⟩).1 (show -2147483648 ≤ m + 1 ∧ m + 1 < 2147483648 from ⟨by omega, by omega⟩).2 ?_
        refine z_goto (tgt := 53) dX11_mended_115 (by decide) ?_
        refine zW.sub (lv' := [(0, xR 169), (1, xI l), (5, xI (m + 1))]) [1, 2, 0] rfl ?_
        exact k3 c1 c2 c3
      ·
        refine z_goto (tgt := 112) dX11_mended_88 (by decide) ?_
        refine z_iincN (lv' := [(5, xI (m + 1)), (0, xR 169), (1, xI l)]) 2 dX11_mended_112 rfl (by decide) rfl (show -2147483648 ≤ m + 1 ∧ m + 1 < 2147483648 from ⟨by omega, by omega⟩).1 (show -2147483648 ≤ m + 1 ∧ m + 1 < 2147483648 from ⟨by omega, by omega⟩).2 ?_
        refine z_goto (tgt := 53) dX11_mended_115 (by decide) ?_
        refine zW.sub (lv' := [(0, xR 169), (1, xI l), (5, xI (m + 1))]) [1, 2, 0] rfl ?_
        exact k4 c1 c2 c3

set_option maxRecDepth 20000 in
theorem bX11_appeal_0 {X : zX} {dep bc bs : Nat} (l : Int) (m : Int) {h : zH} {Q : Nat → zH → List zV → Prop} (hm : 0 ≤ h 169 25 ∧ h 169 25 ≤ 60) (hl : 0 ≤ h 169 65 ∧ h 169 65 ≤ 4) (hw : 0 ≤ h 169 45 ∧ h 169 45 ≤ 8) (hd : 0 ≤ h 169 5 ∧ h 169 5 ≤ 3639) (hld : ¬ (0 ≤ l ∧ l < h 169 65) ∨ (0 ≤ h 205 l ∧ h 205 l ≤ 3639)) (hy : -1 ≤ mlaw h (h 205 l) (h 169 5) ∧ mlaw h (h 205 l) (h 169 5) < 8) (hdep : 2 ≤ dep)
    (k1 : ¬ (0 ≤ l ∧ l < (h 169 65)) → Q 239 (zst h 169 0 0) [xI (-1)])
    (k2 : 0 ≤ l ∧ l < (h 169 65) → ¬ (0 ≤ m ∧ m < (h 169 25)) → Q 239 (zst h 169 0 0) [xI (-1)])
    (k3 : 0 ≤ l ∧ l < (h 169 65) → 0 ≤ m ∧ m < (h 169 25) → (h 169 5) < (h 205 l) → Q 239 (zst h 169 0 0) [xI (-1)])
    (k4 : 0 ≤ l ∧ l < (h 169 65) → 0 ≤ m ∧ m < (h 169 25) → ¬ ((h 169 5) < (h 205 l)) → ¬ (h 169 90) = 60 → 0 ≤ (mlaw h (h 205 l) (h 169 5)) → ((h 169 5) - (h 205 l)) ≤ (h 194 (mlaw h (h 205 l) (h 169 5))) → zW mX11_appeal X dep bc bs 239 99 [(0, xR 169), (1, xI l), (2, xI m), (3, xI (mlaw h (h 205 l) (h 169 5)))] [xI (h 205 l), xI l, xR 169] (zst h 169 0 0) Q)
    (k5 : 0 ≤ l ∧ l < (h 169 65) → 0 ≤ m ∧ m < (h 169 25) → ¬ ((h 169 5) < (h 205 l)) → ¬ (h 169 90) = 60 → 0 ≤ (mlaw h (h 205 l) (h 169 5)) → ¬ (((h 169 5) - (h 205 l)) ≤ (h 194 (mlaw h (h 205 l) (h 169 5)))) → Q 239 (zst h 169 0 0) [xI (-1)])
    (k6 : 0 ≤ l ∧ l < (h 169 65) → 0 ≤ m ∧ m < (h 169 25) → ¬ ((h 169 5) < (h 205 l)) → ¬ (h 169 90) = 60 → ¬ (0 ≤ (mlaw h (h 205 l) (h 169 5))) → ((h 169 5) - (h 205 l)) ≤ 30 → zW mX11_appeal X dep bc bs 239 99 [(0, xR 169), (1, xI l), (2, xI m), (3, xI (mlaw h (h 205 l) (h 169 5)))] [xI (h 205 l), xI l, xR 169] (zst h 169 0 0) Q)
    (k7 : 0 ≤ l ∧ l < (h 169 65) → 0 ≤ m ∧ m < (h 169 25) → ¬ ((h 169 5) < (h 205 l)) → ¬ (h 169 90) = 60 → ¬ (0 ≤ (mlaw h (h 205 l) (h 169 5))) → ¬ (((h 169 5) - (h 205 l)) ≤ 30) → Q 239 (zst h 169 0 0) [xI (-1)])
    (k8 : 0 ≤ l ∧ l < (h 169 65) → 0 ≤ m ∧ m < (h 169 25) → ¬ ((h 169 5) < (h 205 l)) → (h 169 90) = 60 → Q 239 (zst h 169 0 0) [xI (-1)]) : zW mX11_appeal X dep bc bs 239 0 [(0, xR 169), (1, xI l), (2, xI m)] [] h Q := by
  refine z_aload_n 0 dX11_appeal_0 rfl ?_
  refine z_iconst dX11_appeal_1 (zi32_d rfl) ?_
  refine z_putI (k := 0) (kz := 0) pk11 dX11_appeal_2 (by decide) zb_1124 rfl (zFit_int _) (zOb.lit (by decide +kernel)) rfl ?_
  refine z_aload_n 0 dX11_appeal_5 rfl ?_
  refine z_iload_n 1 dX11_appeal_6 rfl ?_
  refine z_invF (ci := 11) (N := 97) (as := [xI l]) (st := []) (ra := [xI l]) (dep' := dep - 1) (rs := [xI (zb (0 ≤ l ∧ l < (h 169 65)))]) (h' := (zst h 169 0 0)) (by have e1 : (zst h 169 0 0) 169 65 = (h 169 65) := (zst_ne (Or.inr (by decide))); have z9 := f_X11_isLot (X := X) (dep := dep - 1) l (h := (zst h 169 0 0)) (by have y1 : (zst h 169 0 0) 169 65 = (h 169 65) := (zst_ne (Or.inr (by decide))); simp only [y1]; omega) (by omega); rw [e1] at z9; exact z9) dX11_appeal_7 nX11_isLot zb_1583 zb_1585 zb_55 zb_92 (zOb.lit (by decide +kernel)) rfl (by omega) zne_I (Nat.le_of_ble_eq_true rfl) (Nat.le_of_ble_eq_true rfl) rfl ?_
  refine z_ifB_eq (C := 0 ≤ l ∧ l < (h 169 65)) (tgt := 43) dX11_appeal_10 (by decide) (fun c1 => ?_) (fun c1 => ?_)
  ·
    refine z_iconst dX11_appeal_43 (zi32_d rfl) ?_
    exact z_iret dX11_appeal_44 rfl (k1 c1)
  ·
    refine z_aload_n 0 dX11_appeal_13 rfl ?_
    refine z_iload_n 2 dX11_appeal_14 rfl ?_
    refine z_invF (ci := 11) (N := 97) (as := [xI m]) (st := []) (ra := [xI m]) (dep' := dep - 1) (rs := [xI (zb (0 ≤ m ∧ m < (h 169 25)))]) (h' := (zst h 169 0 0)) (by have e1 : (zst h 169 0 0) 169 25 = (h 169 25) := (zst_ne (Or.inr (by decide))); have z9 := f_X11_isMan (X := X) (dep := dep - 1) m (h := (zst h 169 0 0)) (by have y1 : (zst h 169 0 0) 169 25 = (h 169 25) := (zst_ne (Or.inr (by decide))); simp only [y1]; omega) (by omega); rw [e1] at z9; exact z9) dX11_appeal_15 nX11_isMan zb_1455 zb_1457 zb_37 zb_92 (zOb.lit (by decide +kernel)) rfl (by omega) zne_I (Nat.le_of_ble_eq_true rfl) (Nat.le_of_ble_eq_true rfl) rfl ?_
    refine z_ifB_eq (C := 0 ≤ m ∧ m < (h 169 25)) (tgt := 43) dX11_appeal_18 (by decide) (fun c2 => ?_) (fun c2 => ?_)
    ·
      refine z_iconst dX11_appeal_43 (zi32_d rfl) ?_
      exact z_iret dX11_appeal_44 rfl (k2 c1 c2)
    ·
      refine z_aload_n 0 dX11_appeal_21 rfl ?_
      refine z_getIV (v := (h 169 5)) (k := 5) (kz := 5) pk11 dX11_appeal_22 (by decide) zb_1129 rfl (zOb.lit (by decide +kernel)) rfl (zst_ne (Or.inr (by decide))) ?_
      refine z_aload_n 0 dX11_appeal_25 rfl ?_
      refine z_getS (v := 205) (k := 57) (kz := 57) pk11 dX11_appeal_26 (by decide) zb_1181 rfl (zOb.lit (by decide +kernel)) rfl (by decide +kernel) ?_
      refine z_iload_n 1 dX11_appeal_29 rfl ?_
      refine z_ialdV (v := (h 205 l)) dX11_appeal_30 (zOb.lit (by decide +kernel)) (show 0 ≤ l ∧ l < 4 from ⟨by omega, by omega⟩).1 (show 0 ≤ l ∧ l < 4 from ⟨by omega, by omega⟩).2 (zst_ne (Or.inl (by decide))) ?_
      refine z_icmp_lt (tgt := 43) dX11_appeal_31 (by decide) (fun c3 => ?_) (fun c3 => ?_)
      ·
        refine z_iconst dX11_appeal_43 (zi32_d rfl) ?_
        exact z_iret dX11_appeal_44 rfl (k3 c1 c2 c3)
      ·
        refine z_aload_n 0 dX11_appeal_34 rfl ?_
        refine z_getIV (v := (h 169 90)) (k := 90) (kz := 90) pk11 dX11_appeal_35 (by decide) zb_1214 rfl (zOb.lit (by decide +kernel)) rfl (zst_ne (Or.inr (by decide))) ?_
        refine z_bipush dX11_appeal_38 (zi32_d rfl) (by decide) ?_
        refine z_icmp_ne (tgt := 45) dX11_appeal_40 (by decide) (fun c4 => ?_) (fun c4 => ?_)
        ·
          refine z_aload_n 0 dX11_appeal_45 rfl ?_
          refine z_aload_n 0 dX11_appeal_46 rfl ?_
          refine z_getS (v := 205) (k := 57) (kz := 57) pk11 dX11_appeal_47 (by decide) zb_1181 rfl (zOb.lit (by decide +kernel)) rfl (by decide +kernel) ?_
          refine z_iload_n 1 dX11_appeal_50 rfl ?_
          refine z_ialdV (v := (h 205 l)) dX11_appeal_51 (zOb.lit (by decide +kernel)) (show 0 ≤ l ∧ l < 4 from ⟨by omega, by omega⟩).1 (show 0 ≤ l ∧ l < 4 from ⟨by omega, by omega⟩).2 (zst_ne (Or.inl (by decide))) ?_
          refine z_aload_n 0 dX11_appeal_52 rfl ?_
          refine z_getIV (v := (h 169 5)) (k := 5) (kz := 5) pk11 dX11_appeal_53 (by decide) zb_1129 rfl (zOb.lit (by decide +kernel)) rfl (zst_ne (Or.inr (by decide))) ?_
          refine z_invF (ci := 11) (N := 97) (as := [xI (h 205 l), xI (h 169 5)]) (st := []) (ra := [xI (h 169 5), xI (h 205 l)]) (dep' := dep - 1) (rs := [xI (mlaw h (h 205 l) (h 169 5))]) (h' := (zst h 169 0 0)) (by have e1 : mlaw (zst h 169 0 0) (h 205 l) (h 169 5) = mlaw h (h 205 l) (h 169 5) := (((mlaw_st h 169 0 0 (h 205 l) (h 169 5) (by omega)))); have z9 := f_X11_lawFor (X := X) (dep := dep - 1) (h 205 l) (h 169 5) (h := (zst h 169 0 0)) (by have y1 : (zst h 169 0 0) 169 45 = (h 169 45) := (zst_ne (Or.inr (by decide))); simp only [y1]; omega); rw [e1] at z9; exact z9) dX11_appeal_56 nX11_lawFor zb_1635 zb_1637 zb_63 zb_92 (zOb.lit (by decide +kernel)) rfl (by omega) zne_I (Nat.le_of_ble_eq_true rfl) (Nat.le_of_ble_eq_true rfl) rfl ?_
          refine z_istore_n (lv' := [(3, xI (mlaw h (h 205 l) (h 169 5))), (0, xR 169), (1, xI l), (2, xI m)]) dX11_appeal_59 (by decide) rfl ?_
          refine z_aload_n 1 dX11_appeal_60 rfl ?_
          refine z_getIV (v := (h 169 5)) (k := 5) (kz := 5) pk11 dX11_appeal_61 (by decide) zb_1129 rfl (zOb.lit (by decide +kernel)) rfl (zst_ne (Or.inr (by decide))) ?_
          refine z_aload_n 1 dX11_appeal_64 rfl ?_
          refine z_getS (v := 205) (k := 57) (kz := 57) pk11 dX11_appeal_65 (by decide) zb_1181 rfl (zOb.lit (by decide +kernel)) rfl (by decide +kernel) ?_
          refine z_iload_n 2 dX11_appeal_68 rfl ?_
          refine z_ialdV (v := (h 205 l)) dX11_appeal_69 (zOb.lit (by decide +kernel)) (show 0 ≤ l ∧ l < 4 from ⟨by omega, by omega⟩).1 (show 0 ≤ l ∧ l < 4 from ⟨by omega, by omega⟩).2 (zst_ne (Or.inl (by decide))) ?_
          refine z_isubN dX11_appeal_70 (show -2147483648 ≤ (h 169 5) - (h 205 l) ∧ (h 169 5) - (h 205 l) < 2147483648 from ⟨by omega, by omega⟩).1 (show -2147483648 ≤ (h 169 5) - (h 205 l) ∧ (h 169 5) - (h 205 l) < 2147483648 from ⟨by omega, by omega⟩).2 ?_
          refine z_iload_n 0 dX11_appeal_71 rfl ?_
          refine z_if_ge (tgt := 80) dX11_appeal_72 (by decide) (fun c5 => ?_) (fun c5 => ?_)
          ·
            refine z_aload_n 1 dX11_appeal_80 rfl ?_
            refine z_getS (v := 194) (k := 34) (kz := 34) pk11 dX11_appeal_81 (by decide) zb_1158 rfl (zOb.lit (by decide +kernel)) rfl (by decide +kernel) ?_
            refine z_iload_n 0 dX11_appeal_84 rfl ?_
            refine z_ialdV (v := (h 194 (mlaw h (h 205 l) (h 169 5)))) dX11_appeal_85 (zOb.lit (by decide +kernel)) (show 0 ≤ (mlaw h (h 205 l) (h 169 5)) ∧ (mlaw h (h 205 l) (h 169 5)) < 9 from ⟨by omega, by omega⟩).1 (show 0 ≤ (mlaw h (h 205 l) (h 169 5)) ∧ (mlaw h (h 205 l) (h 169 5)) < 9 from ⟨by omega, by omega⟩).2 (zst_ne (Or.inl (by decide))) ?_
            refine z_icmp_le (tgt := 91) dX11_appeal_86 (by decide) (fun c6 => ?_) (fun c6 => ?_)
            ·
              refine z_aload_n 1 dX11_appeal_91 rfl ?_
              refine z_iload_n 2 dX11_appeal_92 rfl ?_
              refine z_aload_n 1 dX11_appeal_93 rfl ?_
              refine z_getS (v := 205) (k := 57) (kz := 57) pk11 dX11_appeal_94 (by decide) zb_1181 rfl (zOb.lit (by decide +kernel)) rfl (by decide +kernel) ?_
              refine z_iload_n 2 dX11_appeal_97 rfl ?_
              refine z_ialdV (v := (h 205 l)) dX11_appeal_98 (zOb.lit (by decide +kernel)) (show 0 ≤ l ∧ l < 4 from ⟨by omega, by omega⟩).1 (show 0 ≤ l ∧ l < 4 from ⟨by omega, by omega⟩).2 (zst_ne (Or.inl (by decide))) ?_
              refine zW.sub (lv' := [(0, xR 169), (1, xI l), (2, xI m), (3, xI (mlaw h (h 205 l) (h 169 5)))]) [1, 2, 3, 0] rfl ?_
              exact k4 c1 c2 c3 c4 c5 c6
            ·
              refine z_iconst dX11_appeal_89 (zi32_d rfl) ?_
              exact z_iret dX11_appeal_90 rfl (k5 c1 c2 c3 c4 c5 c6)
          ·
            refine z_bipush dX11_appeal_75 (zi32_d rfl) (by decide) ?_
            refine z_goto (tgt := 86) dX11_appeal_77 (by decide) ?_
            refine z_icmp_le (tgt := 91) dX11_appeal_86 (by decide) (fun c6 => ?_) (fun c6 => ?_)
            ·
              refine z_aload_n 1 dX11_appeal_91 rfl ?_
              refine z_iload_n 2 dX11_appeal_92 rfl ?_
              refine z_aload_n 1 dX11_appeal_93 rfl ?_
              refine z_getS (v := 205) (k := 57) (kz := 57) pk11 dX11_appeal_94 (by decide) zb_1181 rfl (zOb.lit (by decide +kernel)) rfl (by decide +kernel) ?_
              refine z_iload_n 2 dX11_appeal_97 rfl ?_
              refine z_ialdV (v := (h 205 l)) dX11_appeal_98 (zOb.lit (by decide +kernel)) (show 0 ≤ l ∧ l < 4 from ⟨by omega, by omega⟩).1 (show 0 ≤ l ∧ l < 4 from ⟨by omega, by omega⟩).2 (zst_ne (Or.inl (by decide))) ?_
              refine zW.sub (lv' := [(0, xR 169), (1, xI l), (2, xI m), (3, xI (mlaw h (h 205 l) (h 169 5)))]) [1, 2, 3, 0] rfl ?_
              exact k6 c1 c2 c3 c4 c5 c6
            ·
              refine z_iconst dX11_appeal_89 (zi32_d rfl) ?_
              exact z_iret dX11_appeal_90 rfl (k7 c1 c2 c3 c4 c5 c6)
        ·
          refine z_iconst dX11_appeal_43 (zi32_d rfl) ?_
          exact z_iret dX11_appeal_44 rfl (k8 c1 c2 c3 c4)

set_option maxRecDepth 20000 in
theorem rX11_appeal_99 {X : zX} {dep bc bs : Nat} (l : Int) (m : Int) (w : Int) (d : Int) {h : zH} {Q : Nat → zH → List zV → Prop} {P : zH → Prop}
    (hZ : zW mX11_callOf X (dep - 1) 0 0 239 0 (zar 0 [xR 169, xI l, xI d]) [] h (zQ0 P)) (hdep : 1 ≤ dep)
    (k : ∀ g : zH, P g → zW mX11_appeal X dep bc bs 239 102 [(0, xR 169), (1, xI l), (2, xI m), (3, xI w)] [] g Q) : zW mX11_appeal X dep bc bs 239 99 [(0, xR 169), (1, xI l), (2, xI m), (3, xI w)] [xI d, xI l, xR 169] h Q :=
  z_invQ0 (ci := 11) (N := 97) (as := [xI l, xI d]) (st := []) (ra := [xI d, xI l]) hZ dX11_appeal_99 nX11_callOf zb_1719 zb_1721 zb_77 zb_92 (zOb.lit (by decide +kernel)) rfl (by omega) (Nat.le_of_ble_eq_true rfl) (Nat.le_of_ble_eq_true rfl) rfl (fun g hg => k g hg)

set_option maxRecDepth 20000 in
theorem bX11_appeal_102 {X : zX} {dep bc bs : Nat} (l : Int) (m : Int) (w : Int) {g : zH} {Q : Nat → zH → List zV → Prop}
    (k1 : zW mX11_appeal X dep bc bs 239 108 [(0, xR 169), (1, xI l), (2, xI m), (3, xI w)] [xI (g 169 5), xI l, xR 169] g Q) : zW mX11_appeal X dep bc bs 239 102 [(0, xR 169), (1, xI l), (2, xI m), (3, xI w)] [] g Q := by
  refine z_aload_n 0 dX11_appeal_102 rfl ?_
  refine z_iload_n 1 dX11_appeal_103 rfl ?_
  refine z_aload_n 0 dX11_appeal_104 rfl ?_
  refine z_getI (k := 5) (kz := 5) pk11 dX11_appeal_105 (by decide) zb_1129 rfl (zOb.lit (by decide +kernel)) rfl ?_
  exact k1

set_option maxRecDepth 20000 in
theorem rX11_appeal_108 {X : zX} {dep bc bs : Nat} (l : Int) (m : Int) (w : Int) (t : Int) {g : zH} {Q : Nat → zH → List zV → Prop} {P : zH → Prop}
    (hZ : zW mX11_roll X (dep - 1) 0 0 239 0 (zar 0 [xR 169, xI l, xI t]) [] g (zQ0 P)) (hdep : 1 ≤ dep)
    (k : ∀ g : zH, P g → zW mX11_appeal X dep bc bs 239 111 [(0, xR 169), (1, xI l), (2, xI m), (3, xI w)] [] g Q) : zW mX11_appeal X dep bc bs 239 108 [(0, xR 169), (1, xI l), (2, xI m), (3, xI w)] [xI t, xI l, xR 169] g Q :=
  z_invQ0 (ci := 11) (N := 97) (as := [xI l, xI t]) (st := []) (ra := [xI t, xI l]) hZ dX11_appeal_108 nX11_roll zb_1627 zb_1629 zb_61 zb_92 (zOb.lit (by decide +kernel)) rfl (by omega) (Nat.le_of_ble_eq_true rfl) (Nat.le_of_ble_eq_true rfl) rfl (fun g hg => k g hg)

set_option maxRecDepth 20000 in
theorem bX11_appeal_111 {X : zX} {dep bc bs : Nat} (l : Int) (m : Int) (w : Int) {g : zH} {Q : Nat → zH → List zV → Prop} (hl : 0 ≤ l ∧ l < 4) (hx : 0 ≤ m ∧ m < 60) (ha : 0 ≤ g 169 90 ∧ g 169 90 < 60)
    (k1 : (g 233 m) = 0 → zW mX11_appeal X dep bc bs 239 152 [(0, xR 169), (1, xI l), (2, xI m), (3, xI w), (4, xI 0)] [] (zst g 169 90 ((g 169 90) + 1)) Q)
    (k2 : ¬ ((g 233 m) = 0) → zW mX11_appeal X dep bc bs 239 152 [(0, xR 169), (1, xI l), (2, xI m), (3, xI w), (4, xI (if (g 219 ((60 * l) + m)) = 5 then 0 else 1 : Int))] [] (zst g 169 90 ((g 169 90) + 1)) Q) : zW mX11_appeal X dep bc bs 239 111 [(0, xR 169), (1, xI l), (2, xI m), (3, xI w)] [] g Q := by
  refine z_aload_n 0 dX11_appeal_111 rfl ?_
  refine z_dup dX11_appeal_112 zt2 ?_
  refine z_getI (k := 90) (kz := 90) pk11 dX11_appeal_113 (by decide) zb_1214 rfl (zOb.lit (by decide +kernel)) rfl ?_
  refine z_iconst dX11_appeal_116 (zi32_d rfl) ?_
  refine z_iaddN dX11_appeal_117 (show -2147483648 ≤ (g 169 90) + 1 ∧ (g 169 90) + 1 < 2147483648 from ⟨by omega, by omega⟩).1 (show -2147483648 ≤ (g 169 90) + 1 ∧ (g 169 90) + 1 < 2147483648 from ⟨by omega, by omega⟩).2 ?_
  refine z_putI (k := 90) (kz := 90) pk11 dX11_appeal_118 (by decide) zb_1214 rfl (zFit_int _) (zOb.lit (by decide +kernel)) rfl ?_
  refine z_aload_n 0 dX11_appeal_121 rfl ?_
  refine z_getS (v := 233) (k := 88) (kz := 88) pk11 dX11_appeal_122 (by decide) zb_1212 rfl (zOb.lit (by decide +kernel)) rfl (by decide +kernel) ?_
  refine z_iload_n 2 dX11_appeal_125 rfl ?_
  refine z_zaldV (v := (g 233 m)) dX11_appeal_126 (zOb.lit (by decide +kernel)) hx.1 hx.2 (zst_ne (Or.inl (by decide))) ?_
  refine z_if_eq (tgt := 149) dX11_appeal_127 (by decide) (fun c1 => ?_) (fun c1 => ?_)
  ·
    refine z_iconst dX11_appeal_149 (zi32_d rfl) ?_
    refine z_istore (lv' := [(4, xI 0), (0, xR 169), (1, xI l), (2, xI m), (3, xI w)]) dX11_appeal_150 (by decide) rfl ?_
    refine zW.sub (lv' := [(0, xR 169), (1, xI l), (2, xI m), (3, xI w), (4, xI 0)]) [1, 2, 3, 4, 0] rfl ?_
    exact k1 c1
  ·
    refine z_aload_n 0 dX11_appeal_130 rfl ?_
    refine z_getS (v := 219) (k := 72) (kz := 72) pk11 dX11_appeal_131 (by decide) zb_1196 rfl (zOb.lit (by decide +kernel)) rfl (by decide +kernel) ?_
    refine z_bipush dX11_appeal_134 (zi32_d rfl) (by decide) ?_
    refine z_iload_n 1 dX11_appeal_136 rfl ?_
    refine z_imulN dX11_appeal_137 (show -2147483648 ≤ 60 * l ∧ 60 * l < 2147483648 from ⟨by omega, by omega⟩).1 (show -2147483648 ≤ 60 * l ∧ 60 * l < 2147483648 from ⟨by omega, by omega⟩).2 ?_
    refine z_iload_n 2 dX11_appeal_138 rfl ?_
    refine z_iaddN dX11_appeal_139 (show -2147483648 ≤ (60 * l) + m ∧ (60 * l) + m < 2147483648 from ⟨by omega, by omega⟩).1 (show -2147483648 ≤ (60 * l) + m ∧ (60 * l) + m < 2147483648 from ⟨by omega, by omega⟩).2 ?_
    refine z_ialdV (v := (g 219 ((60 * l) + m))) dX11_appeal_140 (zOb.lit (by decide +kernel)) (show 0 ≤ ((60 * l) + m) ∧ ((60 * l) + m) < 240 from ⟨by omega, by omega⟩).1 (show 0 ≤ ((60 * l) + m) ∧ ((60 * l) + m) < 240 from ⟨by omega, by omega⟩).2 (zst_ne (Or.inl (by decide))) ?_
    refine z_iconst dX11_appeal_141 (zi32_d rfl) ?_
    suffices KJ : zW mX11_appeal X dep bc bs 239 150 [(0, xR 169), (1, xI l), (2, xI m), (3, xI w)] [xI (if (g 219 ((60 * l) + m)) = 5 then 0 else 1 : Int)] (zst g 169 90 ((g 169 90) + 1)) Q by
      refine z_icmp_eq (tgt := 149) dX11_appeal_142 (by decide) (fun j1 => ?_) (fun j1 => ?_)
      ·
        refine z_iconst dX11_appeal_149 (zi32_d rfl) ?_
        rw [if_pos j1] at KJ
        exact KJ
      ·
        refine z_iconst dX11_appeal_145 (zi32_d rfl) ?_
        refine z_goto (tgt := 150) dX11_appeal_146 (by decide) ?_
        rw [if_neg j1] at KJ
        exact KJ
    refine z_istore (lv' := [(4, xI (if (g 219 ((60 * l) + m)) = 5 then 0 else 1 : Int)), (0, xR 169), (1, xI l), (2, xI m), (3, xI w)]) dX11_appeal_150 (by decide) rfl ?_
    refine zW.sub (lv' := [(0, xR 169), (1, xI l), (2, xI m), (3, xI w), (4, xI (if (g 219 ((60 * l) + m)) = 5 then 0 else 1 : Int))]) [1, 2, 3, 4, 0] rfl ?_
    exact k2 c1

set_option maxRecDepth 20000 in
theorem bX11_appeal_152 {X : zX} {dep bc bs : Nat} (l : Int) (m : Int) (w : Int) (z : Int) {g : zH} {Q : Nat → zH → List zV → Prop} (hh : 0 ≤ g 169 91 ∧ g 169 91 < 60)
    (k1 : zW mX11_appeal X dep bc bs 239 171 [(0, xR 169), (4, xI z)] [] (zst g 169 91 ((g 169 91) + (if z = 0 then 0 else 1 : Int))) Q) : zW mX11_appeal X dep bc bs 239 152 [(0, xR 169), (1, xI l), (2, xI m), (3, xI w), (4, xI z)] [] g Q := by
  refine z_aload_n 0 dX11_appeal_152 rfl ?_
  refine z_dup dX11_appeal_153 zt2 ?_
  refine z_getI (k := 91) (kz := 91) pk11 dX11_appeal_154 (by decide) zb_1215 rfl (zOb.lit (by decide +kernel)) rfl ?_
  refine z_iload 4 dX11_appeal_157 rfl ?_
  suffices KJ : zW mX11_appeal X dep bc bs 239 167 [(0, xR 169), (1, xI l), (2, xI m), (3, xI w), (4, xI z)] [xI (if z = 0 then 0 else 1 : Int), xI (g 169 91), xR 169] g Q by
    refine z_if_eq (tgt := 166) dX11_appeal_159 (by decide) (fun j1 => ?_) (fun j1 => ?_)
    ·
      refine z_iconst dX11_appeal_166 (zi32_d rfl) ?_
      rw [if_pos j1] at KJ
      exact KJ
    ·
      refine z_iconst dX11_appeal_162 (zi32_d rfl) ?_
      refine z_goto (tgt := 167) dX11_appeal_163 (by decide) ?_
      rw [if_neg j1] at KJ
      exact KJ
  refine z_iaddN dX11_appeal_167 (show -2147483648 ≤ (g 169 91) + (if z = 0 then 0 else 1 : Int) ∧ (g 169 91) + (if z = 0 then 0 else 1 : Int) < 2147483648 from ⟨by omega, by omega⟩).1 (show -2147483648 ≤ (g 169 91) + (if z = 0 then 0 else 1 : Int) ∧ (g 169 91) + (if z = 0 then 0 else 1 : Int) < 2147483648 from ⟨by omega, by omega⟩).2 ?_
  refine z_putI (k := 91) (kz := 91) pk11 dX11_appeal_168 (by decide) zb_1215 rfl (zFit_int _) (zOb.lit (by decide +kernel)) rfl ?_
  refine zW.sub (lv' := [(0, xR 169), (4, xI z)]) [0, 4] rfl ?_
  exact k1

set_option maxRecDepth 20000 in
theorem bX11_appeal_171 {X : zX} {dep bc bs : Nat} (z : Int) {g : zH} {Q : Nat → zH → List zV → Prop}
    (k1 : Q 239 g [xI (if z = 0 then 0 else 1 : Int)]) : zW mX11_appeal X dep bc bs 239 171 [(0, xR 169), (4, xI z)] [] g Q := by
  refine z_iload 1 dX11_appeal_171 rfl ?_
  suffices KJ : zW mX11_appeal X dep bc bs 239 181 [(0, xR 169), (4, xI z)] [xI (if z = 0 then 0 else 1 : Int)] g Q by
    refine z_if_eq (tgt := 180) dX11_appeal_173 (by decide) (fun j1 => ?_) (fun j1 => ?_)
    ·
      refine z_iconst dX11_appeal_180 (zi32_d rfl) ?_
      rw [if_pos j1] at KJ
      exact KJ
    ·
      refine z_iconst dX11_appeal_176 (zi32_d rfl) ?_
      refine z_goto (tgt := 181) dX11_appeal_177 (by decide) ?_
      rw [if_neg j1] at KJ
      exact KJ
  exact z_iret dX11_appeal_181 rfl (k1)

set_option maxRecDepth 20000 in
theorem bX11_mayGo_0 {X : zX} {dep bc bs : Nat} (l : Int) (p : Int) (w : Int) {h : zH} {Q : Nat → zH → List zV → Prop}
    (k1 : zW mX11_mayGo X dep bc bs 239 9 [(0, xR 169), (1, xI l), (2, xI p), (3, xI w), (4, xI 0), (5, xI 0), (6, xI 0)] [] h Q) : zW mX11_mayGo X dep bc bs 239 0 [(0, xR 169), (1, xI l), (2, xI p), (3, xI w)] [] h Q := by
  refine z_iconst dX11_mayGo_0 (zi32_d rfl) ?_
  refine z_istore (lv' := [(4, xI 0), (0, xR 169), (1, xI l), (2, xI p), (3, xI w)]) dX11_mayGo_1 (by decide) rfl ?_
  refine z_iconst dX11_mayGo_3 (zi32_d rfl) ?_
  refine z_istore (lv' := [(5, xI 0), (4, xI 0), (0, xR 169), (1, xI l), (2, xI p), (3, xI w)]) dX11_mayGo_4 (by decide) rfl ?_
  refine z_iconst dX11_mayGo_6 (zi32_d rfl) ?_
  refine z_istore (lv' := [(6, xI 0), (5, xI 0), (4, xI 0), (0, xR 169), (1, xI l), (2, xI p), (3, xI w)]) dX11_mayGo_7 (by decide) rfl ?_
  refine zW.sub (lv' := [(0, xR 169), (1, xI l), (2, xI p), (3, xI w), (4, xI 0), (5, xI 0), (6, xI 0)]) [3, 4, 5, 6, 2, 1, 0] rfl ?_
  exact k1

set_option maxRecDepth 20000 in
theorem bX11_mayGo_9 {X : zX} {dep bc bs : Nat} (l : Int) (p : Int) (w : Int) (y : Int) (c : Int) (m : Int) {h : zH} {Q : Nat → zH → List zV → Prop} (hm : 0 ≤ h 169 25 ∧ h 169 25 ≤ 60) (hx : 0 ≤ m ∧ m ≤ 60) (hy : 0 ≤ y ∧ y ≤ m) (hc : 0 ≤ c ∧ c ≤ m) (hl : 0 ≤ l ∧ l < 4) (hp : 0 ≤ p ∧ p < 8) (hw : 0 ≤ w)
    (k1 : (h 169 25) ≤ m → zW mX11_mayGo X dep bc bs 239 99 [(0, xR 169), (1, xI l), (2, xI p), (3, xI w), (4, xI y), (6, xI c), (7, xI w)] [] h Q)
    (k2 : ¬ ((h 169 25) ≤ m) → zW mX11_mayGo X dep bc bs 239 49 [(0, xR 169), (1, xI l), (2, xI p), (3, xI w), (4, xI (y + (if (h 215 m) = 0 then 0 else if (h 172 m) = p then 1 else 0 : Int))), (5, xI c), (6, xI m)] [] h Q) : zW mX11_mayGo X dep bc bs 239 9 [(0, xR 169), (1, xI l), (2, xI p), (3, xI w), (4, xI y), (5, xI c), (6, xI m)] [] h Q := by
  refine z_iload 6 dX11_mayGo_9 rfl ?_
  refine z_aload_n 0 dX11_mayGo_11 rfl ?_
  refine z_getI (k := 25) (kz := 25) pk11 dX11_mayGo_12 (by decide) zb_1149 rfl (zOb.lit (by decide +kernel)) rfl ?_
  refine z_icmp_ge (tgt := 92) dX11_mayGo_15 (by decide) (fun c1 => ?_) (fun c1 => ?_)
  ·
    refine z_iload 5 dX11_mayGo_92 rfl ?_
    refine z_istore (lv' := [(6, xI c), (0, xR 169), (1, xI l), (2, xI p), (3, xI w), (4, xI y), (5, xI c)]) dX11_mayGo_94 (by decide) rfl ?_
    refine z_iload_n 4 dX11_mayGo_96 rfl ?_
    refine z_istore (lv' := [(7, xI w), (6, xI c), (0, xR 169), (1, xI l), (2, xI p), (3, xI w), (4, xI y), (5, xI c)]) dX11_mayGo_97 (by decide) rfl ?_
    refine zW.sub (lv' := [(0, xR 169), (1, xI l), (2, xI p), (3, xI w), (4, xI y), (6, xI c), (7, xI w)]) [2, 3, 4, 5, 6, 1, 0] rfl ?_
    exact k1 c1
  ·
    refine z_iload 4 dX11_mayGo_18 rfl ?_
    refine z_aload_n 0 dX11_mayGo_20 rfl ?_
    refine z_getS (v := 215) (k := 68) (kz := 68) pk11 dX11_mayGo_21 (by decide) zb_1192 rfl (zOb.lit (by decide +kernel)) rfl (by decide +kernel) ?_
    refine z_iload 6 dX11_mayGo_24 rfl ?_
    refine z_zald dX11_mayGo_26 (zOb.lit (by decide +kernel)) (show 0 ≤ m ∧ m < 60 from ⟨by omega, by omega⟩).1 (show 0 ≤ m ∧ m < 60 from ⟨by omega, by omega⟩).2 ?_
    suffices KJ : zW mX11_mayGo X dep bc bs 239 46 [(0, xR 169), (1, xI l), (2, xI p), (3, xI w), (4, xI y), (5, xI c), (6, xI m)] [xI (if (h 215 m) = 0 then 0 else if (h 172 m) = p then 1 else 0 : Int), xI y] h Q by
      refine z_if_eq (tgt := 45) dX11_mayGo_27 (by decide) (fun j1 => ?_) (fun j1 => ?_)
      ·
        refine z_iconst dX11_mayGo_45 (zi32_d rfl) ?_
        rw [if_pos j1] at KJ
        exact KJ
      ·
        refine z_aload_n 0 dX11_mayGo_30 rfl ?_
        refine z_getS (v := 172) (k := 7) (kz := 7) pk11 dX11_mayGo_31 (by decide) zb_1131 rfl (zOb.lit (by decide +kernel)) rfl (by decide +kernel) ?_
        refine z_iload 6 dX11_mayGo_34 rfl ?_
        refine z_iald dX11_mayGo_36 (zOb.lit (by decide +kernel)) (show 0 ≤ m ∧ m < 60 from ⟨by omega, by omega⟩).1 (show 0 ≤ m ∧ m < 60 from ⟨by omega, by omega⟩).2 ?_
        refine z_iload_n 2 dX11_mayGo_37 rfl ?_
        refine z_icmp_ne (tgt := 45) dX11_mayGo_38 (by decide) (fun j2 => ?_) (fun j2 => ?_)
        ·
          refine z_iconst dX11_mayGo_45 (zi32_d rfl) ?_
          rw [if_neg j1] at KJ
          rw [if_neg j2] at KJ
          exact KJ
        ·
          refine z_iconst dX11_mayGo_41 (zi32_d rfl) ?_
          refine z_goto (tgt := 46) dX11_mayGo_42 (by decide) ?_
          rw [if_neg j1] at KJ
          rw [if_pos j2] at KJ
          exact KJ
    refine z_iaddN dX11_mayGo_46 (show -2147483648 ≤ y + (if (h 215 m) = 0 then 0 else if (h 172 m) = p then 1 else 0 : Int) ∧ y + (if (h 215 m) = 0 then 0 else if (h 172 m) = p then 1 else 0 : Int) < 2147483648 from ⟨by omega, by omega⟩).1 (show -2147483648 ≤ y + (if (h 215 m) = 0 then 0 else if (h 172 m) = p then 1 else 0 : Int) ∧ y + (if (h 215 m) = 0 then 0 else if (h 172 m) = p then 1 else 0 : Int) < 2147483648 from ⟨by omega, by omega⟩).2 ?_
    refine z_istore (lv' := [(4, xI (y + (if (h 215 m) = 0 then 0 else if (h 172 m) = p then 1 else 0 : Int))), (0, xR 169), (1, xI l), (2, xI p), (3, xI w), (5, xI c), (6, xI m)]) dX11_mayGo_47 (by decide) rfl ?_
    refine zW.sub (lv' := [(0, xR 169), (1, xI l), (2, xI p), (3, xI w), (4, xI (y + (if (h 215 m) = 0 then 0 else if (h 172 m) = p then 1 else 0 : Int))), (5, xI c), (6, xI m)]) [1, 2, 3, 4, 0, 5, 6] rfl ?_
    exact k2 c1

set_option maxRecDepth 20000 in
theorem bX11_mayGo_49 {X : zX} {dep bc bs : Nat} (l : Int) (p : Int) (w : Int) (y : Int) (c : Int) (m : Int) {h : zH} {Q : Nat → zH → List zV → Prop} (hx : 0 ≤ m ∧ m < 60) (hc : 0 ≤ c ∧ c ≤ m) (hl : 0 ≤ l ∧ l < 4) (hp : 0 ≤ p ∧ p < 8) (hw : 0 ≤ w)
    (k1 : zW mX11_mayGo X dep bc bs 239 9 [(0, xR 169), (1, xI l), (2, xI p), (3, xI w), (4, xI y), (5, xI (c + (if (h 219 ((60 * l) + m)) = 5 then if (h 172 m) = p then 1 else 0 else 0 : Int))), (6, xI (m + 1))] [] h Q) : zW mX11_mayGo X dep bc bs 239 49 [(0, xR 169), (1, xI l), (2, xI p), (3, xI w), (4, xI y), (5, xI c), (6, xI m)] [] h Q := by
  refine z_iload 5 dX11_mayGo_49 rfl ?_
  refine z_aload_n 0 dX11_mayGo_51 rfl ?_
  refine z_getS (v := 219) (k := 72) (kz := 72) pk11 dX11_mayGo_52 (by decide) zb_1196 rfl (zOb.lit (by decide +kernel)) rfl (by decide +kernel) ?_
  refine z_bipush dX11_mayGo_55 (zi32_d rfl) (by decide) ?_
  refine z_iload_n 1 dX11_mayGo_57 rfl ?_
  refine z_imulN dX11_mayGo_58 (show -2147483648 ≤ 60 * l ∧ 60 * l < 2147483648 from ⟨by omega, by omega⟩).1 (show -2147483648 ≤ 60 * l ∧ 60 * l < 2147483648 from ⟨by omega, by omega⟩).2 ?_
  refine z_iload 6 dX11_mayGo_59 rfl ?_
  refine z_iaddN dX11_mayGo_61 (show -2147483648 ≤ (60 * l) + m ∧ (60 * l) + m < 2147483648 from ⟨by omega, by omega⟩).1 (show -2147483648 ≤ (60 * l) + m ∧ (60 * l) + m < 2147483648 from ⟨by omega, by omega⟩).2 ?_
  refine z_iald dX11_mayGo_62 (zOb.lit (by decide +kernel)) (show 0 ≤ ((60 * l) + m) ∧ ((60 * l) + m) < 240 from ⟨by omega, by omega⟩).1 (show 0 ≤ ((60 * l) + m) ∧ ((60 * l) + m) < 240 from ⟨by omega, by omega⟩).2 ?_
  refine z_iconst dX11_mayGo_63 (zi32_d rfl) ?_
  suffices KJ : zW mX11_mayGo X dep bc bs 239 83 [(0, xR 169), (1, xI l), (2, xI p), (3, xI w), (4, xI y), (5, xI c), (6, xI m)] [xI (if (h 219 ((60 * l) + m)) = 5 then if (h 172 m) = p then 1 else 0 else 0 : Int), xI c] h Q by
    refine z_icmp_ne (tgt := 82) dX11_mayGo_64 (by decide) (fun j1 => ?_) (fun j1 => ?_)
    ·
      refine z_iconst dX11_mayGo_82 (zi32_d rfl) ?_
      rw [if_neg j1] at KJ
      exact KJ
    ·
      refine z_aload_n 0 dX11_mayGo_67 rfl ?_
      refine z_getS (v := 172) (k := 7) (kz := 7) pk11 dX11_mayGo_68 (by decide) zb_1131 rfl (zOb.lit (by decide +kernel)) rfl (by decide +kernel) ?_
      refine z_iload 6 dX11_mayGo_71 rfl ?_
      refine z_iald dX11_mayGo_73 (zOb.lit (by decide +kernel)) (show 0 ≤ m ∧ m < 60 from ⟨by omega, by omega⟩).1 (show 0 ≤ m ∧ m < 60 from ⟨by omega, by omega⟩).2 ?_
      refine z_iload_n 2 dX11_mayGo_74 rfl ?_
      refine z_icmp_ne (tgt := 82) dX11_mayGo_75 (by decide) (fun j2 => ?_) (fun j2 => ?_)
      ·
        refine z_iconst dX11_mayGo_82 (zi32_d rfl) ?_
        rw [if_pos j1] at KJ
        rw [if_neg j2] at KJ
        exact KJ
      ·
        refine z_iconst dX11_mayGo_78 (zi32_d rfl) ?_
        refine z_goto (tgt := 83) dX11_mayGo_79 (by decide) ?_
        rw [if_pos j1] at KJ
        rw [if_pos j2] at KJ
        exact KJ
  refine z_iaddN dX11_mayGo_83 (show -2147483648 ≤ c + (if (h 219 ((60 * l) + m)) = 5 then if (h 172 m) = p then 1 else 0 else 0 : Int) ∧ c + (if (h 219 ((60 * l) + m)) = 5 then if (h 172 m) = p then 1 else 0 else 0 : Int) < 2147483648 from ⟨by omega, by omega⟩).1 (show -2147483648 ≤ c + (if (h 219 ((60 * l) + m)) = 5 then if (h 172 m) = p then 1 else 0 else 0 : Int) ∧ c + (if (h 219 ((60 * l) + m)) = 5 then if (h 172 m) = p then 1 else 0 else 0 : Int) < 2147483648 from ⟨by omega, by omega⟩).2 ?_
  refine z_istore (lv' := [(5, xI (c + (if (h 219 ((60 * l) + m)) = 5 then if (h 172 m) = p then 1 else 0 else 0 : Int))), (0, xR 169), (1, xI l), (2, xI p), (3, xI w), (4, xI y), (6, xI m)]) dX11_mayGo_84 (by decide) rfl ?_
  refine z_iincN (lv' := [(6, xI (m + 1)), (5, xI (c + (if (h 219 ((60 * l) + m)) = 5 then if (h 172 m) = p then 1 else 0 else 0 : Int))), (0, xR 169), (1, xI l), (2, xI p), (3, xI w), (4, xI y)]) 6 dX11_mayGo_86 rfl (by decide) rfl (show -2147483648 ≤ m + 1 ∧ m + 1 < 2147483648 from ⟨by omega, by omega⟩).1 (show -2147483648 ≤ m + 1 ∧ m + 1 < 2147483648 from ⟨by omega, by omega⟩).2 ?_
  refine z_goto (tgt := 9) dX11_mayGo_89 (by decide) ?_
  refine zW.sub (lv' := [(0, xR 169), (1, xI l), (2, xI p), (3, xI w), (4, xI y), (5, xI (c + (if (h 219 ((60 * l) + m)) = 5 then if (h 172 m) = p then 1 else 0 else 0 : Int))), (6, xI (m + 1))]) [2, 3, 4, 5, 6, 1, 0] rfl ?_
  exact k1

set_option maxRecDepth 20000 in
theorem bX11_mayGo_99 {X : zX} {dep bc bs : Nat} (l : Int) (p : Int) (w : Int) (y : Int) (c : Int) (i : Int) {h : zH} {Q : Nat → zH → List zV → Prop} (hi : 0 ≤ i) (hy : 0 ≤ y ∧ y ≤ 60) (hc : -60 ≤ c ∧ c ≤ 60) (hn : 12 ≤ i ∨ (0 ≤ h 235 (12 * p + i) ∧ h 235 (12 * p + i) ≤ 60)) (hl : 0 ≤ l ∧ l < 4) (hp : 0 ≤ p ∧ p < 8) (hw : 0 ≤ w)
    (k1 : 12 ≤ i → 0 ≤ c → Q 239 h [xI c])
    (k2 : 12 ≤ i → ¬ (0 ≤ c) → Q 239 h [xI 0])
    (k3 : ¬ (12 ≤ i) → c ≤ (y - (h 235 ((12 * p) + i))) → zW mX11_mayGo X dep bc bs 239 99 [(0, xR 169), (1, xI l), (2, xI p), (3, xI w), (4, xI y), (6, xI c), (7, xI (i + 1))] [] h Q)
    (k4 : ¬ (12 ≤ i) → ¬ (c ≤ (y - (h 235 ((12 * p) + i)))) → zW mX11_mayGo X dep bc bs 239 99 [(0, xR 169), (1, xI l), (2, xI p), (3, xI w), (4, xI y), (6, xI (y - (h 235 ((12 * p) + i)))), (7, xI (i + 1))] [] h Q) : zW mX11_mayGo X dep bc bs 239 99 [(0, xR 169), (1, xI l), (2, xI p), (3, xI w), (4, xI y), (6, xI c), (7, xI i)] [] h Q := by
  refine z_iload 6 dX11_mayGo_99 rfl ?_
  refine z_bipush dX11_mayGo_101 (zi32_d rfl) (by decide) ?_
  refine z_icmp_ge (tgt := 154) dX11_mayGo_103 (by decide) (fun c1 => ?_) (fun c1 => ?_)
  ·
    refine z_iload 5 dX11_mayGo_154 rfl ?_
    refine z_if_ge (tgt := 163) dX11_mayGo_156 (by decide) (fun c2 => ?_) (fun c2 => ?_)
    ·
      refine z_iload 5 dX11_mayGo_163 rfl ?_
      exact z_iret dX11_mayGo_165 rfl (k1 c1 c2)
    ·
      refine z_iconst dX11_mayGo_159 (zi32_d rfl) ?_
      refine z_goto (tgt := 165) dX11_mayGo_160 (by decide) ?_
      exact z_iret dX11_mayGo_165 rfl (k2 c1 c2)
  ·
    refine z_iload 4 dX11_mayGo_106 rfl ?_
    refine z_aload_n 0 dX11_mayGo_108 rfl ?_
    refine z_getS (v := 235) (k := 93) (kz := 93) pk11 dX11_mayGo_109 (by decide) zb_1217 rfl (zOb.lit (by decide +kernel)) rfl (by decide +kernel) ?_
    refine z_bipush dX11_mayGo_112 (zi32_d rfl) (by decide) ?_
    refine z_iload_n 2 dX11_mayGo_114 rfl ?_
    refine z_imulN dX11_mayGo_115 (show -2147483648 ≤ 12 * p ∧ 12 * p < 2147483648 from ⟨by omega, by omega⟩).1 (show -2147483648 ≤ 12 * p ∧ 12 * p < 2147483648 from ⟨by omega, by omega⟩).2 ?_
    refine z_iload 6 dX11_mayGo_116 rfl ?_
    refine z_iaddN dX11_mayGo_118 (show -2147483648 ≤ (12 * p) + i ∧ (12 * p) + i < 2147483648 from ⟨by omega, by omega⟩).1 (show -2147483648 ≤ (12 * p) + i ∧ (12 * p) + i < 2147483648 from ⟨by omega, by omega⟩).2 ?_
    refine z_iald dX11_mayGo_119 (zOb.lit (by decide +kernel)) (show 0 ≤ ((12 * p) + i) ∧ ((12 * p) + i) < 96 from ⟨by omega, by omega⟩).1 (show 0 ≤ ((12 * p) + i) ∧ ((12 * p) + i) < 96 from ⟨by omega, by omega⟩).2 ?_
    refine z_isubN dX11_mayGo_120 (show -2147483648 ≤ y - (h 235 ((12 * p) + i)) ∧ y - (h 235 ((12 * p) + i)) < 2147483648 from ⟨by omega, by omega⟩).1 (show -2147483648 ≤ y - (h 235 ((12 * p) + i)) ∧ y - (h 235 ((12 * p) + i)) < 2147483648 from ⟨by omega, by omega⟩).2 ?_
    refine z_iload 5 dX11_mayGo_121 rfl ?_
    refine z_icmp_ge (tgt := 144) dX11_mayGo_123 (by decide) (fun c2 => ?_) (fun c2 => ?_)
    ·
      refine z_iload 5 dX11_mayGo_144 rfl ?_
      refine z_istore (lv' := [(6, xI c), (0, xR 169), (1, xI l), (2, xI p), (3, xI w), (4, xI y), (7, xI i)]) dX11_mayGo_146 (by decide) rfl ?_
      refine z_iincN (lv' := [(7, xI (i + 1)), (6, xI c), (0, xR 169), (1, xI l), (2, xI p), (3, xI w), (4, xI y)]) 6 dX11_mayGo_148 rfl (by decide) rfl (show -2147483648 ≤ i + 1 ∧ i + 1 < 2147483648 from ⟨by omega, by omega⟩).1 (show -2147483648 ≤ i + 1 ∧ i + 1 < 2147483648 from ⟨by omega, by omega⟩).2 ?_
      refine z_goto (tgt := 99) dX11_mayGo_151 (by decide) ?_
      refine zW.sub (lv' := [(0, xR 169), (1, xI l), (2, xI p), (3, xI w), (4, xI y), (6, xI c), (7, xI (i + 1))]) [2, 3, 4, 5, 6, 1, 0] rfl ?_
      exact k3 c1 c2
    ·
      refine z_iload 4 dX11_mayGo_126 rfl ?_
      refine z_aload_n 0 dX11_mayGo_128 rfl ?_
      refine z_getS (v := 235) (k := 93) (kz := 93) pk11 dX11_mayGo_129 (by decide) zb_1217 rfl (zOb.lit (by decide +kernel)) rfl (by decide +kernel) ?_
      refine z_bipush dX11_mayGo_132 (zi32_d rfl) (by decide) ?_
      refine z_iload_n 2 dX11_mayGo_134 rfl ?_
      refine z_imulN dX11_mayGo_135 (show -2147483648 ≤ 12 * p ∧ 12 * p < 2147483648 from ⟨by omega, by omega⟩).1 (show -2147483648 ≤ 12 * p ∧ 12 * p < 2147483648 from ⟨by omega, by omega⟩).2 ?_
      refine z_iload 6 dX11_mayGo_136 rfl ?_
      refine z_iaddN dX11_mayGo_138 (show -2147483648 ≤ (12 * p) + i ∧ (12 * p) + i < 2147483648 from ⟨by omega, by omega⟩).1 (show -2147483648 ≤ (12 * p) + i ∧ (12 * p) + i < 2147483648 from ⟨by omega, by omega⟩).2 ?_
      refine z_iald dX11_mayGo_139 (zOb.lit (by decide +kernel)) (show 0 ≤ ((12 * p) + i) ∧ ((12 * p) + i) < 96 from ⟨by omega, by omega⟩).1 (show 0 ≤ ((12 * p) + i) ∧ ((12 * p) + i) < 96 from ⟨by omega, by omega⟩).2 ?_
      refine z_isubN dX11_mayGo_140 (show -2147483648 ≤ y - (h 235 ((12 * p) + i)) ∧ y - (h 235 ((12 * p) + i)) < 2147483648 from ⟨by omega, by omega⟩).1 (show -2147483648 ≤ y - (h 235 ((12 * p) + i)) ∧ y - (h 235 ((12 * p) + i)) < 2147483648 from ⟨by omega, by omega⟩).2 ?_
      refine z_goto (tgt := 146) dX11_mayGo_141 (by decide) ?_
      refine z_istore (lv' := [(6, xI (y - (h 235 ((12 * p) + i)))), (0, xR 169), (1, xI l), (2, xI p), (3, xI w), (4, xI y), (7, xI i)]) dX11_mayGo_146 (by decide) rfl ?_
      refine z_iincN (lv' := [(7, xI (i + 1)), (6, xI (y - (h 235 ((12 * p) + i)))), (0, xR 169), (1, xI l), (2, xI p), (3, xI w), (4, xI y)]) 6 dX11_mayGo_148 rfl (by decide) rfl (show -2147483648 ≤ i + 1 ∧ i + 1 < 2147483648 from ⟨by omega, by omega⟩).1 (show -2147483648 ≤ i + 1 ∧ i + 1 < 2147483648 from ⟨by omega, by omega⟩).2 ?_
      refine z_goto (tgt := 99) dX11_mayGo_151 (by decide) ?_
      refine zW.sub (lv' := [(0, xR 169), (1, xI l), (2, xI p), (3, xI w), (4, xI y), (6, xI (y - (h 235 ((12 * p) + i)))), (7, xI (i + 1))]) [2, 3, 4, 5, 6, 1, 0] rfl ?_
      exact k4 c1 c2

set_option maxRecDepth 20000 in
theorem bX11_leaves_0 {X : zX} {dep bc bs : Nat} (l : Int) (t : Int) {h : zH} {Q : Nat → zH → List zV → Prop} (hl : 0 ≤ h 169 65 ∧ h 169 65 ≤ 4) (ht : 0 ≤ h 169 2 ∧ h 169 2 ≤ 340) (hdep : 2 ≤ dep)
    (k1 : ¬ (0 ≤ l ∧ l < (h 169 65)) → Q 239 (zst (zst (zst (zst h 169 0 0) 169 3 ((h 169 2))) 169 2 0) 169 4 0) [xI (-1)])
    (k2 : 0 ≤ l ∧ l < (h 169 65) → ((h 169 2)) = 12 → zW mX11_leaves X dep bc bs 239 30 [(0, xR 169), (1, xI l), (2, xI t), (3, xI 0)] [] (zst (zst (zst (zst h 169 0 0) 169 3 ((h 169 2))) 169 2 0) 169 4 0) Q)
    (k3 : 0 ≤ l ∧ l < (h 169 65) → ¬ (((h 169 2)) = 12) → Q 239 (zst (zst (zst (zst h 169 0 0) 169 3 ((h 169 2))) 169 2 0) 169 4 0) [xI (-1)]) : zW mX11_leaves X dep bc bs 239 0 [(0, xR 169), (1, xI l), (2, xI t)] [] h Q := by
  refine z_aload_n 0 dX11_leaves_0 rfl ?_
  refine z_iconst dX11_leaves_1 (zi32_d rfl) ?_
  refine z_putI (k := 0) (kz := 0) pk11 dX11_leaves_2 (by decide) zb_1124 rfl (zFit_int _) (zOb.lit (by decide +kernel)) rfl ?_
  refine z_aload_n 0 dX11_leaves_5 rfl ?_
  refine z_invF (ci := 11) (N := 97) (as := []) (st := []) (ra := []) (dep' := dep - 1) (rs := []) (h' := (zst (zst (zst (zst h 169 0 0) 169 3 ((h 169 2))) 169 2 0) 169 4 0)) (by have e1 : (zst h 169 0 0) 169 2 = (h 169 2) := (zst_ne (Or.inr (by decide))); have z9 := f_X11_taken (X := X) (dep := dep - 1)  (h := (zst h 169 0 0)) ; rw [e1] at z9; exact z9) dX11_leaves_6 nX11_taken zb_1444 zb_1446 zb_36 zb_92 (zOb.lit (by decide +kernel)) rfl (by omega) zne_0 (Nat.le_of_ble_eq_true rfl) (Nat.le_of_ble_eq_true rfl) rfl ?_
  refine z_aload_n 0 dX11_leaves_9 rfl ?_
  refine z_iload_n 1 dX11_leaves_10 rfl ?_
  refine z_invF (ci := 11) (N := 97) (as := [xI l]) (st := []) (ra := [xI l]) (dep' := dep - 1) (rs := [xI (zb (0 ≤ l ∧ l < (h 169 65)))]) (h' := (zst (zst (zst (zst h 169 0 0) 169 3 ((h 169 2))) 169 2 0) 169 4 0)) (by have e1 : (zst (zst (zst (zst h 169 0 0) 169 3 ((h 169 2))) 169 2 0) 169 4 0) 169 65 = (h 169 65) := ((zst_ne (Or.inr (by decide))).trans ((zst_ne (Or.inr (by decide))).trans ((zst_ne (Or.inr (by decide))).trans (zst_ne (Or.inr (by decide)))))); have z9 := f_X11_isLot (X := X) (dep := dep - 1) l (h := (zst (zst (zst (zst h 169 0 0) 169 3 ((h 169 2))) 169 2 0) 169 4 0)) (by have y1 : (zst (zst (zst (zst h 169 0 0) 169 3 ((h 169 2))) 169 2 0) 169 4 0) 169 65 = (h 169 65) := ((zst_ne (Or.inr (by decide))).trans ((zst_ne (Or.inr (by decide))).trans ((zst_ne (Or.inr (by decide))).trans (zst_ne (Or.inr (by decide)))))); simp only [y1]; omega) (by omega); rw [e1] at z9; exact z9) dX11_leaves_11 nX11_isLot zb_1583 zb_1585 zb_55 zb_92 (zOb.lit (by decide +kernel)) rfl (by omega) zne_I (Nat.le_of_ble_eq_true rfl) (Nat.le_of_ble_eq_true rfl) rfl ?_
  refine z_ifB_eq (C := 0 ≤ l ∧ l < (h 169 65)) (tgt := 26) dX11_leaves_14 (by decide) (fun c1 => ?_) (fun c1 => ?_)
  ·
    refine z_iconst dX11_leaves_26 (zi32_d rfl) ?_
    exact z_iret dX11_leaves_27 rfl (k1 c1)
  ·
    refine z_aload_n 0 dX11_leaves_17 rfl ?_
    refine z_getIV (v := ((h 169 2))) (k := 3) (kz := 3) pk11 dX11_leaves_18 (by decide) zb_1127 rfl (zOb.lit (by decide +kernel)) rfl ((zst_ne (Or.inr (by decide))).trans ((zst_ne (Or.inr (by decide))).trans (zst_self _ _ _ _))) ?_
    refine z_bipush dX11_leaves_21 (zi32_d rfl) (by decide) ?_
    refine z_icmp_eq (tgt := 28) dX11_leaves_23 (by decide) (fun c2 => ?_) (fun c2 => ?_)
    ·
      refine z_iconst dX11_leaves_28 (zi32_d rfl) ?_
      refine z_istore_n (lv' := [(3, xI 0), (0, xR 169), (1, xI l), (2, xI t)]) dX11_leaves_29 (by decide) rfl ?_
      refine zW.sub (lv' := [(0, xR 169), (1, xI l), (2, xI t), (3, xI 0)]) [1, 2, 3, 0] rfl ?_
      exact k2 c1 c2
    ·
      refine z_iconst dX11_leaves_26 (zi32_d rfl) ?_
      exact z_iret dX11_leaves_27 rfl (k3 c1 c2)

set_option maxRecDepth 20000 in
theorem bX11_leaves_30 {X : zX} {dep bc bs : Nat} (l : Int) (t : Int) (i : Int) {g : zH} {Q : Nat → zH → List zV → Prop} (hi : 0 ≤ i)
    (k1 : 12 ≤ i → zW mX11_leaves X dep bc bs 239 81 [(0, xR 169), (1, xI l), (2, xI t)] [] g Q)
    (k2 : ¬ (12 ≤ i) → i ≤ 0 → zW mX11_leaves X dep bc bs 239 30 [(0, xR 169), (1, xI l), (2, xI t), (3, xI (i + 1))] [] (zst g 237 i (zand (g 170 i) 255)) Q)
    (k3 : ¬ (12 ≤ i) → ¬ (i ≤ 0) → ((zst g 237 i (zand (g 170 i) 255)) 237 (i - 1)) ≤ (zand (g 170 i) 255) → zW mX11_leaves X dep bc bs 239 30 [(0, xR 169), (1, xI l), (2, xI t), (3, xI (i + 1))] [] (zst g 237 i (zand (g 170 i) 255)) Q)
    (k4 : ¬ (12 ≤ i) → ¬ (i ≤ 0) → ¬ (((zst g 237 i (zand (g 170 i) 255)) 237 (i - 1)) ≤ (zand (g 170 i) 255)) → Q 239 (zst g 237 i (zand (g 170 i) 255)) [xI (-1)]) : zW mX11_leaves X dep bc bs 239 30 [(0, xR 169), (1, xI l), (2, xI t), (3, xI i)] [] g Q := by
  refine z_iload_n 3 dX11_leaves_30 rfl ?_
  refine z_bipush dX11_leaves_31 (zi32_d rfl) (by decide) ?_
  refine z_icmp_ge (tgt := 81) dX11_leaves_33 (by decide) (fun c1 => ?_) (fun c1 => ?_)
  ·
    refine zW.sub (lv' := [(0, xR 169), (1, xI l), (2, xI t)]) [0, 1, 2] rfl ?_
    exact k1 c1
  ·
    refine z_aload_n 0 dX11_leaves_36 rfl ?_
    refine z_getS (v := 237) (k := 95) (kz := 95) pk11 dX11_leaves_37 (by decide) zb_1219 rfl (zOb.lit (by decide +kernel)) rfl (by decide +kernel) ?_
    refine z_iload_n 3 dX11_leaves_40 rfl ?_
    refine z_aload_n 0 dX11_leaves_41 rfl ?_
    refine z_getS (v := 170) (k := 1) (kz := 1) pk11 dX11_leaves_42 (by decide) zb_1125 rfl (zOb.lit (by decide +kernel)) rfl (by decide +kernel) ?_
    refine z_iload_n 3 dX11_leaves_45 rfl ?_
    refine z_bald dX11_leaves_46 (zOb.lit (by decide +kernel)) (show 0 ≤ i ∧ i < 340 from ⟨by omega, by omega⟩).1 (show 0 ≤ i ∧ i < 340 from ⟨by omega, by omega⟩).2 ?_
    refine z_sipush dX11_leaves_47 (zi32_d rfl) (by decide) ?_
    refine z_iand dX11_leaves_50 ?_
    refine z_iast dX11_leaves_51 (zOb.lit (by decide +kernel)) (show 0 ≤ i ∧ i < 12 from ⟨by omega, by omega⟩).1 (show 0 ≤ i ∧ i < 12 from ⟨by omega, by omega⟩).2 ?_
    refine z_iload_n 3 dX11_leaves_52 rfl ?_
    refine z_if_le (tgt := 75) dX11_leaves_53 (by decide) (fun c2 => ?_) (fun c2 => ?_)
    ·
      refine z_iincN (lv' := [(3, xI (i + 1)), (0, xR 169), (1, xI l), (2, xI t)]) 3 dX11_leaves_75 rfl (by decide) rfl (show -2147483648 ≤ i + 1 ∧ i + 1 < 2147483648 from ⟨by omega, by omega⟩).1 (show -2147483648 ≤ i + 1 ∧ i + 1 < 2147483648 from ⟨by omega, by omega⟩).2 ?_
      refine z_goto (tgt := 30) dX11_leaves_78 (by decide) ?_
      refine zW.sub (lv' := [(0, xR 169), (1, xI l), (2, xI t), (3, xI (i + 1))]) [1, 2, 3, 0] rfl ?_
      exact k2 c1 c2
    ·
      refine z_aload_n 0 dX11_leaves_56 rfl ?_
      refine z_getS (v := 237) (k := 95) (kz := 95) pk11 dX11_leaves_57 (by decide) zb_1219 rfl (zOb.lit (by decide +kernel)) rfl (by decide +kernel) ?_
      refine z_iload_n 3 dX11_leaves_60 rfl ?_
      refine z_ialdV (v := (zand (g 170 i) 255)) dX11_leaves_61 (zOb.lit (by decide +kernel)) (show 0 ≤ i ∧ i < 12 from ⟨by omega, by omega⟩).1 (show 0 ≤ i ∧ i < 12 from ⟨by omega, by omega⟩).2 (zst_self _ _ _ _) ?_
      refine z_aload_n 0 dX11_leaves_62 rfl ?_
      refine z_getS (v := 237) (k := 95) (kz := 95) pk11 dX11_leaves_63 (by decide) zb_1219 rfl (zOb.lit (by decide +kernel)) rfl (by decide +kernel) ?_
      refine z_iload_n 3 dX11_leaves_66 rfl ?_
      refine z_iconst dX11_leaves_67 (zi32_d rfl) ?_
      refine z_isubN dX11_leaves_68 (show -2147483648 ≤ i - 1 ∧ i - 1 < 2147483648 from ⟨by omega, by omega⟩).1 (show -2147483648 ≤ i - 1 ∧ i - 1 < 2147483648 from ⟨by omega, by omega⟩).2 ?_
      refine z_iald dX11_leaves_69 (zOb.lit (by decide +kernel)) (show 0 ≤ (i - 1) ∧ (i - 1) < 12 from ⟨by omega, by omega⟩).1 (show 0 ≤ (i - 1) ∧ (i - 1) < 12 from ⟨by omega, by omega⟩).2 ?_
      refine z_icmp_ge (tgt := 75) dX11_leaves_70 (by decide) (fun c3 => ?_) (fun c3 => ?_)
      ·
        refine z_iincN (lv' := [(3, xI (i + 1)), (0, xR 169), (1, xI l), (2, xI t)]) 3 dX11_leaves_75 rfl (by decide) rfl (show -2147483648 ≤ i + 1 ∧ i + 1 < 2147483648 from ⟨by omega, by omega⟩).1 (show -2147483648 ≤ i + 1 ∧ i + 1 < 2147483648 from ⟨by omega, by omega⟩).2 ?_
        refine z_goto (tgt := 30) dX11_leaves_78 (by decide) ?_
        refine zW.sub (lv' := [(0, xR 169), (1, xI l), (2, xI t), (3, xI (i + 1))]) [1, 2, 3, 0] rfl ?_
        exact k3 c1 c2 c3
      ·
        refine z_iconst dX11_leaves_73 (zi32_d rfl) ?_
        exact z_iret dX11_leaves_74 rfl (k4 c1 c2 c3)

set_option maxRecDepth 20000 in
theorem bX11_leaves_81 {X : zX} {dep bc bs : Nat} (l : Int) (t : Int) {g : zH} {Q : Nat → zH → List zV → Prop}
    (k1 : zW mX11_leaves X dep bc bs 239 84 [(0, xR 169), (1, xI l), (2, xI t)] [xI t, xI l, xR 169] g Q) : zW mX11_leaves X dep bc bs 239 81 [(0, xR 169), (1, xI l), (2, xI t)] [] g Q := by
  refine z_aload_n 0 dX11_leaves_81 rfl ?_
  refine z_iload_n 1 dX11_leaves_82 rfl ?_
  refine z_iload_n 2 dX11_leaves_83 rfl ?_
  exact k1

set_option maxRecDepth 20000 in
theorem rX11_leaves_84 {X : zX} {dep bc bs : Nat} (l : Int) (t : Int) {g : zH} {Q : Nat → zH → List zV → Prop} {P : zH → Prop}
    (hZ : zW mX11_roll X (dep - 1) 0 0 239 0 (zar 0 [xR 169, xI l, xI t]) [] g (zQ0 P)) (hdep : 1 ≤ dep)
    (k : ∀ g : zH, P g → zW mX11_leaves X dep bc bs 239 87 [(0, xR 169), (1, xI l), (2, xI t)] [] g Q) : zW mX11_leaves X dep bc bs 239 84 [(0, xR 169), (1, xI l), (2, xI t)] [xI t, xI l, xR 169] g Q :=
  z_invQ0 (ci := 11) (N := 97) (as := [xI l, xI t]) (st := []) (ra := [xI t, xI l]) hZ dX11_leaves_84 nX11_roll zb_1627 zb_1629 zb_61 zb_92 (zOb.lit (by decide +kernel)) rfl (by omega) (Nat.le_of_ble_eq_true rfl) (Nat.le_of_ble_eq_true rfl) rfl (fun g hg => k g hg)

set_option maxRecDepth 20000 in
theorem bX11_leaves_87 {X : zX} {dep bc bs : Nat} (l : Int) (t : Int) {g : zH} {Q : Nat → zH → List zV → Prop}
    (k1 : zW mX11_leaves X dep bc bs 239 92 [(0, xR 169), (1, xI l), (2, xI t), (3, xI 1), (4, xI 0)] [] g Q) : zW mX11_leaves X dep bc bs 239 87 [(0, xR 169), (1, xI l), (2, xI t)] [] g Q := by
  refine z_iconst dX11_leaves_87 (zi32_d rfl) ?_
  refine z_istore_n (lv' := [(3, xI 1), (0, xR 169), (1, xI l), (2, xI t)]) dX11_leaves_88 (by decide) rfl ?_
  refine z_iconst dX11_leaves_89 (zi32_d rfl) ?_
  refine z_istore (lv' := [(4, xI 0), (3, xI 1), (0, xR 169), (1, xI l), (2, xI t)]) dX11_leaves_90 (by decide) rfl ?_
  refine zW.sub (lv' := [(0, xR 169), (1, xI l), (2, xI t), (3, xI 1), (4, xI 0)]) [2, 3, 4, 1, 0] rfl ?_
  exact k1

set_option maxRecDepth 20000 in
theorem bX11_leaves_92 {X : zX} {dep bc bs : Nat} (l : Int) (t : Int) (y : Int) (w : Int) {g : zH} {Q : Nat → zH → List zV → Prop} (hl : 0 ≤ l ∧ l < 4) (hw : 0 ≤ w ∧ w ≤ 12) (hy : y = 0 ∨ y = 1)
    (k1 : 12 ≤ w → Q 239 (zst g 169 96 1) [xI (if y = 0 then 0 else 1 : Int)])
    (k2 : ¬ (12 ≤ w) → zW mX11_leaves X dep bc bs 239 105 [(0, xR 169), (1, xI l), (2, xI t), (3, xI y), (4, xI w), (5, xI 0), (6, xI 0)] [] g Q) : zW mX11_leaves X dep bc bs 239 92 [(0, xR 169), (1, xI l), (2, xI t), (3, xI y), (4, xI w)] [] g Q := by
  refine z_iload 4 dX11_leaves_92 rfl ?_
  refine z_bipush dX11_leaves_94 (zi32_d rfl) (by decide) ?_
  refine z_icmp_ge (tgt := 307) dX11_leaves_96 (by decide) (fun c1 => ?_) (fun c1 => ?_)
  ·
    refine z_aload_n 0 dX11_leaves_307 rfl ?_
    refine z_iconst dX11_leaves_308 (zi32_d rfl) ?_
    refine z_putI (k := 96) (kz := 96) pk11 dX11_leaves_309 (by decide) zb_1220 rfl (zFit_bool (Or.inr rfl)) (zOb.lit (by decide +kernel)) rfl ?_
    refine z_iload_n 3 dX11_leaves_312 rfl ?_
    suffices KJ : zW mX11_leaves X dep bc bs 239 321 [(0, xR 169), (1, xI l), (2, xI t), (3, xI y), (4, xI w)] [xI (if y = 0 then 0 else 1 : Int)] (zst g 169 96 1) Q by
      refine z_if_eq (tgt := 320) dX11_leaves_313 (by decide) (fun j1 => ?_) (fun j1 => ?_)
      ·
        refine z_iconst dX11_leaves_320 (zi32_d rfl) ?_
        rw [if_pos j1] at KJ
        exact KJ
      ·
        refine z_iconst dX11_leaves_316 (zi32_d rfl) ?_
        refine z_goto (tgt := 321) dX11_leaves_317 (by decide) ?_
        rw [if_neg j1] at KJ
        exact KJ
    exact z_iret dX11_leaves_321 rfl (k1 c1)
  ·
    refine z_iconst dX11_leaves_99 (zi32_d rfl) ?_
    refine z_istore (lv' := [(5, xI 0), (0, xR 169), (1, xI l), (2, xI t), (3, xI y), (4, xI w)]) dX11_leaves_100 (by decide) rfl ?_
    refine z_iconst dX11_leaves_102 (zi32_d rfl) ?_
    refine z_istore (lv' := [(6, xI 0), (5, xI 0), (0, xR 169), (1, xI l), (2, xI t), (3, xI y), (4, xI w)]) dX11_leaves_103 (by decide) rfl ?_
    refine zW.sub (lv' := [(0, xR 169), (1, xI l), (2, xI t), (3, xI y), (4, xI w), (5, xI 0), (6, xI 0)]) [2, 3, 4, 5, 6, 1, 0] rfl ?_
    exact k2 c1

set_option maxRecDepth 20000 in
theorem bX11_leaves_105 {X : zX} {dep bc bs : Nat} (l : Int) (t : Int) (y : Int) (w : Int) (a : Int) (p : Int) {g : zH} {Q : Nat → zH → List zV → Prop} (hl : 0 ≤ l ∧ l < 4) (hw : 0 ≤ w ∧ w ≤ 12) (hy : y = 0 ∨ y = 1) (hw2 : w < 12) (hp : 0 ≤ p ∧ p ≤ 8) (ha : 0 ≤ a ∧ a ≤ 600) (hg : 8 ≤ p ∨ w = 0 ∨ (0 ≤ g 236 (12 * p + w - 1) ∧ g 236 (12 * p + w - 1) ≤ 60))
    (k1 : 8 ≤ p → zW mX11_leaves X dep bc bs 239 176 [(0, xR 169), (1, xI l), (2, xI t), (3, xI y), (4, xI w), (5, xI a), (6, xI 0)] [] g Q)
    (k2 : ¬ (8 ≤ p) → ¬ w = 0 → zW mX11_leaves X dep bc bs 239 105 [(0, xR 169), (1, xI l), (2, xI t), (3, xI y), (4, xI w), (5, xI (a + (g 236 (((12 * p) + w) - 1)))), (6, xI (p + 1))] [] (zst g 236 ((12 * p) + w) (g 236 (((12 * p) + w) - 1))) Q)
    (k3 : ¬ (8 ≤ p) → w = 0 → zW mX11_leaves X dep bc bs 239 105 [(0, xR 169), (1, xI l), (2, xI t), (3, xI y), (4, xI w), (5, xI (a + 0)), (6, xI (p + 1))] [] (zst g 236 ((12 * p) + w) 0) Q) : zW mX11_leaves X dep bc bs 239 105 [(0, xR 169), (1, xI l), (2, xI t), (3, xI y), (4, xI w), (5, xI a), (6, xI p)] [] g Q := by
  refine z_iload 6 dX11_leaves_105 rfl ?_
  refine z_bipush dX11_leaves_107 (zi32_d rfl) (by decide) ?_
  refine z_icmp_ge (tgt := 173) dX11_leaves_109 (by decide) (fun c1 => ?_) (fun c1 => ?_)
  ·
    refine z_iconst dX11_leaves_173 (zi32_d rfl) ?_
    refine z_istore (lv' := [(6, xI 0), (0, xR 169), (1, xI l), (2, xI t), (3, xI y), (4, xI w), (5, xI a)]) dX11_leaves_174 (by decide) rfl ?_
    refine zW.sub (lv' := [(0, xR 169), (1, xI l), (2, xI t), (3, xI y), (4, xI w), (5, xI a), (6, xI 0)]) [1, 2, 3, 4, 5, 6, 0] rfl ?_
    exact k1 c1
  ·
    refine z_aload_n 0 dX11_leaves_112 rfl ?_
    refine z_getS (v := 236) (k := 94) (kz := 94) pk11 dX11_leaves_113 (by decide) zb_1218 rfl (zOb.lit (by decide +kernel)) rfl (by decide +kernel) ?_
    refine z_bipush dX11_leaves_116 (zi32_d rfl) (by decide) ?_
    refine z_iload 6 dX11_leaves_118 rfl ?_
    refine z_imulN dX11_leaves_120 (show -2147483648 ≤ 12 * p ∧ 12 * p < 2147483648 from ⟨by omega, by omega⟩).1 (show -2147483648 ≤ 12 * p ∧ 12 * p < 2147483648 from ⟨by omega, by omega⟩).2 ?_
    refine z_iload 4 dX11_leaves_121 rfl ?_
    refine z_iaddN dX11_leaves_123 (show -2147483648 ≤ (12 * p) + w ∧ (12 * p) + w < 2147483648 from ⟨by omega, by omega⟩).1 (show -2147483648 ≤ (12 * p) + w ∧ (12 * p) + w < 2147483648 from ⟨by omega, by omega⟩).2 ?_
    refine z_iload 4 dX11_leaves_124 rfl ?_
    refine z_if_ne (tgt := 133) dX11_leaves_126 (by decide) (fun c2 => ?_) (fun c2 => ?_)
    ·
      refine z_aload_n 0 dX11_leaves_133 rfl ?_
      refine z_getS (v := 236) (k := 94) (kz := 94) pk11 dX11_leaves_134 (by decide) zb_1218 rfl (zOb.lit (by decide +kernel)) rfl (by decide +kernel) ?_
      refine z_bipush dX11_leaves_137 (zi32_d rfl) (by decide) ?_
      refine z_iload 6 dX11_leaves_139 rfl ?_
      refine z_imulN dX11_leaves_141 (show -2147483648 ≤ 12 * p ∧ 12 * p < 2147483648 from ⟨by omega, by omega⟩).1 (show -2147483648 ≤ 12 * p ∧ 12 * p < 2147483648 from ⟨by omega, by omega⟩).2 ?_
      refine z_iload 4 dX11_leaves_142 rfl ?_
      refine z_iaddN dX11_leaves_144 (show -2147483648 ≤ (12 * p) + w ∧ (12 * p) + w < 2147483648 from ⟨by omega, by omega⟩).1 (show -2147483648 ≤ (12 * p) + w ∧ (12 * p) + w < 2147483648 from ⟨by omega, by omega⟩).2 ?_
      refine z_iconst dX11_leaves_145 (zi32_d rfl) ?_
      refine z_isubN dX11_leaves_146 (show -2147483648 ≤ ((12 * p) + w) - 1 ∧ ((12 * p) + w) - 1 < 2147483648 from ⟨by omega, by omega⟩).1 (show -2147483648 ≤ ((12 * p) + w) - 1 ∧ ((12 * p) + w) - 1 < 2147483648 from ⟨by omega, by omega⟩).2 ?_
      refine z_iald dX11_leaves_147 (zOb.lit (by decide +kernel)) (show 0 ≤ (((12 * p) + w) - 1) ∧ (((12 * p) + w) - 1) < 96 from ⟨by omega, by omega⟩).1 (show 0 ≤ (((12 * p) + w) - 1) ∧ (((12 * p) + w) - 1) < 96 from ⟨by omega, by omega⟩).2 ?_
      refine z_iast dX11_leaves_148 (zOb.lit (by decide +kernel)) (show 0 ≤ ((12 * p) + w) ∧ ((12 * p) + w) < 96 from ⟨by omega, by omega⟩).1 (show 0 ≤ ((12 * p) + w) ∧ ((12 * p) + w) < 96 from ⟨by omega, by omega⟩).2 ?_
      refine z_iload 5 dX11_leaves_149 rfl ?_
      refine z_aload_n 0 dX11_leaves_151 rfl ?_
      refine z_getS (v := 236) (k := 94) (kz := 94) pk11 dX11_leaves_152 (by decide) zb_1218 rfl (zOb.lit (by decide +kernel)) rfl (by decide +kernel) ?_
      refine z_bipush dX11_leaves_155 (zi32_d rfl) (by decide) ?_
      refine z_iload 6 dX11_leaves_157 rfl ?_
      refine z_imulN dX11_leaves_159 (show -2147483648 ≤ 12 * p ∧ 12 * p < 2147483648 from ⟨by omega, by omega⟩).1 (show -2147483648 ≤ 12 * p ∧ 12 * p < 2147483648 from ⟨by omega, by omega⟩).2 ?_
      refine z_iload 4 dX11_leaves_160 rfl ?_
      refine z_iaddN dX11_leaves_162 (show -2147483648 ≤ (12 * p) + w ∧ (12 * p) + w < 2147483648 from ⟨by omega, by omega⟩).1 (show -2147483648 ≤ (12 * p) + w ∧ (12 * p) + w < 2147483648 from ⟨by omega, by omega⟩).2 ?_
      refine z_ialdV (v := (g 236 (((12 * p) + w) - 1))) dX11_leaves_163 (zOb.lit (by decide +kernel)) (show 0 ≤ ((12 * p) + w) ∧ ((12 * p) + w) < 96 from ⟨by omega, by omega⟩).1 (show 0 ≤ ((12 * p) + w) ∧ ((12 * p) + w) < 96 from ⟨by omega, by omega⟩).2 (zst_self _ _ _ _) ?_
      refine z_iaddN dX11_leaves_164 (show -2147483648 ≤ a + (g 236 (((12 * p) + w) - 1)) ∧ a + (g 236 (((12 * p) + w) - 1)) < 2147483648 from ⟨by omega, by omega⟩).1 (show -2147483648 ≤ a + (g 236 (((12 * p) + w) - 1)) ∧ a + (g 236 (((12 * p) + w) - 1)) < 2147483648 from ⟨by omega, by omega⟩).2 ?_
      refine z_istore (lv' := [(5, xI (a + (g 236 (((12 * p) + w) - 1)))), (0, xR 169), (1, xI l), (2, xI t), (3, xI y), (4, xI w), (6, xI p)]) dX11_leaves_165 (by decide) rfl ?_
      refine z_iincN (lv' := [(6, xI (p + 1)), (5, xI (a + (g 236 (((12 * p) + w) - 1)))), (0, xR 169), (1, xI l), (2, xI t), (3, xI y), (4, xI w)]) 6 dX11_leaves_167 rfl (by decide) rfl (show -2147483648 ≤ p + 1 ∧ p + 1 < 2147483648 from ⟨by omega, by omega⟩).1 (show -2147483648 ≤ p + 1 ∧ p + 1 < 2147483648 from ⟨by omega, by omega⟩).2 ?_
      refine z_goto (tgt := 105) dX11_leaves_170 (by decide) ?_
      refine zW.sub (lv' := [(0, xR 169), (1, xI l), (2, xI t), (3, xI y), (4, xI w), (5, xI (a + (g 236 (((12 * p) + w) - 1)))), (6, xI (p + 1))]) [2, 3, 4, 5, 6, 1, 0] rfl ?_
      exact k2 c1 c2
    ·
      refine z_iconst dX11_leaves_129 (zi32_d rfl) ?_
      refine z_goto (tgt := 148) dX11_leaves_130 (by decide) ?_
      refine z_iast dX11_leaves_148 (zOb.lit (by decide +kernel)) (show 0 ≤ ((12 * p) + w) ∧ ((12 * p) + w) < 96 from ⟨by omega, by omega⟩).1 (show 0 ≤ ((12 * p) + w) ∧ ((12 * p) + w) < 96 from ⟨by omega, by omega⟩).2 ?_
      refine z_iload 5 dX11_leaves_149 rfl ?_
      refine z_aload_n 0 dX11_leaves_151 rfl ?_
      refine z_getS (v := 236) (k := 94) (kz := 94) pk11 dX11_leaves_152 (by decide) zb_1218 rfl (zOb.lit (by decide +kernel)) rfl (by decide +kernel) ?_
      refine z_bipush dX11_leaves_155 (zi32_d rfl) (by decide) ?_
      refine z_iload 6 dX11_leaves_157 rfl ?_
      refine z_imulN dX11_leaves_159 (show -2147483648 ≤ 12 * p ∧ 12 * p < 2147483648 from ⟨by omega, by omega⟩).1 (show -2147483648 ≤ 12 * p ∧ 12 * p < 2147483648 from ⟨by omega, by omega⟩).2 ?_
      refine z_iload 4 dX11_leaves_160 rfl ?_
      refine z_iaddN dX11_leaves_162 (show -2147483648 ≤ (12 * p) + w ∧ (12 * p) + w < 2147483648 from ⟨by omega, by omega⟩).1 (show -2147483648 ≤ (12 * p) + w ∧ (12 * p) + w < 2147483648 from ⟨by omega, by omega⟩).2 ?_
      refine z_ialdV (v := 0) dX11_leaves_163 (zOb.lit (by decide +kernel)) (show 0 ≤ ((12 * p) + w) ∧ ((12 * p) + w) < 96 from ⟨by omega, by omega⟩).1 (show 0 ≤ ((12 * p) + w) ∧ ((12 * p) + w) < 96 from ⟨by omega, by omega⟩).2 (zst_self _ _ _ _) ?_
      refine z_iaddN dX11_leaves_164 (show -2147483648 ≤ a + 0 ∧ a + 0 < 2147483648 from ⟨by omega, by omega⟩).1 (show -2147483648 ≤ a + 0 ∧ a + 0 < 2147483648 from ⟨by omega, by omega⟩).2 ?_
      refine z_istore (lv' := [(5, xI (a + 0)), (0, xR 169), (1, xI l), (2, xI t), (3, xI y), (4, xI w), (6, xI p)]) dX11_leaves_165 (by decide) rfl ?_
      refine z_iincN (lv' := [(6, xI (p + 1)), (5, xI (a + 0)), (0, xR 169), (1, xI l), (2, xI t), (3, xI y), (4, xI w)]) 6 dX11_leaves_167 rfl (by decide) rfl (show -2147483648 ≤ p + 1 ∧ p + 1 < 2147483648 from ⟨by omega, by omega⟩).1 (show -2147483648 ≤ p + 1 ∧ p + 1 < 2147483648 from ⟨by omega, by omega⟩).2 ?_
      refine z_goto (tgt := 105) dX11_leaves_170 (by decide) ?_
      refine zW.sub (lv' := [(0, xR 169), (1, xI l), (2, xI t), (3, xI y), (4, xI w), (5, xI (a + 0)), (6, xI (p + 1))]) [2, 3, 4, 5, 6, 1, 0] rfl ?_
      exact k3 c1 c2

set_option maxRecDepth 20000 in
theorem bX11_leaves_176 {X : zX} {dep bc bs : Nat} (l : Int) (t : Int) (y : Int) (w : Int) (a : Int) (p : Int) {g : zH} {Q : Nat → zH → List zV → Prop} (hl : 0 ≤ l ∧ l < 4) (hw : 0 ≤ w ∧ w ≤ 12) (hy : y = 0 ∨ y = 1) (hw2 : w < 12) (hp : 0 ≤ p ∧ p ≤ 8) (ha : 0 ≤ a ∧ a ≤ 600)
    (k1 : 8 ≤ p → zW mX11_leaves X dep bc bs 239 279 [(0, xR 169), (1, xI l), (2, xI t), (3, xI y), (4, xI w), (5, xI a)] [] g Q)
    (k2 : ¬ (8 ≤ p) → zW mX11_leaves X dep bc bs 239 189 [(0, xR 169), (1, xI l), (2, xI t), (3, xI y), (4, xI w), (5, xI a), (6, xI p)] [xI w, xI p, xI l, xR 169] g Q) : zW mX11_leaves X dep bc bs 239 176 [(0, xR 169), (1, xI l), (2, xI t), (3, xI y), (4, xI w), (5, xI a), (6, xI p)] [] g Q := by
  refine z_iload 6 dX11_leaves_176 rfl ?_
  refine z_bipush dX11_leaves_178 (zi32_d rfl) (by decide) ?_
  refine z_icmp_ge (tgt := 279) dX11_leaves_180 (by decide) (fun c1 => ?_) (fun c1 => ?_)
  ·
    refine zW.sub (lv' := [(0, xR 169), (1, xI l), (2, xI t), (3, xI y), (4, xI w), (5, xI a)]) [0, 1, 2, 3, 4, 5] rfl ?_
    exact k1 c1
  ·
    refine z_aload_n 0 dX11_leaves_183 rfl ?_
    refine z_iload_n 1 dX11_leaves_184 rfl ?_
    refine z_iload 6 dX11_leaves_185 rfl ?_
    refine z_iload 4 dX11_leaves_187 rfl ?_
    exact k2 c1

set_option maxRecDepth 20000 in
theorem rX11_leaves_189 {X : zX} {dep bc bs : Nat} (l : Int) (t : Int) (y : Int) (w : Int) (a : Int) (p : Int) {g : zH} {Q : Nat → zH → List zV → Prop} {P : Int → zH → Prop}
    (hZ : zW mX11_mayGo X (dep - 1) 0 0 239 0 (zar 0 [xR 169, xI l, xI p, xI w]) [] g (zQI P)) (hdep : 1 ≤ dep)
    (k : ∀ (v : Int) (g : zH), P v g → zW mX11_leaves X dep bc bs 239 192 [(0, xR 169), (1, xI l), (2, xI t), (3, xI y), (4, xI w), (5, xI a), (6, xI p)] [xI v] g Q) : zW mX11_leaves X dep bc bs 239 189 [(0, xR 169), (1, xI l), (2, xI t), (3, xI y), (4, xI w), (5, xI a), (6, xI p)] [xI w, xI p, xI l, xR 169] g Q :=
  z_invQI (ci := 11) (N := 97) (as := [xI l, xI p, xI w]) (st := []) (ra := [xI w, xI p, xI l]) hZ dX11_leaves_189 nX11_mayGo zb_1758 zb_1760 zb_80 zb_92 (zOb.lit (by decide +kernel)) rfl (by omega) (Nat.le_of_ble_eq_true rfl) (Nat.le_of_ble_eq_true rfl) rfl (fun v g hg => k v g hg)

set_option maxRecDepth 20000 in
theorem bX11_leaves_192 {X : zX} {dep bc bs : Nat} (l : Int) (t : Int) (y : Int) (w : Int) (a : Int) (p : Int) (v : Int) {g : zH} {Q : Nat → zH → List zV → Prop} (hl : 0 ≤ l ∧ l < 4) (hw : 0 ≤ w ∧ w ≤ 12) (hy : y = 0 ∨ y = 1) (hw2 : w < 12) (hp : 0 ≤ p ∧ p ≤ 8) (ha : 0 ≤ a ∧ a ≤ 600) (hp2 : p < 8) (hv : 0 ≤ v ∧ v ≤ 60) (hg : 0 ≤ g 236 (12 * p + w) ∧ g 236 (12 * p + w) ≤ 60) (ht : 0 ≤ g 237 w ∧ g 237 w ≤ 255)
    (k1 : ((g 237 w) - a) ≤ (v - (g 236 ((12 * p) + w))) → 0 < ((g 237 w) - a) → zW mX11_leaves X dep bc bs 239 176 [(0, xR 169), (1, xI l), (2, xI t), (3, xI y), (4, xI w), (5, xI (a + ((g 237 w) - a))), (6, xI (p + 1))] [] (zst g 236 ((12 * p) + w) ((g 236 ((12 * p) + w)) + ((g 237 w) - a))) Q)
    (k2 : ((g 237 w) - a) ≤ (v - (g 236 ((12 * p) + w))) → ¬ (0 < ((g 237 w) - a)) → zW mX11_leaves X dep bc bs 239 176 [(0, xR 169), (1, xI l), (2, xI t), (3, xI y), (4, xI w), (5, xI a), (6, xI (p + 1))] [] g Q)
    (k3 : ¬ (((g 237 w) - a) ≤ (v - (g 236 ((12 * p) + w)))) → 0 < (v - (g 236 ((12 * p) + w))) → zW mX11_leaves X dep bc bs 239 176 [(0, xR 169), (1, xI l), (2, xI t), (3, xI y), (4, xI w), (5, xI (a + (v - (g 236 ((12 * p) + w))))), (6, xI (p + 1))] [] (zst g 236 ((12 * p) + w) ((g 236 ((12 * p) + w)) + (v - (g 236 ((12 * p) + w))))) Q)
    (k4 : ¬ (((g 237 w) - a) ≤ (v - (g 236 ((12 * p) + w)))) → ¬ (0 < (v - (g 236 ((12 * p) + w)))) → zW mX11_leaves X dep bc bs 239 176 [(0, xR 169), (1, xI l), (2, xI t), (3, xI y), (4, xI w), (5, xI a), (6, xI (p + 1))] [] g Q) : zW mX11_leaves X dep bc bs 239 192 [(0, xR 169), (1, xI l), (2, xI t), (3, xI y), (4, xI w), (5, xI a), (6, xI p)] [xI v] g Q := by
  refine z_aload_n 0 dX11_leaves_192 rfl ?_
  refine z_getS (v := 236) (k := 94) (kz := 94) pk11 dX11_leaves_193 (by decide) zb_1218 rfl (zOb.lit (by decide +kernel)) rfl (by decide +kernel) ?_
  refine z_bipush dX11_leaves_196 (zi32_d rfl) (by decide) ?_
  refine z_iload 6 dX11_leaves_198 rfl ?_
  refine z_imulN dX11_leaves_200 (show -2147483648 ≤ 12 * p ∧ 12 * p < 2147483648 from ⟨by omega, by omega⟩).1 (show -2147483648 ≤ 12 * p ∧ 12 * p < 2147483648 from ⟨by omega, by omega⟩).2 ?_
  refine z_iload 4 dX11_leaves_201 rfl ?_
  refine z_iaddN dX11_leaves_203 (show -2147483648 ≤ (12 * p) + w ∧ (12 * p) + w < 2147483648 from ⟨by omega, by omega⟩).1 (show -2147483648 ≤ (12 * p) + w ∧ (12 * p) + w < 2147483648 from ⟨by omega, by omega⟩).2 ?_
  refine z_iald dX11_leaves_204 (zOb.lit (by decide +kernel)) (show 0 ≤ ((12 * p) + w) ∧ ((12 * p) + w) < 96 from ⟨by omega, by omega⟩).1 (show 0 ≤ ((12 * p) + w) ∧ ((12 * p) + w) < 96 from ⟨by omega, by omega⟩).2 ?_
  refine z_isubN dX11_leaves_205 (show -2147483648 ≤ v - (g 236 ((12 * p) + w)) ∧ v - (g 236 ((12 * p) + w)) < 2147483648 from ⟨by omega, by omega⟩).1 (show -2147483648 ≤ v - (g 236 ((12 * p) + w)) ∧ v - (g 236 ((12 * p) + w)) < 2147483648 from ⟨by omega, by omega⟩).2 ?_
  refine z_istore (lv' := [(7, xI (v - (g 236 ((12 * p) + w)))), (0, xR 169), (1, xI l), (2, xI t), (3, xI y), (4, xI w), (5, xI a), (6, xI p)]) dX11_leaves_206 (by decide) rfl ?_
  refine z_iload 0 dX11_leaves_208 rfl ?_
  refine z_aload_n 1 dX11_leaves_210 rfl ?_
  refine z_getS (v := 237) (k := 95) (kz := 95) pk11 dX11_leaves_211 (by decide) zb_1219 rfl (zOb.lit (by decide +kernel)) rfl (by decide +kernel) ?_
  refine z_iload 5 dX11_leaves_214 rfl ?_
  refine z_iald dX11_leaves_216 (zOb.lit (by decide +kernel)) (show 0 ≤ w ∧ w < 12 from ⟨by omega, by omega⟩).1 (show 0 ≤ w ∧ w < 12 from ⟨by omega, by omega⟩).2 ?_
  refine z_iload 6 dX11_leaves_217 rfl ?_
  refine z_isubN dX11_leaves_219 (show -2147483648 ≤ (g 237 w) - a ∧ (g 237 w) - a < 2147483648 from ⟨by omega, by omega⟩).1 (show -2147483648 ≤ (g 237 w) - a ∧ (g 237 w) - a < 2147483648 from ⟨by omega, by omega⟩).2 ?_
  refine z_icmp_ge (tgt := 228) dX11_leaves_220 (by decide) (fun c1 => ?_) (fun c1 => ?_)
  ·
    refine z_aload_n 1 dX11_leaves_228 rfl ?_
    refine z_getS (v := 237) (k := 95) (kz := 95) pk11 dX11_leaves_229 (by decide) zb_1219 rfl (zOb.lit (by decide +kernel)) rfl (by decide +kernel) ?_
    refine z_iload 5 dX11_leaves_232 rfl ?_
    refine z_iald dX11_leaves_234 (zOb.lit (by decide +kernel)) (show 0 ≤ w ∧ w < 12 from ⟨by omega, by omega⟩).1 (show 0 ≤ w ∧ w < 12 from ⟨by omega, by omega⟩).2 ?_
    refine z_iload 6 dX11_leaves_235 rfl ?_
    refine z_isubN dX11_leaves_237 (show -2147483648 ≤ (g 237 w) - a ∧ (g 237 w) - a < 2147483648 from ⟨by omega, by omega⟩).1 (show -2147483648 ≤ (g 237 w) - a ∧ (g 237 w) - a < 2147483648 from ⟨by omega, by omega⟩).2 ?_
    refine z_istore (lv' := [(7, xI ((g 237 w) - a)), (0, xR 169), (1, xI l), (2, xI t), (3, xI y), (4, xI w), (5, xI a), (6, xI p)]) dX11_leaves_238 (by decide) rfl ?_
    refine z_iload 0 dX11_leaves_240 rfl ?_
    refine z_if_gt (tgt := 248) dX11_leaves_242 (by decide) (fun c2 => ?_) (fun c2 => ?_)
    ·
      refine z_aload_n 1 dX11_leaves_248 rfl ?_
      refine z_getS (v := 236) (k := 94) (kz := 94) pk11 dX11_leaves_249 (by decide) zb_1218 rfl (zOb.lit (by decide +kernel)) rfl (by decide +kernel) ?_
      refine z_bipush dX11_leaves_252 (zi32_d rfl) (by decide) ?_
      refine z_iload 7 dX11_leaves_254 rfl ?_
      refine z_imulN dX11_leaves_256 (show -2147483648 ≤ 12 * p ∧ 12 * p < 2147483648 from ⟨by omega, by omega⟩).1 (show -2147483648 ≤ 12 * p ∧ 12 * p < 2147483648 from ⟨by omega, by omega⟩).2 ?_
      refine z_iload 5 dX11_leaves_257 rfl ?_
      refine z_iaddN dX11_leaves_259 (show -2147483648 ≤ (12 * p) + w ∧ (12 * p) + w < 2147483648 from ⟨by omega, by omega⟩).1 (show -2147483648 ≤ (12 * p) + w ∧ (12 * p) + w < 2147483648 from ⟨by omega, by omega⟩).2 ?_
      refine z_dup2 dX11_leaves_260 zt0 zt2 ?_
      refine z_iald dX11_leaves_261 (zOb.lit (by decide +kernel)) (show 0 ≤ ((12 * p) + w) ∧ ((12 * p) + w) < 96 from ⟨by omega, by omega⟩).1 (show 0 ≤ ((12 * p) + w) ∧ ((12 * p) + w) < 96 from ⟨by omega, by omega⟩).2 ?_
      refine z_iload 0 dX11_leaves_262 rfl ?_
      refine z_iaddN dX11_leaves_264 (show -2147483648 ≤ (g 236 ((12 * p) + w)) + ((g 237 w) - a) ∧ (g 236 ((12 * p) + w)) + ((g 237 w) - a) < 2147483648 from ⟨by omega, by omega⟩).1 (show -2147483648 ≤ (g 236 ((12 * p) + w)) + ((g 237 w) - a) ∧ (g 236 ((12 * p) + w)) + ((g 237 w) - a) < 2147483648 from ⟨by omega, by omega⟩).2 ?_
      refine z_iast dX11_leaves_265 (zOb.lit (by decide +kernel)) (show 0 ≤ ((12 * p) + w) ∧ ((12 * p) + w) < 96 from ⟨by omega, by omega⟩).1 (show 0 ≤ ((12 * p) + w) ∧ ((12 * p) + w) < 96 from ⟨by omega, by omega⟩).2 ?_
      refine z_iload 6 dX11_leaves_266 rfl ?_
      refine z_iload 0 dX11_leaves_268 rfl ?_
      refine z_iaddN dX11_leaves_270 (show -2147483648 ≤ a + ((g 237 w) - a) ∧ a + ((g 237 w) - a) < 2147483648 from ⟨by omega, by omega⟩).1 (show -2147483648 ≤ a + ((g 237 w) - a) ∧ a + ((g 237 w) - a) < 2147483648 from ⟨by omega, by omega⟩).2 ?_
      refine z_istore (lv' := [(5, xI (a + ((g 237 w) - a))), (7, xI ((g 237 w) - a)), (0, xR 169), (1, xI l), (2, xI t), (3, xI y), (4, xI w), (6, xI p)]) dX11_leaves_271 (by decide) rfl ?_
      refine z_iincN (lv' := [(6, xI (p + 1)), (5, xI (a + ((g 237 w) - a))), (7, xI ((g 237 w) - a)), (0, xR 169), (1, xI l), (2, xI t), (3, xI y), (4, xI w)]) 7 dX11_leaves_273 rfl (by decide) rfl (show -2147483648 ≤ p + 1 ∧ p + 1 < 2147483648 from ⟨by omega, by omega⟩).1 (show -2147483648 ≤ p + 1 ∧ p + 1 < 2147483648 from ⟨by omega, by omega⟩).2 ?_
      refine z_goto (tgt := 176) dX11_leaves_276 (by decide) ?_
      refine zW.sub (lv' := [(0, xR 169), (1, xI l), (2, xI t), (3, xI y), (4, xI w), (5, xI (a + ((g 237 w) - a))), (6, xI (p + 1))]) [3, 4, 5, 6, 7, 1, 0] rfl ?_
      exact k1 c1 c2
    ·
      refine z_goto (tgt := 273) dX11_leaves_245 (by decide) ?_
      refine z_iincN (lv' := [(6, xI (p + 1)), (7, xI ((g 237 w) - a)), (0, xR 169), (1, xI l), (2, xI t), (3, xI y), (4, xI w), (5, xI a)]) 7 dX11_leaves_273 rfl (by decide) rfl (show -2147483648 ≤ p + 1 ∧ p + 1 < 2147483648 from ⟨by omega, by omega⟩).1 (show -2147483648 ≤ p + 1 ∧ p + 1 < 2147483648 from ⟨by omega, by omega⟩).2 ?_
      refine z_goto (tgt := 176) dX11_leaves_276 (by decide) ?_
      refine zW.sub (lv' := [(0, xR 169), (1, xI l), (2, xI t), (3, xI y), (4, xI w), (5, xI a), (6, xI (p + 1))]) [2, 3, 4, 5, 6, 7, 0] rfl ?_
      exact k2 c1 c2
  ·
    refine z_iload 0 dX11_leaves_223 rfl ?_
    refine z_goto (tgt := 238) dX11_leaves_225 (by decide) ?_
    refine z_istore (lv' := [(7, xI (v - (g 236 ((12 * p) + w)))), (0, xR 169), (1, xI l), (2, xI t), (3, xI y), (4, xI w), (5, xI a), (6, xI p)]) dX11_leaves_238 (by decide) rfl ?_
    refine z_iload 0 dX11_leaves_240 rfl ?_
    refine z_if_gt (tgt := 248) dX11_leaves_242 (by decide) (fun c2 => ?_) (fun c2 => ?_)
    ·
      refine z_aload_n 1 dX11_leaves_248 rfl ?_
      refine z_getS (v := 236) (k := 94) (kz := 94) pk11 dX11_leaves_249 (by decide) zb_1218 rfl (zOb.lit (by decide +kernel)) rfl (by decide +kernel) ?_
      refine z_bipush dX11_leaves_252 (zi32_d rfl) (by decide) ?_
      refine z_iload 7 dX11_leaves_254 rfl ?_
      refine z_imulN dX11_leaves_256 (show -2147483648 ≤ 12 * p ∧ 12 * p < 2147483648 from ⟨by omega, by omega⟩).1 (show -2147483648 ≤ 12 * p ∧ 12 * p < 2147483648 from ⟨by omega, by omega⟩).2 ?_
      refine z_iload 5 dX11_leaves_257 rfl ?_
      refine z_iaddN dX11_leaves_259 (show -2147483648 ≤ (12 * p) + w ∧ (12 * p) + w < 2147483648 from ⟨by omega, by omega⟩).1 (show -2147483648 ≤ (12 * p) + w ∧ (12 * p) + w < 2147483648 from ⟨by omega, by omega⟩).2 ?_
      refine z_dup2 dX11_leaves_260 zt0 zt2 ?_
      refine z_iald dX11_leaves_261 (zOb.lit (by decide +kernel)) (show 0 ≤ ((12 * p) + w) ∧ ((12 * p) + w) < 96 from ⟨by omega, by omega⟩).1 (show 0 ≤ ((12 * p) + w) ∧ ((12 * p) + w) < 96 from ⟨by omega, by omega⟩).2 ?_
      refine z_iload 0 dX11_leaves_262 rfl ?_
      refine z_iaddN dX11_leaves_264 (show -2147483648 ≤ (g 236 ((12 * p) + w)) + (v - (g 236 ((12 * p) + w))) ∧ (g 236 ((12 * p) + w)) + (v - (g 236 ((12 * p) + w))) < 2147483648 from ⟨by omega, by omega⟩).1 (show -2147483648 ≤ (g 236 ((12 * p) + w)) + (v - (g 236 ((12 * p) + w))) ∧ (g 236 ((12 * p) + w)) + (v - (g 236 ((12 * p) + w))) < 2147483648 from ⟨by omega, by omega⟩).2 ?_
      refine z_iast dX11_leaves_265 (zOb.lit (by decide +kernel)) (show 0 ≤ ((12 * p) + w) ∧ ((12 * p) + w) < 96 from ⟨by omega, by omega⟩).1 (show 0 ≤ ((12 * p) + w) ∧ ((12 * p) + w) < 96 from ⟨by omega, by omega⟩).2 ?_
      refine z_iload 6 dX11_leaves_266 rfl ?_
      refine z_iload 0 dX11_leaves_268 rfl ?_
      refine z_iaddN dX11_leaves_270 (show -2147483648 ≤ a + (v - (g 236 ((12 * p) + w))) ∧ a + (v - (g 236 ((12 * p) + w))) < 2147483648 from ⟨by omega, by omega⟩).1 (show -2147483648 ≤ a + (v - (g 236 ((12 * p) + w))) ∧ a + (v - (g 236 ((12 * p) + w))) < 2147483648 from ⟨by omega, by omega⟩).2 ?_
      refine z_istore (lv' := [(5, xI (a + (v - (g 236 ((12 * p) + w))))), (7, xI (v - (g 236 ((12 * p) + w)))), (0, xR 169), (1, xI l), (2, xI t), (3, xI y), (4, xI w), (6, xI p)]) dX11_leaves_271 (by decide) rfl ?_
      refine z_iincN (lv' := [(6, xI (p + 1)), (5, xI (a + (v - (g 236 ((12 * p) + w))))), (7, xI (v - (g 236 ((12 * p) + w)))), (0, xR 169), (1, xI l), (2, xI t), (3, xI y), (4, xI w)]) 7 dX11_leaves_273 rfl (by decide) rfl (show -2147483648 ≤ p + 1 ∧ p + 1 < 2147483648 from ⟨by omega, by omega⟩).1 (show -2147483648 ≤ p + 1 ∧ p + 1 < 2147483648 from ⟨by omega, by omega⟩).2 ?_
      refine z_goto (tgt := 176) dX11_leaves_276 (by decide) ?_
      refine zW.sub (lv' := [(0, xR 169), (1, xI l), (2, xI t), (3, xI y), (4, xI w), (5, xI (a + (v - (g 236 ((12 * p) + w))))), (6, xI (p + 1))]) [3, 4, 5, 6, 7, 1, 0] rfl ?_
      exact k3 c1 c2
    ·
      refine z_goto (tgt := 273) dX11_leaves_245 (by decide) ?_
      refine z_iincN (lv' := [(6, xI (p + 1)), (7, xI (v - (g 236 ((12 * p) + w)))), (0, xR 169), (1, xI l), (2, xI t), (3, xI y), (4, xI w), (5, xI a)]) 7 dX11_leaves_273 rfl (by decide) rfl (show -2147483648 ≤ p + 1 ∧ p + 1 < 2147483648 from ⟨by omega, by omega⟩).1 (show -2147483648 ≤ p + 1 ∧ p + 1 < 2147483648 from ⟨by omega, by omega⟩).2 ?_
      refine z_goto (tgt := 176) dX11_leaves_276 (by decide) ?_
      refine zW.sub (lv' := [(0, xR 169), (1, xI l), (2, xI t), (3, xI y), (4, xI w), (5, xI a), (6, xI (p + 1))]) [2, 3, 4, 5, 6, 7, 0] rfl ?_
      exact k4 c1 c2

set_option maxRecDepth 20000 in
theorem bX11_leaves_279 {X : zX} {dep bc bs : Nat} (l : Int) (t : Int) (y : Int) (w : Int) (a : Int) {g : zH} {Q : Nat → zH → List zV → Prop} (hl : 0 ≤ l ∧ l < 4) (hw : 0 ≤ w ∧ w ≤ 12) (hy : y = 0 ∨ y = 1) (hw2 : w < 12)
    (k1 : zW mX11_leaves X dep bc bs 239 92 [(0, xR 169), (1, xI l), (2, xI t), (3, xI (if y = 0 then 0 else if a = (g 237 w) then 1 else 0 : Int)), (4, xI (w + 1))] [] g Q) : zW mX11_leaves X dep bc bs 239 279 [(0, xR 169), (1, xI l), (2, xI t), (3, xI y), (4, xI w), (5, xI a)] [] g Q := by
  refine z_iload_n 3 dX11_leaves_279 rfl ?_
  suffices KJ : zW mX11_leaves X dep bc bs 239 300 [(0, xR 169), (1, xI l), (2, xI t), (3, xI y), (4, xI w), (5, xI a)] [xI (if y = 0 then 0 else if a = (g 237 w) then 1 else 0 : Int)] g Q by
    refine z_if_eq (tgt := 299) dX11_leaves_280 (by decide) (fun j1 => ?_) (fun j1 => ?_)
    ·
      refine z_iconst dX11_leaves_299 (zi32_d rfl) ?_
      rw [if_pos j1] at KJ
      exact KJ
    ·
      refine z_iload 5 dX11_leaves_283 rfl ?_
      refine z_aload_n 0 dX11_leaves_285 rfl ?_
      refine z_getS (v := 237) (k := 95) (kz := 95) pk11 dX11_leaves_286 (by decide) zb_1219 rfl (zOb.lit (by decide +kernel)) rfl (by decide +kernel) ?_
      refine z_iload 4 dX11_leaves_289 rfl ?_
      refine z_iald dX11_leaves_291 (zOb.lit (by decide +kernel)) (show 0 ≤ w ∧ w < 12 from ⟨by omega, by omega⟩).1 (show 0 ≤ w ∧ w < 12 from ⟨by omega, by omega⟩).2 ?_
      refine z_icmp_ne (tgt := 299) dX11_leaves_292 (by decide) (fun j2 => ?_) (fun j2 => ?_)
      ·
        refine z_iconst dX11_leaves_299 (zi32_d rfl) ?_
        rw [if_neg j1] at KJ
        rw [if_neg j2] at KJ
        exact KJ
      ·
        refine z_iconst dX11_leaves_295 (zi32_d rfl) ?_
        refine z_goto (tgt := 300) dX11_leaves_296 (by decide) ?_
        rw [if_neg j1] at KJ
        rw [if_pos j2] at KJ
        exact KJ
  refine z_istore_n (lv' := [(3, xI (if y = 0 then 0 else if a = (g 237 w) then 1 else 0 : Int)), (0, xR 169), (1, xI l), (2, xI t), (4, xI w), (5, xI a)]) dX11_leaves_300 (by decide) rfl ?_
  refine z_iincN (lv' := [(4, xI (w + 1)), (3, xI (if y = 0 then 0 else if a = (g 237 w) then 1 else 0 : Int)), (0, xR 169), (1, xI l), (2, xI t), (5, xI a)]) 4 dX11_leaves_301 rfl (by decide) rfl (show -2147483648 ≤ w + 1 ∧ w + 1 < 2147483648 from ⟨by omega, by omega⟩).1 (show -2147483648 ≤ w + 1 ∧ w + 1 < 2147483648 from ⟨by omega, by omega⟩).2 ?_
  refine z_goto (tgt := 92) dX11_leaves_304 (by decide) ?_
  refine zW.sub (lv' := [(0, xR 169), (1, xI l), (2, xI t), (3, xI (if y = 0 then 0 else if a = (g 237 w) then 1 else 0 : Int)), (4, xI (w + 1))]) [2, 3, 4, 1, 0] rfl ?_
  exact k1


theorem mRolled_at {h g : zH} {u t : Int} (hu : 0 ≤ u) : mRolled h u t g → ∃ p f e : zH, mPeo h t p ∧ mRolls p t u.toNat f ∧ mDrawn f u t e ∧ mChn e u t g := fun ⟨p, h1, h2⟩ => by
  rw [show (u + 1).toNat = u.toNat + 1 by omega] at h2
  obtain ⟨f, e, h3, h4, h5⟩ := h2
  rw [Int.toNat_of_nonneg hu] at h4 h5
  exact ⟨p, f, e, h1, h3, h4, h5⟩
/-- whoever has a state is there, and was born -/
theorem mRolled_born {h g : zH} {u t : Int} (hb : mBase h) (hu : 0 ≤ u) (hr : mRolled h u t g) (m : Int) (m0 : 0 ≤ m) (m1 : m < h 169 25) (hs : g 219 (60 * u + m) ≠ 0) : g 215 m ≠ 0 ∧ -3120 ≤ g 214 m ∧ g 214 m < 520 := by
  obtain ⟨p, f, e, h1, h3, h4, h5⟩ := mRolled_at hu hr
  have al := mPeo_al hb.2.2.2.1 h1
  have a1 : zag mRo p f := mRolls_ag h3
  have a2 : zag mRo p e := a1.tr (h4.1.mono (by decide))
  have a3 : zag mRo p g := a2.tr (h5.1.mono (by decide))
  have e3 := h1.1 169 25 (by decide)
  have q := (h4.2.2.1 m m0 (by rw [a1 169 25 (by decide)]; omega)).2.2.2.1
  rw [← h5.1 219 (60 * u + m) (by decide)] at q
  have there : e 215 m ≠ 0 := fun z => by
    have : mjs e u (mlaw f (f 205 u) t) m = 0 := by
      unfold mjs
      rw [if_pos z]
    rw [this, if_neg (by decide)] at q
    exact hs q
  rw [a2 215 m (by decide)] at there
  rw [a3 215 m (by decide), a3 214 m (by decide)]
  refine ⟨there, ?_⟩
  rcases al m m0 (by omega) with z | z
  · exact absurd z there
  · exact z
abbrev mCm (h : zH) (m : Int) : Prop := 0 ≤ m ∧ m < h 169 25
abbrev mCl (h : zH) (l : Int) : Prop := 0 ≤ l ∧ l < h 169 65
theorem f_X11_who {X : zX} {dep : Nat} (m t : Int) {h : zH} (hb : mBase h) (hdep : 2 ≤ dep) : zW mX11_who X dep 0 0 239 0 (zar 0 [xR 169, xI m, xI t]) [] h
    (zQI (fun v g => mCm h m ∧ mPeo (zst h 169 0 0) t g ∧ v = g 213 m ∨ ¬ mCm h m ∧ v = -1 ∧ g = zst h 169 0 0)) := by
  have hb0 := mBase_st hb 169 0 0 (by decide) (Or.inr (by decide))
  have b1 := hb.1
  refine bX11_who_0 m t hb.1 (by omega) (fun c => ?_) (fun c => ?_)
  · refine rX11_who_17 m t (f_X11_people t hb0.1 hb0.2.2.1 hb0.2.2.2.1) (by omega) (fun g hg => ?_)
    refine bX11_who_20 m t (by omega) ?_
    exact ⟨rfl, _, rfl, Or.inl ⟨c, hg, rfl⟩⟩
  · exact ⟨rfl, _, rfl, Or.inr ⟨c, rfl, rfl⟩⟩
theorem f_X11_age {X : zX} {dep : Nat} (m d t : Int) {h : zH} (hb : mBase h) (hdep : 2 ≤ dep) : zW mX11_age X dep 0 0 239 0 (zar 0 [xR 169, xI m, xI d, xI t]) [] h
    (zQI (fun v g => (mCm h m ∧ 0 ≤ d ∧ d ≤ 3639) ∧ mPeo (zst h 169 0 0) t g ∧ v = (if g 216 m = 0 then -1 else zage (g 214 m) d) ∨ ¬ (mCm h m ∧ 0 ≤ d ∧ d ≤ 3639) ∧ v = -1 ∧ g = zst h 169 0 0)) := by
  have hb0 := mBase_st hb 169 0 0 (by decide) (Or.inr (by decide))
  have b1 := hb.1
  have e25 : zst h 169 0 0 169 25 = h 169 25 := zst_ne (Or.inr (by decide))
  refine bX11_age_0 m d t hb.1 (by omega) (fun c => ?_) (fun c c1 => ?_) (fun c c1 => ?_)
  · exact ⟨rfl, _, rfl, Or.inr ⟨fun z => c z.1, rfl, rfl⟩⟩
  · refine rX11_age_28 m d t (f_X11_people t hb0.1 hb0.2.2.1 hb0.2.2.2.1) (by omega) (fun g hg => ?_)
    refine bX11_age_31 m d t (by omega) c1 (mPeo_bo hb0.2.2.2.1 hg m c.1 (by omega)) (by omega) (fun c2 => ?_) (fun c2 => ?_)
    · exact ⟨rfl, _, rfl, Or.inl ⟨⟨c, c1⟩, hg, by rw [if_pos c2]⟩⟩
    · exact ⟨rfl, _, rfl, Or.inl ⟨⟨c, c1⟩, hg, by rw [if_neg c2]⟩⟩
  · exact ⟨rfl, _, rfl, Or.inr ⟨fun z => c1 z.2, rfl, rfl⟩⟩
theorem f_X11_brothers {X : zX} {dep : Nat} (m t : Int) {h : zH} (hb : mBase h) (hdep : 2 ≤ dep) : zW mX11_brothers X dep 0 0 239 0 (zar 0 [xR 169, xI m, xI t]) [] h
    (zQI (fun v g => mCm h m ∧ mPeo (zst h 169 0 0) t g ∧ v = (if g 215 m = 0 then -1 else zcnt (mBro g m) (g 169 25).toNat) ∨ ¬ mCm h m ∧ v = -1 ∧ g = zst h 169 0 0)) := by
  have hb0 := mBase_st hb 169 0 0 (by decide) (Or.inr (by decide))
  have b1 := hb.1
  have e25 : zst h 169 0 0 169 25 = h 169 25 := zst_ne (Or.inr (by decide))
  refine bX11_brothers_0 m t hb.1 (by omega) (fun c => ?_) (fun c => ?_)
  · refine rX11_brothers_17 m t (f_X11_people t hb0.1 hb0.2.2.1 hb0.2.2.2.1) (by omega) (fun g hg => ?_)
    refine bX11_brothers_20 m t (by rw [hg.1 169 25 (by decide), e25]; exact hb.1) (by omega) (by omega) (fun c2 => ?_) (fun c2 => ?_)
    · exact ⟨rfl, _, rfl, Or.inl ⟨c, hg, by rw [if_pos c2]⟩⟩
    · exact ⟨rfl, _, rfl, Or.inl ⟨c, hg, by rw [if_neg c2]⟩⟩
  · exact ⟨rfl, _, rfl, Or.inr ⟨c, rfl, rfl⟩⟩
theorem f_X11_state {X : zX} {dep : Nat} (l m t : Int) {h : zH} (hb : mBase h) (hdep : 7 ≤ dep) : zW mX11_state X dep 0 0 239 0 (zar 0 [xR 169, xI l, xI m, xI t]) [] h
    (zQI (fun v g => (mCl h l ∧ mCm h m) ∧ (∃ e, mRolled (zst h 169 0 0) l t e ∧ v = e 219 (60 * l + m) ∧ g = zst e 169 87 (e 220 (60 * l + m))) ∨ ¬ (mCl h l ∧ mCm h m) ∧ v = -1 ∧ g = zst h 169 0 0)) := by
  have hb0 := mBase_st hb 169 0 0 (by decide) (Or.inr (by decide))
  have b1 := hb.1
  have hl := hb.2.2.2.2.2.2.2.2.1
  refine bX11_state_0 l m t hb.1 hl (by omega) (fun c => ?_) (fun c c1 => ?_) (fun c c1 => ?_)
  · exact ⟨rfl, _, rfl, Or.inr ⟨fun z => c z.1, rfl, rfl⟩⟩
  · refine rX11_state_26 l m t (f_X11_roll l t hb0 (by omega) (by omega)) (by omega) (fun e he => ?_)
    refine bX11_state_29 l m t (by omega) (by omega) ?_
    exact ⟨rfl, _, rfl, Or.inl ⟨⟨c, c1⟩, e, he, rfl, rfl⟩⟩
  · exact ⟨rfl, _, rfl, Or.inr ⟨fun z => c1 z.2, rfl, rfl⟩⟩
theorem f_X11_place {X : zX} {dep : Nat} (l m t : Int) {h : zH} (hb : mBase h) (hdep : 7 ≤ dep) : zW mX11_place X dep 0 0 239 0 (zar 0 [xR 169, xI l, xI m, xI t]) [] h
    (zQI (fun v g => (mCl h l ∧ mCm h m) ∧ (mRolled (zst h 169 0 0) l t g ∧ v = g 222 m) ∨ ¬ (mCl h l ∧ mCm h m) ∧ v = -1 ∧ g = zst h 169 0 0)) := by
  have hb0 := mBase_st hb 169 0 0 (by decide) (Or.inr (by decide))
  have b1 := hb.1
  have hl := hb.2.2.2.2.2.2.2.2.1
  refine bX11_place_0 l m t hb.1 hl (by omega) (fun c => ?_) (fun c c1 => ?_) (fun c c1 => ?_)
  · exact ⟨rfl, _, rfl, Or.inr ⟨fun z => c z.1, rfl, rfl⟩⟩
  · refine rX11_place_26 l m t (f_X11_roll l t hb0 (by omega) (by omega)) (by omega) (fun e he => ?_)
    refine bX11_place_29 l m t (by omega) (by omega) ?_
    exact ⟨rfl, _, rfl, Or.inl ⟨⟨c, c1⟩, he, rfl⟩⟩
  · exact ⟨rfl, _, rfl, Or.inr ⟨fun z => c1 z.2, rfl, rfl⟩⟩
theorem f_X11_serves {X : zX} {dep : Nat} (l m t : Int) {h : zH} (hb : mBase h) (hdep : 7 ≤ dep) : zW mX11_serves X dep 0 0 239 0 (zar 0 [xR 169, xI l, xI m, xI t]) [] h
    (zQI (fun v g => (mCl h l ∧ mCm h m) ∧ (mRolled (zst h 169 0 0) l t g ∧ v = g 229 (60 * l + m)) ∨ ¬ (mCl h l ∧ mCm h m) ∧ v = -1 ∧ g = zst h 169 0 0)) := by
  have hb0 := mBase_st hb 169 0 0 (by decide) (Or.inr (by decide))
  have b1 := hb.1
  have hl := hb.2.2.2.2.2.2.2.2.1
  refine bX11_serves_0 l m t hb.1 hl (by omega) (fun c => ?_) (fun c c1 => ?_) (fun c c1 => ?_)
  · exact ⟨rfl, _, rfl, Or.inr ⟨fun z => c z.1, rfl, rfl⟩⟩
  · refine rX11_serves_26 l m t (f_X11_roll l t hb0 (by omega) (by omega)) (by omega) (fun e he => ?_)
    refine bX11_serves_29 l m t (by omega) (by omega) ?_
    exact ⟨rfl, _, rfl, Or.inl ⟨⟨c, c1⟩, he, rfl⟩⟩
  · exact ⟨rfl, _, rfl, Or.inr ⟨fun z => c1 z.2, rfl, rfl⟩⟩
theorem f_X11_quota {X : zX} {dep : Nat} (l p t : Int) {h : zH} (hb : mBase h) (hdep : 7 ≤ dep) : zW mX11_quota X dep 0 0 239 0 (zar 0 [xR 169, xI l, xI p, xI t]) [] h
    (zQI (fun v g => (mCl h l ∧ 0 ≤ p ∧ p ≤ 7) ∧ (mRolled (zst h 169 0 0) l t g ∧ v = g 223 (8 * l + p)) ∨ ¬ (mCl h l ∧ 0 ≤ p ∧ p ≤ 7) ∧ v = -1 ∧ g = zst h 169 0 0)) := by
  have hb0 := mBase_st hb 169 0 0 (by decide) (Or.inr (by decide))
  have hl := hb.2.2.2.2.2.2.2.2.1
  refine bX11_quota_0 l p t hl (by omega) (fun c => ?_) (fun c c1 => ?_) (fun c c1 => ?_)
  · exact ⟨rfl, _, rfl, Or.inr ⟨fun z => c z.1, rfl, rfl⟩⟩
  · refine rX11_quota_28 l p t (f_X11_roll l t hb0 (by omega) (by omega)) (by omega) (fun e he => ?_)
    refine bX11_quota_31 l p t (by omega) (by omega) ?_
    exact ⟨rfl, _, rfl, Or.inl ⟨⟨c, c1⟩, he, rfl⟩⟩
  · exact ⟨rfl, _, rfl, Or.inr ⟨fun z => c1 z.2, rfl, rfl⟩⟩
theorem f_X11_called {X : zX} {dep : Nat} (l t : Int) {h : zH} (hb : mBase h) (hdep : 7 ≤ dep) : zW mX11_called X dep 0 0 239 0 (zar 0 [xR 169, xI l, xI t]) [] h
    (zQI (fun v g => mCl h l ∧ (mRolled (zst h 169 0 0) l t g ∧ v = zcnt (fun m => g 219 (60 * l + m) = 5) (h 169 25).toNat) ∨ ¬ mCl h l ∧ v = -1 ∧ g = zst h 169 0 0)) := by
  have hb0 := mBase_st hb 169 0 0 (by decide) (Or.inr (by decide))
  have hl := hb.2.2.2.2.2.2.2.2.1
  have e25 : zst h 169 0 0 169 25 = h 169 25 := zst_ne (Or.inr (by decide))
  refine bX11_called_0 l t hl (by omega) (fun c => ?_) (fun c => ?_)
  · refine rX11_called_18 l t (f_X11_roll l t hb0 (by omega) (by omega)) (by omega) (fun e he => ?_)
    refine bX11_called_21 l t ?_
    have ee : e 169 25 = h 169 25 := (mRolled_ag he 169 25 (by decide)).trans e25
    have main : ∀ (j b : Nat), (b : Int) + j = h 169 25 → zW mX11_called X dep 0 0 239 26 [(0, xR 169), (1, xI l), (2, xI t), (3, xI (zcnt (fun m => e 219 (60 * l + m) = 5) b)), (4, xI b)] [] e (zQI (fun v g => mCl h l ∧ (mRolled (zst h 169 0 0) l t g ∧ v = zcnt (fun m => g 219 (60 * l + m) = 5) (h 169 25).toNat) ∨ ¬ mCl h l ∧ v = -1 ∧ g = zst h 169 0 0)) := by
      intro j
      induction j with
      | zero =>
        intro b hk
        refine bX11_called_26 l t _ b (by rw [ee]; exact hb.1) (by omega) (by have := hb.1; omega) (zcnt_in _ b) (fun c2 => ?_) (fun c2 => ?_)
        · refine ⟨rfl, _, rfl, Or.inl ⟨c, he, ?_⟩⟩
          rw [show (h 169 25).toNat = b by omega]
        · exfalso
          omega
      | succ j ih =>
        intro b hk
        have go := ih (b + 1) (by omega)
        rw [show ((b + 1 : Nat) : Int) = (b : Int) + 1 by omega, zcnt_s] at go
        refine bX11_called_26 l t _ b (by rw [ee]; exact hb.1) (by omega) (by have := hb.1; omega) (zcnt_in _ b) (fun c2 => ?_) (fun c2 => ?_)
        · exfalso
          omega
        · rw [zb_ite]
          exact go
    exact main (h 169 25).toNat 0 (by have := hb.1; omega)
  · exact ⟨rfl, _, rfl, Or.inr ⟨c, rfl, rfl⟩⟩
/-- who may send, who may be sent -/
abbrev mMS (e : zH) (l a b : Int) : Prop := (e 219 (60 * l + a) = 5 ∨ (e 219 (60 * l + a) ≠ 0 ∧ mws e l a)) ∧ msent e l a (e 169 5) < 0 ∧ (e 219 (60 * l + b) = 1 ∨ e 219 (60 * l + b) = 4) ∧ ¬ mws e l b ∧ msent e l b (e 169 5) < 0
abbrev mCs (h : zH) (l a b : Int) : Prop := mCl h l ∧ mCm h a ∧ mCm h b ∧ h 169 85 ≠ 60 ∧ h 205 l ≤ h 169 5
def mSnd (g : zH) (l a b : Int) : zH := zst (zst (zst (zst (zst g 224 (g 169 85) l) 225 (g 169 85) a) 226 (g 169 85) b) 227 (g 169 85) (g 169 5)) 169 85 ((g 169 85) + 1)
theorem l_X11_send_62 {X : zX} {dep : Nat} {Q : Nat → zH → List zV → Prop} (l a b : Int) {g : zH} (hl : 0 ≤ l ∧ l < 4) (hs : 0 ≤ g 169 85 ∧ g 169 85 ≤ 60) (ha : 0 ≤ a ∧ a < 60) (hb : 0 ≤ b ∧ b < 60) (hdep : 1 ≤ dep)
    (yes : mMS g l a b → zW mX11_send X dep 0 0 239 159 [(0, xR 169), (1, xI l), (2, xI a), (3, xI b)] [] g Q) (no : ¬ mMS g l a b → Q 239 g [xI 0]) : zW mX11_send X dep 0 0 239 62 [(0, xR 169), (1, xI l), (2, xI a), (3, xI b)] [] g Q := by
  refine bX11_send_62 l a b hl hs ha hb hdep ?_ ?_ ?_ ?_ ?_ ?_ ?_ ?_ ?_ ?_ ?_ ?_ ?_ ?_ ?_ ?_ ?_ ?_
  all_goals intros
  all_goals first
    | (refine yes ⟨?_, by assumption, by omega, by assumption, by assumption⟩
       first
         | exact Or.inl (by assumption)
         | exact Or.inr ⟨by assumption, by assumption⟩)
    | (refine no ?_
       rintro ⟨z1 | ⟨z1, z1'⟩, z2, z3, z4, z5⟩ <;> first | contradiction | omega)
theorem f_X11_send {X : zX} {dep : Nat} (l a b : Int) {h : zH} (hb : mBase h) (hdep : 7 ≤ dep) : zW mX11_send X dep 0 0 239 0 (zar 0 [xR 169, xI l, xI a, xI b]) [] h
    (zQI (fun v g => mCs h l a b ∧ (∃ e, mRolled (zst h 169 0 0) l (h 169 5) e ∧
        (mMS e l a b ∧ (∃ f2 f3, mHeld e (e 205 l) (e 169 5) f2 ∧ zag [231] f2 f3 ∧ ((mline f2 (mlaw e (e 205 l) (e 169 5)) 4 a l < 0 ∨ f2 200 (mline f2 (mlaw e (e 205 l) (e 169 5)) 4 a l) = 0) ∧ v = 1 ∧ g = mSnd f3 l a b ∨ ¬ (mline f2 (mlaw e (e 205 l) (e 169 5)) 4 a l < 0 ∨ f2 200 (mline f2 (mlaw e (e 205 l) (e 169 5)) 4 a l) = 0) ∧ v = 0 ∧ g = f3)) ∨ ¬ mMS e l a b ∧ v = 0 ∧ g = e)) ∨
      ¬ mCs h l a b ∧ v = 0 ∧ g = zst h 169 0 0)) := by
  have hb0 := mBase_st hb 169 0 0 (by decide) (Or.inr (by decide))
  have b1 := hb.1
  have hl := hb.2.2.2.2.2.2.2.2.1
  have hse := hb.2.2.2.2.2.2.1.1
  have e25 : zst h 169 0 0 169 25 = h 169 25 := zst_ne (Or.inr (by decide))
  have e85 : zst h 169 0 0 169 85 = h 169 85 := zst_ne (Or.inr (by decide))
  have no : ¬ mCs h l a b → zQI (fun v g => mCs h l a b ∧ (∃ e, mRolled (zst h 169 0 0) l (h 169 5) e ∧
        (mMS e l a b ∧ (∃ f2 f3, mHeld e (e 205 l) (e 169 5) f2 ∧ zag [231] f2 f3 ∧ ((mline f2 (mlaw e (e 205 l) (e 169 5)) 4 a l < 0 ∨ f2 200 (mline f2 (mlaw e (e 205 l) (e 169 5)) 4 a l) = 0) ∧ v = 1 ∧ g = mSnd f3 l a b ∨ ¬ (mline f2 (mlaw e (e 205 l) (e 169 5)) 4 a l < 0 ∨ f2 200 (mline f2 (mlaw e (e 205 l) (e 169 5)) 4 a l) = 0) ∧ v = 0 ∧ g = f3)) ∨ ¬ mMS e l a b ∧ v = 0 ∧ g = e)) ∨
      ¬ mCs h l a b ∧ v = 0 ∧ g = zst h 169 0 0) 239 (zst h 169 0 0) [xI 0] := fun c => ⟨rfl, _, rfl, Or.inr ⟨c, rfl, rfl⟩⟩
  refine bX11_send_0 l a b hb.1 hl hse (by omega) (fun c => no (fun z => c z.1)) (fun _ c => no (fun z => c z.2.1)) (fun _ _ c => no (fun z => c z.2.2.1)) (fun _ _ _ c => no (fun z => z.2.2.2.1 c)) (fun c1 c2 c3 c4 c5 => ?_) (fun _ _ _ _ c => no (fun z => c z.2.2.2.2))
  have C : mCs h l a b := ⟨c1, c2, c3, c4, c5⟩
  refine rX11_send_59 l a b _ (f_X11_roll l (h 169 5) hb0 (by omega) (by omega)) (by omega) (fun e he => ?_)
  have ae := mRolled_ag he
  have be : mBase e := mBase_ag ae hb0
  have m25 : e 169 25 = h 169 25 := (ae 169 25 (by decide)).trans e25
  have m85 : e 169 85 = h 169 85 := (ae 169 85 (by decide)).trans e85
  have hl4 : 0 ≤ l ∧ l < 4 := by omega
  refine l_X11_send_62 l a b hl4 be.2.2.2.2.2.2.1.1 (by omega) (by omega) (by omega) (fun cy => ?_) (fun cn => ⟨rfl, _, rfl, Or.inl ⟨C, e, he, Or.inr ⟨cn, rfl, rfl⟩⟩⟩)
  refine bX11_send_159 l a b hl4 ?_
  refine rX11_send_170 l a b _ _ (f_X11_hold (e 205 l) (e 169 5) be.1 be.2.2.2.2.1 be.2.2.2.2.2.1 (by omega)) (by omega) (fun f2 hf2 => ?_)
  have b2 : mBase f2 := mBase_ag (hf2.1.mono (by decide)) be
  have b8 := b2.2.2.2.2.2.2.2.1
  have b81 := b8.1
  refine bX11_send_173 l a b hl4 b8.1 (by omega) ?_
  have el : mlaw f2 (f2 205 l) (f2 169 5) = mlaw e (e 205 l) (e 169 5) := by
    rw [hf2.1 205 _ (by decide), hf2.1 169 5 (by decide), mlaw_ag hf2.1 (by decide)]
  have wi := mlaw_in b8.1 (f2 205 l) (f2 169 5)
  have bo := mRolled_born hb0 c1.1 he a c2.1 (by omega) (by have := cy.1; omega)
  have lo := b2.2.2.2.2.2.2.2.2.2 l hl4.1 hl4.2
  have per : mPer f2 a l := ⟨b2.1, by omega, hl4, by rw [hf2.1 214 a (by decide)]; exact bo.2, lo.1⟩
  refine rX11_send_191 l a b _ (f_X11_lineOf _ 4 a l per (by omega) (fun z => (b8.2 _ z (by omega)).1) (by omega)) (by omega) (fun x f3 hx => ?_)
  obtain ⟨a3, rfl⟩ := hx
  have li := mline_in (h := f2) (w := mlaw f2 (f2 205 l) (f2 169 5)) (by omega) (fun z => (b8.2 _ z (by omega)).1) 4 a l
  have e200 := a3 200 (mline f2 (mlaw f2 (f2 205 l) (f2 169 5)) 4 a l) (by decide)
  have m3 : f3 169 85 = h 169 85 := ((a3 169 85 (by decide)).trans (hf2.1 169 85 (by decide))).trans m85
  refine bX11_send_194 l a b _ hl4 (by omega) (by omega) (fun q1 => ?_) (fun q1 q2 => ?_) (fun q1 q2 => ?_)
  · rw [el] at q1
    exact ⟨rfl, _, rfl, Or.inl ⟨C, e, he, Or.inl ⟨cy, f2, f3, hf2, a3, Or.inl ⟨Or.inl q1, rfl, rfl⟩⟩⟩⟩
  · rw [e200, el] at q2
    exact ⟨rfl, _, rfl, Or.inl ⟨C, e, he, Or.inl ⟨cy, f2, f3, hf2, a3, Or.inl ⟨Or.inr q2, rfl, rfl⟩⟩⟩⟩
  · rw [e200, el] at q2
    rw [el] at q1
    exact ⟨rfl, _, rfl, Or.inl ⟨C, e, he, Or.inl ⟨cy, f2, f3, hf2, a3, Or.inr ⟨fun z => z.elim q1 q2, rfl, rfl⟩⟩⟩⟩
/-- who is called, kept aside -/
def mCo (h : zH) (l t : Int) (g : zH) : Prop := ∃ e : zH, mRolled h l t e ∧ zag [233] e g ∧ ∀ m : Int, 0 ≤ m → m < 60 → g 233 m = if m < h 169 25 ∧ e 219 (60 * l + m) = 5 then 1 else 0
theorem mCo_ag {h g : zH} {l t : Int} : mCo h l t g → zag (mRS ++ [233]) h g := fun ⟨_, h1, h2, _⟩ => ((mRolled_ag h1).mono (by decide)).tr (h2.mono (by decide))
theorem f_X11_callOf {X : zX} {dep : Nat} (l t : Int) {h : zH} (hb : mBase h) (hl : 0 ≤ l ∧ l < 4) (hdep : 7 ≤ dep) : zW mX11_callOf X dep 0 0 239 0 (zar 0 [xR 169, xI l, xI t]) [] h (zQ0 (mCo h l t)) := by
  refine bX11_callOf_0 l t ?_
  refine rX11_callOf_3 l t (f_X11_roll l t hb (by omega) (by omega)) (by omega) (fun e he => ?_)
  refine bX11_callOf_6 l t ?_
  have ae := mRolled_ag he
  have m25 := ae 169 25 (by decide)
  have main : ∀ (k : Nat) (i : Int) (g : zH), 0 ≤ i → i + k = 60 → zag [233] e g → (∀ m : Int, 0 ≤ m → m < i → g 233 m = if m < h 169 25 ∧ e 219 (60 * l + m) = 5 then 1 else 0) → zW mX11_callOf X dep 0 0 239 8 [(0, xR 169), (1, xI l), (2, xI t), (3, xI i)] [] g (zQ0 (mCo h l t)) := by
    intro k
    induction k with
    | zero =>
      intro i g h0 hk ha hv
      refine bX11_callOf_8 l t i (by rw [ha 169 25 (by decide), m25]; exact hb.1) hl h0 (fun c => ?_) (fun c => by exfalso; omega) (fun c => by exfalso; omega)
      exact ⟨rfl, rfl, e, he, ha, fun m m0 m1 => hv m m0 (by omega)⟩
    | succ k ih =>
      intro i g h0 hk ha hv
      have e25 := ha 169 25 (by decide)
      have e219 := ha 219 (60 * l + i) (by decide)
      have go : ∀ v : Int, v = (if i < h 169 25 ∧ e 219 (60 * l + i) = 5 then 1 else 0) → zW mX11_callOf X dep 0 0 239 8 [(0, xR 169), (1, xI l), (2, xI t), (3, xI (i + 1))] [] (zst g 233 i v) (zQ0 (mCo h l t)) := fun v hv2 => ih (i + 1) _ (by omega) (by omega) (ha.st (by decide) _ _) (fun m m0 m1 => by
        rw [zst_or]
        by_cases d : m = i
        · rw [if_pos d, d]
          exact hv2
        · rw [if_neg d]
          exact hv m m0 (by omega))
      refine bX11_callOf_8 l t i (by rw [e25, m25]; exact hb.1) hl h0 (fun c => by exfalso; omega) (fun c1 c2 => go _ ?_) (fun c1 c2 => go _ ?_)
      · rw [if_neg (by omega)]
      · rw [e219]
        by_cases d : e 219 (60 * l + i) = 5
        · rw [if_pos d, if_pos ⟨by omega, d⟩]
        · rw [if_neg d, if_neg (fun z => d z.2)]
  exact main 60 0 e (by omega) (by omega) (zag.rf _ _) (fun m m0 m1 => by omega)
def mMdd (C : Int → Prop) (h : zH) (n : Nat) (g : zH) : Prop := zag [169, 228] h g ∧ (∀ k : Int, k ≠ 89 → g 169 k = h 169 k) ∧ g 169 89 = zcnt C n ∧ ∀ m : Int, 0 ≤ m → m < n → C m → g 228 (zcnt C m.toNat) = m
abbrev mmC (h : zH) (l m : Int) : Prop := h 219 (60 * l + m) = 5 ∧ h 233 m = 0
theorem l_X11_mended_53 {X : zX} {dep : Nat} (l : Int) {h : zH} (hl : 0 ≤ l ∧ l < 4) (h3 : 0 ≤ h 169 25 ∧ h 169 25 ≤ 60) :
    ∀ (k j : Nat) (g : zH), (j : Int) + k = h 169 25 → mMdd (mmC h l) h j g → zW mX11_mended X dep 0 0 239 53 [(0, xR 169), (1, xI l), (5, xI j)] [] g
      (zQI (fun v g => v = zcnt (mmC h l) (h 169 25).toNat ∧ mMdd (mmC h l) h (h 169 25).toNat g)) := by
  intro k
  induction k with
  | zero =>
    intro j g hk a
    have e3 : g 169 25 = h 169 25 := a.2.1 25 (by decide)
    have ci := zcnt_in (mmC h l) j
    have e9 := a.2.2.1
    refine bX11_mended_53 l j (by rw [e3]; exact h3) hl (by omega) (by omega) (fun c => ?_) (fun c => absurd (by omega) c) (fun c => absurd (by omega) c) (fun c => absurd (by omega) c)
    refine ⟨rfl, _, rfl, ?_, ?_⟩
    · rw [show (h 169 25).toNat = j by omega]
      exact e9
    · rw [show (h 169 25).toNat = j by omega]
      exact a
  | succ k ih =>
    intro j g hk a
    have e3 : g 169 25 = h 169 25 := a.2.1 25 (by decide)
    have ci := zcnt_in (mmC h l) j
    have e9 := a.2.2.1
    have e5 := a.1 219 (60 * l + j) (by decide)
    have e63 := a.1 233 j (by decide)
    have no : ¬ mmC h l j → mMdd (mmC h l) h (j + 1) g := by
      intro hn
      refine ⟨a.1, a.2.1, ?_, fun m m0 m1 hm => ?_⟩
      · rw [zcnt_s, zb_f hn, e9]
        omega
      · by_cases c2 : m = j
        · exact absurd (c2 ▸ hm) hn
        · exact a.2.2.2 m m0 (by omega) hm
    have ih1 := ih (j + 1)
    rw [show ((j + 1 : Nat) : Int) = (j : Int) + 1 by omega] at ih1
    refine bX11_mended_53 l j (by rw [e3]; exact h3) hl (by omega) (by omega) (fun c => absurd c (by omega)) (fun c c1 => ?_) (fun c c1 c2 => ?_) (fun c c1 c2 => ?_)
    · rw [e5] at c1
      exact ih1 g (by omega) (no (fun z => c1 z.1))
    · rw [e5] at c1
      rw [e63] at c2
      have yes : mmC h l j := ⟨c1, c2⟩
      refine ih1 _ (by omega) ⟨(a.1.st (by decide) _ _).st (by decide) _ _, fun q hq => ?_, ?_, fun m m0 m1 hm => ?_⟩
      · rw [zst_ne (Or.inr hq), zst_ne (Or.inl (by decide))]
        exact a.2.1 q hq
      · rw [zst_self, zcnt_s, zb_t yes, e9]
      · rw [zst_ne (Or.inl (by decide))]
        by_cases c3 : m = j
        · subst c3
          rw [Int.toNat_natCast, e9, zst_self]
        · have mm := zcnt_mono (mmC h l) (m.toNat + 1) j (by omega)
          rw [zcnt_s, zb_t (show mmC h l m.toNat from by rw [Int.toNat_of_nonneg m0]; exact hm)] at mm
          rw [zst_ne (Or.inr (by omega))]
          exact a.2.2.2 m m0 (by omega) hm
    · rw [e63] at c2
      exact ih1 g (by omega) (no (fun z => c2 z.2))
theorem f_X11_mended {X : zX} {dep : Nat} (l s t z : Int) {h : zH} (hb : mBase h) (hdep : 8 ≤ dep) : zW mX11_mended X dep 0 0 239 0 (zar 0 [xR 169, xI l, xI s, xI t, xI z]) [] h
    (zQI (fun v g => mCl h l ∧ (∃ e1 e2, mCo (zst h 169 0 0) l (if z = 0 then s else t) e1 ∧ mRolled e1 l (if z = 0 then t else s) e2 ∧ v = zcnt (mmC (zst e2 169 89 0) l) (h 169 25).toNat ∧ mMdd (mmC (zst e2 169 89 0) l) (zst e2 169 89 0) (h 169 25).toNat g) ∨ ¬ mCl h l ∧ v = -1 ∧ g = zst h 169 0 0)) := by
  have hb0 := mBase_st hb 169 0 0 (by decide) (Or.inr (by decide))
  have hl := hb.2.2.2.2.2.2.2.2.1
  have e25 : zst h 169 0 0 169 25 = h 169 25 := zst_ne (Or.inr (by decide))
  have go : mCl h l → ∀ s' t' : Int, s' = (if z = 0 then s else t) → t' = (if z = 0 then t else s) → ∀ e1 : zH, mCo (zst h 169 0 0) l s' e1 → zW mX11_mended X dep 0 0 239 42 [(0, xR 169), (1, xI l), (2, xI s), (3, xI t), (4, xI z)] [xI t', xI l, xR 169] e1
      (zQI (fun v g => mCl h l ∧ (∃ e1 e2, mCo (zst h 169 0 0) l (if z = 0 then s else t) e1 ∧ mRolled e1 l (if z = 0 then t else s) e2 ∧ v = zcnt (mmC (zst e2 169 89 0) l) (h 169 25).toNat ∧ mMdd (mmC (zst e2 169 89 0) l) (zst e2 169 89 0) (h 169 25).toNat g) ∨ ¬ mCl h l ∧ v = -1 ∧ g = zst h 169 0 0)) := fun c s' t' es et e1 h1 => by
    have a1 := mCo_ag h1
    have b1 : mBase e1 := mBase_of (fun o ho k => a1 o k (by revert o; decide)) (fun k _ => a1 169 k (by decide)) hb0
    refine rX11_mended_42 l s t z _ (f_X11_roll l t' b1 (by omega) (by omega)) (by omega) (fun e2 h2 => ?_)
    refine bX11_mended_45 l s t z ?_
    have a2 := mRolled_ag h2
    have m25 : zst e2 169 89 0 169 25 = h 169 25 := by
      rw [zst_ne (Or.inr (by decide)), a2 169 25 (by decide), a1 169 25 (by decide), e25]
    have f := l_X11_mended_53 (X := X) (dep := dep) l (h := zst e2 169 89 0) (by omega) (by rw [m25]; exact hb.1) (h 169 25).toNat 0 _ (by rw [m25]; have := hb.1; omega) ⟨zag.rf _ _, fun _ _ => rfl, zst_self _ _ _ _, fun m m0 m1 => by omega⟩
    rw [m25] at f
    refine f.weaken (fun n' h' rs hq => ?_)
    obtain ⟨q1, v, q2, q3, q4⟩ := hq
    exact ⟨q1, v, q2, Or.inl ⟨c, e1, e2, es ▸ h1, et ▸ h2, q3, q4⟩⟩
  refine bX11_mended_0 l s t z hl (by omega) (fun c c1 => ?_) (fun c c1 => ?_) (fun c => ⟨rfl, _, rfl, Or.inr ⟨c, rfl, rfl⟩⟩)
  · refine rX11_mended_27 l s t z s (f_X11_callOf l s hb0 (by omega) (by omega)) (by omega) (fun e1 h1 => ?_)
    exact bX11_mended_30 l s t z (fun _ => go c s t (if_pos c1).symm (if_pos c1).symm e1 h1) (fun q => absurd c1 q)
  · refine rX11_mended_27 l s t z t (f_X11_callOf l t hb0 (by omega) (by omega)) (by omega) (fun e1 h1 => ?_)
    exact bX11_mended_30 l s t z (fun q => absurd q c1) (fun _ => go c t s (if_neg c1).symm (if_neg c1).symm e1 h1)
abbrev mCa9 (h : zH) (l m : Int) : Prop := (mCl h l ∧ mCm h m ∧ h 205 l ≤ h 169 5 ∧ h 169 90 ≠ 60) ∧ h 169 5 - h 205 l ≤ (if mlaw h (h 205 l) (h 169 5) < 0 then 30 else h 194 (mlaw h (h 205 l) (h 169 5)))
theorem f_X11_appeal {X : zX} {dep : Nat} (l m : Int) {h : zH} (hb : mBase h) (hd : 0 ≤ h 169 5 ∧ h 169 5 ≤ 3639) (ha : 0 ≤ h 169 90 ∧ h 169 90 ≤ 60) (hh : 0 ≤ h 169 91 ∧ h 169 91 ≤ h 169 90) (hdep : 8 ≤ dep) : zW mX11_appeal X dep 0 0 239 0 (zar 0 [xR 169, xI l, xI m]) [] h
    (zQI (fun v g => mCa9 h l m ∧ (∃ e1 e2, mCo (zst h 169 0 0) l (h 205 l) e1 ∧ mRolled e1 l (h 169 5) e2 ∧ v = (if e2 233 m ≠ 0 ∧ e2 219 (60 * l + m) ≠ 5 then 1 else 0) ∧ g = zst (zst e2 169 90 (h 169 90 + 1)) 169 91 (h 169 91 + v)) ∨ ¬ mCa9 h l m ∧ v = -1 ∧ g = zst h 169 0 0)) := by
  have hb0 := mBase_st hb 169 0 0 (by decide) (Or.inr (by decide))
  have b1 := hb.1
  have hl := hb.2.2.2.2.2.2.2.2.1
  have hw := hb.2.2.2.2.2.2.2.1.1
  have hlo := hb.2.2.2.2.2.2.2.2.2
  have wi := mlaw_in hw (h 205 l) (h 169 5)
  have e5 : zst h 169 0 0 169 5 = h 169 5 := zst_ne (Or.inr (by decide))
  have no : ¬ mCa9 h l m → zQI (fun v g => mCa9 h l m ∧ (∃ e1 e2, mCo (zst h 169 0 0) l (h 205 l) e1 ∧ mRolled e1 l (h 169 5) e2 ∧ v = (if e2 233 m ≠ 0 ∧ e2 219 (60 * l + m) ≠ 5 then 1 else 0) ∧ g = zst (zst e2 169 90 (h 169 90 + 1)) 169 91 (h 169 91 + v)) ∨ ¬ mCa9 h l m ∧ v = -1 ∧ g = zst h 169 0 0) 239 (zst h 169 0 0) [xI (-1)] := fun c => ⟨rfl, _, rfl, Or.inr ⟨c, rfl, rfl⟩⟩
  have go : mCa9 h l m → zW mX11_appeal X dep 0 0 239 99 [(0, xR 169), (1, xI l), (2, xI m), (3, xI (mlaw h (h 205 l) (h 169 5)))] [xI (h 205 l), xI l, xR 169] (zst h 169 0 0) (zQI (fun v g => mCa9 h l m ∧ (∃ e1 e2, mCo (zst h 169 0 0) l (h 205 l) e1 ∧ mRolled e1 l (h 169 5) e2 ∧ v = (if e2 233 m ≠ 0 ∧ e2 219 (60 * l + m) ≠ 5 then 1 else 0) ∧ g = zst (zst e2 169 90 (h 169 90 + 1)) 169 91 (h 169 91 + v)) ∨ ¬ mCa9 h l m ∧ v = -1 ∧ g = zst h 169 0 0)) := fun c => by
    have c1 := c.1.1
    refine rX11_appeal_99 l m _ _ (f_X11_callOf l (h 205 l) hb0 (by omega) (by omega)) (by omega) (fun e1 h1 => ?_)
    have a1 := mCo_ag h1
    have be1 : mBase e1 := mBase_of (fun o ho k => a1 o k (by revert o; decide)) (fun k _ => a1 169 k (by decide)) hb0
    refine bX11_appeal_102 l m _ ?_
    rw [a1 169 5 (by decide), e5]
    refine rX11_appeal_108 l m _ _ (f_X11_roll l (h 169 5) be1 (by omega) (by omega)) (by omega) (fun e2 h2 => ?_)
    have a2 := mRolled_ag h2
    have m90 : e2 169 90 = h 169 90 := by
      rw [a2 169 90 (by decide), a1 169 90 (by decide)]
      exact zst_ne (Or.inr (by decide))
    have m91 : e2 169 91 = h 169 91 := by
      rw [a2 169 91 (by decide), a1 169 91 (by decide)]
      exact zst_ne (Or.inr (by decide))
    have fin : ∀ z : Int, z = (if e2 233 m ≠ 0 ∧ e2 219 (60 * l + m) ≠ 5 then 1 else 0) → zW mX11_appeal X dep 0 0 239 152 [(0, xR 169), (1, xI l), (2, xI m), (3, xI (mlaw h (h 205 l) (h 169 5))), (4, xI z)] [] (zst e2 169 90 (h 169 90 + 1)) (zQI (fun v g => mCa9 h l m ∧ (∃ e1 e2, mCo (zst h 169 0 0) l (h 205 l) e1 ∧ mRolled e1 l (h 169 5) e2 ∧ v = (if e2 233 m ≠ 0 ∧ e2 219 (60 * l + m) ≠ 5 then 1 else 0) ∧ g = zst (zst e2 169 90 (h 169 90 + 1)) 169 91 (h 169 91 + v)) ∨ ¬ mCa9 h l m ∧ v = -1 ∧ g = zst h 169 0 0)) := fun z hz => by
      have n90 : zst e2 169 90 (h 169 90 + 1) 169 91 = h 169 91 := (zst_ne (Or.inr (by decide))).trans m91
      have z01 : (if z = 0 then 0 else 1 : Int) = z := by
        rw [hz]
        split <;> rfl
      refine bX11_appeal_152 l m _ z (by rw [n90]; have := c.1.2.2.2; omega) ?_
      refine bX11_appeal_171 z ?_
      rw [n90, z01]
      exact ⟨rfl, _, rfl, Or.inl ⟨c, e1, e2, h1, h2, hz, rfl⟩⟩
    refine bX11_appeal_111 l m _ (by omega) (by have := c.1.2.1; omega) (by have := c.1.2.2.2; omega) ?_ ?_
    all_goals rw [m90]
    · intro q
      exact fin 0 (if_neg (fun z => z.1 q)).symm
    · intro q
      refine fin _ ?_
      by_cases d : e2 219 (60 * l + m) = 5
      · rw [if_pos d, if_neg (fun z => z.2 d)]
      · rw [if_neg d, if_pos ⟨q, d⟩]
  refine bX11_appeal_0 l m hb.1 hl hw hd ?_ (by omega) (by omega) (fun c => no (fun z => c z.1.1)) (fun _ c => no (fun z => c z.1.2.1)) (fun _ _ c => no (fun z => by have := z.1.2.2.1; omega)) (fun c1 c2 c3 c4 c5 c6 => go ⟨⟨c1, c2, by omega, c4⟩, ?_⟩) (fun c1 c2 c3 c4 c5 c6 => no (fun z => ?_)) (fun c1 c2 c3 c4 c5 c6 => go ⟨⟨c1, c2, by omega, c4⟩, ?_⟩) (fun c1 c2 c3 c4 c5 c6 => no (fun z => ?_)) (fun _ _ _ c => no (fun z => z.1.2.2.2 c))
  · by_cases c : mCl h l
    · exact Or.inr (hlo l c.1 (by omega)).1
    · exact Or.inl c
  · rw [if_neg (by omega)]
    exact c6
  · have z2 := z.2
    rw [if_neg (by omega)] at z2
    exact c6 z2
  · rw [if_pos (by omega)]
    exact c6
  · have z2 := z.2
    rw [if_pos (by omega)] at z2
    exact c6 z2
/-- who is there of a parish, who is called of it, the most hands needed in a week or later -/
noncomputable def mher (h : zH) (p : Int) (n : Nat) : Int := zcnt (fun m => h 215 m ≠ 0 ∧ h 172 m = p) n
noncomputable def mcal (h : zH) (l p : Int) (n : Nat) : Int := zcnt (fun m => h 219 (60 * l + m) = 5 ∧ h 172 m = p) n
def mmh (h : zH) (p w : Int) : Nat → Int
  | 0 => 0
  | n + 1 => max (mmh h p w n) (h 235 (12 * p + (w + n)))
noncomputable def mcap (h : zH) (l w p : Int) : Int := max 0 (min (mcal h l p (h 169 25).toNat) (mher h p (h 169 25).toNat - mmh h p w (12 - w).toNat))
def mNe (h : zH) : Prop := ∀ p w : Int, 0 ≤ p → p < 8 → 0 ≤ w → w < 12 → 0 ≤ h 235 (12 * p + w) ∧ h 235 (12 * p + w) ≤ 60
theorem mmh_in {h : zH} (hn : mNe h) {p : Int} (hp : 0 ≤ p ∧ p < 8) (w : Int) (hw : 0 ≤ w) : ∀ n : Nat, w + n ≤ 12 → 0 ≤ mmh h p w n ∧ mmh h p w n ≤ 60
  | 0, _ => by unfold mmh; omega
  | n + 1, h1 => by
    have := mmh_in hn hp w hw n (by omega)
    have := hn p (w + n) hp.1 hp.2 (by omega) (by omega)
    unfold mmh
    omega
theorem mmh_le (h : zH) (p w : Int) : ∀ n : Nat, mmh h p (w + 1) n ≤ mmh h p w (n + 1)
  | 0 => by
    show (0 : Int) ≤ max 0 _
    omega
  | n + 1 => by
    have := mmh_le h p w n
    show max (mmh h p (w + 1) n) (h 235 (12 * p + (w + 1 + n))) ≤ max (mmh h p w (n + 1)) (h 235 (12 * p + (w + ((n + 1 : Nat) : Int))))
    rw [show w + 1 + (n : Int) = w + ((n + 1 : Nat) : Int) by omega]
    omega
theorem mcap_le (h : zH) (l w p : Int) (h0 : 0 ≤ w) (h1 : w < 12) : mcap h l w p ≤ mcap h l (w + 1) p := by
  have := mmh_le h p w (12 - (w + 1)).toNat
  rw [show (12 - (w + 1)).toNat + 1 = (12 - w).toNat by omega] at this
  unfold mcap
  omega
theorem mcap_in (h : zH) (l w p : Int) (hm : 0 ≤ h 169 25 ∧ h 169 25 ≤ 60) : 0 ≤ mcap h l w p ∧ mcap h l w p ≤ 60 := by
  have : 0 ≤ mcal h l p (h 169 25).toNat ∧ mcal h l p (h 169 25).toNat ≤ (h 169 25).toNat := zcnt_in _ _
  unfold mcap
  omega
theorem f_X11_mayGo {X : zX} {dep : Nat} (l p w : Int) {h : zH} (hm : 0 ≤ h 169 25 ∧ h 169 25 ≤ 60) (hl : 0 ≤ l ∧ l < 4) (hp : 0 ≤ p ∧ p < 8) (hw : 0 ≤ w ∧ w < 12) (hn : mNe h) (hc : mcal h l p (h 169 25).toNat ≤ mher h p (h 169 25).toNat) : zW mX11_mayGo X dep 0 0 239 0 (zar 0 [xR 169, xI l, xI p, xI w]) [] h (zF h [xI (mcap h l w p)]) := by
  have c0 : 0 ≤ mcal h l p (h 169 25).toNat ∧ mcal h l p (h 169 25).toNat ≤ (h 169 25).toNat := zcnt_in _ _
  have y0 : 0 ≤ mher h p (h 169 25).toNat ∧ mher h p (h 169 25).toNat ≤ (h 169 25).toNat := zcnt_in _ _
  have two : ∀ (k n : Nat), w + n + k = 12 → zW mX11_mayGo X dep 0 0 239 99 [(0, xR 169), (1, xI l), (2, xI p), (3, xI w), (4, xI (mher h p (h 169 25).toNat)), (6, xI (min (mcal h l p (h 169 25).toNat) (mher h p (h 169 25).toNat - mmh h p w n))), (7, xI (w + n))] [] h (zF h [xI (mcap h l w p)]) := by
    intro k
    induction k with
    | zero =>
      intro n hk
      have mi := mmh_in hn hp w hw.1 n (by omega)
      have en : (12 - w).toNat = n := by omega
      refine bX11_mayGo_99 l p w _ _ _ (by omega) (by omega) (by omega) (Or.inl (by omega)) hl hp hw.1 (fun c1 c2 => ?_) (fun c1 c2 => ?_) (fun c => by exfalso; omega) (fun c => by exfalso; omega)
      · refine ⟨rfl, rfl, congrArg (fun x => [xI x]) ?_⟩
        unfold mcap
        rw [en]
        omega
      · refine ⟨rfl, rfl, congrArg (fun x => [xI x]) ?_⟩
        unfold mcap
        rw [en]
        omega
    | succ k ih =>
      intro n hk
      have mi := mmh_in hn hp w hw.1 n (by omega)
      have ni := hn p (w + n) hp.1 hp.2 (by omega) (by omega)
      have go := ih (n + 1) (by omega)
      have es : mmh h p w (n + 1) = max (mmh h p w n) (h 235 (12 * p + (w + n))) := rfl
      rw [es, show w + ((n + 1 : Nat) : Int) = w + n + 1 by omega] at go
      refine bX11_mayGo_99 l p w _ _ _ (by omega) (by omega) (by omega) (Or.inr ni) hl hp hw.1 (fun c => by exfalso; omega) (fun c => by exfalso; omega) (fun c1 c2 => ?_) (fun c1 c2 => ?_)
      · rw [show min (mcal h l p (h 169 25).toNat) (mher h p (h 169 25).toNat - max (mmh h p w n) (h 235 (12 * p + (w + n)))) = min (mcal h l p (h 169 25).toNat) (mher h p (h 169 25).toNat - mmh h p w n) by omega] at go
        exact go
      · rw [show min (mcal h l p (h 169 25).toNat) (mher h p (h 169 25).toNat - max (mmh h p w n) (h 235 (12 * p + (w + n)))) = mher h p (h 169 25).toNat - h 235 (12 * p + (w + n)) by omega] at go
        exact go
  have one : ∀ (k j : Nat), (j : Int) + k = h 169 25 → zW mX11_mayGo X dep 0 0 239 9 [(0, xR 169), (1, xI l), (2, xI p), (3, xI w), (4, xI (mher h p j)), (5, xI (mcal h l p j)), (6, xI j)] [] h (zF h [xI (mcap h l w p)]) := by
    intro k
    induction k with
    | zero =>
      intro j hk
      refine bX11_mayGo_9 l p w _ _ j hm (by omega) (zcnt_in _ j) (zcnt_in _ j) hl hp hw.1 (fun c => ?_) (fun c => by exfalso; omega)
      have go := two (12 - w).toNat 0 (by omega)
      rw [show (h 169 25).toNat = j by omega] at go hc
      rw [show min (mcal h l p j) (mher h p j - mmh h p w 0) = mcal h l p j by unfold mmh; omega, show w + ((0 : Nat) : Int) = w by omega] at go
      exact go
    | succ k ih =>
      intro j hk
      have ci : 0 ≤ mcal h l p j ∧ mcal h l p j ≤ j := zcnt_in _ j
      refine bX11_mayGo_9 l p w _ _ j hm (by omega) (zcnt_in _ j) (zcnt_in _ j) hl hp hw.1 (fun c => by exfalso; omega) (fun c => ?_)
      refine bX11_mayGo_49 l p w _ _ j (by omega) (by omega) hl hp hw.1 ?_
      have go := ih (j + 1) (by omega)
      have e1 : mher h p (j + 1) = mher h p j + (if h 215 j = 0 then 0 else if h 172 j = p then 1 else 0) := by
        unfold mher
        rw [zcnt_s]
        by_cases d : h 215 j = 0
        · rw [if_pos d, zb_f (fun z => z.1 d)]
        · rw [if_neg d]
          by_cases d2 : h 172 j = p
          · rw [if_pos d2, zb_t ⟨d, d2⟩]
          · rw [if_neg d2, zb_f (fun z => d2 z.2)]
      have e2 : mcal h l p (j + 1) = mcal h l p j + (if h 219 (60 * l + j) = 5 then if h 172 j = p then 1 else 0 else 0) := by
        unfold mcal
        rw [zcnt_s]
        by_cases d : h 219 (60 * l + j) = 5
        · rw [if_pos d]
          by_cases d2 : h 172 j = p
          · rw [if_pos d2, zb_t ⟨d, d2⟩]
          · rw [if_neg d2, zb_f (fun z => d2 z.2)]
        · rw [if_neg d, zb_f (fun z => d z.1)]
      rw [e1, e2, show ((j + 1 : Nat) : Int) = (j : Int) + 1 by omega] at go
      exact go
  refine bX11_mayGo_0 l p w ?_
  exact one (h 169 25).toNat 0 (by omega)
/-- the tape taken -/
abbrev mTk (h : zH) : zH := zst (zst (zst (zst h 169 0 0) 169 3 (h 169 2)) 169 2 0) 169 4 0
theorem mTk_ne {h : zH} (o k : Int) (hk : o ≠ 169 ∨ (k ≠ 0 ∧ k ≠ 2 ∧ k ≠ 3 ∧ k ≠ 4)) : mTk h o k = h o k := by
  unfold mTk
  rw [zst_ne (by omega), zst_ne (by omega), zst_ne (by omega), zst_ne (by omega)]
theorem mTk_3 (h : zH) : mTk h 169 3 = h 169 2 := by
  unfold mTk
  rw [zst_ne (Or.inr (by decide)), zst_ne (Or.inr (by decide)), zst_self]
theorem mTk_base {h : zH} (hb : mBase h) : mBase (mTk h) := mBase_st (mBase_st (mBase_st (mBase_st hb 169 0 0 (by decide) (Or.inr (by decide))) 169 3 _ (by decide) (Or.inr (by decide))) 169 2 0 (by decide) (Or.inr (by decide))) 169 4 0 (by decide) (Or.inr (by decide))
def mtw (e : zH) (w : Int) : Int := if w < 12 then e 237 w else 255
/-- what is told, by the model -/
abbrev mby (h : zH) (i : Int) : Int := zand (h 170 i) 255
def mTold (h : zH) : Prop := h 169 2 = 12 ∧ ∀ i : Int, 1 ≤ i → i < 12 → mby h (i - 1) ≤ mby h i
theorem zlv_sum (cap : Int → Int → Int) (told : Int → Int) : ∀ w : Nat, zsm (zlv cap told w).1 8 = (zlv cap told w).2.1
  | 0 => rfl
  | w + 1 => by
    have ih := zlv_sum cap told w
    have st : ∀ p : Nat, zsm (zlv cap told (w + 1)).1 p = zsm (zlv cap told w).1 p + zls (cap w) (zlv cap told w).1 (told w) (zlv cap told w).2.1 p - (zlv cap told w).2.1 := by
      intro p
      induction p with
      | zero =>
        show (0 : Int) = 0 + (zlv cap told w).2.1 - (zlv cap told w).2.1
        omega
      | succ p ihp =>
        rw [zsm_s, ihp, zsm_s]
        show _ + ((zlv cap told w).1 p + min (cap w p - (zlv cap told w).1 p) (told w - zls (cap w) (zlv cap told w).1 (told w) (zlv cap told w).2.1 (p : Int).toNat)) = _ + (zls (cap w) (zlv cap told w).1 (told w) (zlv cap told w).2.1 p + min (cap w p - (zlv cap told w).1 p) (told w - zls (cap w) (zlv cap told w).1 (told w) (zlv cap told w).2.1 p)) - _
        rw [Int.toNat_natCast]
        omega
    rw [st 8, ih]
    show _ + zls (cap w) (zlv cap told w).1 (told w) (zlv cap told w).2.1 8 - _ = zls (cap w) (zlv cap told w).1 (told w) (zlv cap told w).2.1 8
    omega
/-- what the weeks' walk is told and keeps to -/
def mLOk (e : zH) (l : Int) : Prop := (0 ≤ e 169 25 ∧ e 169 25 ≤ 60) ∧ mNe e ∧ (∀ p : Int, 0 ≤ p → p < 8 → mcal e l p (e 169 25).toNat ≤ mher e p (e 169 25).toNat) ∧ (∀ w : Int, 0 ≤ w → w < 12 → 0 ≤ e 237 w ∧ e 237 w ≤ 255) ∧ ∀ w : Int, 0 ≤ w → w < 11 → e 237 w ≤ e 237 (w + 1)
theorem mlv_ok {e : zH} {l : Int} (ok : mLOk e l) : ∀ v : Nat, v ≤ 12 → (0 ≤ (zlv (mcap e l) (mtw e) v).2.1 ∧ (zlv (mcap e l) (mtw e) v).2.1 ≤ mtw e v) ∧ ∀ p : Int, 0 ≤ p → p < 8 → 0 ≤ (zlv (mcap e l) (mtw e) v).1 p ∧ (zlv (mcap e l) (mtw e) v).1 p ≤ mcap e l v p := by
  refine zlv_in (fun p p0 p1 => (mcap_in e l 0 p ok.1).1) (fun v p v0 v1 p0 p1 => mcap_le e l v p v0 v1) ?_ (fun w w0 w1 => ?_)
  · unfold mtw
    rw [if_pos (by omega)]
    exact (ok.2.2.2.1 0 (by omega) (by omega)).1
  · unfold mtw
    rw [if_pos w1]
    by_cases c : w + 1 < 12
    · rw [if_pos c]
      exact ok.2.2.2.2 w w0 (by omega)
    · rw [if_neg c]
      exact (ok.2.2.2.1 w w0 w1).2
/-- weeks ahead of w stand; of week w the first p are copied -/
def mLa (e : zH) (l : Int) (w p : Nat) (g : zH) : Prop := zag [236] e g ∧ (∀ q v : Int, 0 ≤ q → q < 8 → 0 ≤ v → v < w → g 236 (12 * q + v) = (zlv (mcap e l) (mtw e) (v.toNat + 1)).1 q) ∧ ∀ q : Int, 0 ≤ q → q < p → g 236 (12 * q + w) = (zlv (mcap e l) (mtw e) w).1 q
/-- of week w the first p have gone, the others are copied -/
def mLb (e : zH) (l : Int) (w p : Nat) (g : zH) : Prop := zag [236] e g ∧ (∀ q v : Int, 0 ≤ q → q < 8 → 0 ≤ v → v < w → g 236 (12 * q + v) = (zlv (mcap e l) (mtw e) (v.toNat + 1)).1 q) ∧ ∀ q : Int, 0 ≤ q → q < 8 → g 236 (12 * q + w) = if q < p then (zlv (mcap e l) (mtw e) (w + 1)).1 q else (zlv (mcap e l) (mtw e) w).1 q
theorem mcal_ag {S : List Int} {h g : zH} (ha : zag S h g) (hS : ∀ o ∈ [(219 : Int), 172], o ∉ S) (l p : Int) (n : Nat) : mcal g l p n = mcal h l p n := zcnt_ag (fun k => by rw [ha 219 _ (hS _ (by decide)), ha 172 _ (hS _ (by decide))]) n
theorem mher_ag {S : List Int} {h g : zH} (ha : zag S h g) (hS : ∀ o ∈ [(215 : Int), 172], o ∉ S) (p : Int) (n : Nat) : mher g p n = mher h p n := zcnt_ag (fun k => by rw [ha 215 _ (hS _ (by decide)), ha 172 _ (hS _ (by decide))]) n
theorem mmh_ag {S : List Int} {h g : zH} (ha : zag S h g) (hS : (235 : Int) ∉ S) (p w : Int) : ∀ n : Nat, mmh g p w n = mmh h p w n
  | 0 => rfl
  | n + 1 => by
    unfold mmh
    rw [mmh_ag ha hS p w n, ha 235 _ hS]
theorem mcap_ag {h g : zH} (ha : zag [236] h g) (l w p : Int) : mcap g l w p = mcap h l w p := by
  unfold mcap
  rw [ha 169 25 (by decide), mcal_ag ha (by decide), mher_ag ha (by decide), mmh_ag ha (by decide)]
theorem l_X11_leaves_176 {X : zX} {dep : Nat} {Q : Nat → zH → List zV → Prop} (l t y : Int) (w : Nat) (hw : w < 12) (hy : y = 0 ∨ y = 1) {e : zH} (hl : 0 ≤ l ∧ l < 4) (ok : mLOk e l) (hdep : 1 ≤ dep)
    (kx : ∀ g : zH, mLb e l w 8 g → zW mX11_leaves X dep 0 0 239 279 [(0, xR 169), (1, xI l), (2, xI t), (3, xI y), (4, xI w), (5, xI (zls (mcap e l w) (zlv (mcap e l) (mtw e) w).1 (mtw e w) (zlv (mcap e l) (mtw e) w).2.1 8))] [] g Q) :
    ∀ (k p : Nat) (g : zH), p + k = 8 → mLb e l w p g → zW mX11_leaves X dep 0 0 239 176 [(0, xR 169), (1, xI l), (2, xI t), (3, xI y), (4, xI w), (5, xI (zls (mcap e l w) (zlv (mcap e l) (mtw e) w).1 (mtw e w) (zlv (mcap e l) (mtw e) w).2.1 p)), (6, xI p)] [] g Q := by
  have z1 := mlv_ok ok w (by omega)
  have tw : mtw e w = e 237 w := by
    unfold mtw
    rw [if_pos (by omega)]
  have t2 := ok.2.2.2.1 w (by omega) (by omega)
  have zs : ∀ p : Nat, p ≤ 8 → _ := zls_in (cap := mcap e l w) (b := (zlv (mcap e l) (mtw e) w).1) (t := mtw e w) (s := (zlv (mcap e l) (mtw e) w).2.1) z1.1 (fun p p0 p1 => (z1.2 p p0 p1).2)
  intro k
  induction k with
  | zero =>
    intro p g hk a
    obtain rfl : p = 8 := by omega
    have s1 := zs 8 (by omega)
    refine bX11_leaves_176 l t y w _ _ hl (by omega) hy (by omega) (by omega) (by omega) (fun _ => kx g a) (fun c => by exfalso; omega)
  | succ k ih =>
    intro p g hk a
    have s1 := zs p (by omega)
    have s2 := zs (p + 1) (by omega)
    have b1 := z1.2 p (by omega) (by omega)
    have cp := mcap_in e l w p ok.1
    have eb : g 236 (12 * p + w) = (zlv (mcap e l) (mtw e) w).1 p := by
      rw [a.2.2 p (by omega) (by omega), if_neg (by omega)]
    have et := a.1 237 w (by decide)
    have es : zls (mcap e l w) (zlv (mcap e l) (mtw e) w).1 (mtw e w) (zlv (mcap e l) (mtw e) w).2.1 (p + 1) = zls (mcap e l w) (zlv (mcap e l) (mtw e) w).1 (mtw e w) (zlv (mcap e l) (mtw e) w).2.1 p + min (mcap e l w p - (zlv (mcap e l) (mtw e) w).1 p) (mtw e w - zls (mcap e l w) (zlv (mcap e l) (mtw e) w).1 (mtw e w) (zlv (mcap e l) (mtw e) w).2.1 p) := rfl
    have ev : (zlv (mcap e l) (mtw e) (w + 1)).1 p = (zlv (mcap e l) (mtw e) w).1 p + min (mcap e l w p - (zlv (mcap e l) (mtw e) w).1 p) (mtw e w - zls (mcap e l w) (zlv (mcap e l) (mtw e) w).1 (mtw e w) (zlv (mcap e l) (mtw e) w).2.1 p) := by
      show (zlv (mcap e l) (mtw e) w).1 p + min (mcap e l w p - (zlv (mcap e l) (mtw e) w).1 p) (mtw e w - zls (mcap e l w) (zlv (mcap e l) (mtw e) w).1 (mtw e w) (zlv (mcap e l) (mtw e) w).2.1 (p : Int).toNat) = _
      rw [Int.toNat_natCast]
    have step : ∀ f : zH, zag [236] e f → (∀ q v : Int, 0 ≤ q → q < 8 → 0 ≤ v → v < 12 → ¬ (q = p ∧ v = w) → f 236 (12 * q + v) = g 236 (12 * q + v)) → f 236 (12 * p + w) = (zlv (mcap e l) (mtw e) (w + 1)).1 p → ∀ s : Int, s = zls (mcap e l w) (zlv (mcap e l) (mtw e) w).1 (mtw e w) (zlv (mcap e l) (mtw e) w).2.1 (p + 1) → zW mX11_leaves X dep 0 0 239 176 [(0, xR 169), (1, xI l), (2, xI t), (3, xI y), (4, xI w), (5, xI s), (6, xI ((p : Int) + 1))] [] f Q := fun f hf1 hf2 hf3 s hs => by
      have go := ih (p + 1) f (by omega) ⟨hf1, fun q v q0 q1 v0 v1 => by
          rw [hf2 q v q0 q1 v0 (by omega) (by omega)]
          exact a.2.1 q v q0 q1 v0 v1, fun q q0 q1 => by
          by_cases d : q = p
          · rw [d, if_pos (by omega)]
            exact hf3
          · rw [hf2 q w q0 q1 (by omega) (by omega) (fun z => d z.1), a.2.2 q q0 q1]
            by_cases d2 : q < p
            · rw [if_pos d2, if_pos (by omega)]
            · rw [if_neg d2, if_neg (by omega)]⟩
      rw [← hs, show ((p + 1 : Nat) : Int) = (p : Int) + 1 by omega] at go
      exact go
    refine bX11_leaves_176 l t y w _ _ hl (by omega) hy (by omega) (by omega) (by omega) (fun c => by exfalso; omega) (fun _ => ?_)
    refine rX11_leaves_189 l t y w _ _ (P := fun v g' => g' = g ∧ v = mcap e l w p) ((f_X11_mayGo l p w (by rw [a.1 169 25 (by decide)]; exact ok.1) hl (by omega) (by omega) (fun p' w' p0 p1 w0 w1 => by rw [a.1 235 _ (by decide)]; exact ok.2.1 p' w' p0 p1 w0 w1) (by rw [a.1 169 25 (by decide), mcal_ag a.1 (by decide), mher_ag a.1 (by decide)]; exact ok.2.2.1 p (by omega) (by omega))).weaken (fun n' h' rs hq => ?_)) (by omega) (fun v f hf => ?_)
    · obtain ⟨rfl, rfl, rfl⟩ := hq
      exact ⟨rfl, _, rfl, rfl, mcap_ag a.1 l w p⟩
    · obtain ⟨rfl, rfl⟩ := hf
      have diff : ∀ (x : Int) (q v : Int), 0 ≤ q → q < 8 → 0 ≤ v → v < 12 → ¬ (q = p ∧ v = w) → zst f 236 (12 * (p : Int) + w) x 236 (12 * q + v) = f 236 (12 * q + v) := fun x q v q0 q1 v0 v1 hqv => zst_ne (Or.inr (by omega))
      refine bX11_leaves_192 l t y w _ _ _ hl (by omega) hy (by omega) (by omega) (by omega) (by omega) cp (by rw [eb]; omega) (by rw [et]; exact t2) (fun c1 c2 => ?_) (fun c1 c2 => ?_) (fun c1 c2 => ?_) (fun c1 c2 => ?_)
      all_goals rw [et, eb] at c1
      all_goals rw [← tw] at c1
      · rw [et, eb, ← tw]
        exact step _ (a.1.st (by decide) _ _) (diff _) (by rw [zst_self, ev]; omega) _ (by rw [es]; omega)
      · rw [et, ← tw] at c2
        exact step _ a.1 (fun _ _ _ _ _ _ _ => rfl) (by rw [eb, ev]; omega) _ (by rw [es]; omega)
      · rw [eb]
        exact step _ (a.1.st (by decide) _ _) (diff _) (by rw [zst_self, ev]; omega) _ (by rw [es]; omega)
      · rw [eb] at c2
        exact step _ a.1 (fun _ _ _ _ _ _ _ => rfl) (by rw [eb, ev]; omega) _ (by rw [es]; omega)
theorem l_X11_leaves_105 {X : zX} {dep : Nat} {Q : Nat → zH → List zV → Prop} (l t y : Int) (w : Nat) (hw : w < 12) (hy : y = 0 ∨ y = 1) {e : zH} (hl : 0 ≤ l ∧ l < 4) (ok : mLOk e l)
    (kx : ∀ g : zH, mLb e l w 0 g → zW mX11_leaves X dep 0 0 239 176 [(0, xR 169), (1, xI l), (2, xI t), (3, xI y), (4, xI w), (5, xI (zlv (mcap e l) (mtw e) w).2.1), (6, xI 0)] [] g Q) :
    ∀ (k p : Nat) (g : zH), p + k = 8 → mLa e l w p g → zW mX11_leaves X dep 0 0 239 105 [(0, xR 169), (1, xI l), (2, xI t), (3, xI y), (4, xI w), (5, xI (zsm (zlv (mcap e l) (mtw e) w).1 p)), (6, xI p)] [] g Q := by
  have z1 := mlv_ok ok w (by omega)
  have zb60 : ∀ p : Int, 0 ≤ p → p < 8 → 0 ≤ (zlv (mcap e l) (mtw e) w).1 p ∧ (zlv (mcap e l) (mtw e) w).1 p ≤ 60 := fun p p0 p1 => by
    have := z1.2 p p0 p1
    have := mcap_in e l w p ok.1
    omega
  have sb : ∀ p : Nat, p ≤ 8 → 0 ≤ zsm (zlv (mcap e l) (mtw e) w).1 p ∧ zsm (zlv (mcap e l) (mtw e) w).1 p ≤ 60 * p := by
    intro p
    induction p with
    | zero =>
      intro _
      show (0 : Int) ≤ 0 ∧ (0 : Int) ≤ 60 * ((0 : Nat) : Int)
      omega
    | succ p ihp =>
      intro hp
      have i1 := ihp (by omega)
      have i2 := zb60 p (by omega) (by omega)
      rw [zsm_s]
      omega
  intro k
  induction k with
  | zero =>
    intro p g hk a
    obtain rfl : p = 8 := by omega
    have s1 := sb 8 (by omega)
    refine bX11_leaves_105 l t y w _ _ hl (by omega) hy (by omega) (by omega) (by omega) (Or.inl (by omega)) (fun _ => ?_) (fun c => by exfalso; omega) (fun c => by exfalso; omega)
    rw [zlv_sum]
    exact kx g ⟨a.1, a.2.1, fun q q0 q1 => by rw [if_neg (by omega)]; exact a.2.2 q q0 q1⟩
  | succ k ih =>
    intro p g hk a
    have s1 := sb p (by omega)
    have i2 := zb60 p (by omega) (by omega)
    have prev : 1 ≤ w → g 236 (12 * p + w - 1) = (zlv (mcap e l) (mtw e) w).1 p := fun h1 => by
      have := a.2.1 p ((w : Int) - 1) (by omega) (by omega) (by omega) (by omega)
      rw [show 12 * (p : Int) + ((w : Int) - 1) = 12 * p + w - 1 by omega, show ((w : Int) - 1).toNat + 1 = w by omega] at this
      exact this
    have step : ∀ x : Int, x = (zlv (mcap e l) (mtw e) w).1 p → zW mX11_leaves X dep 0 0 239 105 [(0, xR 169), (1, xI l), (2, xI t), (3, xI y), (4, xI w), (5, xI (zsm (zlv (mcap e l) (mtw e) w).1 p + x)), (6, xI ((p : Int) + 1))] [] (zst g 236 ((12 * (p : Int)) + w) x) Q := fun x hx => by
      have go := ih (p + 1) (zst g 236 ((12 * (p : Int)) + w) x) (by omega) ⟨a.1.st (by decide) _ _, fun q v q0 q1 v0 v1 => by
        rw [zst_ne (Or.inr (by omega))]
        exact a.2.1 q v q0 q1 v0 v1, fun q q0 q1 => by
        rw [zst_or]
        by_cases d : q = p
        · rw [if_pos (by omega), hx, d]
        · rw [if_neg (by omega)]
          exact a.2.2 q q0 (by omega)⟩
      rw [zsm_s, ← hx, show ((p + 1 : Nat) : Int) = (p : Int) + 1 by omega] at go
      exact go
    refine bX11_leaves_105 l t y w _ _ hl (by omega) hy (by omega) (by omega) (by omega) ?_ (fun c => by exfalso; omega) (fun c1 c2 => ?_) (fun c1 c2 => ?_)
    · by_cases d : w = 0
      · exact Or.inr (Or.inl (by omega))
      · rw [prev (by omega)]
        exact Or.inr (Or.inr i2)
    · rw [prev (by omega)]
      exact step _ rfl
    · refine step 0 ?_
      have : w = 0 := by omega
      rw [this]
      rfl
theorem l_X11_leaves_92 {X : zX} {dep : Nat} (l t : Int) {e : zH} (hl : 0 ≤ l ∧ l < 4) (ok : mLOk e l) (hdep : 1 ≤ dep) :
    ∀ (k w : Nat) (g : zH), w + k = 12 → mLa e l w 0 g → zW mX11_leaves X dep 0 0 239 92 [(0, xR 169), (1, xI l), (2, xI t), (3, xI (zlv (mcap e l) (mtw e) w).2.2), (4, xI w)] [] g
      (zQI (fun v g => v = (zlv (mcap e l) (mtw e) 12).2.2 ∧ ∃ f, mLa e l 12 0 f ∧ g = zst f 169 96 1)) := by
  intro k
  induction k with
  | zero =>
    intro w g hk a
    obtain rfl : w = 12 := by omega
    have c := zlv_c (mcap e l) (mtw e) 12
    refine bX11_leaves_92 l t _ _ hl (by omega) c (fun _ => ?_) (fun q => by exfalso; omega)
    refine ⟨rfl, _, rfl, ?_, g, a, rfl⟩
    rcases c with c | c
    · rw [c]
      rfl
    · rw [c]
      rfl
  | succ k ih =>
    intro w g hk a
    have c := zlv_c (mcap e l) (mtw e) w
    refine bX11_leaves_92 l t _ _ hl (by omega) c (fun q => by exfalso; omega) (fun _ => ?_)
    refine l_X11_leaves_105 l t _ w (by omega) c hl ok (fun g1 h1 => ?_) 8 0 g (by omega) a
    refine l_X11_leaves_176 l t _ w (by omega) c hl ok hdep (fun g2 h2 => ?_) 8 0 g1 (by omega) h1
    have tw : mtw e w = g2 237 w := by
      unfold mtw
      rw [if_pos (by omega), h2.1 237 w (by decide)]
    refine bX11_leaves_279 l t _ _ _ hl (by omega) c (by omega) ?_
    have go := ih (w + 1) g2 (by omega) ⟨h2.1, fun q v q0 q1 v0 v1 => ?_, fun q q0 q1 => by omega⟩
    · have e1 : (zlv (mcap e l) (mtw e) (w + 1)).2.2 = if (zlv (mcap e l) (mtw e) w).2.2 = 0 then 0 else if zls (mcap e l w) (zlv (mcap e l) (mtw e) w).1 (mtw e w) (zlv (mcap e l) (mtw e) w).2.1 8 = mtw e w then 1 else 0 := rfl
      rw [e1, tw, show ((w + 1 : Nat) : Int) = (w : Int) + 1 by omega] at go
      rw [tw]
      exact go
    · by_cases d : v = w
      · rw [d, h2.2.2 q q0 q1, if_pos (by omega), Int.toNat_natCast]
      · exact h2.2.1 q v q0 q1 v0 (by omega)
theorem mby_in {h : zH} (i : Int) : 0 ≤ mby h i ∧ mby h i ≤ 255 := zand_le _ (by decide) (by decide)
theorem mRolled_cal {h g : zH} {u t : Int} (hb : mBase h) (hu : 0 ≤ u) (hr : mRolled h u t g) (p : Int) (n : Nat) (hn : n ≤ h 169 25) : mcal g u p n ≤ mher g p n := by
  induction n with
  | zero => exact Int.le_refl _
  | succ n ih =>
    have i1 := ih (by omega)
    unfold mcal mher at i1 ⊢
    rw [zcnt_s, zcnt_s]
    by_cases c : g 219 (60 * u + n) = 5 ∧ g 172 n = p
    · have b := mRolled_born hb hu hr n (by omega) (by omega) (by omega)
      rw [zb_t c, zb_t ⟨b.1, c.2⟩]
      omega
    · rw [zb_f c]
      have := zb01 (g 215 n ≠ 0 ∧ g 172 n = p)
      omega
theorem f_X11_leaves {X : zX} {dep : Nat} (l t : Int) {h : zH} (hb : mBase h) (ht : 0 ≤ h 169 2 ∧ h 169 2 ≤ 340) (hne : mNe h) (hdep : 7 ≤ dep) : zW mX11_leaves X dep 0 0 239 0 (zar 0 [xR 169, xI l, xI t]) [] h
    (zQI (fun v g => (mCl h l ∧ mTold h) ∧ (∃ e1 e f, zag [237] (mTk h) e1 ∧ (∀ w : Int, 0 ≤ w → w < 12 → e1 237 w = mby h w) ∧ mRolled e1 l t e ∧ mLa e l 12 0 f ∧ v = (zlv (mcap e l) (mtw e) 12).2.2 ∧ g = zst f 169 96 1) ∨ ¬ (mCl h l ∧ mTold h) ∧ v = -1 ∧ zag [237] (mTk h) g)) := by
  have hb0 := mTk_base hb
  have hl := hb.2.2.2.2.2.2.2.2.1
  have e65 : mTk h 169 65 = h 169 65 := mTk_ne _ _ (by omega)
  have e170 : ∀ i : Int, mTk h 170 i = h 170 i := fun i => mTk_ne _ _ (by omega)
  have e235 : ∀ i : Int, mTk h 235 i = h 235 i := fun i => mTk_ne _ _ (by omega)
  have no : ∀ g : zH, zag [237] (mTk h) g → ¬ (mCl h l ∧ mTold h) → zQI (fun v g => (mCl h l ∧ mTold h) ∧ (∃ e1 e f, zag [237] (mTk h) e1 ∧ (∀ w : Int, 0 ≤ w → w < 12 → e1 237 w = mby h w) ∧ mRolled e1 l t e ∧ mLa e l 12 0 f ∧ v = (zlv (mcap e l) (mtw e) 12).2.2 ∧ g = zst f 169 96 1) ∨ ¬ (mCl h l ∧ mTold h) ∧ v = -1 ∧ zag [237] (mTk h) g) 239 g [xI (-1)] := fun g hg c => ⟨rfl, _, rfl, Or.inr ⟨c, rfl, hg⟩⟩
  refine bX11_leaves_0 l t hl ht (by omega) (fun c => ?_) (fun c c1 => ?_) (fun c c1 => ?_)
  · exact no _ (zag.rf _ _) (fun z => c z.1)
  · have hl4 : 0 ≤ l ∧ l < 4 := by omega
    have main : ∀ (k : Nat) (i : Int) (g : zH), 0 ≤ i → i + k = 12 → zag [237] (mTk h) g → (∀ w : Int, 0 ≤ w → w < i → g 237 w = mby h w) → (∀ w : Int, 1 ≤ w → w < i → mby h (w - 1) ≤ mby h w) → zW mX11_leaves X dep 0 0 239 30 [(0, xR 169), (1, xI l), (2, xI t), (3, xI i)] [] g (zQI (fun v g => (mCl h l ∧ mTold h) ∧ (∃ e1 e f, zag [237] (mTk h) e1 ∧ (∀ w : Int, 0 ≤ w → w < 12 → e1 237 w = mby h w) ∧ mRolled e1 l t e ∧ mLa e l 12 0 f ∧ v = (zlv (mcap e l) (mtw e) 12).2.2 ∧ g = zst f 169 96 1) ∨ ¬ (mCl h l ∧ mTold h) ∧ v = -1 ∧ zag [237] (mTk h) g)) := by
      intro k
      induction k with
      | zero =>
        intro i g h0 hk ha hv ho
        obtain rfl : i = 12 := by omega
        refine bX11_leaves_30 l t 12 h0 (fun _ => ?_) (fun c => by exfalso; omega) (fun c => by exfalso; omega) (fun c => by exfalso; omega)
        have C : mCl h l ∧ mTold h := ⟨c, c1, ho⟩
        refine bX11_leaves_81 l t ?_
        have bg : mBase g := mBase_of (fun o ho k => ha o k (by revert o; decide)) (fun k _ => ha 169 k (by decide)) hb0
        refine rX11_leaves_84 l t (f_X11_roll l t bg (by omega) (by omega)) (by omega) (fun e he => ?_)
        have ae := mRolled_ag he
        have be : mBase e := mBase_ag ae bg
        have e237 : ∀ w : Int, 0 ≤ w → w < 12 → e 237 w = mby h w := fun w w0 w1 => by
          rw [ae 237 w (by decide)]
          exact hv w w0 w1
        have ok : mLOk e l := by
          refine ⟨be.1, fun p w p0 p1 w0 w1 => ?_, fun p p0 p1 => mRolled_cal bg c.1 he p _ ?_, fun w w0 w1 => ?_, fun w w0 w1 => ?_⟩
          · rw [ae 235 _ (by decide), ha 235 _ (by decide), e235]
            exact hne p w p0 p1 w0 w1
          · rw [ae 169 25 (by decide)]
            have := bg.1
            omega
          · rw [e237 w w0 w1]
            exact mby_in w
          · rw [e237 w w0 (by omega), e237 (w + 1) (by omega) (by omega)]
            have := ho (w + 1) (by omega) (by omega)
            rw [show w + 1 - 1 = w by omega] at this
            exact this
        refine bX11_leaves_87 l t ?_
        refine (l_X11_leaves_92 l t hl4 ok (by omega) 12 0 e (by omega) ⟨zag.rf _ _, fun q v q0 q1 v0 v1 => by omega, fun q q0 q1 => by omega⟩).weaken (fun n' h' rs hq => ?_)
        obtain ⟨q1, v, q2, q3, f, q4, q5⟩ := hq
        exact ⟨q1, v, q2, Or.inl ⟨C, g, e, f, ha, hv, he, q4, q3, q5⟩⟩
      | succ k ih =>
        intro i g h0 hk ha hv ho
        have eb : zand (g 170 i) 255 = mby h i := by
          unfold mby
          rw [ha 170 i (by decide), e170]
        have ha2 : zag [237] (mTk h) (zst g 237 i (zand (g 170 i) 255)) := ha.st (by decide) _ _
        have hv2 : ∀ w : Int, 0 ≤ w → w < i + 1 → zst g 237 i (zand (g 170 i) 255) 237 w = mby h w := fun w w0 w1 => by
          rw [zst_or]
          by_cases d : w = i
          · rw [if_pos d, d]
            exact eb
          · rw [if_neg d]
            exact hv w w0 (by omega)
        refine bX11_leaves_30 l t i h0 (fun c => by exfalso; omega) (fun c2 c3 => ?_) (fun c2 c3 c4 => ?_) (fun c2 c3 c4 => ?_)
        · exact ih (i + 1) _ (by omega) (by omega) ha2 hv2 (fun w w0 w1 => by omega)
        · rw [zst_ne (Or.inr (by omega)), hv (i - 1) (by omega) (by omega), eb] at c4
          refine ih (i + 1) _ (by omega) (by omega) ha2 hv2 (fun w w0 w1 => ?_)
          by_cases d : w = i
          · rw [d]
            exact c4
          · exact ho w w0 (by omega)
        · rw [zst_ne (Or.inr (by omega)), hv (i - 1) (by omega) (by omega), eb] at c4
          exact no _ ha2 (fun z => c4 (z.2.2 i (by omega) (by omega)))
    exact main 12 0 _ (by omega) (by omega) (zag.rf _ _) (fun w w0 w1 => by omega) (fun w w0 w1 => by omega)
  · exact no _ (zag.rf _ _) (fun z => c1 z.2.1)
