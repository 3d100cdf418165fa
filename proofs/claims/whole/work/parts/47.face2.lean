/-! the face, looking and drawing -/
set_option maxRecDepth 20000 in
theorem bX10_who_0 {X : zX} {dep bc bs : Nat} (m : Int) (t : Int) {h : zH} {Q : Nat → zH → List zV → Prop} (hdep : 1 ≤ dep)
    (k1 : 0 ≤ m ∧ m < h 3 0 → zW mX10_who X dep bc bs 239 15 [(0, xR 0), (1, xI m), (2, xI t)] [xI t, xR 3] h Q)
    (k2 : ¬ (0 ≤ m ∧ m < h 3 0) → Q 239 h [xI (-1)]) : zW mX10_who X dep bc bs 239 0 [(0, xR 0), (1, xI m), (2, xI t)] [] h Q := by
  refine z_aload_n 0 dX10_who_0 rfl ?_
  refine z_iload_n 1 dX10_who_1 rfl ?_
  refine z_invF (ci := 10) (N := 17) (as := [xI m]) (st := []) (ra := [xI m]) (dep' := dep - 1) (rs := [xI (zb (0 ≤ m ∧ m < h 3 0))]) (h' := h) (f_X10_isMan m (h := h) ) dX10_who_2 nX10_isMan zb_559 zb_561 zb_0 zb_82 (zOb.lit (by decide +kernel)) rfl (by omega) zne_I (Nat.le_of_ble_eq_true rfl) (Nat.le_of_ble_eq_true rfl) rfl ?_
  refine z_ifB_ne (C := 0 ≤ m ∧ m < h 3 0) (tgt := 10) dX10_who_5 (by decide) (fun c1 => ?_) (fun c1 => ?_)
  ·
    refine z_aload_n 0 dX10_who_10 rfl ?_
    refine z_getS (v := 3) (k := 1) (kz := 1) pk10 dX10_who_11 (by decide) zb_458 rfl (zOb.lit (by decide +kernel)) rfl (by decide +kernel) ?_
    refine z_iload_n 2 dX10_who_14 rfl ?_
    exact k1 c1
  ·
    refine z_iconst dX10_who_8 (zi32_d rfl) ?_
    exact z_iret dX10_who_9 rfl (k2 c1)

set_option maxRecDepth 20000 in
theorem rX10_who_15 {X : zX} {dep bc bs : Nat} (m : Int) (t : Int) {h : zH} {Q : Nat → zH → List zV → Prop} {P : zH → Prop}
    (hZ : zW mX4_look X (dep - 1) 0 0 239 0 (zar 0 [xR 3, xI t]) [] h (zQ0 P)) (hdep : 1 ≤ dep)
    (k : ∀ g : zH, P g → zW mX10_who X dep bc bs 239 18 [(0, xR 0), (1, xI m), (2, xI t)] [] g Q) : zW mX10_who X dep bc bs 239 15 [(0, xR 0), (1, xI m), (2, xI t)] [xI t, xR 3] h Q :=
  z_invQ0 (ci := 4) (N := 17) (as := [xI t]) (st := []) (ra := [xI t]) hZ dX10_who_15 nX4_look zb_817 zb_818 zb_819 zb_84 (zOb.lit (by decide +kernel)) rfl (by omega) (Nat.le_of_ble_eq_true rfl) (Nat.le_of_ble_eq_true rfl) rfl (fun g hg => k g hg)

set_option maxRecDepth 20000 in
theorem bX10_who_18 {X : zX} {dep bc bs : Nat} (m : Int) (t : Int) {h : zH} {Q : Nat → zH → List zV → Prop} (hm : 0 ≤ m ∧ m < 60)
    (k1 : Q 239 h [xI (h 17 m)]) : zW mX10_who X dep bc bs 239 18 [(0, xR 0), (1, xI m), (2, xI t)] [] h Q := by
  refine z_aload_n 0 dX10_who_18 rfl ?_
  refine z_getS (v := 3) (k := 1) (kz := 1) pk10 dX10_who_19 (by decide) zb_458 rfl (zOb.lit (by decide +kernel)) rfl (by decide +kernel) ?_
  refine z_getS (v := 17) (k := 10) (kz := 10) pk4 dX10_who_22 (by decide) zb_178 rfl (zOb.lit (by decide +kernel)) rfl (by decide +kernel) ?_
  refine z_iload_n 1 dX10_who_25 rfl ?_
  refine z_iald dX10_who_26 (zOb.lit (by decide +kernel)) hm.1 hm.2 ?_
  exact z_iret dX10_who_27 rfl (k1)

set_option maxRecDepth 20000 in
theorem bX10_age_0 {X : zX} {dep bc bs : Nat} (m : Int) (d : Int) (t : Int) {h : zH} {Q : Nat → zH → List zV → Prop} (hdep : 1 ≤ dep)
    (k1 : ¬ (0 ≤ m ∧ m < h 3 0) → Q 239 h [xI (-1)])
    (k2 : 0 ≤ m ∧ m < h 3 0 → 0 ≤ d ∧ d ≤ 3639 → zW mX10_age X dep bc bs 239 22 [(0, xR 0), (1, xI m), (2, xI d), (3, xI t)] [xI t, xR 3] h Q)
    (k3 : 0 ≤ m ∧ m < h 3 0 → ¬ (0 ≤ d ∧ d ≤ 3639) → Q 239 h [xI (-1)]) : zW mX10_age X dep bc bs 239 0 [(0, xR 0), (1, xI m), (2, xI d), (3, xI t)] [] h Q := by
  refine z_aload_n 0 dX10_age_0 rfl ?_
  refine z_iload_n 1 dX10_age_1 rfl ?_
  refine z_invF (ci := 10) (N := 17) (as := [xI m]) (st := []) (ra := [xI m]) (dep' := dep - 1) (rs := [xI (zb (0 ≤ m ∧ m < h 3 0))]) (h' := h) (f_X10_isMan m (h := h) ) dX10_age_2 nX10_isMan zb_559 zb_561 zb_0 zb_82 (zOb.lit (by decide +kernel)) rfl (by omega) zne_I (Nat.le_of_ble_eq_true rfl) (Nat.le_of_ble_eq_true rfl) rfl ?_
  refine z_ifB_eq (C := 0 ≤ m ∧ m < h 3 0) (tgt := 15) dX10_age_5 (by decide) (fun c1 => ?_) (fun c1 => ?_)
  ·
    refine z_iconst dX10_age_15 (zi32_d rfl) ?_
    exact z_iret dX10_age_16 rfl (k1 c1)
  ·
    refine z_iload_n 2 dX10_age_8 rfl ?_
    refine z_invSF (as := [xI d]) (st := []) (ra := [xI d]) (dep' := dep - 1) (rs := [xI (zb (0 ≤ d ∧ d ≤ 3639))]) (h' := h) (f_X10_isDay d (h := h) ) dX10_age_9 nX10_isDay zb_525 zb_526 zb_82 (by omega) zne_I (Nat.le_of_ble_eq_true rfl) (Nat.le_of_ble_eq_true rfl) rfl ?_
    refine z_ifB_ne (C := 0 ≤ d ∧ d ≤ 3639) (tgt := 17) dX10_age_12 (by decide) (fun c2 => ?_) (fun c2 => ?_)
    ·
      refine z_aload_n 0 dX10_age_17 rfl ?_
      refine z_getS (v := 3) (k := 1) (kz := 1) pk10 dX10_age_18 (by decide) zb_458 rfl (zOb.lit (by decide +kernel)) rfl (by decide +kernel) ?_
      refine z_iload_n 3 dX10_age_21 rfl ?_
      exact k2 c1 c2
    ·
      refine z_iconst dX10_age_15 (zi32_d rfl) ?_
      exact z_iret dX10_age_16 rfl (k3 c1 c2)

set_option maxRecDepth 20000 in
theorem rX10_age_22 {X : zX} {dep bc bs : Nat} (m : Int) (d : Int) (t : Int) {h : zH} {Q : Nat → zH → List zV → Prop} {P : zH → Prop}
    (hZ : zW mX4_look X (dep - 1) 0 0 239 0 (zar 0 [xR 3, xI t]) [] h (zQ0 P)) (hdep : 1 ≤ dep)
    (k : ∀ g : zH, P g → zW mX10_age X dep bc bs 239 25 [(0, xR 0), (1, xI m), (2, xI d), (3, xI t)] [] g Q) : zW mX10_age X dep bc bs 239 22 [(0, xR 0), (1, xI m), (2, xI d), (3, xI t)] [xI t, xR 3] h Q :=
  z_invQ0 (ci := 4) (N := 17) (as := [xI t]) (st := []) (ra := [xI t]) hZ dX10_age_22 nX4_look zb_817 zb_818 zb_819 zb_84 (zOb.lit (by decide +kernel)) rfl (by omega) (Nat.le_of_ble_eq_true rfl) (Nat.le_of_ble_eq_true rfl) rfl (fun g hg => k g hg)

set_option maxRecDepth 20000 in
theorem bX10_age_25 {X : zX} {dep bc bs : Nat} (m : Int) (d : Int) (t : Int) {h : zH} {Q : Nat → zH → List zV → Prop} (hm : 0 ≤ m ∧ m < 60) (hd : 0 ≤ d ∧ d ≤ 3639) (hw : -3120 ≤ h 19 m ∧ h 19 m < 520) (hdep : 1 ≤ dep)
    (k1 : (h 18 m) = 0 → Q 239 h [xI (-1)])
    (k2 : ¬ ((h 18 m) = 0) → Q 239 h [xI (zage (h 19 m) d)]) : zW mX10_age X dep bc bs 239 25 [(0, xR 0), (1, xI m), (2, xI d), (3, xI t)] [] h Q := by
  refine z_aload_n 0 dX10_age_25 rfl ?_
  refine z_getS (v := 3) (k := 1) (kz := 1) pk10 dX10_age_26 (by decide) zb_458 rfl (zOb.lit (by decide +kernel)) rfl (by decide +kernel) ?_
  refine z_getS (v := 18) (k := 11) (kz := 11) pk4 dX10_age_29 (by decide) zb_180 rfl (zOb.lit (by decide +kernel)) rfl (by decide +kernel) ?_
  refine z_iload_n 1 dX10_age_32 rfl ?_
  refine z_zald dX10_age_33 (zOb.lit (by decide +kernel)) hm.1 hm.2 ?_
  refine z_if_eq (tgt := 49) dX10_age_34 (by decide) (fun c1 => ?_) (fun c1 => ?_)
  ·
    refine z_iconst dX10_age_49 (zi32_d rfl) ?_
    exact z_iret dX10_age_50 rfl (k1 c1)
  ·
    refine z_aload_n 0 dX10_age_37 rfl ?_
    refine z_getS (v := 3) (k := 1) (kz := 1) pk10 dX10_age_38 (by decide) zb_458 rfl (zOb.lit (by decide +kernel)) rfl (by decide +kernel) ?_
    refine z_iload_n 1 dX10_age_41 rfl ?_
    refine z_iload_n 2 dX10_age_42 rfl ?_
    refine z_invF (ci := 4) (N := 17) (as := [xI m, xI d]) (st := []) (ra := [xI d, xI m]) (dep' := dep - 1) (rs := [xI (zage (h 19 m) d)]) (h' := h) (f_X4_ageOn m d (h := h) hm hd hw) dX10_age_43 nX4_ageOn zb_849 zb_850 zb_851 zb_84 (zOb.lit (by decide +kernel)) rfl (by omega) zne_I (Nat.le_of_ble_eq_true rfl) (Nat.le_of_ble_eq_true rfl) rfl ?_
    refine z_goto (tgt := 50) dX10_age_46 (by decide) ?_
    exact z_iret dX10_age_50 rfl (k2 c1)

set_option maxRecDepth 20000 in
theorem bX10_brothers_0 {X : zX} {dep bc bs : Nat} (m : Int) (t : Int) {h : zH} {Q : Nat → zH → List zV → Prop} (hdep : 1 ≤ dep)
    (k1 : 0 ≤ m ∧ m < h 3 0 → zW mX10_brothers X dep bc bs 239 15 [(0, xR 0), (1, xI m), (2, xI t)] [xI t, xR 3] h Q)
    (k2 : ¬ (0 ≤ m ∧ m < h 3 0) → Q 239 h [xI (-1)]) : zW mX10_brothers X dep bc bs 239 0 [(0, xR 0), (1, xI m), (2, xI t)] [] h Q := by
  refine z_aload_n 0 dX10_brothers_0 rfl ?_
  refine z_iload_n 1 dX10_brothers_1 rfl ?_
  refine z_invF (ci := 10) (N := 17) (as := [xI m]) (st := []) (ra := [xI m]) (dep' := dep - 1) (rs := [xI (zb (0 ≤ m ∧ m < h 3 0))]) (h' := h) (f_X10_isMan m (h := h) ) dX10_brothers_2 nX10_isMan zb_559 zb_561 zb_0 zb_82 (zOb.lit (by decide +kernel)) rfl (by omega) zne_I (Nat.le_of_ble_eq_true rfl) (Nat.le_of_ble_eq_true rfl) rfl ?_
  refine z_ifB_ne (C := 0 ≤ m ∧ m < h 3 0) (tgt := 10) dX10_brothers_5 (by decide) (fun c1 => ?_) (fun c1 => ?_)
  ·
    refine z_aload_n 0 dX10_brothers_10 rfl ?_
    refine z_getS (v := 3) (k := 1) (kz := 1) pk10 dX10_brothers_11 (by decide) zb_458 rfl (zOb.lit (by decide +kernel)) rfl (by decide +kernel) ?_
    refine z_iload_n 2 dX10_brothers_14 rfl ?_
    exact k1 c1
  ·
    refine z_iconst dX10_brothers_8 (zi32_d rfl) ?_
    exact z_iret dX10_brothers_9 rfl (k2 c1)

set_option maxRecDepth 20000 in
theorem rX10_brothers_15 {X : zX} {dep bc bs : Nat} (m : Int) (t : Int) {h : zH} {Q : Nat → zH → List zV → Prop} {P : zH → Prop}
    (hZ : zW mX4_look X (dep - 1) 0 0 239 0 (zar 0 [xR 3, xI t]) [] h (zQ0 P)) (hdep : 1 ≤ dep)
    (k : ∀ g : zH, P g → zW mX10_brothers X dep bc bs 239 18 [(0, xR 0), (1, xI m), (2, xI t)] [] g Q) : zW mX10_brothers X dep bc bs 239 15 [(0, xR 0), (1, xI m), (2, xI t)] [xI t, xR 3] h Q :=
  z_invQ0 (ci := 4) (N := 17) (as := [xI t]) (st := []) (ra := [xI t]) hZ dX10_brothers_15 nX4_look zb_817 zb_818 zb_819 zb_84 (zOb.lit (by decide +kernel)) rfl (by omega) (Nat.le_of_ble_eq_true rfl) (Nat.le_of_ble_eq_true rfl) rfl (fun g hg => k g hg)

set_option maxRecDepth 20000 in
theorem bX10_brothers_18 {X : zX} {dep bc bs : Nat} (m : Int) (t : Int) {h : zH} {Q : Nat → zH → List zV → Prop} (hm : 0 ≤ m ∧ m < 60) (hf : 0 ≤ h 5 m ∧ h 5 m < 60) (hs : 0 ≤ h 21 (h 5 m) ∧ h 21 (h 5 m) ≤ 60) (hdep : 1 ≤ dep)
    (k1 : (h 20 m) = 0 → Q 239 h [xI (-1)])
    (k2 : ¬ ((h 20 m) = 0) → Q 239 h [xI (h 21 (h 5 m) - 1)]) : zW mX10_brothers X dep bc bs 239 18 [(0, xR 0), (1, xI m), (2, xI t)] [] h Q := by
  refine z_aload_n 0 dX10_brothers_18 rfl ?_
  refine z_getS (v := 3) (k := 1) (kz := 1) pk10 dX10_brothers_19 (by decide) zb_458 rfl (zOb.lit (by decide +kernel)) rfl (by decide +kernel) ?_
  refine z_getS (v := 20) (k := 13) (kz := 13) pk4 dX10_brothers_22 (by decide) zb_185 rfl (zOb.lit (by decide +kernel)) rfl (by decide +kernel) ?_
  refine z_iload_n 1 dX10_brothers_25 rfl ?_
  refine z_zald dX10_brothers_26 (zOb.lit (by decide +kernel)) hm.1 hm.2 ?_
  refine z_if_eq (tgt := 41) dX10_brothers_27 (by decide) (fun c1 => ?_) (fun c1 => ?_)
  ·
    refine z_iconst dX10_brothers_41 (zi32_d rfl) ?_
    exact z_iret dX10_brothers_42 rfl (k1 c1)
  ·
    refine z_aload_n 0 dX10_brothers_30 rfl ?_
    refine z_getS (v := 3) (k := 1) (kz := 1) pk10 dX10_brothers_31 (by decide) zb_458 rfl (zOb.lit (by decide +kernel)) rfl (by decide +kernel) ?_
    refine z_iload_n 1 dX10_brothers_34 rfl ?_
    refine z_invF (ci := 4) (N := 17) (as := [xI m]) (st := []) (ra := [xI m]) (dep' := dep - 1) (rs := [xI (h 21 (h 5 m) - 1)]) (h' := h) (f_X4_brothersOf m (h := h) hm hf hs) dX10_brothers_35 nX4_brothersOf zb_857 zb_858 zb_859 zb_84 (zOb.lit (by decide +kernel)) rfl (by omega) zne_I (Nat.le_of_ble_eq_true rfl) (Nat.le_of_ble_eq_true rfl) rfl ?_
    refine z_goto (tgt := 42) dX10_brothers_38 (by decide) ?_
    exact z_iret dX10_brothers_42 rfl (k2 c1)

set_option maxRecDepth 20000 in
theorem bX10_state_0 {X : zX} {dep bc bs : Nat} (l : Int) (m : Int) (t : Int) {h : zH} {Q : Nat → zH → List zV → Prop} (hdep : 1 ≤ dep)
    (k1 : ¬ (0 ≤ l ∧ l < h 0 12) → Q 239 h [xI (-1)])
    (k2 : 0 ≤ l ∧ l < h 0 12 → 0 ≤ m ∧ m < h 3 0 → zW mX10_state X dep bc bs 239 21 [(0, xR 0), (1, xI l), (2, xI m), (3, xI t)] [xI t, xI l, xR 0] h Q)
    (k3 : 0 ≤ l ∧ l < h 0 12 → ¬ (0 ≤ m ∧ m < h 3 0) → Q 239 h [xI (-1)]) : zW mX10_state X dep bc bs 239 0 [(0, xR 0), (1, xI l), (2, xI m), (3, xI t)] [] h Q := by
  refine z_aload_n 0 dX10_state_0 rfl ?_
  refine z_iload_n 1 dX10_state_1 rfl ?_
  refine z_invF (ci := 10) (N := 17) (as := [xI l]) (st := []) (ra := [xI l]) (dep' := dep - 1) (rs := [xI (zb (0 ≤ l ∧ l < h 0 12))]) (h' := h) (f_X10_isLot l (h := h) ) dX10_state_2 nX10_isLot zb_782 zb_784 zb_17 zb_82 (zOb.lit (by decide +kernel)) rfl (by omega) zne_I (Nat.le_of_ble_eq_true rfl) (Nat.le_of_ble_eq_true rfl) rfl ?_
  refine z_ifB_eq (C := 0 ≤ l ∧ l < h 0 12) (tgt := 16) dX10_state_5 (by decide) (fun c1 => ?_) (fun c1 => ?_)
  ·
    refine z_iconst dX10_state_16 (zi32_d rfl) ?_
    exact z_iret dX10_state_17 rfl (k1 c1)
  ·
    refine z_aload_n 0 dX10_state_8 rfl ?_
    refine z_iload_n 2 dX10_state_9 rfl ?_
    refine z_invF (ci := 10) (N := 17) (as := [xI m]) (st := []) (ra := [xI m]) (dep' := dep - 1) (rs := [xI (zb (0 ≤ m ∧ m < h 3 0))]) (h' := h) (f_X10_isMan m (h := h) ) dX10_state_10 nX10_isMan zb_559 zb_561 zb_0 zb_82 (zOb.lit (by decide +kernel)) rfl (by omega) zne_I (Nat.le_of_ble_eq_true rfl) (Nat.le_of_ble_eq_true rfl) rfl ?_
    refine z_ifB_ne (C := 0 ≤ m ∧ m < h 3 0) (tgt := 18) dX10_state_13 (by decide) (fun c2 => ?_) (fun c2 => ?_)
    ·
      refine z_aload_n 0 dX10_state_18 rfl ?_
      refine z_iload_n 1 dX10_state_19 rfl ?_
      refine z_iload_n 3 dX10_state_20 rfl ?_
      exact k2 c1 c2
    ·
      refine z_iconst dX10_state_16 (zi32_d rfl) ?_
      exact z_iret dX10_state_17 rfl (k3 c1 c2)

set_option maxRecDepth 20000 in
theorem rX10_state_21 {X : zX} {dep bc bs : Nat} (l : Int) (m : Int) (t : Int) {h : zH} {Q : Nat → zH → List zV → Prop} {P : Int → zH → Prop}
    (hZ : zW mX10_rollAsOf X (dep - 1) 0 0 239 0 (zar 0 [xR 0, xI l, xI t]) [] h (zQR P)) (hdep : 1 ≤ dep)
    (k : ∀ (v : Int) (g : zH), P v g → zW mX10_state X dep bc bs 239 24 [(0, xR 0), (1, xI l), (2, xI m), (3, xI t)] [xR v] g Q) : zW mX10_state X dep bc bs 239 21 [(0, xR 0), (1, xI l), (2, xI m), (3, xI t)] [xI t, xI l, xR 0] h Q :=
  z_invQR (ci := 10) (N := 17) (as := [xI l, xI t]) (st := []) (ra := [xI t, xI l]) hZ dX10_state_21 nX10_rollAsOf zb_865 zb_867 zb_20 zb_82 (zOb.lit (by decide +kernel)) rfl (by omega) (Nat.le_of_ble_eq_true rfl) (Nat.le_of_ble_eq_true rfl) rfl (fun v g hg => k v g hg)

set_option maxRecDepth 20000 in
theorem bX10_state_24 {X : zX} {dep bc bs : Nat} (l : Int) (m : Int) (t : Int) {h : zH} {Q : Nat → zH → List zV → Prop} (hl : 0 ≤ l ∧ l < 4) (hm : 0 ≤ m ∧ m < 60)
    (k1 : Q 239 (zst h 0 14 (h ((113 + 14 * l) + 6) m)) [xI ((zst h 0 14 (h ((113 + 14 * l) + 6) m)) ((113 + 14 * l) + 5) m)]) : zW mX10_state X dep bc bs 239 24 [(0, xR 0), (1, xI l), (2, xI m), (3, xI t)] [xR (113 + 14 * l)] h Q := by
  refine z_astore (lv' := [(4, xR (113 + 14 * l)), (0, xR 0), (1, xI l), (2, xI m), (3, xI t)]) dX10_state_24 (by decide) rfl ?_
  refine z_aload_n 1 dX10_state_26 rfl ?_
  refine z_aload 0 dX10_state_27 rfl ?_
  refine z_getS (v := ((113 + 14 * l) + 6)) (k := 4) (kz := 4) pk6 dX10_state_29 (by decide) zb_417 rfl (zRollO_rolls hl.1 hl.2).1 rfl (zRollO_rolls hl.1 hl.2).2.2.2.2.2.2.2.2.2.2.2.2.2.2.2.2.2.1 ?_
  refine z_iload_n 3 dX10_state_32 rfl ?_
  refine z_iald dX10_state_33 (zRollO_rolls hl.1 hl.2).2.2.2.2.2.2.1 hm.1 hm.2 ?_
  refine z_putI (k := 14) (kz := 14) pk10 dX10_state_34 (by decide) zb_471 rfl (zFit_int _) (zOb.lit (by decide +kernel)) rfl ?_
  refine z_aload 0 dX10_state_37 rfl ?_
  refine z_getS (v := ((113 + 14 * l) + 5)) (k := 3) (kz := 3) pk6 dX10_state_39 (by decide) zb_415 rfl (zRollO_rolls hl.1 hl.2).1 rfl (zRollO_rolls hl.1 hl.2).2.2.2.2.2.2.2.2.2.2.2.2.2.2.2.2.1 ?_
  refine z_iload_n 3 dX10_state_42 rfl ?_
  refine z_iald dX10_state_43 (zRollO_rolls hl.1 hl.2).2.2.2.2.2.1 hm.1 hm.2 ?_
  exact z_iret dX10_state_44 rfl (k1)

set_option maxRecDepth 20000 in
theorem bX10_place_0 {X : zX} {dep bc bs : Nat} (l : Int) (m : Int) (t : Int) {h : zH} {Q : Nat → zH → List zV → Prop} (hdep : 1 ≤ dep)
    (k1 : ¬ (0 ≤ l ∧ l < h 0 12) → Q 239 h [xI (-1)])
    (k2 : 0 ≤ l ∧ l < h 0 12 → 0 ≤ m ∧ m < h 3 0 → zW mX10_place X dep bc bs 239 21 [(0, xR 0), (1, xI l), (2, xI m), (3, xI t)] [xI t, xI l, xR 0] h Q)
    (k3 : 0 ≤ l ∧ l < h 0 12 → ¬ (0 ≤ m ∧ m < h 3 0) → Q 239 h [xI (-1)]) : zW mX10_place X dep bc bs 239 0 [(0, xR 0), (1, xI l), (2, xI m), (3, xI t)] [] h Q := by
  refine z_aload_n 0 dX10_place_0 rfl ?_
  refine z_iload_n 1 dX10_place_1 rfl ?_
  refine z_invF (ci := 10) (N := 17) (as := [xI l]) (st := []) (ra := [xI l]) (dep' := dep - 1) (rs := [xI (zb (0 ≤ l ∧ l < h 0 12))]) (h' := h) (f_X10_isLot l (h := h) ) dX10_place_2 nX10_isLot zb_782 zb_784 zb_17 zb_82 (zOb.lit (by decide +kernel)) rfl (by omega) zne_I (Nat.le_of_ble_eq_true rfl) (Nat.le_of_ble_eq_true rfl) rfl ?_
  refine z_ifB_eq (C := 0 ≤ l ∧ l < h 0 12) (tgt := 16) dX10_place_5 (by decide) (fun c1 => ?_) (fun c1 => ?_)
  ·
    refine z_iconst dX10_place_16 (zi32_d rfl) ?_
    exact z_iret dX10_place_17 rfl (k1 c1)
  ·
    refine z_aload_n 0 dX10_place_8 rfl ?_
    refine z_iload_n 2 dX10_place_9 rfl ?_
    refine z_invF (ci := 10) (N := 17) (as := [xI m]) (st := []) (ra := [xI m]) (dep' := dep - 1) (rs := [xI (zb (0 ≤ m ∧ m < h 3 0))]) (h' := h) (f_X10_isMan m (h := h) ) dX10_place_10 nX10_isMan zb_559 zb_561 zb_0 zb_82 (zOb.lit (by decide +kernel)) rfl (by omega) zne_I (Nat.le_of_ble_eq_true rfl) (Nat.le_of_ble_eq_true rfl) rfl ?_
    refine z_ifB_ne (C := 0 ≤ m ∧ m < h 3 0) (tgt := 18) dX10_place_13 (by decide) (fun c2 => ?_) (fun c2 => ?_)
    ·
      refine z_aload_n 0 dX10_place_18 rfl ?_
      refine z_iload_n 1 dX10_place_19 rfl ?_
      refine z_iload_n 3 dX10_place_20 rfl ?_
      exact k2 c1 c2
    ·
      refine z_iconst dX10_place_16 (zi32_d rfl) ?_
      exact z_iret dX10_place_17 rfl (k3 c1 c2)

set_option maxRecDepth 20000 in
theorem rX10_place_21 {X : zX} {dep bc bs : Nat} (l : Int) (m : Int) (t : Int) {h : zH} {Q : Nat → zH → List zV → Prop} {P : Int → zH → Prop}
    (hZ : zW mX10_rollAsOf X (dep - 1) 0 0 239 0 (zar 0 [xR 0, xI l, xI t]) [] h (zQR P)) (hdep : 1 ≤ dep)
    (k : ∀ (v : Int) (g : zH), P v g → zW mX10_place X dep bc bs 239 24 [(0, xR 0), (1, xI l), (2, xI m), (3, xI t)] [xR v] g Q) : zW mX10_place X dep bc bs 239 21 [(0, xR 0), (1, xI l), (2, xI m), (3, xI t)] [xI t, xI l, xR 0] h Q :=
  z_invQR (ci := 10) (N := 17) (as := [xI l, xI t]) (st := []) (ra := [xI t, xI l]) hZ dX10_place_21 nX10_rollAsOf zb_865 zb_867 zb_20 zb_82 (zOb.lit (by decide +kernel)) rfl (by omega) (Nat.le_of_ble_eq_true rfl) (Nat.le_of_ble_eq_true rfl) rfl (fun v g hg => k v g hg)

set_option maxRecDepth 20000 in
theorem bX10_place_24 {X : zX} {dep bc bs : Nat} (l : Int) (m : Int) (t : Int) {h : zH} {Q : Nat → zH → List zV → Prop} (hl : 0 ≤ l ∧ l < 4) (hm : 0 ≤ m ∧ m < 60) (hdep : 1 ≤ dep)
    (k1 : ¬ (h ((113 + 14 * l) + 5) m = 4 ∨ h ((113 + 14 * l) + 5) m = 5) → Q 239 h [xI (-1)])
    (k2 : h ((113 + 14 * l) + 5) m = 4 ∨ h ((113 + 14 * l) + 5) m = 5 → Q 239 h [xI (h ((113 + 14 * l) + 8) m)]) : zW mX10_place X dep bc bs 239 24 [(0, xR 0), (1, xI l), (2, xI m), (3, xI t)] [xR (113 + 14 * l)] h Q := by
  refine z_astore (lv' := [(4, xR (113 + 14 * l)), (0, xR 0), (1, xI l), (2, xI m), (3, xI t)]) dX10_place_24 (by decide) rfl ?_
  refine z_aload 0 dX10_place_26 rfl ?_
  refine z_iload_n 3 dX10_place_28 rfl ?_
  refine z_invF (ci := 6) (N := 13) (as := [xI m]) (st := []) (ra := [xI m]) (dep' := dep - 1) (rs := [xI (zb (h ((113 + 14 * l) + 5) m = 4 ∨ h ((113 + 14 * l) + 5) m = 5))]) (h' := h) (f_X6_isListed (113 + 14 * l) m (h := h) (zRollO_rolls hl.1 hl.2) hm) dX10_place_29 nX6_isListed zb_966 zb_931 zb_932 zb_90 (zRollO_rolls hl.1 hl.2).1 rfl (by omega) zne_I (Nat.le_of_ble_eq_true rfl) (Nat.le_of_ble_eq_true rfl) rfl ?_
  refine z_ifB_eq (C := h ((113 + 14 * l) + 5) m = 4 ∨ h ((113 + 14 * l) + 5) m = 5) (tgt := 45) dX10_place_32 (by decide) (fun c1 => ?_) (fun c1 => ?_)
  ·
    refine z_iconst dX10_place_45 (zi32_d rfl) ?_
    exact z_iret dX10_place_46 rfl (k1 c1)
  ·
    refine z_aload 0 dX10_place_35 rfl ?_
    refine z_getS (v := ((113 + 14 * l) + 8)) (k := 6) (kz := 6) pk6 dX10_place_37 (by decide) zb_420 rfl (zRollO_rolls hl.1 hl.2).1 rfl (zRollO_rolls hl.1 hl.2).2.2.2.2.2.2.2.2.2.2.2.2.2.2.2.2.2.2.2.1 ?_
    refine z_iload_n 3 dX10_place_40 rfl ?_
    refine z_iald dX10_place_41 (zRollO_rolls hl.1 hl.2).2.2.2.2.2.2.2.2.1 hm.1 hm.2 ?_
    refine z_goto (tgt := 46) dX10_place_42 (by decide) ?_
    exact z_iret dX10_place_46 rfl (k2 c1)

set_option maxRecDepth 20000 in
theorem bX10_serves_0 {X : zX} {dep bc bs : Nat} (l : Int) (m : Int) (t : Int) {h : zH} {Q : Nat → zH → List zV → Prop} (hdep : 1 ≤ dep)
    (k1 : ¬ (0 ≤ l ∧ l < h 0 12) → Q 239 h [xI (-1)])
    (k2 : 0 ≤ l ∧ l < h 0 12 → 0 ≤ m ∧ m < h 3 0 → zW mX10_serves X dep bc bs 239 21 [(0, xR 0), (1, xI l), (2, xI m), (3, xI t)] [xI t, xI l, xR 0] h Q)
    (k3 : 0 ≤ l ∧ l < h 0 12 → ¬ (0 ≤ m ∧ m < h 3 0) → Q 239 h [xI (-1)]) : zW mX10_serves X dep bc bs 239 0 [(0, xR 0), (1, xI l), (2, xI m), (3, xI t)] [] h Q := by
  refine z_aload_n 0 dX10_serves_0 rfl ?_
  refine z_iload_n 1 dX10_serves_1 rfl ?_
  refine z_invF (ci := 10) (N := 17) (as := [xI l]) (st := []) (ra := [xI l]) (dep' := dep - 1) (rs := [xI (zb (0 ≤ l ∧ l < h 0 12))]) (h' := h) (f_X10_isLot l (h := h) ) dX10_serves_2 nX10_isLot zb_782 zb_784 zb_17 zb_82 (zOb.lit (by decide +kernel)) rfl (by omega) zne_I (Nat.le_of_ble_eq_true rfl) (Nat.le_of_ble_eq_true rfl) rfl ?_
  refine z_ifB_eq (C := 0 ≤ l ∧ l < h 0 12) (tgt := 16) dX10_serves_5 (by decide) (fun c1 => ?_) (fun c1 => ?_)
  ·
    refine z_iconst dX10_serves_16 (zi32_d rfl) ?_
    exact z_iret dX10_serves_17 rfl (k1 c1)
  ·
    refine z_aload_n 0 dX10_serves_8 rfl ?_
    refine z_iload_n 2 dX10_serves_9 rfl ?_
    refine z_invF (ci := 10) (N := 17) (as := [xI m]) (st := []) (ra := [xI m]) (dep' := dep - 1) (rs := [xI (zb (0 ≤ m ∧ m < h 3 0))]) (h' := h) (f_X10_isMan m (h := h) ) dX10_serves_10 nX10_isMan zb_559 zb_561 zb_0 zb_82 (zOb.lit (by decide +kernel)) rfl (by omega) zne_I (Nat.le_of_ble_eq_true rfl) (Nat.le_of_ble_eq_true rfl) rfl ?_
    refine z_ifB_ne (C := 0 ≤ m ∧ m < h 3 0) (tgt := 18) dX10_serves_13 (by decide) (fun c2 => ?_) (fun c2 => ?_)
    ·
      refine z_aload_n 0 dX10_serves_18 rfl ?_
      refine z_iload_n 1 dX10_serves_19 rfl ?_
      refine z_iload_n 3 dX10_serves_20 rfl ?_
      exact k2 c1 c2
    ·
      refine z_iconst dX10_serves_16 (zi32_d rfl) ?_
      exact z_iret dX10_serves_17 rfl (k3 c1 c2)

set_option maxRecDepth 20000 in
theorem rX10_serves_21 {X : zX} {dep bc bs : Nat} (l : Int) (m : Int) (t : Int) {h : zH} {Q : Nat → zH → List zV → Prop} {P : Int → zH → Prop}
    (hZ : zW mX10_rollAsOf X (dep - 1) 0 0 239 0 (zar 0 [xR 0, xI l, xI t]) [] h (zQR P)) (hdep : 1 ≤ dep)
    (k : ∀ (v : Int) (g : zH), P v g → zW mX10_serves X dep bc bs 239 24 [(0, xR 0), (1, xI l), (2, xI m), (3, xI t)] [xR v] g Q) : zW mX10_serves X dep bc bs 239 21 [(0, xR 0), (1, xI l), (2, xI m), (3, xI t)] [xI t, xI l, xR 0] h Q :=
  z_invQR (ci := 10) (N := 17) (as := [xI l, xI t]) (st := []) (ra := [xI t, xI l]) hZ dX10_serves_21 nX10_rollAsOf zb_865 zb_867 zb_20 zb_82 (zOb.lit (by decide +kernel)) rfl (by omega) (Nat.le_of_ble_eq_true rfl) (Nat.le_of_ble_eq_true rfl) rfl (fun v g hg => k v g hg)

set_option maxRecDepth 20000 in
theorem bX10_serves_24 {X : zX} {dep bc bs : Nat} (l : Int) (m : Int) (t : Int) {h : zH} {Q : Nat → zH → List zV → Prop} (hl : 0 ≤ l ∧ l < 4) (hm : 0 ≤ m ∧ m < 60) (hs : ∀ q : Int, 0 ≤ q → q < 60 → -1 ≤ h ((113 + 14 * l) + 12) q ∧ h ((113 + 14 * l) + 12) q < 60) (hdep : 1 ≤ dep)
    (k1 : ¬ (h ((113 + 14 * l) + 5) m) = 5 → Q 239 h [xI (-1)])
    (k2 : (h ((113 + 14 * l) + 5) m) = 5 → Q 239 h [xI (zchain h ((113 + 14 * l) + 12) 60 m)]) : zW mX10_serves X dep bc bs 239 24 [(0, xR 0), (1, xI l), (2, xI m), (3, xI t)] [xR (113 + 14 * l)] h Q := by
  refine z_astore (lv' := [(4, xR (113 + 14 * l)), (0, xR 0), (1, xI l), (2, xI m), (3, xI t)]) dX10_serves_24 (by decide) rfl ?_
  refine z_aload 0 dX10_serves_26 rfl ?_
  refine z_getS (v := ((113 + 14 * l) + 5)) (k := 3) (kz := 3) pk6 dX10_serves_28 (by decide) zb_415 rfl (zRollO_rolls hl.1 hl.2).1 rfl (zRollO_rolls hl.1 hl.2).2.2.2.2.2.2.2.2.2.2.2.2.2.2.2.2.1 ?_
  refine z_iload_n 3 dX10_serves_31 rfl ?_
  refine z_iald dX10_serves_32 (zRollO_rolls hl.1 hl.2).2.2.2.2.2.1 hm.1 hm.2 ?_
  refine z_iconst dX10_serves_33 (zi32_d rfl) ?_
  refine z_icmp_ne (tgt := 46) dX10_serves_34 (by decide) (fun c1 => ?_) (fun c1 => ?_)
  ·
    refine z_iconst dX10_serves_46 (zi32_d rfl) ?_
    exact z_iret dX10_serves_47 rfl (k1 c1)
  ·
    refine z_aload 0 dX10_serves_37 rfl ?_
    refine z_iload_n 3 dX10_serves_39 rfl ?_
    refine z_invF (ci := 6) (N := 13) (as := [xI m]) (st := []) (ra := [xI m]) (dep' := dep - 1) (rs := [xI (zchain h ((113 + 14 * l) + 12) 60 m)]) (h' := h) (f_X6_endOfChain (113 + 14 * l) m (h := h) (zRollO_rolls hl.1 hl.2) (by omega) hs) dX10_serves_40 nX6_endOfChain zb_987 zb_951 zb_952 zb_90 (zRollO_rolls hl.1 hl.2).1 rfl (by omega) zne_I (Nat.le_of_ble_eq_true rfl) (Nat.le_of_ble_eq_true rfl) rfl ?_
    refine z_goto (tgt := 47) dX10_serves_43 (by decide) ?_
    exact z_iret dX10_serves_47 rfl (k2 c1)

set_option maxRecDepth 20000 in
theorem bX10_quota_0 {X : zX} {dep bc bs : Nat} (l : Int) (p : Int) (t : Int) {h : zH} {Q : Nat → zH → List zV → Prop} (hdep : 1 ≤ dep)
    (k1 : ¬ (0 ≤ l ∧ l < h 0 12) → Q 239 h [xI (-1)])
    (k2 : 0 ≤ l ∧ l < h 0 12 → 0 ≤ p ∧ p < 8 → zW mX10_quota X dep bc bs 239 20 [(0, xR 0), (1, xI l), (2, xI p), (3, xI t)] [xI t, xI l, xR 0] h Q)
    (k3 : 0 ≤ l ∧ l < h 0 12 → ¬ (0 ≤ p ∧ p < 8) → Q 239 h [xI (-1)]) : zW mX10_quota X dep bc bs 239 0 [(0, xR 0), (1, xI l), (2, xI p), (3, xI t)] [] h Q := by
  refine z_aload_n 0 dX10_quota_0 rfl ?_
  refine z_iload_n 1 dX10_quota_1 rfl ?_
  refine z_invF (ci := 10) (N := 17) (as := [xI l]) (st := []) (ra := [xI l]) (dep' := dep - 1) (rs := [xI (zb (0 ≤ l ∧ l < h 0 12))]) (h' := h) (f_X10_isLot l (h := h) ) dX10_quota_2 nX10_isLot zb_782 zb_784 zb_17 zb_82 (zOb.lit (by decide +kernel)) rfl (by omega) zne_I (Nat.le_of_ble_eq_true rfl) (Nat.le_of_ble_eq_true rfl) rfl ?_
  refine z_ifB_eq (C := 0 ≤ l ∧ l < h 0 12) (tgt := 15) dX10_quota_5 (by decide) (fun c1 => ?_) (fun c1 => ?_)
  ·
    refine z_iconst dX10_quota_15 (zi32_d rfl) ?_
    exact z_iret dX10_quota_16 rfl (k1 c1)
  ·
    refine z_iload_n 2 dX10_quota_8 rfl ?_
    refine z_invSF (as := [xI p]) (st := []) (ra := [xI p]) (dep' := dep - 1) (rs := [xI (zb (0 ≤ p ∧ p < 8))]) (h' := h) (f_X10_isParish p (h := h) ) dX10_quota_9 nX10_isParish zb_545 zb_546 zb_82 (by omega) zne_I (Nat.le_of_ble_eq_true rfl) (Nat.le_of_ble_eq_true rfl) rfl ?_
    refine z_ifB_ne (C := 0 ≤ p ∧ p < 8) (tgt := 17) dX10_quota_12 (by decide) (fun c2 => ?_) (fun c2 => ?_)
    ·
      refine z_aload_n 0 dX10_quota_17 rfl ?_
      refine z_iload_n 1 dX10_quota_18 rfl ?_
      refine z_iload_n 3 dX10_quota_19 rfl ?_
      exact k2 c1 c2
    ·
      refine z_iconst dX10_quota_15 (zi32_d rfl) ?_
      exact z_iret dX10_quota_16 rfl (k3 c1 c2)

set_option maxRecDepth 20000 in
theorem rX10_quota_20 {X : zX} {dep bc bs : Nat} (l : Int) (p : Int) (t : Int) {h : zH} {Q : Nat → zH → List zV → Prop} {P : Int → zH → Prop}
    (hZ : zW mX10_rollAsOf X (dep - 1) 0 0 239 0 (zar 0 [xR 0, xI l, xI t]) [] h (zQR P)) (hdep : 1 ≤ dep)
    (k : ∀ (v : Int) (g : zH), P v g → zW mX10_quota X dep bc bs 239 23 [(0, xR 0), (1, xI l), (2, xI p), (3, xI t)] [xR v] g Q) : zW mX10_quota X dep bc bs 239 20 [(0, xR 0), (1, xI l), (2, xI p), (3, xI t)] [xI t, xI l, xR 0] h Q :=
  z_invQR (ci := 10) (N := 17) (as := [xI l, xI t]) (st := []) (ra := [xI t, xI l]) hZ dX10_quota_20 nX10_rollAsOf zb_865 zb_867 zb_20 zb_82 (zOb.lit (by decide +kernel)) rfl (by omega) (Nat.le_of_ble_eq_true rfl) (Nat.le_of_ble_eq_true rfl) rfl (fun v g hg => k v g hg)

set_option maxRecDepth 20000 in
theorem bX10_quota_23 {X : zX} {dep bc bs : Nat} (l : Int) (p : Int) (t : Int) {h : zH} {Q : Nat → zH → List zV → Prop} (hl : 0 ≤ l ∧ l < 4) (hp : 0 ≤ p ∧ p < 8)
    (k1 : Q 239 h [xI (h ((113 + 14 * l) + 10) p)]) : zW mX10_quota X dep bc bs 239 23 [(0, xR 0), (1, xI l), (2, xI p), (3, xI t)] [xR (113 + 14 * l)] h Q := by
  refine z_getS (v := ((113 + 14 * l) + 10)) (k := 8) (kz := 8) pk6 dX10_quota_23 (by decide) zb_424 rfl (zRollO_rolls hl.1 hl.2).1 rfl (zRollO_rolls hl.1 hl.2).2.2.2.2.2.2.2.2.2.2.2.2.2.2.2.2.2.2.2.2.2.1 ?_
  refine z_iload_n 2 dX10_quota_26 rfl ?_
  refine z_iald dX10_quota_27 (zRollO_rolls hl.1 hl.2).2.2.2.2.2.2.2.2.2.2.1 hp.1 hp.2 ?_
  exact z_iret dX10_quota_28 rfl (k1)

set_option maxRecDepth 20000 in
theorem bX10_called_0 {X : zX} {dep bc bs : Nat} (l : Int) (t : Int) {h : zH} {Q : Nat → zH → List zV → Prop} (hdep : 1 ≤ dep)
    (k1 : ¬ (0 ≤ l ∧ l < h 0 12) → Q 239 h [xI (-1)])
    (k2 : 0 ≤ l ∧ l < h 0 12 → zW mX10_called X dep bc bs 239 11 [(0, xR 0), (1, xI l), (2, xI t)] [xI t, xI l, xR 0] h Q) : zW mX10_called X dep bc bs 239 0 [(0, xR 0), (1, xI l), (2, xI t)] [] h Q := by
  refine z_aload_n 0 dX10_called_0 rfl ?_
  refine z_iload_n 1 dX10_called_1 rfl ?_
  refine z_invF (ci := 10) (N := 17) (as := [xI l]) (st := []) (ra := [xI l]) (dep' := dep - 1) (rs := [xI (zb (0 ≤ l ∧ l < h 0 12))]) (h' := h) (f_X10_isLot l (h := h) ) dX10_called_2 nX10_isLot zb_782 zb_784 zb_17 zb_82 (zOb.lit (by decide +kernel)) rfl (by omega) zne_I (Nat.le_of_ble_eq_true rfl) (Nat.le_of_ble_eq_true rfl) rfl ?_
  refine z_ifB_eq (C := 0 ≤ l ∧ l < h 0 12) (tgt := 20) dX10_called_5 (by decide) (fun c1 => ?_) (fun c1 => ?_)
  ·
    refine z_iconst dX10_called_20 (zi32_d rfl) ?_
    exact z_iret dX10_called_21 rfl (k1 c1)
  ·
    refine z_aload_n 0 dX10_called_8 rfl ?_
    refine z_iload_n 1 dX10_called_9 rfl ?_
    refine z_iload_n 2 dX10_called_10 rfl ?_
    exact k2 c1

set_option maxRecDepth 20000 in
theorem rX10_called_11 {X : zX} {dep bc bs : Nat} (l : Int) (t : Int) {h : zH} {Q : Nat → zH → List zV → Prop} {P : Int → zH → Prop}
    (hZ : zW mX10_rollAsOf X (dep - 1) 0 0 239 0 (zar 0 [xR 0, xI l, xI t]) [] h (zQR P)) (hdep : 1 ≤ dep)
    (k : ∀ (v : Int) (g : zH), P v g → zW mX10_called X dep bc bs 239 14 [(0, xR 0), (1, xI l), (2, xI t)] [xR v] g Q) : zW mX10_called X dep bc bs 239 11 [(0, xR 0), (1, xI l), (2, xI t)] [xI t, xI l, xR 0] h Q :=
  z_invQR (ci := 10) (N := 17) (as := [xI l, xI t]) (st := []) (ra := [xI t, xI l]) hZ dX10_called_11 nX10_rollAsOf zb_865 zb_867 zb_20 zb_82 (zOb.lit (by decide +kernel)) rfl (by omega) (Nat.le_of_ble_eq_true rfl) (Nat.le_of_ble_eq_true rfl) rfl (fun v g hg => k v g hg)

set_option maxRecDepth 20000 in
theorem bX10_called_14 {X : zX} {dep bc bs : Nat} (l : Int) (t : Int) {h : zH} {Q : Nat → zH → List zV → Prop} (hl : 0 ≤ l ∧ l < 4)
    (k1 : Q 239 h [xI (h (113 + 14 * l) 10)]) : zW mX10_called X dep bc bs 239 14 [(0, xR 0), (1, xI l), (2, xI t)] [xR (113 + 14 * l)] h Q := by
  refine z_getI (k := 10) (kz := 10) pk6 dX10_called_14 (by decide) zb_427 rfl (zRollO_rolls hl.1 hl.2).1 rfl ?_
  refine z_goto (tgt := 21) dX10_called_17 (by decide) ?_
  exact z_iret dX10_called_21 rfl (k1)

/-- what looking as of t left -/
def zLooked (h : zH) (t : Int) (g : zH) : Prop := zag [17, 18, 19, 20, 21, 22, 23] (zst h 3 9 t) g ∧ zLook h g (zknown h 13 t).toNat (zknown h 7 t).toNat (h 3 0).toNat
theorem f_X10_who {X : zX} {dep : Nat} (m t : Int) {h : zH} (w : zBase h) (hdep : 4 ≤ dep) : zW mX10_who X dep 0 0 239 0 (zar 0 [xR 0, xI m, xI t]) [] h
    (zQI (fun v g => (0 ≤ m ∧ m < h 3 0) ∧ zLooked h t g ∧ v = g 17 m ∨ ¬ (0 ≤ m ∧ m < h 3 0) ∧ v = -1 ∧ g = h)) := by
  have h3 := w.1.1
  refine bX10_who_0 m t (by omega) (fun c => ?_) (fun c => ?_)
  · refine rX10_who_15 m t (f_X4_look t w.1 w.2.1 w.2.2.1 (by omega)) (by omega) (fun g hg => ?_)
    refine bX10_who_18 m t (by omega) ?_
    exact ⟨rfl, _, rfl, Or.inl ⟨c, hg, rfl⟩⟩
  · exact ⟨rfl, _, rfl, Or.inr ⟨c, rfl, rfl⟩⟩
theorem f_X10_age {X : zX} {dep : Nat} (m d t : Int) {h : zH} (w : zBase h) (hdep : 4 ≤ dep) : zW mX10_age X dep 0 0 239 0 (zar 0 [xR 0, xI m, xI d, xI t]) [] h
    (zQI (fun v g => ((0 ≤ m ∧ m < h 3 0) ∧ 0 ≤ d ∧ d ≤ 3639) ∧ zLooked h t g ∧ v = (if g 18 m = 0 then -1 else zage (g 19 m) d) ∨ ¬ ((0 ≤ m ∧ m < h 3 0) ∧ 0 ≤ d ∧ d ≤ 3639) ∧ v = -1 ∧ g = h)) := by
  have h3 := w.1.1
  refine bX10_age_0 m d t (by omega) (fun c => ?_) (fun c c1 => ?_) (fun c c1 => ?_)
  · exact ⟨rfl, _, rfl, Or.inr ⟨fun z => c z.1, rfl, rfl⟩⟩
  · refine rX10_age_22 m d t (f_X4_look t w.1 w.2.1 w.2.2.1 (by omega)) (by omega) (fun g hg => ?_)
    have k7 := zknown_le (h := h) (o := 7) (t := t) w.2.2.1.1.1
    have e19 := (hg.2.1 m c.1 c.2).2.2
    have c2 := zbw_in w.2.2.1 (zknown h 7 t).toNat (by omega) m
    refine bX10_age_25 m d t (by omega) c1 (by rw [e19]; exact c2) (by omega) (fun c => ?_) (fun c => ?_)
    · exact ⟨rfl, _, rfl, Or.inl ⟨⟨by assumption, c1⟩, hg, by rw [if_pos c]⟩⟩
    · exact ⟨rfl, _, rfl, Or.inl ⟨⟨by assumption, c1⟩, hg, by rw [if_neg c]⟩⟩
  · exact ⟨rfl, _, rfl, Or.inr ⟨fun z => c1 z.2, rfl, rfl⟩⟩
theorem f_X10_brothers {X : zX} {dep : Nat} (m t : Int) {h : zH} (w : zBase h) (hdep : 4 ≤ dep) : zW mX10_brothers X dep 0 0 239 0 (zar 0 [xR 0, xI m, xI t]) [] h
    (zQI (fun v g => (0 ≤ m ∧ m < h 3 0) ∧ zLooked h t g ∧ v = (if g 20 m = 0 then -1 else g 21 (g 5 m) - 1) ∨ ¬ (0 ≤ m ∧ m < h 3 0) ∧ v = -1 ∧ g = h)) := by
  have h3 := w.1.1
  refine bX10_brothers_0 m t (by omega) (fun c => ?_) (fun c => ?_)
  · refine rX10_brothers_15 m t (f_X4_look t w.1 w.2.1 w.2.2.1 (by omega)) (by omega) (fun g hg => ?_)
    have pg := (zPeo_of w hg.1 hg.2).1
    have e3 : g 3 0 = h 3 0 := (zPeo_of w hg.1 hg.2).2.2.1 0 (by omega)
    have f1 := (pg.1.2 m c.1 (by omega)).1
    have f2 := (pg.2 m c.1 (by omega)).2
    refine bX10_brothers_18 m t (by omega) f1 f2 (by omega) (fun c => ?_) (fun c => ?_)
    · exact ⟨rfl, _, rfl, Or.inl ⟨by assumption, hg, by rw [if_pos c]⟩⟩
    · exact ⟨rfl, _, rfl, Or.inl ⟨by assumption, hg, by rw [if_neg c]⟩⟩
  · exact ⟨rfl, _, rfl, Or.inr ⟨c, rfl, rfl⟩⟩
theorem f_X10_state {X : zX} {dep : Nat} (l m t : Int) {h : zH} (w : zBase h) (hdep : 6 ≤ dep) : zW mX10_state X dep 0 0 239 0 (zar 0 [xR 0, xI l, xI m, xI t]) [] h
    (zQI (fun v g => ((0 ≤ l ∧ l < h 0 12) ∧ 0 ≤ m ∧ m < h 3 0) ∧ (∃ e, zRolled h l t e ∧ v = e (113 + 14 * l + 5) m ∧ g = zst e 0 14 (e (113 + 14 * l + 6) m)) ∨ ¬ ((0 ≤ l ∧ l < h 0 12) ∧ 0 ≤ m ∧ m < h 3 0) ∧ v = -1 ∧ g = h)) := by
  have h3 := w.1.1
  have h12 := w.2.2.2.2.2.2.2.2
  refine bX10_state_0 l m t (by omega) (fun c => ?_) (fun c c1 => ?_) (fun c c1 => ?_)
  · exact ⟨rfl, _, rfl, Or.inr ⟨fun z => c z.1, rfl, rfl⟩⟩
  · refine rX10_state_21 l m t (f_X10_rollAsOf l t (by omega) w (by omega)) (by omega) (fun v e he => ?_)
    obtain ⟨rfl, he⟩ := he
    refine bX10_state_24 l m t (by omega) (by omega) ?_
    exact ⟨rfl, _, rfl, Or.inl ⟨⟨c, c1⟩, e, he, zst_ne (Or.inl (by omega)), rfl⟩⟩
  · exact ⟨rfl, _, rfl, Or.inr ⟨fun z => c1 z.2, rfl, rfl⟩⟩
theorem f_X10_place {X : zX} {dep : Nat} (l m t : Int) {h : zH} (w : zBase h) (hdep : 6 ≤ dep) : zW mX10_place X dep 0 0 239 0 (zar 0 [xR 0, xI l, xI m, xI t]) [] h
    (zQI (fun v g => ((0 ≤ l ∧ l < h 0 12) ∧ 0 ≤ m ∧ m < h 3 0) ∧ (zRolled h l t g ∧ v = (if zli g (113 + 14 * l) m then g (113 + 14 * l + 8) m else -1)) ∨ ¬ ((0 ≤ l ∧ l < h 0 12) ∧ 0 ≤ m ∧ m < h 3 0) ∧ v = -1 ∧ g = h)) := by
  have h3 := w.1.1
  have h12 := w.2.2.2.2.2.2.2.2
  refine bX10_place_0 l m t (by omega) (fun c => ?_) (fun c c1 => ?_) (fun c c1 => ?_)
  · exact ⟨rfl, _, rfl, Or.inr ⟨fun z => c z.1, rfl, rfl⟩⟩
  · refine rX10_place_21 l m t (f_X10_rollAsOf l t (by omega) w (by omega)) (by omega) (fun v e he => ?_)
    obtain ⟨rfl, he⟩ := he
    refine bX10_place_24 l m t (by omega) (by omega) (by omega) (fun c2 => ?_) (fun c2 => ?_)
    · exact ⟨rfl, _, rfl, Or.inl ⟨⟨c, c1⟩, he, by rw [if_neg c2]⟩⟩
    · exact ⟨rfl, _, rfl, Or.inl ⟨⟨c, c1⟩, he, by rw [if_pos c2]⟩⟩
  · exact ⟨rfl, _, rfl, Or.inr ⟨fun z => c1 z.2, rfl, rfl⟩⟩
theorem f_X10_serves {X : zX} {dep : Nat} (l m t : Int) {h : zH} (w : zBase h) (hdep : 6 ≤ dep) : zW mX10_serves X dep 0 0 239 0 (zar 0 [xR 0, xI l, xI m, xI t]) [] h
    (zQI (fun v g => ((0 ≤ l ∧ l < h 0 12) ∧ 0 ≤ m ∧ m < h 3 0) ∧ (zRolled h l t g ∧ v = (if g (113 + 14 * l + 5) m = 5 then zchain g (113 + 14 * l + 12) 60 m else -1)) ∨ ¬ ((0 ≤ l ∧ l < h 0 12) ∧ 0 ≤ m ∧ m < h 3 0) ∧ v = -1 ∧ g = h)) := by
  have h3 := w.1.1
  have h12 := w.2.2.2.2.2.2.2.2
  refine bX10_serves_0 l m t (by omega) (fun c => ?_) (fun c c1 => ?_) (fun c c1 => ?_)
  · exact ⟨rfl, _, rfl, Or.inr ⟨fun z => c z.1, rfl, rfl⟩⟩
  · refine rX10_serves_21 l m t (f_X10_rollAsOf l t (by omega) w (by omega)) (by omega) (fun v e he => ?_)
    obtain ⟨rfl, he⟩ := he
    refine bX10_serves_24 l m t (by omega) (by omega) (he.1.2.2.2.2.2.2.1 l c.1 (by omega)).2.2.2 (by omega) (fun c2 => ?_) (fun c2 => ?_)
    · exact ⟨rfl, _, rfl, Or.inl ⟨⟨c, c1⟩, he, by rw [if_neg c2]⟩⟩
    · exact ⟨rfl, _, rfl, Or.inl ⟨⟨c, c1⟩, he, by rw [if_pos c2]⟩⟩
  · exact ⟨rfl, _, rfl, Or.inr ⟨fun z => c1 z.2, rfl, rfl⟩⟩
theorem f_X10_quota {X : zX} {dep : Nat} (l p t : Int) {h : zH} (w : zBase h) (hdep : 6 ≤ dep) : zW mX10_quota X dep 0 0 239 0 (zar 0 [xR 0, xI l, xI p, xI t]) [] h
    (zQI (fun v g => ((0 ≤ l ∧ l < h 0 12) ∧ 0 ≤ p ∧ p < 8) ∧ (zRolled h l t g ∧ v = g (113 + 14 * l + 10) p) ∨ ¬ ((0 ≤ l ∧ l < h 0 12) ∧ 0 ≤ p ∧ p < 8) ∧ v = -1 ∧ g = h)) := by
  have h12 := w.2.2.2.2.2.2.2.2
  refine bX10_quota_0 l p t (by omega) (fun c => ?_) (fun c c1 => ?_) (fun c c1 => ?_)
  · exact ⟨rfl, _, rfl, Or.inr ⟨fun z => c z.1, rfl, rfl⟩⟩
  · refine rX10_quota_20 l p t (f_X10_rollAsOf l t (by omega) w (by omega)) (by omega) (fun v e he => ?_)
    obtain ⟨rfl, he⟩ := he
    refine bX10_quota_23 l p t (by omega) (by omega) ?_
    exact ⟨rfl, _, rfl, Or.inl ⟨⟨c, c1⟩, he, rfl⟩⟩
  · exact ⟨rfl, _, rfl, Or.inr ⟨fun z => c1 z.2, rfl, rfl⟩⟩
theorem f_X10_called {X : zX} {dep : Nat} (l t : Int) {h : zH} (w : zBase h) (hdep : 6 ≤ dep) : zW mX10_called X dep 0 0 239 0 (zar 0 [xR 0, xI l, xI t]) [] h
    (zQI (fun v g => (0 ≤ l ∧ l < h 0 12) ∧ (zRolled h l t g ∧ v = g (113 + 14 * l) 10) ∨ ¬ (0 ≤ l ∧ l < h 0 12) ∧ v = -1 ∧ g = h)) := by
  have h12 := w.2.2.2.2.2.2.2.2
  refine bX10_called_0 l t (by omega) (fun c => ?_) (fun c => ?_)
  · exact ⟨rfl, _, rfl, Or.inr ⟨c, rfl, rfl⟩⟩
  · refine rX10_called_11 l t (f_X10_rollAsOf l t (by omega) w (by omega)) (by omega) (fun v e he => ?_)
    obtain ⟨rfl, he⟩ := he
    refine bX10_called_14 l t (by omega) ?_
    exact ⟨rfl, _, rfl, Or.inl ⟨c, he, rfl⟩⟩
