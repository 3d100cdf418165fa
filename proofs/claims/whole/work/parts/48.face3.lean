/-! weeks, letters, men, leaving -/
theorem zLotO_rolls {i : Int} (h0 : 0 ≤ i) (h1 : i < 4) : zLotO (113 + 14 * i + 1) := by
  rcases (show i = 0 ∨ i = 1 ∨ i = 2 ∨ i = 3 by omega) with rfl | rfl | rfl | rfl
  all_goals exact zLotO_of (by decide +kernel)

set_option maxRecDepth 20000 in
theorem bX3_takeWeeks_0 {X : zX} {dep bc bs : Nat} (o : Int) {h : zH} {Q : Nat → zH → List zV → Prop} (ho : zLotO o) (ht : 0 ≤ h 1 1 ∧ h 1 1 ≤ 340) (hdep : 2 ≤ dep)
    (k1 : ¬ (h o 2) = 0 → Q 239 h [xI 0])
    (k2 : (h o 2) = 0 → zPicks h 52 → zW mX3_takeWeeks X dep bc bs 239 23 [(0, xR o), (1, xR 1)] [xR (o + 1), xR 1] h Q)
    (k3 : (h o 2) = 0 → ¬ (zPicks h 52) → Q 239 h [xI 0]) : zW mX3_takeWeeks X dep bc bs 239 0 [(0, xR o), (1, xR 1)] [] h Q := by
  refine z_aload_n 0 dX3_takeWeeks_0 rfl ?_
  refine z_getI (k := 2) (kz := 2) pk3 dX3_takeWeeks_1 (by decide) zb_391 rfl ho.1 rfl ?_
  refine z_if_ne (tgt := 16) dX3_takeWeeks_4 (by decide) (fun c1 => ?_) (fun c1 => ?_)
  ·
    refine z_iconst dX3_takeWeeks_16 (zi32_d rfl) ?_
    exact z_zret dX3_takeWeeks_17 rfl (Or.inl rfl) (k1 c1)
  ·
    refine z_aload_n 1 dX3_takeWeeks_7 rfl ?_
    refine z_bipush dX3_takeWeeks_8 (zi32_d rfl) (by decide) ?_
    refine z_invF (ci := 7) (N := 2) (as := [xI 52]) (st := []) (ra := [xI 52]) (dep' := dep - 1) (rs := [xI (zb (zPicks h 52))]) (h' := h) (f_X7_holdsPicks 52 (h := h) ht (show 52 = 52 ∨ 52 = 26 by omega) (by omega)) dX3_takeWeeks_10 nX7_holdsPicks zb_790 zb_791 zb_792 zb_83 (zOb.lit (by decide +kernel)) rfl (by omega) zne_I (Nat.le_of_ble_eq_true rfl) (Nat.le_of_ble_eq_true rfl) rfl ?_
    refine z_ifB_ne (C := zPicks h 52) (tgt := 18) dX3_takeWeeks_13 (by decide) (fun c2 => ?_) (fun c2 => ?_)
    ·
      refine z_aload_n 1 dX3_takeWeeks_18 rfl ?_
      refine z_aload_n 0 dX3_takeWeeks_19 rfl ?_
      refine z_getS (v := (o + 1)) (k := 4) (kz := 4) pk3 dX3_takeWeeks_20 (by decide) zb_393 rfl ho.1 rfl ho.2.2.2.1 ?_
      exact k2 c1 c2
    ·
      refine z_iconst dX3_takeWeeks_16 (zi32_d rfl) ?_
      exact z_zret dX3_takeWeeks_17 rfl (Or.inl rfl) (k3 c1 c2)

set_option maxRecDepth 20000 in
theorem rX3_takeWeeks_23 {X : zX} {dep bc bs : Nat} (o : Int) {h : zH} {Q : Nat → zH → List zV → Prop} {P : zH → Prop}
    (hZ : zW mX3_takePicks X (dep - 1) 0 0 239 0 (zar 0 [xR 1, xR (o + 1)]) [] h (zQ0 P)) (hdep : 1 ≤ dep)
    (k : ∀ g : zH, P g → zW mX3_takeWeeks X dep bc bs 239 26 [(0, xR o), (1, xR 1)] [] g Q) : zW mX3_takeWeeks X dep bc bs 239 23 [(0, xR o), (1, xR 1)] [xR (o + 1), xR 1] h Q :=
  z_invSQ0 (as := [xR 1, xR (o + 1)]) (st := []) (ra := [xR (o + 1), xR 1]) hZ dX3_takeWeeks_23 nX3_takePicks zb_794 zb_795 zb_91 (by omega) (Nat.le_of_ble_eq_true rfl) (Nat.le_of_ble_eq_true rfl) rfl (fun g hg => k g hg)

set_option maxRecDepth 20000 in
theorem bX3_takeWeeks_26 {X : zX} {dep bc bs : Nat} (o : Int) {h : zH} {Q : Nat → zH → List zV → Prop} (ho : zLotO o)
    (k1 : Q 239 (zst h o 2 1) [xI 1]) : zW mX3_takeWeeks X dep bc bs 239 26 [(0, xR o), (1, xR 1)] [] h Q := by
  refine z_aload_n 0 dX3_takeWeeks_26 rfl ?_
  refine z_iconst dX3_takeWeeks_27 (zi32_d rfl) ?_
  refine z_putI (k := 2) (kz := 2) pk3 dX3_takeWeeks_28 (by decide) zb_391 rfl (zFit_bool (Or.inr rfl)) ho.1 rfl ?_
  refine z_iconst dX3_takeWeeks_31 (zi32_d rfl) ?_
  exact z_zret dX3_takeWeeks_32 rfl (Or.inr rfl) (k1)

set_option maxRecDepth 20000 in
theorem bX3_takeLetters_0 {X : zX} {dep bc bs : Nat} (o : Int) {h : zH} {Q : Nat → zH → List zV → Prop} (ho : zLotO o) (ht : 0 ≤ h 1 1 ∧ h 1 1 ≤ 340) (hdep : 2 ≤ dep)
    (k1 : ¬ (h o 3) = 0 → Q 239 h [xI 0])
    (k2 : (h o 3) = 0 → zPicks h 26 → zW mX3_takeLetters X dep bc bs 239 23 [(0, xR o), (1, xR 1)] [xR (o + 2), xR 1] h Q)
    (k3 : (h o 3) = 0 → ¬ (zPicks h 26) → Q 239 h [xI 0]) : zW mX3_takeLetters X dep bc bs 239 0 [(0, xR o), (1, xR 1)] [] h Q := by
  refine z_aload_n 0 dX3_takeLetters_0 rfl ?_
  refine z_getI (k := 3) (kz := 3) pk3 dX3_takeLetters_1 (by decide) zb_392 rfl ho.1 rfl ?_
  refine z_if_ne (tgt := 16) dX3_takeLetters_4 (by decide) (fun c1 => ?_) (fun c1 => ?_)
  ·
    refine z_iconst dX3_takeLetters_16 (zi32_d rfl) ?_
    exact z_zret dX3_takeLetters_17 rfl (Or.inl rfl) (k1 c1)
  ·
    refine z_aload_n 1 dX3_takeLetters_7 rfl ?_
    refine z_bipush dX3_takeLetters_8 (zi32_d rfl) (by decide) ?_
    refine z_invF (ci := 7) (N := 2) (as := [xI 26]) (st := []) (ra := [xI 26]) (dep' := dep - 1) (rs := [xI (zb (zPicks h 26))]) (h' := h) (f_X7_holdsPicks 26 (h := h) ht (show 26 = 52 ∨ 26 = 26 by omega) (by omega)) dX3_takeLetters_10 nX7_holdsPicks zb_790 zb_791 zb_792 zb_83 (zOb.lit (by decide +kernel)) rfl (by omega) zne_I (Nat.le_of_ble_eq_true rfl) (Nat.le_of_ble_eq_true rfl) rfl ?_
    refine z_ifB_ne (C := zPicks h 26) (tgt := 18) dX3_takeLetters_13 (by decide) (fun c2 => ?_) (fun c2 => ?_)
    ·
      refine z_aload_n 1 dX3_takeLetters_18 rfl ?_
      refine z_aload_n 0 dX3_takeLetters_19 rfl ?_
      refine z_getS (v := (o + 2)) (k := 5) (kz := 5) pk3 dX3_takeLetters_20 (by decide) zb_395 rfl ho.1 rfl ho.2.2.2.2 ?_
      exact k2 c1 c2
    ·
      refine z_iconst dX3_takeLetters_16 (zi32_d rfl) ?_
      exact z_zret dX3_takeLetters_17 rfl (Or.inl rfl) (k3 c1 c2)

set_option maxRecDepth 20000 in
theorem rX3_takeLetters_23 {X : zX} {dep bc bs : Nat} (o : Int) {h : zH} {Q : Nat → zH → List zV → Prop} {P : zH → Prop}
    (hZ : zW mX3_takePicks X (dep - 1) 0 0 239 0 (zar 0 [xR 1, xR (o + 2)]) [] h (zQ0 P)) (hdep : 1 ≤ dep)
    (k : ∀ g : zH, P g → zW mX3_takeLetters X dep bc bs 239 26 [(0, xR o), (1, xR 1)] [] g Q) : zW mX3_takeLetters X dep bc bs 239 23 [(0, xR o), (1, xR 1)] [xR (o + 2), xR 1] h Q :=
  z_invSQ0 (as := [xR 1, xR (o + 2)]) (st := []) (ra := [xR (o + 2), xR 1]) hZ dX3_takeLetters_23 nX3_takePicks zb_794 zb_795 zb_91 (by omega) (Nat.le_of_ble_eq_true rfl) (Nat.le_of_ble_eq_true rfl) rfl (fun g hg => k g hg)

set_option maxRecDepth 20000 in
theorem bX3_takeLetters_26 {X : zX} {dep bc bs : Nat} (o : Int) {h : zH} {Q : Nat → zH → List zV → Prop} (ho : zLotO o)
    (k1 : Q 239 (zst h o 3 1) [xI 1]) : zW mX3_takeLetters X dep bc bs 239 26 [(0, xR o), (1, xR 1)] [] h Q := by
  refine z_aload_n 0 dX3_takeLetters_26 rfl ?_
  refine z_iconst dX3_takeLetters_27 (zi32_d rfl) ?_
  refine z_putI (k := 3) (kz := 3) pk3 dX3_takeLetters_28 (by decide) zb_392 rfl (zFit_bool (Or.inr rfl)) ho.1 rfl ?_
  refine z_iconst dX3_takeLetters_31 (zi32_d rfl) ?_
  exact z_zret dX3_takeLetters_32 rfl (Or.inr rfl) (k1)

set_option maxRecDepth 20000 in
theorem bX10_weeks_0 {X : zX} {dep bc bs : Nat} (l : Int) {h : zH} {Q : Nat → zH → List zV → Prop} (hn : h 0 12 ≤ 4) (hdep : 1 ≤ dep)
    (k1 : ¬ (0 ≤ l ∧ l < h 0 12) → zW mX10_weeks X dep bc bs 239 33 [(0, xR 0), (2, xI 0)] [] h Q)
    (k2 : 0 ≤ l ∧ l < h 0 12 → zW mX10_weeks X dep bc bs 239 21 [(0, xR 0), (1, xI l)] [xR 1, xR ((113 + 14 * l) + 1)] h Q) : zW mX10_weeks X dep bc bs 239 0 [(0, xR 0), (1, xI l)] [] h Q := by
  refine z_aload_n 0 dX10_weeks_0 rfl ?_
  refine z_iload_n 1 dX10_weeks_1 rfl ?_
  refine z_invF (ci := 10) (N := 17) (as := [xI l]) (st := []) (ra := [xI l]) (dep' := dep - 1) (rs := [xI (zb (0 ≤ l ∧ l < h 0 12))]) (h' := h) (f_X10_isLot l (h := h) ) dX10_weeks_2 nX10_isLot zb_782 zb_784 zb_17 zb_82 (zOb.lit (by decide +kernel)) rfl (by omega) zne_I (Nat.le_of_ble_eq_true rfl) (Nat.le_of_ble_eq_true rfl) rfl ?_
  refine z_ifB_eq (C := 0 ≤ l ∧ l < h 0 12) (tgt := 31) dX10_weeks_5 (by decide) (fun c1 => ?_) (fun c1 => ?_)
  ·
    refine z_iconst dX10_weeks_31 (zi32_d rfl) ?_
    refine z_istore_n (lv' := [(2, xI 0), (0, xR 0), (1, xI l)]) dX10_weeks_32 (by decide) rfl ?_
    refine zW.sub (lv' := [(0, xR 0), (2, xI 0)]) [1, 0] rfl ?_
    exact k1 c1
  ·
    refine z_aload_n 0 dX10_weeks_8 rfl ?_
    refine z_getS (v := 43) (k := 5) (kz := 5) pk10 dX10_weeks_9 (by decide) zb_462 rfl (zOb.lit (by decide +kernel)) rfl (by decide +kernel) ?_
    refine z_iload_n 1 dX10_weeks_12 rfl ?_
    refine z_aaldSR (v := (113 + 14 * l)) dX10_weeks_13 (zOb.lit (by decide +kernel)) (show 0 ≤ l ∧ l < 4 from ⟨by omega, by omega⟩).1 (show 0 ≤ l ∧ l < 4 from ⟨by omega, by omega⟩).2 (zRF_rolls (show 0 ≤ l ∧ l < 4 from ⟨by omega, by omega⟩).1 (show 0 ≤ l ∧ l < 4 from ⟨by omega, by omega⟩).2) ?_
    refine z_getS (v := ((113 + 14 * l) + 1)) (k := 1) (kz := 1) pk6 dX10_weeks_14 (by decide) zb_412 rfl (zRollO_rolls (show 0 ≤ l ∧ l < 4 from ⟨by omega, by omega⟩).1 (show 0 ≤ l ∧ l < 4 from ⟨by omega, by omega⟩).2).1 rfl (zRollO_rolls (show 0 ≤ l ∧ l < 4 from ⟨by omega, by omega⟩).1 (show 0 ≤ l ∧ l < 4 from ⟨by omega, by omega⟩).2).2.2.2.2.2.2.2.2.2.2.2.2.2.2.1 ?_
    refine z_aload_n 0 dX10_weeks_17 rfl ?_
    refine z_getS (v := 1) (k := 0) (kz := 0) pk10 dX10_weeks_18 (by decide) zb_457 rfl (zOb.lit (by decide +kernel)) rfl (by decide +kernel) ?_
    exact k2 c1

set_option maxRecDepth 20000 in
theorem rX10_weeks_21 {X : zX} {dep bc bs : Nat} (l : Int) {h : zH} {Q : Nat → zH → List zV → Prop} {P : Int → zH → Prop} (hl : 0 ≤ l ∧ l < 4)
    (hZ : zW mX3_takeWeeks X (dep - 1) 0 0 239 0 (zar 0 [xR ((113 + 14 * l) + 1), xR 1]) [] h (zQI P)) (hdep : 1 ≤ dep)
    (k : ∀ (v : Int) (g : zH), P v g → zW mX10_weeks X dep bc bs 239 24 [(0, xR 0), (1, xI l)] [xI v] g Q) : zW mX10_weeks X dep bc bs 239 21 [(0, xR 0), (1, xI l)] [xR 1, xR ((113 + 14 * l) + 1)] h Q :=
  z_invQI (ci := 3) (N := 6) (as := [xR 1]) (st := []) (ra := [xR 1]) hZ dX10_weeks_21 nX3_takeWeeks zb_786 zb_787 zb_788 zb_91 (zLotO_rolls hl.1 hl.2).1 rfl (by omega) (Nat.le_of_ble_eq_true rfl) (Nat.le_of_ble_eq_true rfl) rfl (fun v g hg => k v g hg)

set_option maxRecDepth 20000 in
theorem bX10_weeks_24 {X : zX} {dep bc bs : Nat} (l : Int) (v : Int) {h : zH} {Q : Nat → zH → List zV → Prop}
    (k1 : zW mX10_weeks X dep bc bs 239 33 [(0, xR 0), (2, xI (if v = 0 then 0 else 1 : Int))] [] h Q) : zW mX10_weeks X dep bc bs 239 24 [(0, xR 0), (1, xI l)] [xI v] h Q := by
  suffices KJ : zW mX10_weeks X dep bc bs 239 32 [(0, xR 0), (1, xI l)] [xI (if v = 0 then 0 else 1 : Int)] h Q by
    refine z_if_eq (tgt := 31) dX10_weeks_24 (by decide) (fun j1 => ?_) (fun j1 => ?_)
    ·
      refine z_iconst dX10_weeks_31 (zi32_d rfl) ?_
      rw [if_pos j1] at KJ
      exact KJ
    ·
      refine z_iconst dX10_weeks_27 (zi32_d rfl) ?_
      refine z_goto (tgt := 32) dX10_weeks_28 (by decide) ?_
      rw [if_neg j1] at KJ
      exact KJ
  refine z_istore_n (lv' := [(2, xI (if v = 0 then 0 else 1 : Int)), (0, xR 0), (1, xI l)]) dX10_weeks_32 (by decide) rfl ?_
  refine zW.sub (lv' := [(0, xR 0), (2, xI (if v = 0 then 0 else 1 : Int))]) [1, 0] rfl ?_
  exact k1

set_option maxRecDepth 20000 in
theorem bX10_weeks_33 {X : zX} {dep bc bs : Nat} (v : Int) {h : zH} {Q : Nat → zH → List zV → Prop} (hv : v = 0 ∨ v = 1)
    (k1 : Q 239 (zst h 1 1 0) [xI v]) : zW mX10_weeks X dep bc bs 239 33 [(0, xR 0), (2, xI v)] [] h Q := by
  refine z_aload_n 0 dX10_weeks_33 rfl ?_
  refine z_getS (v := 1) (k := 0) (kz := 0) pk10 dX10_weeks_34 (by decide) zb_457 rfl (zOb.lit (by decide +kernel)) rfl (by decide +kernel) ?_
  refine z_iconst dX10_weeks_37 (zi32_d rfl) ?_
  refine z_putI (k := 1) (kz := 1) pk7 dX10_weeks_38 (by decide) zb_122 rfl (zFit_int _) (zOb.lit (by decide +kernel)) rfl ?_
  refine z_iload_n 1 dX10_weeks_41 rfl ?_
  exact z_zret dX10_weeks_42 rfl hv (k1)

set_option maxRecDepth 20000 in
theorem bX10_letters_0 {X : zX} {dep bc bs : Nat} (l : Int) {h : zH} {Q : Nat → zH → List zV → Prop} (hn : h 0 12 ≤ 4) (hdep : 1 ≤ dep)
    (k1 : ¬ (0 ≤ l ∧ l < h 0 12) → zW mX10_letters X dep bc bs 239 33 [(0, xR 0), (2, xI 0)] [] h Q)
    (k2 : 0 ≤ l ∧ l < h 0 12 → zW mX10_letters X dep bc bs 239 21 [(0, xR 0), (1, xI l)] [xR 1, xR ((113 + 14 * l) + 1)] h Q) : zW mX10_letters X dep bc bs 239 0 [(0, xR 0), (1, xI l)] [] h Q := by
  refine z_aload_n 0 dX10_letters_0 rfl ?_
  refine z_iload_n 1 dX10_letters_1 rfl ?_
  refine z_invF (ci := 10) (N := 17) (as := [xI l]) (st := []) (ra := [xI l]) (dep' := dep - 1) (rs := [xI (zb (0 ≤ l ∧ l < h 0 12))]) (h' := h) (f_X10_isLot l (h := h) ) dX10_letters_2 nX10_isLot zb_782 zb_784 zb_17 zb_82 (zOb.lit (by decide +kernel)) rfl (by omega) zne_I (Nat.le_of_ble_eq_true rfl) (Nat.le_of_ble_eq_true rfl) rfl ?_
  refine z_ifB_eq (C := 0 ≤ l ∧ l < h 0 12) (tgt := 31) dX10_letters_5 (by decide) (fun c1 => ?_) (fun c1 => ?_)
  ·
    refine z_iconst dX10_letters_31 (zi32_d rfl) ?_
    refine z_istore_n (lv' := [(2, xI 0), (0, xR 0), (1, xI l)]) dX10_letters_32 (by decide) rfl ?_
    refine zW.sub (lv' := [(0, xR 0), (2, xI 0)]) [1, 0] rfl ?_
    exact k1 c1
  ·
    refine z_aload_n 0 dX10_letters_8 rfl ?_
    refine z_getS (v := 43) (k := 5) (kz := 5) pk10 dX10_letters_9 (by decide) zb_462 rfl (zOb.lit (by decide +kernel)) rfl (by decide +kernel) ?_
    refine z_iload_n 1 dX10_letters_12 rfl ?_
    refine z_aaldSR (v := (113 + 14 * l)) dX10_letters_13 (zOb.lit (by decide +kernel)) (show 0 ≤ l ∧ l < 4 from ⟨by omega, by omega⟩).1 (show 0 ≤ l ∧ l < 4 from ⟨by omega, by omega⟩).2 (zRF_rolls (show 0 ≤ l ∧ l < 4 from ⟨by omega, by omega⟩).1 (show 0 ≤ l ∧ l < 4 from ⟨by omega, by omega⟩).2) ?_
    refine z_getS (v := ((113 + 14 * l) + 1)) (k := 1) (kz := 1) pk6 dX10_letters_14 (by decide) zb_412 rfl (zRollO_rolls (show 0 ≤ l ∧ l < 4 from ⟨by omega, by omega⟩).1 (show 0 ≤ l ∧ l < 4 from ⟨by omega, by omega⟩).2).1 rfl (zRollO_rolls (show 0 ≤ l ∧ l < 4 from ⟨by omega, by omega⟩).1 (show 0 ≤ l ∧ l < 4 from ⟨by omega, by omega⟩).2).2.2.2.2.2.2.2.2.2.2.2.2.2.2.1 ?_
    refine z_aload_n 0 dX10_letters_17 rfl ?_
    refine z_getS (v := 1) (k := 0) (kz := 0) pk10 dX10_letters_18 (by decide) zb_457 rfl (zOb.lit (by decide +kernel)) rfl (by decide +kernel) ?_
    exact k2 c1

set_option maxRecDepth 20000 in
theorem rX10_letters_21 {X : zX} {dep bc bs : Nat} (l : Int) {h : zH} {Q : Nat → zH → List zV → Prop} {P : Int → zH → Prop} (hl : 0 ≤ l ∧ l < 4)
    (hZ : zW mX3_takeLetters X (dep - 1) 0 0 239 0 (zar 0 [xR ((113 + 14 * l) + 1), xR 1]) [] h (zQI P)) (hdep : 1 ≤ dep)
    (k : ∀ (v : Int) (g : zH), P v g → zW mX10_letters X dep bc bs 239 24 [(0, xR 0), (1, xI l)] [xI v] g Q) : zW mX10_letters X dep bc bs 239 21 [(0, xR 0), (1, xI l)] [xR 1, xR ((113 + 14 * l) + 1)] h Q :=
  z_invQI (ci := 3) (N := 6) (as := [xR 1]) (st := []) (ra := [xR 1]) hZ dX10_letters_21 nX3_takeLetters zb_802 zb_803 zb_804 zb_91 (zLotO_rolls hl.1 hl.2).1 rfl (by omega) (Nat.le_of_ble_eq_true rfl) (Nat.le_of_ble_eq_true rfl) rfl (fun v g hg => k v g hg)

set_option maxRecDepth 20000 in
theorem bX10_letters_24 {X : zX} {dep bc bs : Nat} (l : Int) (v : Int) {h : zH} {Q : Nat → zH → List zV → Prop}
    (k1 : zW mX10_letters X dep bc bs 239 33 [(0, xR 0), (2, xI (if v = 0 then 0 else 1 : Int))] [] h Q) : zW mX10_letters X dep bc bs 239 24 [(0, xR 0), (1, xI l)] [xI v] h Q := by
  suffices KJ : zW mX10_letters X dep bc bs 239 32 [(0, xR 0), (1, xI l)] [xI (if v = 0 then 0 else 1 : Int)] h Q by
    refine z_if_eq (tgt := 31) dX10_letters_24 (by decide) (fun j1 => ?_) (fun j1 => ?_)
    ·
      refine z_iconst dX10_letters_31 (zi32_d rfl) ?_
      rw [if_pos j1] at KJ
      exact KJ
    ·
      refine z_iconst dX10_letters_27 (zi32_d rfl) ?_
      refine z_goto (tgt := 32) dX10_letters_28 (by decide) ?_
      rw [if_neg j1] at KJ
      exact KJ
  refine z_istore_n (lv' := [(2, xI (if v = 0 then 0 else 1 : Int)), (0, xR 0), (1, xI l)]) dX10_letters_32 (by decide) rfl ?_
  refine zW.sub (lv' := [(0, xR 0), (2, xI (if v = 0 then 0 else 1 : Int))]) [1, 0] rfl ?_
  exact k1

set_option maxRecDepth 20000 in
theorem bX10_letters_33 {X : zX} {dep bc bs : Nat} (v : Int) {h : zH} {Q : Nat → zH → List zV → Prop} (hv : v = 0 ∨ v = 1)
    (k1 : Q 239 (zst h 1 1 0) [xI v]) : zW mX10_letters X dep bc bs 239 33 [(0, xR 0), (2, xI v)] [] h Q := by
  refine z_aload_n 0 dX10_letters_33 rfl ?_
  refine z_getS (v := 1) (k := 0) (kz := 0) pk10 dX10_letters_34 (by decide) zb_457 rfl (zOb.lit (by decide +kernel)) rfl (by decide +kernel) ?_
  refine z_iconst dX10_letters_37 (zi32_d rfl) ?_
  refine z_putI (k := 1) (kz := 1) pk7 dX10_letters_38 (by decide) zb_122 rfl (zFit_int _) (zOb.lit (by decide +kernel)) rfl ?_
  refine z_iload_n 1 dX10_letters_41 rfl ?_
  exact z_zret dX10_letters_42 rfl hv (k1)

set_option maxRecDepth 20000 in
theorem bX10_man_0 {X : zX} {dep bc bs : Nat} (p : Int) (f : Int) {h : zH} {Q : Nat → zH → List zV → Prop} (ht : 0 ≤ h 1 1 ∧ h 1 1 ≤ 340) (hz : -1 ≤ zat h 0 ∧ zat h 0 ≤ 255) (h3 : 0 ≤ h 3 0 ∧ h 3 0 ≤ 60) (hdep : 3 ≤ dep)
    (k1 : (zb (zName h)) = 0 → Q 239 (zst h 1 1 0) [xI (-1)])
    (k2 : ¬ ((zb (zName h)) = 0) → ¬ (0 ≤ p ∧ p < 8) → Q 239 (zst h 1 1 0) [xI (-1)])
    (k3 : ¬ ((zb (zName h)) = 0) → 0 ≤ p ∧ p < 8 → ¬ (0 ≤ f ∧ f < 60) → Q 239 (zst h 1 1 0) [xI (-1)])
    (k4 : ¬ ((zb (zName h)) = 0) → 0 ≤ p ∧ p < 8 → 0 ≤ f ∧ f < 60 → (h 3 0) < 60 → Q 239 (zst (zst (zst (zst (zst h 1 1 0) 4 ((zst h 1 1 0) 3 0) p) 5 ((zst h 1 1 0) 3 0) f) 6 ((zst h 1 1 0) 3 0) ((zat h 0) - 97)) 3 0 (((zst h 1 1 0) 3 0) + 1)) [xI (h 3 0)])
    (k5 : ¬ ((zb (zName h)) = 0) → 0 ≤ p ∧ p < 8 → 0 ≤ f ∧ f < 60 → ¬ ((h 3 0) < 60) → Q 239 (zst h 1 1 0) [xI (-1)]) : zW mX10_man X dep bc bs 239 0 [(0, xR 0), (1, xI p), (2, xI f)] [] h Q := by
  refine z_aload_n 0 dX10_man_0 rfl ?_
  refine z_getS (v := 1) (k := 0) (kz := 0) pk10 dX10_man_1 (by decide) zb_457 rfl (zOb.lit (by decide +kernel)) rfl (by decide +kernel) ?_
  refine z_invF (ci := 7) (N := 2) (as := []) (st := []) (ra := []) (dep' := dep - 1) (rs := [xI (zb (zName h))]) (h' := h) (f_X7_holdsName  (h := h) ht (by omega)) dX10_man_4 nX7_holdsName zb_532 zb_533 zb_534 zb_83 (zOb.lit (by decide +kernel)) rfl (by omega) zne_I (Nat.le_of_ble_eq_true rfl) (Nat.le_of_ble_eq_true rfl) rfl ?_
  refine z_istore_n (lv' := [(3, xI (zb (zName h))), (0, xR 0), (1, xI p), (2, xI f)]) dX10_man_7 (by decide) rfl ?_
  refine z_aload_n 1 dX10_man_8 rfl ?_
  refine z_getS (v := 1) (k := 0) (kz := 0) pk10 dX10_man_9 (by decide) zb_457 rfl (zOb.lit (by decide +kernel)) rfl (by decide +kernel) ?_
  refine z_iconst dX10_man_12 (zi32_d rfl) ?_
  refine z_invF (ci := 7) (N := 2) (as := [xI 0]) (st := []) (ra := [xI 0]) (dep' := dep - 1) (rs := [xI (zat h 0)]) (h' := h) (f_X7_at 0 (h := h) ht) dX10_man_13 nX7_at zb_544 zb_541 zb_542 zb_83 (zOb.lit (by decide +kernel)) rfl (by omega) zne_I (Nat.le_of_ble_eq_true rfl) (Nat.le_of_ble_eq_true rfl) rfl ?_
  refine z_bipush dX10_man_16 (zi32_d rfl) (by decide) ?_
  refine z_isubN dX10_man_18 (show -2147483648 ≤ (zat h 0) - 97 ∧ (zat h 0) - 97 < 2147483648 from ⟨by omega, by omega⟩).1 (show -2147483648 ≤ (zat h 0) - 97 ∧ (zat h 0) - 97 < 2147483648 from ⟨by omega, by omega⟩).2 ?_
  refine z_istore (lv' := [(4, xI ((zat h 0) - 97)), (3, xI (zb (zName h))), (0, xR 0), (1, xI p), (2, xI f)]) dX10_man_19 (by decide) rfl ?_
  refine z_aload_n 2 dX10_man_21 rfl ?_
  refine z_getS (v := 1) (k := 0) (kz := 0) pk10 dX10_man_22 (by decide) zb_457 rfl (zOb.lit (by decide +kernel)) rfl (by decide +kernel) ?_
  refine z_iconst dX10_man_25 (zi32_d rfl) ?_
  refine z_putI (k := 1) (kz := 1) pk7 dX10_man_26 (by decide) zb_122 rfl (zFit_int _) (zOb.lit (by decide +kernel)) rfl ?_
  refine z_iload_n 1 dX10_man_29 rfl ?_
  refine z_if_eq (tgt := 59) dX10_man_30 (by decide) (fun c1 => ?_) (fun c1 => ?_)
  ·
    refine z_iconst dX10_man_59 (zi32_d rfl) ?_
    exact z_iret dX10_man_60 rfl (k1 c1)
  ·
    refine z_iload_n 3 dX10_man_33 rfl ?_
    refine z_invSF (as := [xI p]) (st := []) (ra := [xI p]) (dep' := dep - 1) (rs := [xI (zb (0 ≤ p ∧ p < 8))]) (h' := (zst h 1 1 0)) (f_X10_isParish p (h := (zst h 1 1 0)) ) dX10_man_34 nX10_isParish zb_545 zb_546 zb_82 (by omega) zne_I (Nat.le_of_ble_eq_true rfl) (Nat.le_of_ble_eq_true rfl) rfl ?_
    refine z_ifB_eq (C := 0 ≤ p ∧ p < 8) (tgt := 59) dX10_man_37 (by decide) (fun c2 => ?_) (fun c2 => ?_)
    ·
      refine z_iconst dX10_man_59 (zi32_d rfl) ?_
      exact z_iret dX10_man_60 rfl (k2 c1 c2)
    ·
      refine z_iload_n 4 dX10_man_40 rfl ?_
      refine z_invSF (as := [xI f]) (st := []) (ra := [xI f]) (dep' := dep - 1) (rs := [xI (zb (0 ≤ f ∧ f < 60))]) (h' := (zst h 1 1 0)) (f_X10_isFather f (h := (zst h 1 1 0)) ) dX10_man_41 nX10_isFather zb_548 zb_549 zb_82 (by omega) zne_I (Nat.le_of_ble_eq_true rfl) (Nat.le_of_ble_eq_true rfl) rfl ?_
      refine z_ifB_eq (C := 0 ≤ f ∧ f < 60) (tgt := 59) dX10_man_44 (by decide) (fun c3 => ?_) (fun c3 => ?_)
      ·
        refine z_iconst dX10_man_59 (zi32_d rfl) ?_
        exact z_iret dX10_man_60 rfl (k3 c1 c2 c3)
      ·
        refine z_aload_n 2 dX10_man_47 rfl ?_
        refine z_getS (v := 3) (k := 1) (kz := 1) pk10 dX10_man_48 (by decide) zb_458 rfl (zOb.lit (by decide +kernel)) rfl (by decide +kernel) ?_
        refine z_getIV (v := (h 3 0)) (k := 0) (kz := 0) pk4 dX10_man_51 (by decide) zb_156 rfl (zOb.lit (by decide +kernel)) rfl (zst_ne (Or.inl (by decide))) ?_
        refine z_bipush dX10_man_54 (zi32_d rfl) (by decide) ?_
        refine z_icmp_lt (tgt := 61) dX10_man_56 (by decide) (fun c4 => ?_) (fun c4 => ?_)
        ·
          refine z_aload_n 2 dX10_man_61 rfl ?_
          refine z_getS (v := 3) (k := 1) (kz := 1) pk10 dX10_man_62 (by decide) zb_458 rfl (zOb.lit (by decide +kernel)) rfl (by decide +kernel) ?_
          refine z_iload_n 3 dX10_man_65 rfl ?_
          refine z_iload_n 4 dX10_man_66 rfl ?_
          refine z_iload 0 dX10_man_67 rfl ?_
          refine z_invF (ci := 4) (N := 17) (as := [xI p, xI f, xI ((zat h 0) - 97)]) (st := []) (ra := [xI ((zat h 0) - 97), xI f, xI p]) (dep' := dep - 1) (rs := [xI (h 3 0)]) (h' := (zst (zst (zst (zst (zst h 1 1 0) 4 ((zst h 1 1 0) 3 0) p) 5 ((zst h 1 1 0) 3 0) f) 6 ((zst h 1 1 0) 3 0) ((zat h 0) - 97)) 3 0 (((zst h 1 1 0) 3 0) + 1))) (by have e1 : (zst h 1 1 0) 3 0 = (h 3 0) := (zst_ne (Or.inl (by decide))); have z9 := f_X4_addMan (X := X) (dep := dep - 1) p f ((zat h 0) - 97) (h := (zst h 1 1 0)) (by have y1 : (zst h 1 1 0) 3 0 = (h 3 0) := (zst_ne (Or.inl (by decide))); simp only [y1]; omega); rw [e1] at z9; exact z9) dX10_man_69 nX4_addMan zb_551 zb_552 zb_553 zb_84 (zOb.lit (by decide +kernel)) rfl (by omega) zne_I (Nat.le_of_ble_eq_true rfl) (Nat.le_of_ble_eq_true rfl) rfl ?_
          exact z_iret dX10_man_72 rfl (k4 c1 c2 c3 c4)
        ·
          refine z_iconst dX10_man_59 (zi32_d rfl) ?_
          exact z_iret dX10_man_60 rfl (k5 c1 c2 c3 c4)

set_option maxRecDepth 20000 in
theorem bX0_leave_0 {X : zX} {dep bc bs : Nat} (o : Int) {h : zH} {Q : Nat → zH → List zV → Prop} (ho : zRollO o)
    (k1 : zW mX0_leave X dep bc bs 239 14 [(0, xR 44), (1, xR 1), (2, xR 3), (3, xR o), (4, xI 1), (5, xI 0), (6, xI 0)] [] (zst h 44 2 1) Q) : zW mX0_leave X dep bc bs 239 0 [(0, xR 44), (1, xR 1), (2, xR 3), (3, xR o)] [] h Q := by
  refine z_iconst dX0_leave_0 (zi32_d rfl) ?_
  refine z_istore (lv' := [(4, xI 1), (0, xR 44), (1, xR 1), (2, xR 3), (3, xR o)]) dX0_leave_1 (by decide) rfl ?_
  refine z_iconst dX0_leave_3 (zi32_d rfl) ?_
  refine z_istore (lv' := [(5, xI 0), (4, xI 1), (0, xR 44), (1, xR 1), (2, xR 3), (3, xR o)]) dX0_leave_4 (by decide) rfl ?_
  refine z_aload_n 2 dX0_leave_6 rfl ?_
  refine z_iconst dX0_leave_7 (zi32_d rfl) ?_
  refine z_putI (k := 2) (kz := 2) pk0 dX0_leave_8 (by decide) zb_367 rfl (zFit_bool (Or.inr rfl)) (zOb.lit (by decide +kernel)) rfl ?_
  refine z_iconst dX0_leave_11 (zi32_d rfl) ?_
  refine z_istore (lv' := [(6, xI 0), (5, xI 0), (4, xI 1), (0, xR 44), (1, xR 1), (2, xR 3), (3, xR o)]) dX0_leave_12 (by decide) rfl ?_
  refine zW.sub (lv' := [(0, xR 44), (1, xR 1), (2, xR 3), (3, xR o), (4, xI 1), (5, xI 0), (6, xI 0)]) [3, 4, 5, 6, 2, 1, 0] rfl ?_
  exact k1

set_option maxRecDepth 20000 in
theorem bX0_leave_14 {X : zX} {dep bc bs : Nat} (o : Int) (c : Int) (s : Int) (w : Int) {g : zH} {Q : Nat → zH → List zV → Prop} (ho : zRollO o) (hw : 0 ≤ w) (hc : c = 0 ∨ c = 1)
    (k1 : 12 ≤ w → Q 239 g [xI c])
    (k2 : ¬ (12 ≤ w) → zW mX0_leave X dep bc bs 239 24 [(0, xR 44), (1, xR 1), (2, xR 3), (3, xR o), (4, xI c), (5, xI s), (6, xI w), (7, xI 0)] [] g Q) : zW mX0_leave X dep bc bs 239 14 [(0, xR 44), (1, xR 1), (2, xR 3), (3, xR o), (4, xI c), (5, xI s), (6, xI w)] [] g Q := by
  refine z_iload 6 dX0_leave_14 rfl ?_
  refine z_bipush dX0_leave_16 (zi32_d rfl) (by decide) ?_
  refine z_icmp_ge (tgt := 162) dX0_leave_18 (by decide) (fun c1 => ?_) (fun c1 => ?_)
  ·
    refine z_iload 4 dX0_leave_162 rfl ?_
    exact z_zret dX0_leave_164 rfl hc (k1 c1)
  ·
    refine z_iconst dX0_leave_21 (zi32_d rfl) ?_
    refine z_istore (lv' := [(7, xI 0), (0, xR 44), (1, xR 1), (2, xR 3), (3, xR o), (4, xI c), (5, xI s), (6, xI w)]) dX0_leave_22 (by decide) rfl ?_
    refine zW.sub (lv' := [(0, xR 44), (1, xR 1), (2, xR 3), (3, xR o), (4, xI c), (5, xI s), (6, xI w), (7, xI 0)]) [1, 2, 3, 4, 5, 6, 7, 0] rfl ?_
    exact k2 c1

set_option maxRecDepth 20000 in
theorem bX0_leave_24 {X : zX} {dep bc bs : Nat} (o : Int) (c : Int) (s : Int) (w : Int) (p : Int) {g : zH} {Q : Nat → zH → List zV → Prop} (ho : zRollO o) (hw : 0 ≤ w ∧ w < 12) (hp : 0 ≤ p) (hi : p < 8 → 0 ≤ g 22 p ∧ g 22 p ≤ 60) (hh : p < 8 → 0 ≤ zmh g p w (12 - w).toNat ∧ zmh g p w (12 - w).toNat ≤ 60) (hdep : 2 ≤ dep)
    (k1 : 8 ≤ p → zW mX0_leave X dep bc bs 239 133 [(0, xR 44), (1, xR 1), (2, xR 3), (3, xR o), (4, xI c), (5, xI s), (6, xI w)] [] g Q)
    (k2 : ¬ (8 ≤ p) → ¬ w = 0 → zW mX0_leave X dep bc bs 239 76 [(0, xR 44), (1, xR 1), (2, xR 3), (3, xR o), (4, xI c), (5, xI s), (6, xI w), (7, xI p), (8, xI (g (55 + p) (w - 1))), (9, xI (max 0 ((g 22 p) - (zmh g p w (12 - w).toNat))))] [] g Q)
    (k3 : ¬ (8 ≤ p) → w = 0 → zW mX0_leave X dep bc bs 239 76 [(0, xR 44), (1, xR 1), (2, xR 3), (3, xR o), (4, xI c), (5, xI s), (6, xI w), (7, xI p), (8, xI 0), (9, xI (max 0 ((g 22 p) - (zmh g p w (12 - w).toNat))))] [] g Q) : zW mX0_leave X dep bc bs 239 24 [(0, xR 44), (1, xR 1), (2, xR 3), (3, xR o), (4, xI c), (5, xI s), (6, xI w), (7, xI p)] [] g Q := by
  refine z_iload 7 dX0_leave_24 rfl ?_
  refine z_bipush dX0_leave_26 (zi32_d rfl) (by decide) ?_
  refine z_icmp_ge (tgt := 133) dX0_leave_28 (by decide) (fun c1 => ?_) (fun c1 => ?_)
  ·
    refine zW.sub (lv' := [(0, xR 44), (1, xR 1), (2, xR 3), (3, xR o), (4, xI c), (5, xI s), (6, xI w)]) [0, 1, 2, 3, 4, 5, 6] rfl ?_
    exact k1 c1
  ·
    refine z_iload 6 dX0_leave_31 rfl ?_
    refine z_if_ne (tgt := 40) dX0_leave_33 (by decide) (fun c2 => ?_) (fun c2 => ?_)
    ·
      refine z_aload_n 0 dX0_leave_40 rfl ?_
      refine z_getS (v := 54) (k := 1) (kz := 1) pk0 dX0_leave_41 (by decide) zb_365 rfl (zOb.lit (by decide +kernel)) rfl (by decide +kernel) ?_
      refine z_iload 7 dX0_leave_44 rfl ?_
      refine z_aaldSA (v := (55 + p)) dX0_leave_46 (zOb.lit (by decide +kernel)) (show 0 ≤ p ∧ p < 8 from ⟨by omega, by omega⟩).1 (show 0 ≤ p ∧ p < 8 from ⟨by omega, by omega⟩).2 (zRF_gone (show 0 ≤ p ∧ p < 8 from ⟨by omega, by omega⟩).1 (show 0 ≤ p ∧ p < 8 from ⟨by omega, by omega⟩).2) ?_
      refine z_iload 6 dX0_leave_47 rfl ?_
      refine z_iconst dX0_leave_49 (zi32_d rfl) ?_
      refine z_isubN dX0_leave_50 (show -2147483648 ≤ w - 1 ∧ w - 1 < 2147483648 from ⟨by omega, by omega⟩).1 (show -2147483648 ≤ w - 1 ∧ w - 1 < 2147483648 from ⟨by omega, by omega⟩).2 ?_
      refine z_iald dX0_leave_51 (zOb_gone (show 0 ≤ p ∧ p < 8 from ⟨by omega, by omega⟩).1 (show 0 ≤ p ∧ p < 8 from ⟨by omega, by omega⟩).2) (show 0 ≤ (w - 1) ∧ (w - 1) < 12 from ⟨by omega, by omega⟩).1 (show 0 ≤ (w - 1) ∧ (w - 1) < 12 from ⟨by omega, by omega⟩).2 ?_
      refine z_istore (lv' := [(8, xI (g (55 + p) (w - 1))), (0, xR 44), (1, xR 1), (2, xR 3), (3, xR o), (4, xI c), (5, xI s), (6, xI w), (7, xI p)]) dX0_leave_52 (by decide) rfl ?_
      refine z_iconst dX0_leave_54 (zi32_d rfl) ?_
      refine z_aload_n 3 dX0_leave_55 rfl ?_
      refine z_getS (v := 22) (k := 15) (kz := 15) pk4 dX0_leave_56 (by decide) zb_188 rfl (zOb.lit (by decide +kernel)) rfl (by decide +kernel) ?_
      refine z_iload 8 dX0_leave_59 rfl ?_
      refine z_iald dX0_leave_61 (zOb.lit (by decide +kernel)) (show 0 ≤ p ∧ p < 8 from ⟨by omega, by omega⟩).1 (show 0 ≤ p ∧ p < 8 from ⟨by omega, by omega⟩).2 ?_
      refine z_aload_n 1 dX0_leave_62 rfl ?_
      refine z_iload 8 dX0_leave_63 rfl ?_
      refine z_iload 7 dX0_leave_65 rfl ?_
      refine z_invF (ci := 0) (N := 3) (as := [xI p, xI w]) (st := [xI (g 22 p), xI 0]) (ra := [xI w, xI p]) (dep' := dep - 1) (rs := [xI (zmh g p w (12 - w).toNat)]) (h' := g) (f_X0_mostHands p w (h := g) (show 0 ≤ p ∧ p < 8 from ⟨by omega, by omega⟩) (show 0 ≤ w ∧ w ≤ 12 from ⟨by omega, by omega⟩) (by omega)) dX0_leave_67 nX0_mostHands zb_1012 zb_1014 zb_33 zb_89 (zOb.lit (by decide +kernel)) rfl (by omega) zne_I (Nat.le_of_ble_eq_true rfl) (Nat.le_of_ble_eq_true rfl) rfl ?_
      refine z_isubN dX0_leave_70 (show -2147483648 ≤ (g 22 p) - (zmh g p w (12 - w).toNat) ∧ (g 22 p) - (zmh g p w (12 - w).toNat) < 2147483648 from ⟨by omega, by omega⟩).1 (show -2147483648 ≤ (g 22 p) - (zmh g p w (12 - w).toNat) ∧ (g 22 p) - (zmh g p w (12 - w).toNat) < 2147483648 from ⟨by omega, by omega⟩).2 ?_
      refine z_invSF (as := [xI 0, xI ((g 22 p) - (zmh g p w (12 - w).toNat))]) (st := []) (ra := [xI ((g 22 p) - (zmh g p w (12 - w).toNat)), xI 0]) (dep' := dep - 1) (rs := [xI (max 0 ((g 22 p) - (zmh g p w (12 - w).toNat)))]) (h' := g) (f_J9_max_7cf53 0 ((g 22 p) - (zmh g p w (12 - w).toNat)) (h := g) ) dX0_leave_71 nJ9_max_7cf53 zb_1016 zb_836 zb_93 (by omega) zne_I (Nat.le_of_ble_eq_true rfl) (Nat.le_of_ble_eq_true rfl) rfl ?_
      refine z_istore (lv' := [(9, xI (max 0 ((g 22 p) - (zmh g p w (12 - w).toNat)))), (8, xI (g (55 + p) (w - 1))), (0, xR 44), (1, xR 1), (2, xR 3), (3, xR o), (4, xI c), (5, xI s), (6, xI w), (7, xI p)]) dX0_leave_74 (by decide) rfl ?_
      refine zW.sub (lv' := [(0, xR 44), (1, xR 1), (2, xR 3), (3, xR o), (4, xI c), (5, xI s), (6, xI w), (7, xI p), (8, xI (g (55 + p) (w - 1))), (9, xI (max 0 ((g 22 p) - (zmh g p w (12 - w).toNat))))]) [2, 3, 4, 5, 6, 7, 8, 9, 1, 0] rfl ?_
      exact k2 c1 c2
    ·
      refine z_iconst dX0_leave_36 (zi32_d rfl) ?_
      refine z_goto (tgt := 52) dX0_leave_37 (by decide) ?_
      refine z_istore (lv' := [(8, xI 0), (0, xR 44), (1, xR 1), (2, xR 3), (3, xR o), (4, xI c), (5, xI s), (6, xI w), (7, xI p)]) dX0_leave_52 (by decide) rfl ?_
      refine z_iconst dX0_leave_54 (zi32_d rfl) ?_
      refine z_aload_n 3 dX0_leave_55 rfl ?_
      refine z_getS (v := 22) (k := 15) (kz := 15) pk4 dX0_leave_56 (by decide) zb_188 rfl (zOb.lit (by decide +kernel)) rfl (by decide +kernel) ?_
      refine z_iload 8 dX0_leave_59 rfl ?_
      refine z_iald dX0_leave_61 (zOb.lit (by decide +kernel)) (show 0 ≤ p ∧ p < 8 from ⟨by omega, by omega⟩).1 (show 0 ≤ p ∧ p < 8 from ⟨by omega, by omega⟩).2 ?_
      refine z_aload_n 1 dX0_leave_62 rfl ?_
      refine z_iload 8 dX0_leave_63 rfl ?_
      refine z_iload 7 dX0_leave_65 rfl ?_
      refine z_invF (ci := 0) (N := 3) (as := [xI p, xI w]) (st := [xI (g 22 p), xI 0]) (ra := [xI w, xI p]) (dep' := dep - 1) (rs := [xI (zmh g p w (12 - w).toNat)]) (h' := g) (f_X0_mostHands p w (h := g) (show 0 ≤ p ∧ p < 8 from ⟨by omega, by omega⟩) (show 0 ≤ w ∧ w ≤ 12 from ⟨by omega, by omega⟩) (by omega)) dX0_leave_67 nX0_mostHands zb_1012 zb_1014 zb_33 zb_89 (zOb.lit (by decide +kernel)) rfl (by omega) zne_I (Nat.le_of_ble_eq_true rfl) (Nat.le_of_ble_eq_true rfl) rfl ?_
      refine z_isubN dX0_leave_70 (show -2147483648 ≤ (g 22 p) - (zmh g p w (12 - w).toNat) ∧ (g 22 p) - (zmh g p w (12 - w).toNat) < 2147483648 from ⟨by omega, by omega⟩).1 (show -2147483648 ≤ (g 22 p) - (zmh g p w (12 - w).toNat) ∧ (g 22 p) - (zmh g p w (12 - w).toNat) < 2147483648 from ⟨by omega, by omega⟩).2 ?_
      refine z_invSF (as := [xI 0, xI ((g 22 p) - (zmh g p w (12 - w).toNat))]) (st := []) (ra := [xI ((g 22 p) - (zmh g p w (12 - w).toNat)), xI 0]) (dep' := dep - 1) (rs := [xI (max 0 ((g 22 p) - (zmh g p w (12 - w).toNat)))]) (h' := g) (f_J9_max_7cf53 0 ((g 22 p) - (zmh g p w (12 - w).toNat)) (h := g) ) dX0_leave_71 nJ9_max_7cf53 zb_1016 zb_836 zb_93 (by omega) zne_I (Nat.le_of_ble_eq_true rfl) (Nat.le_of_ble_eq_true rfl) rfl ?_
      refine z_istore (lv' := [(9, xI (max 0 ((g 22 p) - (zmh g p w (12 - w).toNat)))), (8, xI 0), (0, xR 44), (1, xR 1), (2, xR 3), (3, xR o), (4, xI c), (5, xI s), (6, xI w), (7, xI p)]) dX0_leave_74 (by decide) rfl ?_
      refine zW.sub (lv' := [(0, xR 44), (1, xR 1), (2, xR 3), (3, xR o), (4, xI c), (5, xI s), (6, xI w), (7, xI p), (8, xI 0), (9, xI (max 0 ((g 22 p) - (zmh g p w (12 - w).toNat))))]) [2, 3, 4, 5, 6, 7, 8, 9, 1, 0] rfl ?_
      exact k3 c1 c2

set_option maxRecDepth 20000 in
theorem bX0_leave_76 {X : zX} {dep bc bs : Nat} (o : Int) (c : Int) (s : Int) (w : Int) (p : Int) (b : Int) (y : Int) {g : zH} {Q : Nat → zH → List zV → Prop} (ho : zRollO o) (ht : 0 ≤ g 1 1 ∧ g 1 1 ≤ 340) (hp : 0 ≤ p ∧ p < 8) (hz : -1 ≤ zat g w ∧ zat g w ≤ 255) (hs : 0 ≤ s ∧ s ≤ 255) (hb : 0 ≤ b ∧ b ≤ 60) (hy : 0 ≤ min y (g (o + 10) p) ∧ min y (g (o + 10) p) ≤ 60) (hdep : 1 ≤ dep)
    (k1 : zW mX0_leave X dep bc bs 239 105 [(0, xR 44), (1, xR 1), (2, xR 3), (3, xR o), (4, xI c), (5, xI s), (6, xI w), (7, xI p), (8, xI b), (10, xI (min ((min y (g (o + 10) p)) - b) ((zat g w) - s)))] [] g Q) : zW mX0_leave X dep bc bs 239 76 [(0, xR 44), (1, xR 1), (2, xR 3), (3, xR o), (4, xI c), (5, xI s), (6, xI w), (7, xI p), (8, xI b), (9, xI y)] [] g Q := by
  refine z_iload 9 dX0_leave_76 rfl ?_
  refine z_aload_n 3 dX0_leave_78 rfl ?_
  refine z_getS (v := (o + 10)) (k := 8) (kz := 8) pk6 dX0_leave_79 (by decide) zb_423 rfl ho.1 rfl ho.2.2.2.2.2.2.2.2.2.2.2.2.2.2.2.2.2.2.2.2.2.1 ?_
  refine z_iload 7 dX0_leave_82 rfl ?_
  refine z_iald dX0_leave_84 ho.2.2.2.2.2.2.2.2.2.2.1 hp.1 hp.2 ?_
  refine z_invSF (as := [xI y, xI (g (o + 10) p)]) (st := []) (ra := [xI (g (o + 10) p), xI y]) (dep' := dep - 1) (rs := [xI (min y (g (o + 10) p))]) (h' := g) (f_J9_min_7cf53 y (g (o + 10) p) (h := g) ) dX0_leave_85 nJ9_min_7cf53 zb_1017 zb_605 zb_93 (by omega) zne_I (Nat.le_of_ble_eq_true rfl) (Nat.le_of_ble_eq_true rfl) rfl ?_
  refine z_iload 8 dX0_leave_88 rfl ?_
  refine z_isubN dX0_leave_90 (show -2147483648 ≤ (min y (g (o + 10) p)) - b ∧ (min y (g (o + 10) p)) - b < 2147483648 from ⟨by omega, by omega⟩).1 (show -2147483648 ≤ (min y (g (o + 10) p)) - b ∧ (min y (g (o + 10) p)) - b < 2147483648 from ⟨by omega, by omega⟩).2 ?_
  refine z_aload_n 1 dX0_leave_91 rfl ?_
  refine z_iload 6 dX0_leave_92 rfl ?_
  refine z_invF (ci := 7) (N := 2) (as := [xI w]) (st := [xI ((min y (g (o + 10) p)) - b)]) (ra := [xI w]) (dep' := dep - 1) (rs := [xI (zat g w)]) (h' := g) (f_X7_at w (h := g) ht) dX0_leave_94 nX7_at zb_1007 zb_541 zb_542 zb_83 (zOb.lit (by decide +kernel)) rfl (by omega) zne_I (Nat.le_of_ble_eq_true rfl) (Nat.le_of_ble_eq_true rfl) rfl ?_
  refine z_iload 5 dX0_leave_97 rfl ?_
  refine z_isubN dX0_leave_99 (show -2147483648 ≤ (zat g w) - s ∧ (zat g w) - s < 2147483648 from ⟨by omega, by omega⟩).1 (show -2147483648 ≤ (zat g w) - s ∧ (zat g w) - s < 2147483648 from ⟨by omega, by omega⟩).2 ?_
  refine z_invSF (as := [xI ((min y (g (o + 10) p)) - b), xI ((zat g w) - s)]) (st := []) (ra := [xI ((zat g w) - s), xI ((min y (g (o + 10) p)) - b)]) (dep' := dep - 1) (rs := [xI (min ((min y (g (o + 10) p)) - b) ((zat g w) - s))]) (h' := g) (f_J9_min_7cf53 ((min y (g (o + 10) p)) - b) ((zat g w) - s) (h := g) ) dX0_leave_100 nJ9_min_7cf53 zb_1017 zb_605 zb_93 (by omega) zne_I (Nat.le_of_ble_eq_true rfl) (Nat.le_of_ble_eq_true rfl) rfl ?_
  refine z_istore (lv' := [(10, xI (min ((min y (g (o + 10) p)) - b) ((zat g w) - s))), (0, xR 44), (1, xR 1), (2, xR 3), (3, xR o), (4, xI c), (5, xI s), (6, xI w), (7, xI p), (8, xI b), (9, xI y)]) dX0_leave_103 (by decide) rfl ?_
  refine zW.sub (lv' := [(0, xR 44), (1, xR 1), (2, xR 3), (3, xR o), (4, xI c), (5, xI s), (6, xI w), (7, xI p), (8, xI b), (10, xI (min ((min y (g (o + 10) p)) - b) ((zat g w) - s)))]) [1, 2, 3, 4, 5, 6, 7, 8, 9, 0] rfl ?_
  exact k1

set_option maxRecDepth 20000 in
theorem bX0_leave_105 {X : zX} {dep bc bs : Nat} (o : Int) (c : Int) (s : Int) (w : Int) (p : Int) (b : Int) (x : Int) {g : zH} {Q : Nat → zH → List zV → Prop} (ho : zRollO o) (hw : 0 ≤ w ∧ w < 12) (hp : 0 ≤ p ∧ p < 8) (hs : 0 ≤ s ∧ s ≤ 255) (hb : 0 ≤ b ∧ b ≤ 60) (hx : 0 ≤ x ∧ x ≤ 255)
    (k1 : zW mX0_leave X dep bc bs 239 24 [(0, xR 44), (1, xR 1), (2, xR 3), (3, xR o), (4, xI c), (5, xI (s + x)), (6, xI w), (7, xI (p + 1))] [] (zst g (55 + p) w (b + x)) Q) : zW mX0_leave X dep bc bs 239 105 [(0, xR 44), (1, xR 1), (2, xR 3), (3, xR o), (4, xI c), (5, xI s), (6, xI w), (7, xI p), (8, xI b), (10, xI x)] [] g Q := by
  refine z_aload_n 0 dX0_leave_105 rfl ?_
  refine z_getS (v := 54) (k := 1) (kz := 1) pk0 dX0_leave_106 (by decide) zb_365 rfl (zOb.lit (by decide +kernel)) rfl (by decide +kernel) ?_
  refine z_iload 7 dX0_leave_109 rfl ?_
  refine z_aaldSA (v := (55 + p)) dX0_leave_111 (zOb.lit (by decide +kernel)) hp.1 hp.2 (zRF_gone hp.1 hp.2) ?_
  refine z_iload 6 dX0_leave_112 rfl ?_
  refine z_iload 8 dX0_leave_114 rfl ?_
  refine z_iload 9 dX0_leave_116 rfl ?_
  refine z_iaddN dX0_leave_118 (show -2147483648 ≤ b + x ∧ b + x < 2147483648 from ⟨by omega, by omega⟩).1 (show -2147483648 ≤ b + x ∧ b + x < 2147483648 from ⟨by omega, by omega⟩).2 ?_
  refine z_iast dX0_leave_119 (zOb_gone hp.1 hp.2) hw.1 hw.2 ?_
  refine z_iload 5 dX0_leave_120 rfl ?_
  refine z_iload 9 dX0_leave_122 rfl ?_
  refine z_iaddN dX0_leave_124 (show -2147483648 ≤ s + x ∧ s + x < 2147483648 from ⟨by omega, by omega⟩).1 (show -2147483648 ≤ s + x ∧ s + x < 2147483648 from ⟨by omega, by omega⟩).2 ?_
  refine z_istore (lv' := [(5, xI (s + x)), (0, xR 44), (1, xR 1), (2, xR 3), (3, xR o), (4, xI c), (6, xI w), (7, xI p), (8, xI b), (10, xI x)]) dX0_leave_125 (by decide) rfl ?_
  refine z_iincN (lv' := [(7, xI (p + 1)), (5, xI (s + x)), (0, xR 44), (1, xR 1), (2, xR 3), (3, xR o), (4, xI c), (6, xI w), (8, xI b), (10, xI x)]) 7 dX0_leave_127 rfl (by decide) rfl (show -2147483648 ≤ p + 1 ∧ p + 1 < 2147483648 from ⟨by omega, by omega⟩).1 (show -2147483648 ≤ p + 1 ∧ p + 1 < 2147483648 from ⟨by omega, by omega⟩).2 ?_
  refine z_goto (tgt := 24) dX0_leave_130 (by decide) ?_
  refine zW.sub (lv' := [(0, xR 44), (1, xR 1), (2, xR 3), (3, xR o), (4, xI c), (5, xI (s + x)), (6, xI w), (7, xI (p + 1))]) [2, 3, 4, 5, 6, 1, 7, 0] rfl ?_
  exact k1

set_option maxRecDepth 20000 in
theorem bX0_leave_133 {X : zX} {dep bc bs : Nat} (o : Int) (c : Int) (s : Int) (w : Int) {g : zH} {Q : Nat → zH → List zV → Prop} (ho : zRollO o) (ht : 0 ≤ g 1 1 ∧ g 1 1 ≤ 340) (hw : 0 ≤ w ∧ w < 12) (hdep : 1 ≤ dep)
    (k1 : c = 0 → zW mX0_leave X dep bc bs 239 14 [(0, xR 44), (1, xR 1), (2, xR 3), (3, xR o), (4, xI 0), (5, xI s), (6, xI (w + 1))] [] g Q)
    (k2 : ¬ (c = 0) → zW mX0_leave X dep bc bs 239 14 [(0, xR 44), (1, xR 1), (2, xR 3), (3, xR o), (4, xI (if s = (zat g w) then 1 else 0 : Int)), (5, xI s), (6, xI (w + 1))] [] g Q) : zW mX0_leave X dep bc bs 239 133 [(0, xR 44), (1, xR 1), (2, xR 3), (3, xR o), (4, xI c), (5, xI s), (6, xI w)] [] g Q := by
  refine z_iload 4 dX0_leave_133 rfl ?_
  refine z_if_eq (tgt := 153) dX0_leave_135 (by decide) (fun c1 => ?_) (fun c1 => ?_)
  ·
    refine z_iconst dX0_leave_153 (zi32_d rfl) ?_
    refine z_istore (lv' := [(4, xI 0), (0, xR 44), (1, xR 1), (2, xR 3), (3, xR o), (5, xI s), (6, xI w)]) dX0_leave_154 (by decide) rfl ?_
    refine z_iincN (lv' := [(6, xI (w + 1)), (4, xI 0), (0, xR 44), (1, xR 1), (2, xR 3), (3, xR o), (5, xI s)]) 6 dX0_leave_156 rfl (by decide) rfl (show -2147483648 ≤ w + 1 ∧ w + 1 < 2147483648 from ⟨by omega, by omega⟩).1 (show -2147483648 ≤ w + 1 ∧ w + 1 < 2147483648 from ⟨by omega, by omega⟩).2 ?_
    refine z_goto (tgt := 14) dX0_leave_159 (by decide) ?_
    refine zW.sub (lv' := [(0, xR 44), (1, xR 1), (2, xR 3), (3, xR o), (4, xI 0), (5, xI s), (6, xI (w + 1))]) [2, 3, 4, 5, 1, 6, 0] rfl ?_
    exact k1 c1
  ·
    refine z_iload 5 dX0_leave_138 rfl ?_
    refine z_aload_n 1 dX0_leave_140 rfl ?_
    refine z_iload 6 dX0_leave_141 rfl ?_
    refine z_invF (ci := 7) (N := 2) (as := [xI w]) (st := [xI s]) (ra := [xI w]) (dep' := dep - 1) (rs := [xI (zat g w)]) (h' := g) (f_X7_at w (h := g) ht) dX0_leave_143 nX7_at zb_1007 zb_541 zb_542 zb_83 (zOb.lit (by decide +kernel)) rfl (by omega) zne_I (Nat.le_of_ble_eq_true rfl) (Nat.le_of_ble_eq_true rfl) rfl ?_
    suffices KJ : zW mX0_leave X dep bc bs 239 154 [(0, xR 44), (1, xR 1), (2, xR 3), (3, xR o), (4, xI c), (5, xI s), (6, xI w)] [xI (if s = (zat g w) then 1 else 0 : Int)] g Q by
      refine z_icmp_ne (tgt := 153) dX0_leave_146 (by decide) (fun j1 => ?_) (fun j1 => ?_)
      ·
        refine z_iconst dX0_leave_153 (zi32_d rfl) ?_
        rw [if_neg j1] at KJ
        exact KJ
      ·
        refine z_iconst dX0_leave_149 (zi32_d rfl) ?_
        refine z_goto (tgt := 154) dX0_leave_150 (by decide) ?_
        rw [if_pos j1] at KJ
        exact KJ
    refine z_istore (lv' := [(4, xI (if s = (zat g w) then 1 else 0 : Int)), (0, xR 44), (1, xR 1), (2, xR 3), (3, xR o), (5, xI s), (6, xI w)]) dX0_leave_154 (by decide) rfl ?_
    refine z_iincN (lv' := [(6, xI (w + 1)), (4, xI (if s = (zat g w) then 1 else 0 : Int)), (0, xR 44), (1, xR 1), (2, xR 3), (3, xR o), (5, xI s)]) 6 dX0_leave_156 rfl (by decide) rfl (show -2147483648 ≤ w + 1 ∧ w + 1 < 2147483648 from ⟨by omega, by omega⟩).1 (show -2147483648 ≤ w + 1 ∧ w + 1 < 2147483648 from ⟨by omega, by omega⟩).2 ?_
    refine z_goto (tgt := 14) dX0_leave_159 (by decide) ?_
    refine zW.sub (lv' := [(0, xR 44), (1, xR 1), (2, xR 3), (3, xR o), (4, xI (if s = (zat g w) then 1 else 0 : Int)), (5, xI s), (6, xI (w + 1))]) [2, 3, 4, 5, 1, 6, 0] rfl ?_
    exact k2 c1

/-- weeks taken -/
def zTk52 (h : zH) (o : Int) (g : zH) : Prop := zap (fun q => q = o ∨ q = o + 1) h g ∧ (∀ k : Int, k ≠ 2 → g o k = h o k) ∧ g o 2 = 1 ∧ (∀ v : Int, 0 ≤ v → v < 52 → g (o + 1) v = ztk h (h (o + 1)) 52 v) ∧ ∀ v : Int, v < 0 ∨ 52 ≤ v → g (o + 1) v = h (o + 1) v
theorem f_X3_takeWeeks {X : zX} {dep : Nat} (o : Int) {h : zH} (ho : zLotO o) (hb : 2 < o) (ht : 0 ≤ h 1 1 ∧ h 1 1 ≤ 340) (hdep : 2 ≤ dep) : zW mX3_takeWeeks X dep 0 0 239 0 (zar 0 [xR o, xR 1]) [] h
    (zQI (fun v g => (h o 2 = 0 ∧ zPicks h 52) ∧ v = 1 ∧ zTk52 h o g ∨ ¬ (h o 2 = 0 ∧ zPicks h 52) ∧ v = 0 ∧ g = h)) := by
  refine bX3_takeWeeks_0 o ho ht (by omega) (fun c => ?_) (fun c c1 => ?_) (fun c c1 => ?_)
  · exact ⟨rfl, _, rfl, Or.inr ⟨fun z => c z.1, rfl, rfl⟩⟩
  · refine rX3_takeWeeks_23 o (f_X3_takePicks52 (o + 1) c1.1 c1.2 ho.2.1 (by omega) (by omega)) (by omega) (fun g hg => ?_)
    refine bX3_takeWeeks_26 o ho ?_
    refine ⟨rfl, _, rfl, Or.inl ⟨⟨c, c1⟩, rfl, (show zap (fun q => q = o ∨ q = o + 1) h g from hg.1.mono (fun q z => Or.inr z)).st (Or.inl rfl) _ _, fun k hk => ?_, zst_self _ _ _ _, fun v v0 v1 => ?_, fun v hv => ?_⟩⟩
    · rw [zst_ne (Or.inr hk)]
      exact hg.1 o k (by omega)
    · rw [zst_ne (Or.inl (by omega))]
      exact hg.2.1 v v0 v1
    · rw [zst_ne (Or.inl (by omega))]
      exact hg.2.2 v hv
  · exact ⟨rfl, _, rfl, Or.inr ⟨fun z => c1 z.2, rfl, rfl⟩⟩
theorem f_X10_weeks {X : zX} {dep : Nat} (l : Int) {h : zH} (hn : 0 ≤ h 0 12 ∧ h 0 12 ≤ 4) (ht : 0 ≤ h 1 1 ∧ h 1 1 ≤ 340) (hdep : 3 ≤ dep) : zW mX10_weeks X dep 0 0 239 0 (zar 0 [xR 0, xI l]) [] h
    (zQI (fun v g => ((0 ≤ l ∧ l < h 0 12) ∧ h (113 + 14 * l + 1) 2 = 0 ∧ zPicks h 52) ∧ v = 1 ∧ (∃ e, zTk52 h (113 + 14 * l + 1) e ∧ g = zst e 1 1 0) ∨ ¬ ((0 ≤ l ∧ l < h 0 12) ∧ h (113 + 14 * l + 1) 2 = 0 ∧ zPicks h 52) ∧ v = 0 ∧ g = zst h 1 1 0)) := by
  refine bX10_weeks_0 l hn.2 (by omega) (fun c => ?_) (fun c => ?_)
  · refine bX10_weeks_33 0 (Or.inl rfl) ?_
    exact ⟨rfl, _, rfl, Or.inr ⟨fun z => c z.1, rfl, rfl⟩⟩
  · refine rX10_weeks_21 l (by omega) (f_X3_takeWeeks _ (zLotO_rolls c.1 (by omega)) (by omega) ht (by omega)) (by omega) (fun v g hg => ?_)
    refine bX10_weeks_24 l v ?_
    refine bX10_weeks_33 _ (by split <;> omega) ?_
    rcases hg with ⟨q1, rfl, q2⟩ | ⟨q1, rfl, rfl⟩
    · exact ⟨rfl, _, rfl, Or.inl ⟨⟨c, q1⟩, by decide, g, q2, rfl⟩⟩
    · exact ⟨rfl, _, rfl, Or.inr ⟨fun z => q1 z.2, by decide, rfl⟩⟩
/-- letters taken -/
def zTk26 (h : zH) (o : Int) (g : zH) : Prop := zap (fun q => q = o ∨ q = o + 2) h g ∧ (∀ k : Int, k ≠ 3 → g o k = h o k) ∧ g o 3 = 1 ∧ (∀ v : Int, 0 ≤ v → v < 26 → g (o + 2) v = ztk h (h (o + 2)) 26 v) ∧ ∀ v : Int, v < 0 ∨ 26 ≤ v → g (o + 2) v = h (o + 2) v
theorem f_X3_takeLetters {X : zX} {dep : Nat} (o : Int) {h : zH} (ho : zLotO o) (hb : 2 < o) (ht : 0 ≤ h 1 1 ∧ h 1 1 ≤ 340) (hdep : 2 ≤ dep) : zW mX3_takeLetters X dep 0 0 239 0 (zar 0 [xR o, xR 1]) [] h
    (zQI (fun v g => (h o 3 = 0 ∧ zPicks h 26) ∧ v = 1 ∧ zTk26 h o g ∨ ¬ (h o 3 = 0 ∧ zPicks h 26) ∧ v = 0 ∧ g = h)) := by
  refine bX3_takeLetters_0 o ho ht (by omega) (fun c => ?_) (fun c c1 => ?_) (fun c c1 => ?_)
  · exact ⟨rfl, _, rfl, Or.inr ⟨fun z => c z.1, rfl, rfl⟩⟩
  · refine rX3_takeLetters_23 o (f_X3_takePicks26 (o + 2) c1.1 c1.2 ho.2.2.1 (by omega) (by omega)) (by omega) (fun g hg => ?_)
    refine bX3_takeLetters_26 o ho ?_
    refine ⟨rfl, _, rfl, Or.inl ⟨⟨c, c1⟩, rfl, (show zap (fun q => q = o ∨ q = o + 2) h g from hg.1.mono (fun q z => Or.inr z)).st (Or.inl rfl) _ _, fun k hk => ?_, zst_self _ _ _ _, fun v v0 v1 => ?_, fun v hv => ?_⟩⟩
    · rw [zst_ne (Or.inr hk)]
      exact hg.1 o k (by omega)
    · rw [zst_ne (Or.inl (by omega))]
      exact hg.2.1 v v0 v1
    · rw [zst_ne (Or.inl (by omega))]
      exact hg.2.2 v hv
  · exact ⟨rfl, _, rfl, Or.inr ⟨fun z => c1 z.2, rfl, rfl⟩⟩
theorem f_X10_letters {X : zX} {dep : Nat} (l : Int) {h : zH} (hn : 0 ≤ h 0 12 ∧ h 0 12 ≤ 4) (ht : 0 ≤ h 1 1 ∧ h 1 1 ≤ 340) (hdep : 3 ≤ dep) : zW mX10_letters X dep 0 0 239 0 (zar 0 [xR 0, xI l]) [] h
    (zQI (fun v g => ((0 ≤ l ∧ l < h 0 12) ∧ h (113 + 14 * l + 1) 3 = 0 ∧ zPicks h 26) ∧ v = 1 ∧ (∃ e, zTk26 h (113 + 14 * l + 1) e ∧ g = zst e 1 1 0) ∨ ¬ ((0 ≤ l ∧ l < h 0 12) ∧ h (113 + 14 * l + 1) 3 = 0 ∧ zPicks h 26) ∧ v = 0 ∧ g = zst h 1 1 0)) := by
  refine bX10_letters_0 l hn.2 (by omega) (fun c => ?_) (fun c => ?_)
  · refine bX10_letters_33 0 (Or.inl rfl) ?_
    exact ⟨rfl, _, rfl, Or.inr ⟨fun z => c z.1, rfl, rfl⟩⟩
  · refine rX10_letters_21 l (by omega) (f_X3_takeLetters _ (zLotO_rolls c.1 (by omega)) (by omega) ht (by omega)) (by omega) (fun v g hg => ?_)
    refine bX10_letters_24 l v ?_
    refine bX10_letters_33 _ (by split <;> omega) ?_
    rcases hg with ⟨q1, rfl, q2⟩ | ⟨q1, rfl, rfl⟩
    · exact ⟨rfl, _, rfl, Or.inl ⟨⟨c, q1⟩, by decide, g, q2, rfl⟩⟩
    · exact ⟨rfl, _, rfl, Or.inr ⟨fun z => q1 z.2, by decide, rfl⟩⟩
theorem f_X10_man {X : zX} {dep : Nat} (p f : Int) {h : zH} (ht : 0 ≤ h 1 1 ∧ h 1 1 ≤ 340) (h3 : 0 ≤ h 3 0 ∧ h 3 0 ≤ 60) (hdep : 3 ≤ dep) : zW mX10_man X dep 0 0 239 0 (zar 0 [xR 0, xI p, xI f]) [] h
    (zQI (fun v g => (zName h ∧ (0 ≤ p ∧ p < 8) ∧ (0 ≤ f ∧ f < 60) ∧ h 3 0 < 60) ∧ v = h 3 0 ∧ g = zst (zst (zst (zst (zst h 1 1 0) 4 (h 3 0) p) 5 (h 3 0) f) 6 (h 3 0) (zat h 0 - 97)) 3 0 (h 3 0 + 1) ∨ ¬ (zName h ∧ (0 ≤ p ∧ p < 8) ∧ (0 ≤ f ∧ f < 60) ∧ h 3 0 < 60) ∧ v = -1 ∧ g = zst h 1 1 0)) := by
  have hz : -1 ≤ zat h 0 ∧ zat h 0 ≤ 255 := by
    by_cases c : 0 < h 1 1
    · have := zat_in (h := h) (i := 0) (by omega) c
      omega
    · unfold zat
      rw [if_neg (by omega)]
      omega
  have e : zst h 1 1 0 3 0 = h 3 0 := zst_ne (Or.inl (by omega))
  refine bX10_man_0 p f ht hz h3 hdep (fun c => ?_) (fun c c1 => ?_) (fun c c1 c2 => ?_) (fun c c1 c2 c3 => ?_) (fun c c1 c2 c3 => ?_)
  · refine ⟨rfl, _, rfl, Or.inr ⟨fun z => ?_, rfl, rfl⟩⟩
    rw [zb_t z.1] at c
    exact absurd c (by decide)
  · exact ⟨rfl, _, rfl, Or.inr ⟨fun z => c1 z.2.1, rfl, rfl⟩⟩
  · exact ⟨rfl, _, rfl, Or.inr ⟨fun z => c2 z.2.2.1, rfl, rfl⟩⟩
  · rw [e]
    refine ⟨rfl, _, rfl, Or.inl ⟨⟨?_, c1, c2, c3⟩, rfl, rfl⟩⟩
    refine Classical.byContradiction fun z => c (zb_f z)
  · exact ⟨rfl, _, rfl, Or.inr ⟨fun z => c3 z.2.2.2, rfl, rfl⟩⟩
/-- who is gone: s of told, behind the first parishes of a week -/
def zls (cap b : Int → Int) (t s : Int) : Nat → Int
  | 0 => s
  | p + 1 => zls cap b t s p + min (cap p - b p) (t - zls cap b t s p)
def zlv (cap : Int → Int → Int) (told : Int → Int) : Nat → (Int → Int) × Int × Int
  | 0 => (fun _ => 0, 0, 1)
  | w + 1 => (fun p => (zlv cap told w).1 p + min (cap w p - (zlv cap told w).1 p) (told w - zls (cap w) (zlv cap told w).1 (told w) (zlv cap told w).2.1 p.toNat),
      zls (cap w) (zlv cap told w).1 (told w) (zlv cap told w).2.1 8,
      if (zlv cap told w).2.2 = 0 then 0 else if zls (cap w) (zlv cap told w).1 (told w) (zlv cap told w).2.1 8 = told w then 1 else 0)
def zcap (h : zH) (o w p : Int) : Int := min (max 0 (h 22 p - zmh h p w (12 - w).toNat)) (h (o + 10) p)
theorem zmh_in {h : zH} {p : Int} (hh : ∀ w : Int, 0 ≤ w → w < 12 → 0 ≤ h (46 + p) w ∧ h (46 + p) w ≤ 60) (w : Int) (hw : 0 ≤ w) : ∀ n : Nat, w + n ≤ 12 → 0 ≤ zmh h p w n ∧ zmh h p w n ≤ 60
  | 0, _ => by unfold zmh; omega
  | n + 1, hn => by
    have := zmh_in hh w hw n (by omega)
    have := hh (w + n) (by omega) (by omega)
    unfold zmh
    omega
theorem zmh_le (h : zH) (p w : Int) : ∀ n : Nat, zmh h p (w + 1) n ≤ zmh h p w (n + 1)
  | 0 => by
    show (0 : Int) ≤ max 0 _
    omega
  | n + 1 => by
    have := zmh_le h p w n
    show max (zmh h p (w + 1) n) (h (46 + p) (w + 1 + n)) ≤ max (zmh h p w (n + 1)) (h (46 + p) (w + ((n + 1 : Nat) : Int)))
    rw [show w + 1 + (n : Int) = w + ((n + 1 : Nat) : Int) by omega]
    omega
theorem zcap_le (h : zH) (o w p : Int) (h0 : 0 ≤ w) (h1 : w < 12) : zcap h o w p ≤ zcap h o (w + 1) p := by
  have := zmh_le h p w (12 - (w + 1)).toNat
  rw [show (12 - (w + 1)).toNat + 1 = (12 - w).toNat by omega] at this
  unfold zcap
  omega
/-- each step of leaving lets nobody back, and nobody more than may go -/
theorem zls_in {cap b : Int → Int} {t s : Int} (hs : 0 ≤ s ∧ s ≤ t) (hb : ∀ p : Int, 0 ≤ p → p < 8 → b p ≤ cap p) : ∀ p : Nat, p ≤ 8 → s ≤ zls cap b t s p ∧ zls cap b t s p ≤ t
  | 0, _ => ⟨Int.le_refl _, hs.2⟩
  | p + 1, hp => by
    have i1 := zls_in hs hb p (by omega)
    have i2 := hb p (by omega) (by omega)
    unfold zls
    omega
theorem zlv_in {cap : Int → Int → Int} {told : Int → Int} (h0 : ∀ p : Int, 0 ≤ p → p < 8 → 0 ≤ cap 0 p) (hc : ∀ w p : Int, 0 ≤ w → w < 12 → 0 ≤ p → p < 8 → cap w p ≤ cap (w + 1) p) (ht0 : 0 ≤ told 0) (ht : ∀ w : Int, 0 ≤ w → w < 12 → told w ≤ told (w + 1)) : ∀ w : Nat, w ≤ 12 → (0 ≤ (zlv cap told w).2.1 ∧ (zlv cap told w).2.1 ≤ told w) ∧ ∀ p : Int, 0 ≤ p → p < 8 → 0 ≤ (zlv cap told w).1 p ∧ (zlv cap told w).1 p ≤ cap w p
  | 0, _ => ⟨⟨Int.le_refl _, ht0⟩, fun p p0 p1 => ⟨Int.le_refl _, h0 p p0 p1⟩⟩
  | w + 1, hw => by
    have i1 := zlv_in h0 hc ht0 ht w (by omega)
    have t1 := ht w (by omega) (by omega)
    have b1 : ∀ p : Int, 0 ≤ p → p < 8 → (zlv cap told w).1 p ≤ cap w p := fun p p0 p1 => (i1.2 p p0 p1).2
    have z := zls_in (cap := cap w) (b := (zlv cap told w).1) (t := told w) (s := (zlv cap told w).2.1) i1.1 b1
    refine ⟨?_, fun p p0 p1 => ?_⟩
    · show 0 ≤ zls (cap w) (zlv cap told w).1 (told w) (zlv cap told w).2.1 8 ∧ zls (cap w) (zlv cap told w).1 (told w) (zlv cap told w).2.1 8 ≤ told ((w + 1 : Nat) : Int)
      have := z 8 (by omega)
      rw [show ((w + 1 : Nat) : Int) = (w : Int) + 1 by omega]
      omega
    · show 0 ≤ (zlv cap told w).1 p + min (cap w p - (zlv cap told w).1 p) (told w - zls (cap w) (zlv cap told w).1 (told w) (zlv cap told w).2.1 p.toNat) ∧ (zlv cap told w).1 p + min (cap w p - (zlv cap told w).1 p) (told w - zls (cap w) (zlv cap told w).1 (told w) (zlv cap told w).2.1 p.toNat) ≤ cap ((w + 1 : Nat) : Int) p
      have := z p.toNat (by omega)
      have i2 := i1.2 p p0 p1
      have c1 := hc w p (by omega) (by omega) p0 p1
      rw [show ((w + 1 : Nat) : Int) = (w : Int) + 1 by omega]
      omega
