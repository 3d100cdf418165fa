/-! reading LINES -/
set_option maxRecDepth 20000 in
theorem bX5_readSend_0 {X : zX} {dep bc bs : Nat} (L : Int) {h : zH} {Q : Nat → zH → List zV → Prop} (hL : zLawO L) (hl : h 24 1 = L) (hw : zWd (h 24 6))
    (k1 : ¬ (h 24 6) = 1000007 → zW mX5_readSend X dep bc bs 239 19 [(0, xR 24)] [xI 1, xR L] h Q)
    (k2 : (h 24 6) = 1000007 → zW mX5_readSend X dep bc bs 239 19 [(0, xR 24)] [xI 0, xR L] h Q) : zW mX5_readSend X dep bc bs 239 0 [(0, xR 24)] [] h Q := by
  refine z_aload_n 0 dX5_readSend_0 rfl ?_
  refine z_getD (v := L) (k := 1) (kz := 1) pk5 dX5_readSend_1 (by decide) zb_324 rfl (zOb.lit (by decide +kernel)) rfl hl ?_
  refine z_aload_n 0 dX5_readSend_4 rfl ?_
  refine z_getD (v := (h 24 6)) (k := 6) (kz := 6) pk5 dX5_readSend_5 (by decide) zb_331 rfl (zOb.lit (by decide +kernel)) rfl rfl ?_
  refine z_getW 7 (by decide) dX5_readSend_8 zb_731 ?_
  show zW mX5_readSend X dep bc bs 239 11 [(0, xR 24)] [xR 1000007, xR (h 24 6), xR L] h Q
  refine z_acmp_ne (tgt := 18) dX5_readSend_11 (by decide) hw (Or.inr ⟨by decide, by decide⟩) (fun c1 => ?_) (fun c1 => ?_)
  ·
    refine z_iconst dX5_readSend_18 (zi32_d rfl) ?_
    exact k1 c1
  ·
    refine z_iconst dX5_readSend_14 (zi32_d rfl) ?_
    refine z_goto (tgt := 19) dX5_readSend_15 (by decide) ?_
    exact k2 c1

set_option maxRecDepth 20000 in
theorem rX5_readSend_19 {X : zX} {dep bc bs : Nat} (L : Int) (v : Int) {h : zH} {Q : Nat → zH → List zV → Prop} {P : zH → Prop} (hL : zLawO L)
    (hZ : zW mX1_setNumber X (dep - 1) 0 0 239 0 (zar 0 [xR L, xI v]) [] h (zQ0 P)) (hdep : 1 ≤ dep)
    (k : ∀ g : zH, P g → zW mX5_readSend X dep bc bs 239 22 [(0, xR 24)] [] g Q) : zW mX5_readSend X dep bc bs 239 19 [(0, xR 24)] [xI v, xR L] h Q :=
  z_invQ0 (ci := 1) (N := 13) (as := [xI v]) (st := []) (ra := [xI v]) hZ dX5_readSend_19 nX1_setNumber zb_723 zb_724 zb_725 zb_88 hL.1 rfl (by omega) (Nat.le_of_ble_eq_true rfl) (Nat.le_of_ble_eq_true rfl) rfl (fun g hg => k g hg)

set_option maxRecDepth 20000 in
theorem bX5_readSend_22 {X : zX} {dep bc bs : Nat} {h : zH} {Q : Nat → zH → List zV → Prop} (hw : zWd (h 24 6))
    (k1 : ¬ (h 24 6) = 1000007 → Q 239 h [xI 1])
    (k2 : (h 24 6) = 1000007 → zW mX5_readSend X dep bc bs 239 33 [(0, xR 24)] [xR 24] h Q) : zW mX5_readSend X dep bc bs 239 22 [(0, xR 24)] [] h Q := by
  refine z_aload_n 0 dX5_readSend_22 rfl ?_
  refine z_getD (v := (h 24 6)) (k := 6) (kz := 6) pk5 dX5_readSend_23 (by decide) zb_331 rfl (zOb.lit (by decide +kernel)) rfl rfl ?_
  refine z_getW 7 (by decide) dX5_readSend_26 zb_731 ?_
  show zW mX5_readSend X dep bc bs 239 29 [(0, xR 24)] [xR 1000007, xR (h 24 6)] h Q
  refine z_acmp_ne (tgt := 36) dX5_readSend_29 (by decide) hw (Or.inr ⟨by decide, by decide⟩) (fun c1 => ?_) (fun c1 => ?_)
  ·
    refine z_iconst dX5_readSend_36 (zi32_d rfl) ?_
    exact z_zret dX5_readSend_37 rfl (Or.inr rfl) (k1 c1)
  ·
    refine z_aload_n 0 dX5_readSend_32 rfl ?_
    exact k2 c1

set_option maxRecDepth 20000 in
theorem rX5_readSend_33 {X : zX} {dep bc bs : Nat} {h : zH} {Q : Nat → zH → List zV → Prop} {P : zH → Prop}
    (hZ : zW mX5_readToken X (dep - 1) 0 0 239 0 (zar 0 [xR 24]) [] h (zQ0 P)) (hdep : 1 ≤ dep)
    (k : ∀ g : zH, P g → zW mX5_readSend X dep bc bs 239 36 [(0, xR 24)] [] g Q) : zW mX5_readSend X dep bc bs 239 33 [(0, xR 24)] [xR 24] h Q :=
  z_invQ0 (ci := 5) (N := 8) (as := []) (st := []) (ra := []) hZ dX5_readSend_33 nX5_readToken zb_685 zb_687 zb_3 zb_86 (zOb.lit (by decide +kernel)) rfl (by omega) (Nat.le_of_ble_eq_true rfl) (Nat.le_of_ble_eq_true rfl) rfl (fun g hg => k g hg)

set_option maxRecDepth 20000 in
theorem bX5_readSend_36 {X : zX} {dep bc bs : Nat} {h : zH} {Q : Nat → zH → List zV → Prop}
    (k1 : Q 239 h [xI 1]) : zW mX5_readSend X dep bc bs 239 36 [(0, xR 24)] [] h Q := by
  refine z_iconst dX5_readSend_36 (zi32_d rfl) ?_
  exact z_zret dX5_readSend_37 rfl (Or.inr rfl) (k1)

set_option maxRecDepth 20000 in
theorem bX5_readClass_0 {X : zX} {dep bc bs : Nat} {h : zH} {Q : Nat → zH → List zV → Prop}
    (k1 : zW mX5_readClass X dep bc bs 239 4 [(0, xR 24)] [xI 8, xI 0, xR 24] h Q) : zW mX5_readClass X dep bc bs 239 0 [(0, xR 24)] [] h Q := by
  refine z_aload_n 0 dX5_readClass_0 rfl ?_
  refine z_iconst dX5_readClass_1 (zi32_d rfl) ?_
  refine z_bipush dX5_readClass_2 (zi32_d rfl) (by decide) ?_
  exact k1

set_option maxRecDepth 20000 in
theorem rX5_readClass_4 {X : zX} {dep bc bs : Nat} {h : zH} {Q : Nat → zH → List zV → Prop} {P : Int → zH → Prop}
    (hZ : zW mX5_readNumber X (dep - 1) 0 0 239 0 (zar 0 [xR 24, xI 0, xI 8]) [] h (zQI P)) (hdep : 1 ≤ dep)
    (k : ∀ (v : Int) (g : zH), P v g → zW mX5_readClass X dep bc bs 239 7 [(0, xR 24)] [xI v] g Q) : zW mX5_readClass X dep bc bs 239 4 [(0, xR 24)] [xI 8, xI 0, xR 24] h Q :=
  z_invQI (ci := 5) (N := 8) (as := [xI 0, xI 8]) (st := []) (ra := [xI 8, xI 0]) hZ dX5_readClass_4 nX5_readNumber zb_713 zb_715 zb_8 zb_86 (zOb.lit (by decide +kernel)) rfl (by omega) (Nat.le_of_ble_eq_true rfl) (Nat.le_of_ble_eq_true rfl) rfl (fun v g hg => k v g hg)

set_option maxRecDepth 20000 in
theorem bX5_readClass_7 {X : zX} {dep bc bs : Nat} (v : Int) (L : Int) {h : zH} {Q : Nat → zH → List zV → Prop} (hL : zLawO L) (hl : h 24 1 = L)
    (k1 : zW mX5_readClass X dep bc bs 239 13 [(1, xI v), (0, xR 24)] [xI v, xR L] h Q) : zW mX5_readClass X dep bc bs 239 7 [(0, xR 24)] [xI v] h Q := by
  refine z_istore_n (lv' := [(1, xI v), (0, xR 24)]) dX5_readClass_7 (by decide) rfl ?_
  refine z_aload_n 1 dX5_readClass_8 rfl ?_
  refine z_getD (v := L) (k := 1) (kz := 1) pk5 dX5_readClass_9 (by decide) zb_324 rfl (zOb.lit (by decide +kernel)) rfl hl ?_
  refine z_iload_n 0 dX5_readClass_12 rfl ?_
  exact k1

set_option maxRecDepth 20000 in
theorem rX5_readClass_13 {X : zX} {dep bc bs : Nat} (v : Int) (L : Int) {h : zH} {Q : Nat → zH → List zV → Prop} {P : zH → Prop} (hL : zLawO L)
    (hZ : zW mX1_setNumber X (dep - 1) 0 0 239 0 (zar 0 [xR L, xI v]) [] h (zQ0 P)) (hdep : 1 ≤ dep)
    (k : ∀ g : zH, P g → zW mX5_readClass X dep bc bs 239 16 [(0, xR 24), (1, xI v)] [] g Q) : zW mX5_readClass X dep bc bs 239 13 [(0, xR 24), (1, xI v)] [xI v, xR L] h Q :=
  z_invQ0 (ci := 1) (N := 13) (as := [xI v]) (st := []) (ra := [xI v]) hZ dX5_readClass_13 nX1_setNumber zb_723 zb_724 zb_725 zb_88 hL.1 rfl (by omega) (Nat.le_of_ble_eq_true rfl) (Nat.le_of_ble_eq_true rfl) rfl (fun g hg => k g hg)

set_option maxRecDepth 20000 in
theorem bX5_readClass_16 {X : zX} {dep bc bs : Nat} (v : Int) {h : zH} {Q : Nat → zH → List zV → Prop}
    (k1 : Q 239 h [xI (if v = (-1) then 0 else 1 : Int)]) : zW mX5_readClass X dep bc bs 239 16 [(0, xR 24), (1, xI v)] [] h Q := by
  refine z_iload_n 1 dX5_readClass_16 rfl ?_
  refine z_iconst dX5_readClass_17 (zi32_d rfl) ?_
  suffices KJ : zW mX5_readClass X dep bc bs 239 26 [(0, xR 24), (1, xI v)] [xI (if v = (-1) then 0 else 1 : Int)] h Q by
    refine z_icmp_eq (tgt := 25) dX5_readClass_18 (by decide) (fun j1 => ?_) (fun j1 => ?_)
    ·
      refine z_iconst dX5_readClass_25 (zi32_d rfl) ?_
      rw [if_pos j1] at KJ
      exact KJ
    ·
      refine z_iconst dX5_readClass_21 (zi32_d rfl) ?_
      refine z_goto (tgt := 26) dX5_readClass_22 (by decide) ?_
      rw [if_neg j1] at KJ
      exact KJ
  exact z_zret dX5_readClass_26 rfl (by repeat (first | (left; rfl) | (right; rfl) | split)) (k1)

set_option maxRecDepth 20000 in
theorem bX5_readAppeal_0 {X : zX} {dep bc bs : Nat} (L : Int) {h : zH} {Q : Nat → zH → List zV → Prop} (hl : h 24 1 = L)
    (k1 : zW mX5_readAppeal X dep bc bs 239 9 [(0, xR 24)] [xI 999, xI 0, xR 24, xR L] h Q) : zW mX5_readAppeal X dep bc bs 239 0 [(0, xR 24)] [] h Q := by
  refine z_aload_n 0 dX5_readAppeal_0 rfl ?_
  refine z_getD (v := L) (k := 1) (kz := 1) pk5 dX5_readAppeal_1 (by decide) zb_324 rfl (zOb.lit (by decide +kernel)) rfl hl ?_
  refine z_aload_n 0 dX5_readAppeal_4 rfl ?_
  refine z_iconst dX5_readAppeal_5 (zi32_d rfl) ?_
  refine z_sipush dX5_readAppeal_6 (zi32_d rfl) (by decide) ?_
  exact k1

set_option maxRecDepth 20000 in
theorem rX5_readAppeal_9 {X : zX} {dep bc bs : Nat} (L : Int) {h : zH} {Q : Nat → zH → List zV → Prop} {P : Int → zH → Prop}
    (hZ : zW mX5_readNumber X (dep - 1) 0 0 239 0 (zar 0 [xR 24, xI 0, xI 999]) [] h (zQI P)) (hdep : 1 ≤ dep)
    (k : ∀ (v : Int) (g : zH), P v g → zW mX5_readAppeal X dep bc bs 239 12 [(0, xR 24)] [xI v, xR L] g Q) : zW mX5_readAppeal X dep bc bs 239 9 [(0, xR 24)] [xI 999, xI 0, xR 24, xR L] h Q :=
  z_invQI (ci := 5) (N := 8) (as := [xI 0, xI 999]) (st := [xR L]) (ra := [xI 999, xI 0]) hZ dX5_readAppeal_9 nX5_readNumber zb_713 zb_715 zb_8 zb_86 (zOb.lit (by decide +kernel)) rfl (by omega) (Nat.le_of_ble_eq_true rfl) (Nat.le_of_ble_eq_true rfl) rfl (fun v g hg => k v g hg)

set_option maxRecDepth 20000 in
theorem bX5_readAppeal_12 {X : zX} {dep bc bs : Nat} (v : Int) (L : Int) {h : zH} {Q : Nat → zH → List zV → Prop} (hL : zLawO L) (hl : h 24 1 = L) (h24 : L ≠ 24)
    (k1 : Q 239 (zst h L 4 v) [xI (if v = (-1) then 0 else 1 : Int)]) : zW mX5_readAppeal X dep bc bs 239 12 [(0, xR 24)] [xI v, xR L] h Q := by
  refine z_putI (k := 4) (kz := 4) pk1 dX5_readAppeal_12 (by decide) zb_282 rfl (zFit_int _) hL.1 rfl ?_
  refine z_aload_n 0 dX5_readAppeal_15 rfl ?_
  refine z_getD (v := L) (k := 1) (kz := 1) pk5 dX5_readAppeal_16 (by decide) zb_324 rfl (zOb.lit (by decide +kernel)) rfl ((zst_ne (Or.inr (by decide))).trans hl) ?_
  refine z_getIV (v := v) (k := 4) (kz := 4) pk1 dX5_readAppeal_19 (by decide) zb_282 rfl hL.1 rfl (zst_self _ _ _ _) ?_
  refine z_iconst dX5_readAppeal_22 (zi32_d rfl) ?_
  suffices KJ : zW mX5_readAppeal X dep bc bs 239 31 [(0, xR 24)] [xI (if v = (-1) then 0 else 1 : Int)] (zst h L 4 v) Q by
    refine z_icmp_eq (tgt := 30) dX5_readAppeal_23 (by decide) (fun j1 => ?_) (fun j1 => ?_)
    ·
      refine z_iconst dX5_readAppeal_30 (zi32_d rfl) ?_
      rw [if_pos j1] at KJ
      exact KJ
    ·
      refine z_iconst dX5_readAppeal_26 (zi32_d rfl) ?_
      refine z_goto (tgt := 31) dX5_readAppeal_27 (by decide) ?_
      rw [if_neg j1] at KJ
      exact KJ
  exact z_zret dX5_readAppeal_31 rfl (by repeat (first | (left; rfl) | (right; rfl) | split)) (k1)

set_option maxRecDepth 20000 in
theorem bX5_readAges_0 {X : zX} {dep bc bs : Nat} (L : Int) {h : zH} {Q : Nat → zH → List zV → Prop} (hl : h 24 1 = L)
    (k1 : zW mX5_readAges X dep bc bs 239 8 [(0, xR 24)] [xI 99, xI 0, xR 24, xR L] h Q) : zW mX5_readAges X dep bc bs 239 0 [(0, xR 24)] [] h Q := by
  refine z_aload_n 0 dX5_readAges_0 rfl ?_
  refine z_getD (v := L) (k := 1) (kz := 1) pk5 dX5_readAges_1 (by decide) zb_324 rfl (zOb.lit (by decide +kernel)) rfl hl ?_
  refine z_aload_n 0 dX5_readAges_4 rfl ?_
  refine z_iconst dX5_readAges_5 (zi32_d rfl) ?_
  refine z_bipush dX5_readAges_6 (zi32_d rfl) (by decide) ?_
  exact k1

set_option maxRecDepth 20000 in
theorem rX5_readAges_8 {X : zX} {dep bc bs : Nat} (L : Int) {h : zH} {Q : Nat → zH → List zV → Prop} {P : Int → zH → Prop}
    (hZ : zW mX5_readNumber X (dep - 1) 0 0 239 0 (zar 0 [xR 24, xI 0, xI 99]) [] h (zQI P)) (hdep : 1 ≤ dep)
    (k : ∀ (v : Int) (g : zH), P v g → zW mX5_readAges X dep bc bs 239 11 [(0, xR 24)] [xI v, xR L] g Q) : zW mX5_readAges X dep bc bs 239 8 [(0, xR 24)] [xI 99, xI 0, xR 24, xR L] h Q :=
  z_invQI (ci := 5) (N := 8) (as := [xI 0, xI 99]) (st := [xR L]) (ra := [xI 99, xI 0]) hZ dX5_readAges_8 nX5_readNumber zb_713 zb_715 zb_8 zb_86 (zOb.lit (by decide +kernel)) rfl (by omega) (Nat.le_of_ble_eq_true rfl) (Nat.le_of_ble_eq_true rfl) rfl (fun v g hg => k v g hg)

set_option maxRecDepth 20000 in
theorem bX5_readAges_11 {X : zX} {dep bc bs : Nat} (v : Int) (L : Int) {h : zH} {Q : Nat → zH → List zV → Prop} (hL : zLawO L) (hl : h 24 1 = L) (h24 : L ≠ 24) (hw : zWd (h 24 6))
    (k1 : ¬ v = (-1) → (h 24 6) = 1000001 → zW mX5_readAges X dep bc bs 239 44 [(0, xR 24)] [xR 24] (zst h L 2 v) Q)
    (k2 : ¬ v = (-1) → ¬ ((h 24 6) = 1000001) → zW mX5_readAges X dep bc bs 239 39 [(0, xR 24)] [xI 1, xR 24] (zst h L 2 v) Q)
    (k3 : v = (-1) → Q 239 (zst h L 2 v) [xI 0]) : zW mX5_readAges X dep bc bs 239 11 [(0, xR 24)] [xI v, xR L] h Q := by
  refine z_putI (k := 2) (kz := 2) pk1 dX5_readAges_11 (by decide) zb_276 rfl (zFit_int _) hL.1 rfl ?_
  refine z_aload_n 0 dX5_readAges_14 rfl ?_
  refine z_getD (v := L) (k := 1) (kz := 1) pk5 dX5_readAges_15 (by decide) zb_324 rfl (zOb.lit (by decide +kernel)) rfl ((zst_ne (Or.inr (by decide))).trans hl) ?_
  refine z_getIV (v := v) (k := 2) (kz := 2) pk1 dX5_readAges_18 (by decide) zb_276 rfl hL.1 rfl (zst_self _ _ _ _) ?_
  refine z_iconst dX5_readAges_21 (zi32_d rfl) ?_
  refine z_icmp_ne (tgt := 27) dX5_readAges_22 (by decide) (fun c1 => ?_) (fun c1 => ?_)
  ·
    refine z_aload_n 0 dX5_readAges_27 rfl ?_
    refine z_getD (v := (h 24 6)) (k := 6) (kz := 6) pk5 dX5_readAges_28 (by decide) zb_331 rfl (zOb.lit (by decide +kernel)) rfl (zst_ne (Or.inr (by decide))) ?_
    refine z_getW 1 (by decide) dX5_readAges_31 zb_717 ?_
    show zW mX5_readAges X dep bc bs 239 34 [(0, xR 24)] [xR 1000001, xR (h 24 6)] (zst h L 2 v) Q
    refine z_acmp_eq (tgt := 43) dX5_readAges_34 (by decide) hw (Or.inr ⟨by decide, by decide⟩) (fun c2 => ?_) (fun c2 => ?_)
    ·
      refine z_aload_n 0 dX5_readAges_43 rfl ?_
      exact k1 c1 c2
    ·
      refine z_aload_n 0 dX5_readAges_37 rfl ?_
      refine z_iconst dX5_readAges_38 (zi32_d rfl) ?_
      exact k2 c1 c2
  ·
    refine z_iconst dX5_readAges_25 (zi32_d rfl) ?_
    exact z_zret dX5_readAges_26 rfl (Or.inl rfl) (k3 c1)

set_option maxRecDepth 20000 in
theorem rX5_readAges_39 {X : zX} {dep bc bs : Nat} {h : zH} {Q : Nat → zH → List zV → Prop} {P : Int → zH → Prop}
    (hZ : zW mX5_fail X (dep - 1) 0 0 239 0 (zar 0 [xR 24, xI 1]) [] h (zQI P)) (hdep : 1 ≤ dep)
    (k : ∀ (v : Int) (g : zH), P v g → zW mX5_readAges X dep bc bs 239 42 [(0, xR 24)] [xI v] g Q) : zW mX5_readAges X dep bc bs 239 39 [(0, xR 24)] [xI 1, xR 24] h Q :=
  z_invQI (ci := 5) (N := 8) (as := [xI 1]) (st := []) (ra := [xI 1]) hZ dX5_readAges_39 nX5_fail zb_693 zb_695 zb_5 zb_86 (zOb.lit (by decide +kernel)) rfl (by omega) (Nat.le_of_ble_eq_true rfl) (Nat.le_of_ble_eq_true rfl) rfl (fun v g hg => k v g hg)

set_option maxRecDepth 20000 in
theorem bX5_readAges_42 {X : zX} {dep bc bs : Nat} (v : Int) {h : zH} {Q : Nat → zH → List zV → Prop} (hv : v = 0 ∨ v = 1)
    (k1 : Q 239 h [xI v]) : zW mX5_readAges X dep bc bs 239 42 [(0, xR 24)] [xI v] h Q := by
  exact z_zret dX5_readAges_42 rfl hv (k1)

set_option maxRecDepth 20000 in
theorem rX5_readAges_44 {X : zX} {dep bc bs : Nat} {h : zH} {Q : Nat → zH → List zV → Prop} {P : zH → Prop}
    (hZ : zW mX5_readToken X (dep - 1) 0 0 239 0 (zar 0 [xR 24]) [] h (zQ0 P)) (hdep : 1 ≤ dep)
    (k : ∀ g : zH, P g → zW mX5_readAges X dep bc bs 239 47 [(0, xR 24)] [] g Q) : zW mX5_readAges X dep bc bs 239 44 [(0, xR 24)] [xR 24] h Q :=
  z_invQ0 (ci := 5) (N := 8) (as := []) (st := []) (ra := []) hZ dX5_readAges_44 nX5_readToken zb_685 zb_687 zb_3 zb_86 (zOb.lit (by decide +kernel)) rfl (by omega) (Nat.le_of_ble_eq_true rfl) (Nat.le_of_ble_eq_true rfl) rfl (fun g hg => k g hg)

set_option maxRecDepth 20000 in
theorem bX5_readAges_47 {X : zX} {dep bc bs : Nat} (L : Int) {h : zH} {Q : Nat → zH → List zV → Prop} (hL : zLawO L) (hl : h 24 1 = L)
    (k1 : zW mX5_readAges X dep bc bs 239 61 [(0, xR 24)] [xI 99, xI (h L 2), xR 24, xR L] h Q) : zW mX5_readAges X dep bc bs 239 47 [(0, xR 24)] [] h Q := by
  refine z_aload_n 0 dX5_readAges_47 rfl ?_
  refine z_getD (v := L) (k := 1) (kz := 1) pk5 dX5_readAges_48 (by decide) zb_324 rfl (zOb.lit (by decide +kernel)) rfl hl ?_
  refine z_aload_n 0 dX5_readAges_51 rfl ?_
  refine z_aload_n 0 dX5_readAges_52 rfl ?_
  refine z_getD (v := L) (k := 1) (kz := 1) pk5 dX5_readAges_53 (by decide) zb_324 rfl (zOb.lit (by decide +kernel)) rfl hl ?_
  refine z_getI (k := 2) (kz := 2) pk1 dX5_readAges_56 (by decide) zb_276 rfl hL.1 rfl ?_
  refine z_bipush dX5_readAges_59 (zi32_d rfl) (by decide) ?_
  exact k1

set_option maxRecDepth 20000 in
theorem rX5_readAges_61 {X : zX} {dep bc bs : Nat} (L : Int) {h : zH} {Q : Nat → zH → List zV → Prop} {P : Int → zH → Prop}
    (hZ : zW mX5_readNumber X (dep - 1) 0 0 239 0 (zar 0 [xR 24, xI (h L 2), xI 99]) [] h (zQI P)) (hdep : 1 ≤ dep)
    (k : ∀ (v : Int) (g : zH), P v g → zW mX5_readAges X dep bc bs 239 64 [(0, xR 24)] [xI v, xR L] g Q) : zW mX5_readAges X dep bc bs 239 61 [(0, xR 24)] [xI 99, xI (h L 2), xR 24, xR L] h Q :=
  z_invQI (ci := 5) (N := 8) (as := [xI (h L 2), xI 99]) (st := [xR L]) (ra := [xI 99, xI (h L 2)]) hZ dX5_readAges_61 nX5_readNumber zb_713 zb_715 zb_8 zb_86 (zOb.lit (by decide +kernel)) rfl (by omega) (Nat.le_of_ble_eq_true rfl) (Nat.le_of_ble_eq_true rfl) rfl (fun v g hg => k v g hg)

set_option maxRecDepth 20000 in
theorem bX5_readAges_64 {X : zX} {dep bc bs : Nat} (v : Int) (L : Int) {h : zH} {Q : Nat → zH → List zV → Prop} (hL : zLawO L) (hl : h 24 1 = L) (h24 : L ≠ 24)
    (k1 : Q 239 (zst h L 3 v) [xI (if v = (-1) then 0 else 1 : Int)]) : zW mX5_readAges X dep bc bs 239 64 [(0, xR 24)] [xI v, xR L] h Q := by
  refine z_putI (k := 3) (kz := 3) pk1 dX5_readAges_64 (by decide) zb_279 rfl (zFit_int _) hL.1 rfl ?_
  refine z_aload_n 0 dX5_readAges_67 rfl ?_
  refine z_getD (v := L) (k := 1) (kz := 1) pk5 dX5_readAges_68 (by decide) zb_324 rfl (zOb.lit (by decide +kernel)) rfl ((zst_ne (Or.inr (by decide))).trans hl) ?_
  refine z_getIV (v := v) (k := 3) (kz := 3) pk1 dX5_readAges_71 (by decide) zb_279 rfl hL.1 rfl (zst_self _ _ _ _) ?_
  refine z_iconst dX5_readAges_74 (zi32_d rfl) ?_
  suffices KJ : zW mX5_readAges X dep bc bs 239 83 [(0, xR 24)] [xI (if v = (-1) then 0 else 1 : Int)] (zst h L 3 v) Q by
    refine z_icmp_eq (tgt := 82) dX5_readAges_75 (by decide) (fun j1 => ?_) (fun j1 => ?_)
    ·
      refine z_iconst dX5_readAges_82 (zi32_d rfl) ?_
      rw [if_pos j1] at KJ
      exact KJ
    ·
      refine z_iconst dX5_readAges_78 (zi32_d rfl) ?_
      refine z_goto (tgt := 83) dX5_readAges_79 (by decide) ?_
      rw [if_neg j1] at KJ
      exact KJ
  exact z_zret dX5_readAges_83 rfl (by repeat (first | (left; rfl) | (right; rfl) | split)) (k1)

set_option maxRecDepth 20000 in
theorem bX5_readHead_0 {X : zX} {dep bc bs : Nat} (kk : Int) {h : zH} {Q : Nat → zH → List zV → Prop}
    (k1 : kk < 0 → Q 239 h [xI 1])
    (k2 : 5 < kk → Q 239 h [xI 1])
    (k3 : kk = 0 → zW mX5_readHead X dep bc bs 239 41 [(0, xR 24), (1, xI kk)] [xR 24] h Q)
    (k4 : kk = 1 → Q 239 h [xI 1])
    (k5 : kk = 2 → zW mX5_readHead X dep bc bs 239 50 [(0, xR 24), (1, xI kk)] [xI 3000, xI 1, xR 24] h Q)
    (k6 : kk = 3 → zW mX5_readHead X dep bc bs 239 64 [(0, xR 24), (1, xI kk)] [xR 24] h Q)
    (k7 : kk = 4 → zW mX5_readHead X dep bc bs 239 69 [(0, xR 24), (1, xI kk)] [xR 24] h Q)
    (k8 : kk = 5 → zW mX5_readHead X dep bc bs 239 74 [(0, xR 24), (1, xI kk)] [xR 24] h Q) : zW mX5_readHead X dep bc bs 239 0 [(0, xR 24), (1, xI kk)] [] h Q := by
  refine z_iload_n 1 dX5_readHead_0 rfl ?_
  rcases (show kk < 0 ∨ 5 < kk ∨ kk = 0 ∨ kk = 1 ∨ kk = 2 ∨ kk = 3 ∨ kk = 4 ∨ kk = 5 by omega) with c1 | c1 | c1 | c1 | c1 | c1 | c1 | c1
  ·
    refine z_tsOut (tgt := 78) dX5_readHead_1 (Or.inl c1) (by decide) ?_
    refine z_iconst dX5_readHead_78 (zi32_d rfl) ?_
    exact z_zret dX5_readHead_79 rfl (Or.inr rfl) (k1 c1)
  ·
    refine z_tsOut (tgt := 78) dX5_readHead_1 (Or.inr c1) (by decide) ?_
    refine z_iconst dX5_readHead_78 (zi32_d rfl) ?_
    exact z_zret dX5_readHead_79 rfl (Or.inr rfl) (k2 c1)
  ·
    refine z_tsIn (tgt := 40) dX5_readHead_1 (by omega) (by omega) (by rw [c1]; rfl) (by decide) ?_
    refine z_aload_n 0 dX5_readHead_40 rfl ?_
    exact k3 c1
  ·
    refine z_tsIn (tgt := 78) dX5_readHead_1 (by omega) (by omega) (by rw [c1]; rfl) (by decide) ?_
    refine z_iconst dX5_readHead_78 (zi32_d rfl) ?_
    exact z_zret dX5_readHead_79 rfl (Or.inr rfl) (k4 c1)
  ·
    refine z_tsIn (tgt := 45) dX5_readHead_1 (by omega) (by omega) (by rw [c1]; rfl) (by decide) ?_
    refine z_aload_n 0 dX5_readHead_45 rfl ?_
    refine z_iconst dX5_readHead_46 (zi32_d rfl) ?_
    refine z_sipush dX5_readHead_47 (zi32_d rfl) (by decide) ?_
    exact k5 c1
  ·
    refine z_tsIn (tgt := 63) dX5_readHead_1 (by omega) (by omega) (by rw [c1]; rfl) (by decide) ?_
    refine z_aload_n 0 dX5_readHead_63 rfl ?_
    exact k6 c1
  ·
    refine z_tsIn (tgt := 68) dX5_readHead_1 (by omega) (by omega) (by rw [c1]; rfl) (by decide) ?_
    refine z_aload_n 0 dX5_readHead_68 rfl ?_
    exact k7 c1
  ·
    refine z_tsIn (tgt := 73) dX5_readHead_1 (by omega) (by omega) (by rw [c1]; rfl) (by decide) ?_
    refine z_aload_n 0 dX5_readHead_73 rfl ?_
    exact k8 c1

set_option maxRecDepth 20000 in
theorem rX5_readHead_41 {X : zX} {dep bc bs : Nat} (kk : Int) {h : zH} {Q : Nat → zH → List zV → Prop} {P : Int → zH → Prop}
    (hZ : zW mX5_readAges X (dep - 1) 0 0 239 0 (zar 0 [xR 24]) [] h (zQI P)) (hdep : 1 ≤ dep)
    (k : ∀ (v : Int) (g : zH), P v g → zW mX5_readHead X dep bc bs 239 44 [(0, xR 24), (1, xI kk)] [xI v] g Q) : zW mX5_readHead X dep bc bs 239 41 [(0, xR 24), (1, xI kk)] [xR 24] h Q :=
  z_invQI (ci := 5) (N := 8) (as := []) (st := []) (ra := []) hZ dX5_readHead_41 nX5_readAges zb_709 zb_711 zb_7 zb_86 (zOb.lit (by decide +kernel)) rfl (by omega) (Nat.le_of_ble_eq_true rfl) (Nat.le_of_ble_eq_true rfl) rfl (fun v g hg => k v g hg)

set_option maxRecDepth 20000 in
theorem bX5_readHead_44 {X : zX} {dep bc bs : Nat} (kk : Int) (v : Int) {h : zH} {Q : Nat → zH → List zV → Prop} (hv : v = 0 ∨ v = 1)
    (k1 : Q 239 h [xI v]) : zW mX5_readHead X dep bc bs 239 44 [(0, xR 24), (1, xI kk)] [xI v] h Q := by
  exact z_zret dX5_readHead_44 rfl hv (k1)

set_option maxRecDepth 20000 in
theorem rX5_readHead_64 {X : zX} {dep bc bs : Nat} (kk : Int) {h : zH} {Q : Nat → zH → List zV → Prop} {P : Int → zH → Prop}
    (hZ : zW mX5_readClass X (dep - 1) 0 0 239 0 (zar 0 [xR 24]) [] h (zQI P)) (hdep : 1 ≤ dep)
    (k : ∀ (v : Int) (g : zH), P v g → zW mX5_readHead X dep bc bs 239 67 [(0, xR 24), (1, xI kk)] [xI v] g Q) : zW mX5_readHead X dep bc bs 239 64 [(0, xR 24), (1, xI kk)] [xR 24] h Q :=
  z_invQI (ci := 5) (N := 8) (as := []) (st := []) (ra := []) hZ dX5_readHead_64 nX5_readClass zb_719 zb_721 zb_9 zb_86 (zOb.lit (by decide +kernel)) rfl (by omega) (Nat.le_of_ble_eq_true rfl) (Nat.le_of_ble_eq_true rfl) rfl (fun v g hg => k v g hg)

set_option maxRecDepth 20000 in
theorem bX5_readHead_67 {X : zX} {dep bc bs : Nat} (kk : Int) (v : Int) {h : zH} {Q : Nat → zH → List zV → Prop} (hv : v = 0 ∨ v = 1)
    (k1 : Q 239 h [xI v]) : zW mX5_readHead X dep bc bs 239 67 [(0, xR 24), (1, xI kk)] [xI v] h Q := by
  exact z_zret dX5_readHead_67 rfl hv (k1)

set_option maxRecDepth 20000 in
theorem rX5_readHead_69 {X : zX} {dep bc bs : Nat} (kk : Int) {h : zH} {Q : Nat → zH → List zV → Prop} {P : Int → zH → Prop}
    (hZ : zW mX5_readSend X (dep - 1) 0 0 239 0 (zar 0 [xR 24]) [] h (zQI P)) (hdep : 1 ≤ dep)
    (k : ∀ (v : Int) (g : zH), P v g → zW mX5_readHead X dep bc bs 239 72 [(0, xR 24), (1, xI kk)] [xI v] g Q) : zW mX5_readHead X dep bc bs 239 69 [(0, xR 24), (1, xI kk)] [xR 24] h Q :=
  z_invQI (ci := 5) (N := 8) (as := []) (st := []) (ra := []) hZ dX5_readHead_69 nX5_readSend zb_727 zb_729 zb_10 zb_86 (zOb.lit (by decide +kernel)) rfl (by omega) (Nat.le_of_ble_eq_true rfl) (Nat.le_of_ble_eq_true rfl) rfl (fun v g hg => k v g hg)

set_option maxRecDepth 20000 in
theorem bX5_readHead_72 {X : zX} {dep bc bs : Nat} (kk : Int) (v : Int) {h : zH} {Q : Nat → zH → List zV → Prop} (hv : v = 0 ∨ v = 1)
    (k1 : Q 239 h [xI v]) : zW mX5_readHead X dep bc bs 239 72 [(0, xR 24), (1, xI kk)] [xI v] h Q := by
  exact z_zret dX5_readHead_72 rfl hv (k1)

set_option maxRecDepth 20000 in
theorem rX5_readHead_74 {X : zX} {dep bc bs : Nat} (kk : Int) {h : zH} {Q : Nat → zH → List zV → Prop} {P : Int → zH → Prop}
    (hZ : zW mX5_readAppeal X (dep - 1) 0 0 239 0 (zar 0 [xR 24]) [] h (zQI P)) (hdep : 1 ≤ dep)
    (k : ∀ (v : Int) (g : zH), P v g → zW mX5_readHead X dep bc bs 239 77 [(0, xR 24), (1, xI kk)] [xI v] g Q) : zW mX5_readHead X dep bc bs 239 74 [(0, xR 24), (1, xI kk)] [xR 24] h Q :=
  z_invQI (ci := 5) (N := 8) (as := []) (st := []) (ra := []) hZ dX5_readHead_74 nX5_readAppeal zb_733 zb_735 zb_11 zb_86 (zOb.lit (by decide +kernel)) rfl (by omega) (Nat.le_of_ble_eq_true rfl) (Nat.le_of_ble_eq_true rfl) rfl (fun v g hg => k v g hg)

set_option maxRecDepth 20000 in
theorem bX5_readHead_77 {X : zX} {dep bc bs : Nat} (kk : Int) (v : Int) {h : zH} {Q : Nat → zH → List zV → Prop} (hv : v = 0 ∨ v = 1)
    (k1 : Q 239 h [xI v]) : zW mX5_readHead X dep bc bs 239 77 [(0, xR 24), (1, xI kk)] [xI v] h Q := by
  exact z_zret dX5_readHead_77 rfl hv (k1)

set_option maxRecDepth 20000 in
theorem rX5_readHead_50 {X : zX} {dep bc bs : Nat} (kk : Int) {h : zH} {Q : Nat → zH → List zV → Prop} {P : Int → zH → Prop}
    (hZ : zW mX5_readNumber X (dep - 1) 0 0 239 0 (zar 0 [xR 24, xI 1, xI 3000]) [] h (zQI P)) (hdep : 1 ≤ dep)
    (k : ∀ (v : Int) (g : zH), P v g → zW mX5_readHead X dep bc bs 239 53 [(0, xR 24), (1, xI kk)] [xI v] g Q) : zW mX5_readHead X dep bc bs 239 50 [(0, xR 24), (1, xI kk)] [xI 3000, xI 1, xR 24] h Q :=
  z_invQI (ci := 5) (N := 8) (as := [xI 1, xI 3000]) (st := []) (ra := [xI 3000, xI 1]) hZ dX5_readHead_50 nX5_readNumber zb_713 zb_715 zb_8 zb_86 (zOb.lit (by decide +kernel)) rfl (by omega) (Nat.le_of_ble_eq_true rfl) (Nat.le_of_ble_eq_true rfl) rfl (fun v g hg => k v g hg)

set_option maxRecDepth 20000 in
theorem bX5_readHead_53 {X : zX} {dep bc bs : Nat} (kk : Int) (v : Int) {h : zH} {Q : Nat → zH → List zV → Prop}
    (k1 : Q 239 h [xI (if v = (-1) then 0 else 1 : Int)]) : zW mX5_readHead X dep bc bs 239 53 [(0, xR 24), (1, xI kk)] [xI v] h Q := by
  refine z_iconst dX5_readHead_53 (zi32_d rfl) ?_
  suffices KJ : zW mX5_readHead X dep bc bs 239 62 [(0, xR 24), (1, xI kk)] [xI (if v = (-1) then 0 else 1 : Int)] h Q by
    refine z_icmp_eq (tgt := 61) dX5_readHead_54 (by decide) (fun j1 => ?_) (fun j1 => ?_)
    ·
      refine z_iconst dX5_readHead_61 (zi32_d rfl) ?_
      rw [if_pos j1] at KJ
      exact KJ
    ·
      refine z_iconst dX5_readHead_57 (zi32_d rfl) ?_
      refine z_goto (tgt := 62) dX5_readHead_58 (by decide) ?_
      rw [if_neg j1] at KJ
      exact KJ
  exact z_zret dX5_readHead_62 rfl (by repeat (first | (left; rfl) | (right; rfl) | split)) (k1)

set_option maxRecDepth 20000 in
theorem bX5_readLine_0 {X : zX} {dep bc bs : Nat} (L : Int) {h : zH} {Q : Nat → zH → List zV → Prop} (hw : zWd (h 24 6)) (hL : zLawO L) (hl : h 24 1 = L)
    (k1 : (h 24 6) < 0 → zW mX5_readLine X dep bc bs 239 19 [(1, xR (h 24 6)), (0, xR 24)] [xI 1, xR 24] h Q)
    (k2 : ¬ ((h 24 6) < 0) → ¬ (zWl (h 24 6)) = (-1) → (zWl (h 24 6)) = 0 → 20 ≤ (h L 6) → zW mX5_readLine X dep bc bs 239 76 [(2, xI 1), (1, xR (h 24 6)), (0, xR 24)] [xI 3, xR 24] h Q)
    (k3 : ¬ ((h 24 6) < 0) → ¬ (zWl (h 24 6)) = (-1) → (zWl (h 24 6)) = 0 → ¬ (20 ≤ (h L 6)) → zW mX5_readLine X dep bc bs 239 68 [(2, xI 1), (1, xR (h 24 6)), (0, xR 24)] [xI (zWl (h 24 6)), xR L] h Q)
    (k4 : ¬ ((h 24 6) < 0) → ¬ (zWl (h 24 6)) = (-1) → ¬ ((zWl (h 24 6)) = 0) → 20 ≤ (h L 6) → zW mX5_readLine X dep bc bs 239 76 [(2, xI (if (zWl (h 24 6)) = 5 then 1 else 0 : Int)), (1, xR (h 24 6)), (0, xR 24)] [xI 3, xR 24] h Q)
    (k5 : ¬ ((h 24 6) < 0) → ¬ (zWl (h 24 6)) = (-1) → ¬ ((zWl (h 24 6)) = 0) → ¬ (20 ≤ (h L 6)) → (if (zWl (h 24 6)) = 5 then 1 else 0 : Int) = 0 → zW mX5_readLine X dep bc bs 239 80 [(0, xR 24), (1, xR (h 24 6)), (2, xI (if (zWl (h 24 6)) = 5 then 1 else 0 : Int))] [] h Q)
    (k6 : ¬ ((h 24 6) < 0) → ¬ (zWl (h 24 6)) = (-1) → ¬ ((zWl (h 24 6)) = 0) → ¬ (20 ≤ (h L 6)) → ¬ ((if (zWl (h 24 6)) = 5 then 1 else 0 : Int) = 0) → zW mX5_readLine X dep bc bs 239 68 [(2, xI (if (zWl (h 24 6)) = 5 then 1 else 0 : Int)), (1, xR (h 24 6)), (0, xR 24)] [xI (zWl (h 24 6)), xR L] h Q)
    (k7 : ¬ ((h 24 6) < 0) → (zWl (h 24 6)) = (-1) → zW mX5_readLine X dep bc bs 239 19 [(1, xR (h 24 6)), (0, xR 24)] [xI 1, xR 24] h Q) : zW mX5_readLine X dep bc bs 239 0 [(0, xR 24)] [] h Q := by
  refine z_aload_n 0 dX5_readLine_0 rfl ?_
  refine z_getD (v := (h 24 6)) (k := 6) (kz := 6) pk5 dX5_readLine_1 (by decide) zb_331 rfl (zOb.lit (by decide +kernel)) rfl rfl ?_
  refine z_astore_n (lv' := [(1, xR (h 24 6)), (0, xR 24)]) dX5_readLine_4 (by decide) rfl ?_
  refine z_aload_n 0 dX5_readLine_5 rfl ?_
  refine z_ifnull (tgt := 17) dX5_readLine_6 (by decide) (fun c1 => ?_) (fun c1 => ?_)
  ·
    refine z_aload_n 1 dX5_readLine_17 rfl ?_
    refine z_iconst dX5_readLine_18 (zi32_d rfl) ?_
    exact k1 c1
  ·
    refine z_aload_n 0 dX5_readLine_9 rfl ?_
    refine z_getWf (RX9, "line", "I", zWln) (List.mem_of_getElem? (i := 0) rfl) (show 1000000 ≤ (h 24 6) ∧ (h 24 6) < 1000022 from ⟨by unfold zWd at hw; omega, by unfold zWd at hw; omega⟩) dX5_readLine_10 zb_1788 ?_
    show zW mX5_readLine X dep bc bs 239 13 [(1, xR (h 24 6)), (0, xR 24)] [xI (zWl (h 24 6))] h Q
    refine z_iconst dX5_readLine_13 (zi32_d rfl) ?_
    refine z_icmp_ne (tgt := 23) dX5_readLine_14 (by decide) (fun c2 => ?_) (fun c2 => ?_)
    ·
      refine z_aload_n 0 dX5_readLine_23 rfl ?_
      refine z_getWf (RX9, "line", "I", zWln) (List.mem_of_getElem? (i := 0) rfl) (show 1000000 ≤ (h 24 6) ∧ (h 24 6) < 1000022 from ⟨by unfold zWd at hw; omega, by unfold zWd at hw; omega⟩) dX5_readLine_24 zb_1788 ?_
      show zW mX5_readLine X dep bc bs 239 27 [(1, xR (h 24 6)), (0, xR 24)] [xI (zWl (h 24 6))] h Q
      refine z_if_eq (tgt := 38) dX5_readLine_27 (by decide) (fun c3 => ?_) (fun c3 => ?_)
      ·
        refine z_iconst dX5_readLine_38 (zi32_d rfl) ?_
        refine z_goto (tgt := 43) dX5_readLine_39 (by decide) ?_
        refine z_istore_n (lv' := [(2, xI 1), (1, xR (h 24 6)), (0, xR 24)]) dX5_readLine_43 (by decide) rfl ?_
        refine z_aload_n 2 dX5_readLine_44 rfl ?_
        refine z_getD (v := L) (k := 1) (kz := 1) pk5 dX5_readLine_45 (by decide) zb_324 rfl (zOb.lit (by decide +kernel)) rfl hl ?_
        refine z_getI (k := 6) (kz := 6) pk1 dX5_readLine_48 (by decide) zb_288 rfl hL.1 rfl ?_
        refine z_bipush dX5_readLine_51 (zi32_d rfl) (by decide) ?_
        refine z_icmp_ge (tgt := 74) dX5_readLine_53 (by decide) (fun c4 => ?_) (fun c4 => ?_)
        ·
          refine z_aload_n 2 dX5_readLine_74 rfl ?_
          refine z_iconst dX5_readLine_75 (zi32_d rfl) ?_
          exact k2 c1 c2 c3 c4
        ·
          refine z_iload_n 0 dX5_readLine_56 rfl ?_
          refine z_if_eq (tgt := 80) dX5_readLine_57 (by decide) (fun c => absurd c (by decide)) (fun _ => ?_)
          refine z_aload_n 2 dX5_readLine_60 rfl ?_
          refine z_getD (v := L) (k := 1) (kz := 1) pk5 dX5_readLine_61 (by decide) zb_324 rfl (zOb.lit (by decide +kernel)) rfl hl ?_
          refine z_aload_n 1 dX5_readLine_64 rfl ?_
          refine z_getWf (RX9, "line", "I", zWln) (List.mem_of_getElem? (i := 0) rfl) (show 1000000 ≤ (h 24 6) ∧ (h 24 6) < 1000022 from ⟨by unfold zWd at hw; omega, by unfold zWd at hw; omega⟩) dX5_readLine_65 zb_1788 ?_
          show zW mX5_readLine X dep bc bs 239 68 [(2, xI 1), (1, xR (h 24 6)), (0, xR 24)] [xI (zWl (h 24 6)), xR L] h Q
          exact k3 c1 c2 c3 c4
      ·
        refine z_aload_n 0 dX5_readLine_30 rfl ?_
        refine z_getWf (RX9, "line", "I", zWln) (List.mem_of_getElem? (i := 0) rfl) (show 1000000 ≤ (h 24 6) ∧ (h 24 6) < 1000022 from ⟨by unfold zWd at hw; omega, by unfold zWd at hw; omega⟩) dX5_readLine_31 zb_1788 ?_
        show zW mX5_readLine X dep bc bs 239 34 [(1, xR (h 24 6)), (0, xR 24)] [xI (zWl (h 24 6))] h Q
        refine z_iconst dX5_readLine_34 (zi32_d rfl) ?_
        suffices KJ : zW mX5_readLine X dep bc bs 239 43 [(1, xR (h 24 6)), (0, xR 24)] [xI (if (zWl (h 24 6)) = 5 then 1 else 0 : Int)] h Q by
          refine z_icmp_ne (tgt := 42) dX5_readLine_35 (by decide) (fun j1 => ?_) (fun j1 => ?_)
          ·
            refine z_iconst dX5_readLine_42 (zi32_d rfl) ?_
            rw [if_neg j1] at KJ
            exact KJ
          ·
            refine z_iconst dX5_readLine_38 (zi32_d rfl) ?_
            refine z_goto (tgt := 43) dX5_readLine_39 (by decide) ?_
            rw [if_pos j1] at KJ
            exact KJ
        refine z_istore_n (lv' := [(2, xI (if (zWl (h 24 6)) = 5 then 1 else 0 : Int)), (1, xR (h 24 6)), (0, xR 24)]) dX5_readLine_43 (by decide) rfl ?_
        refine z_aload_n 2 dX5_readLine_44 rfl ?_
        refine z_getD (v := L) (k := 1) (kz := 1) pk5 dX5_readLine_45 (by decide) zb_324 rfl (zOb.lit (by decide +kernel)) rfl hl ?_
        refine z_getI (k := 6) (kz := 6) pk1 dX5_readLine_48 (by decide) zb_288 rfl hL.1 rfl ?_
        refine z_bipush dX5_readLine_51 (zi32_d rfl) (by decide) ?_
        refine z_icmp_ge (tgt := 74) dX5_readLine_53 (by decide) (fun c4 => ?_) (fun c4 => ?_)
        ·
          refine z_aload_n 2 dX5_readLine_74 rfl ?_
          refine z_iconst dX5_readLine_75 (zi32_d rfl) ?_
          exact k4 c1 c2 c3 c4
        ·
          refine z_iload_n 0 dX5_readLine_56 rfl ?_
          refine z_if_eq (tgt := 80) dX5_readLine_57 (by decide) (fun c5 => ?_) (fun c5 => ?_)
          ·
            refine zW.sub (lv' := [(0, xR 24), (1, xR (h 24 6)), (2, xI (if (zWl (h 24 6)) = 5 then 1 else 0 : Int))]) [2, 1, 0] rfl ?_
            exact k5 c1 c2 c3 c4 c5
          ·
            refine z_aload_n 2 dX5_readLine_60 rfl ?_
            refine z_getD (v := L) (k := 1) (kz := 1) pk5 dX5_readLine_61 (by decide) zb_324 rfl (zOb.lit (by decide +kernel)) rfl hl ?_
            refine z_aload_n 1 dX5_readLine_64 rfl ?_
            refine z_getWf (RX9, "line", "I", zWln) (List.mem_of_getElem? (i := 0) rfl) (show 1000000 ≤ (h 24 6) ∧ (h 24 6) < 1000022 from ⟨by unfold zWd at hw; omega, by unfold zWd at hw; omega⟩) dX5_readLine_65 zb_1788 ?_
            show zW mX5_readLine X dep bc bs 239 68 [(2, xI (if (zWl (h 24 6)) = 5 then 1 else 0 : Int)), (1, xR (h 24 6)), (0, xR 24)] [xI (zWl (h 24 6)), xR L] h Q
            exact k6 c1 c2 c3 c4 c5
    ·
      refine z_aload_n 1 dX5_readLine_17 rfl ?_
      refine z_iconst dX5_readLine_18 (zi32_d rfl) ?_
      exact k7 c1 c2

set_option maxRecDepth 20000 in
theorem rX5_readLine_19 {X : zX} {dep bc bs : Nat} (q : Int) {h : zH} {Q : Nat → zH → List zV → Prop} {P : Int → zH → Prop}
    (hZ : zW mX5_fail X (dep - 1) 0 0 239 0 (zar 0 [xR 24, xI 1]) [] h (zQI P)) (hdep : 1 ≤ dep)
    (k : ∀ (v : Int) (g : zH), P v g → zW mX5_readLine X dep bc bs 239 22 [(0, xR 24), (1, xR q)] [xI v] g Q) : zW mX5_readLine X dep bc bs 239 19 [(0, xR 24), (1, xR q)] [xI 1, xR 24] h Q :=
  z_invQI (ci := 5) (N := 8) (as := [xI 1]) (st := []) (ra := [xI 1]) hZ dX5_readLine_19 nX5_fail zb_693 zb_695 zb_5 zb_86 (zOb.lit (by decide +kernel)) rfl (by omega) (Nat.le_of_ble_eq_true rfl) (Nat.le_of_ble_eq_true rfl) rfl (fun v g hg => k v g hg)

set_option maxRecDepth 20000 in
theorem bX5_readLine_22 {X : zX} {dep bc bs : Nat} (q : Int) (v : Int) {h : zH} {Q : Nat → zH → List zV → Prop} (hv : v = 0 ∨ v = 1)
    (k1 : Q 239 h [xI v]) : zW mX5_readLine X dep bc bs 239 22 [(0, xR 24), (1, xR q)] [xI v] h Q := by
  exact z_zret dX5_readLine_22 rfl hv (k1)

set_option maxRecDepth 20000 in
theorem rX5_readLine_68 {X : zX} {dep bc bs : Nat} (q : Int) (y : Int) (L : Int) {h : zH} {Q : Nat → zH → List zV → Prop} {P : Int → zH → Prop} (hL : zLawO L)
    (hZ : zW mX1_hasLine X (dep - 1) 0 0 239 0 (zar 0 [xR L, xI (zWl q)]) [] h (zQI P)) (hdep : 1 ≤ dep)
    (k : ∀ (v : Int) (g : zH), P v g → zW mX5_readLine X dep bc bs 239 71 [(0, xR 24), (1, xR q), (2, xI y)] [xI v] g Q) : zW mX5_readLine X dep bc bs 239 68 [(0, xR 24), (1, xR q), (2, xI y)] [xI (zWl q), xR L] h Q :=
  z_invQI (ci := 1) (N := 13) (as := [xI (zWl q)]) (st := []) (ra := [xI (zWl q)]) hZ dX5_readLine_68 nX1_hasLine zb_697 zb_698 zb_699 zb_88 hL.1 rfl (by omega) (Nat.le_of_ble_eq_true rfl) (Nat.le_of_ble_eq_true rfl) rfl (fun v g hg => k v g hg)

set_option maxRecDepth 20000 in
theorem bX5_readLine_71 {X : zX} {dep bc bs : Nat} (q : Int) (y : Int) (v : Int) {h : zH} {Q : Nat → zH → List zV → Prop}
    (k1 : v = 0 → zW mX5_readLine X dep bc bs 239 80 [(0, xR 24), (1, xR q), (2, xI y)] [] h Q)
    (k2 : ¬ (v = 0) → zW mX5_readLine X dep bc bs 239 76 [(0, xR 24), (1, xR q), (2, xI y)] [xI 3, xR 24] h Q) : zW mX5_readLine X dep bc bs 239 71 [(0, xR 24), (1, xR q), (2, xI y)] [xI v] h Q := by
  refine z_if_eq (tgt := 80) dX5_readLine_71 (by decide) (fun c1 => ?_) (fun c1 => ?_)
  ·
    exact k1 c1
  ·
    refine z_aload_n 0 dX5_readLine_74 rfl ?_
    refine z_iconst dX5_readLine_75 (zi32_d rfl) ?_
    exact k2 c1

set_option maxRecDepth 20000 in
theorem rX5_readLine_76 {X : zX} {dep bc bs : Nat} (q : Int) (y : Int) {h : zH} {Q : Nat → zH → List zV → Prop} {P : Int → zH → Prop}
    (hZ : zW mX5_fail X (dep - 1) 0 0 239 0 (zar 0 [xR 24, xI 3]) [] h (zQI P)) (hdep : 1 ≤ dep)
    (k : ∀ (v : Int) (g : zH), P v g → zW mX5_readLine X dep bc bs 239 79 [(0, xR 24), (1, xR q), (2, xI y)] [xI v] g Q) : zW mX5_readLine X dep bc bs 239 76 [(0, xR 24), (1, xR q), (2, xI y)] [xI 3, xR 24] h Q :=
  z_invQI (ci := 5) (N := 8) (as := [xI 3]) (st := []) (ra := [xI 3]) hZ dX5_readLine_76 nX5_fail zb_693 zb_695 zb_5 zb_86 (zOb.lit (by decide +kernel)) rfl (by omega) (Nat.le_of_ble_eq_true rfl) (Nat.le_of_ble_eq_true rfl) rfl (fun v g hg => k v g hg)

set_option maxRecDepth 20000 in
theorem bX5_readLine_79 {X : zX} {dep bc bs : Nat} (q : Int) (y : Int) (v : Int) {h : zH} {Q : Nat → zH → List zV → Prop} (hv : v = 0 ∨ v = 1)
    (k1 : Q 239 h [xI v]) : zW mX5_readLine X dep bc bs 239 79 [(0, xR 24), (1, xR q), (2, xI y)] [xI v] h Q := by
  exact z_zret dX5_readLine_79 rfl hv (k1)

set_option maxRecDepth 20000 in
theorem bX5_readLine_80 {X : zX} {dep bc bs : Nat} (q : Int) (y : Int) (L : Int) {h : zH} {Q : Nat → zH → List zV → Prop} (hq : 1000000 ≤ q ∧ q < 1000022) (hL : zLawO L) (hl : h 24 1 = L)
    (k1 : zW mX5_readLine X dep bc bs 239 88 [(0, xR 24), (1, xR q), (2, xI y)] [xI (zWl q), xR L] h Q) : zW mX5_readLine X dep bc bs 239 80 [(0, xR 24), (1, xR q), (2, xI y)] [] h Q := by
  refine z_aload_n 0 dX5_readLine_80 rfl ?_
  refine z_getD (v := L) (k := 1) (kz := 1) pk5 dX5_readLine_81 (by decide) zb_324 rfl (zOb.lit (by decide +kernel)) rfl hl ?_
  refine z_aload_n 1 dX5_readLine_84 rfl ?_
  refine z_getWf (RX9, "line", "I", zWln) (List.mem_of_getElem? (i := 0) rfl) hq dX5_readLine_85 zb_1788 ?_
  show zW mX5_readLine X dep bc bs 239 88 [(0, xR 24), (1, xR q), (2, xI y)] [xI (zWl q), xR L] h Q
  exact k1

set_option maxRecDepth 20000 in
theorem rX5_readLine_88 {X : zX} {dep bc bs : Nat} (q : Int) (y : Int) (L : Int) {h : zH} {Q : Nat → zH → List zV → Prop} {P : zH → Prop} (hL : zLawO L)
    (hZ : zW mX1_addLine X (dep - 1) 0 0 239 0 (zar 0 [xR L, xI (zWl q)]) [] h (zQ0 P)) (hdep : 1 ≤ dep)
    (k : ∀ g : zH, P g → zW mX5_readLine X dep bc bs 239 91 [(0, xR 24), (1, xR q), (2, xI y)] [] g Q) : zW mX5_readLine X dep bc bs 239 88 [(0, xR 24), (1, xR q), (2, xI y)] [xI (zWl q), xR L] h Q :=
  z_invQ0 (ci := 1) (N := 13) (as := [xI (zWl q)]) (st := []) (ra := [xI (zWl q)]) hZ dX5_readLine_88 nX1_addLine zb_701 zb_702 zb_703 zb_88 hL.1 rfl (by omega) (Nat.le_of_ble_eq_true rfl) (Nat.le_of_ble_eq_true rfl) rfl (fun g hg => k g hg)

set_option maxRecDepth 20000 in
theorem bX5_readLine_91 {X : zX} {dep bc bs : Nat} (q : Int) (y : Int) {h : zH} {Q : Nat → zH → List zV → Prop}
    (k1 : zW mX5_readLine X dep bc bs 239 92 [(0, xR 24), (1, xR q), (2, xI y)] [xR 24] h Q) : zW mX5_readLine X dep bc bs 239 91 [(0, xR 24), (1, xR q), (2, xI y)] [] h Q := by
  refine z_aload_n 0 dX5_readLine_91 rfl ?_
  exact k1

set_option maxRecDepth 20000 in
theorem rX5_readLine_92 {X : zX} {dep bc bs : Nat} (q : Int) (y : Int) {h : zH} {Q : Nat → zH → List zV → Prop} {P : zH → Prop}
    (hZ : zW mX5_readToken X (dep - 1) 0 0 239 0 (zar 0 [xR 24]) [] h (zQ0 P)) (hdep : 1 ≤ dep)
    (k : ∀ g : zH, P g → zW mX5_readLine X dep bc bs 239 95 [(0, xR 24), (1, xR q), (2, xI y)] [] g Q) : zW mX5_readLine X dep bc bs 239 92 [(0, xR 24), (1, xR q), (2, xI y)] [xR 24] h Q :=
  z_invQ0 (ci := 5) (N := 8) (as := []) (st := []) (ra := []) hZ dX5_readLine_92 nX5_readToken zb_685 zb_687 zb_3 zb_86 (zOb.lit (by decide +kernel)) rfl (by omega) (Nat.le_of_ble_eq_true rfl) (Nat.le_of_ble_eq_true rfl) rfl (fun g hg => k g hg)

set_option maxRecDepth 20000 in
theorem bX5_readLine_95 {X : zX} {dep bc bs : Nat} (q : Int) (y : Int) {h : zH} {Q : Nat → zH → List zV → Prop} (hq : 1000000 ≤ q ∧ q < 1000022)
    (k1 : zW mX5_readLine X dep bc bs 239 100 [(0, xR 24), (1, xR q), (2, xI y)] [xI (zWl q), xR 24] h Q) : zW mX5_readLine X dep bc bs 239 95 [(0, xR 24), (1, xR q), (2, xI y)] [] h Q := by
  refine z_aload_n 0 dX5_readLine_95 rfl ?_
  refine z_aload_n 1 dX5_readLine_96 rfl ?_
  refine z_getWf (RX9, "line", "I", zWln) (List.mem_of_getElem? (i := 0) rfl) hq dX5_readLine_97 zb_1788 ?_
  show zW mX5_readLine X dep bc bs 239 100 [(0, xR 24), (1, xR q), (2, xI y)] [xI (zWl q), xR 24] h Q
  exact k1

set_option maxRecDepth 20000 in
theorem rX5_readLine_100 {X : zX} {dep bc bs : Nat} (q : Int) (y : Int) {h : zH} {Q : Nat → zH → List zV → Prop} {P : Int → zH → Prop}
    (hZ : zW mX5_readHead X (dep - 1) 0 0 239 0 (zar 0 [xR 24, xI (zWl q)]) [] h (zQI P)) (hdep : 1 ≤ dep)
    (k : ∀ (v : Int) (g : zH), P v g → zW mX5_readLine X dep bc bs 239 103 [(0, xR 24), (1, xR q), (2, xI y)] [xI v] g Q) : zW mX5_readLine X dep bc bs 239 100 [(0, xR 24), (1, xR q), (2, xI y)] [xI (zWl q), xR 24] h Q :=
  z_invQI (ci := 5) (N := 8) (as := [xI (zWl q)]) (st := []) (ra := [xI (zWl q)]) hZ dX5_readLine_100 nX5_readHead zb_705 zb_707 zb_6 zb_86 (zOb.lit (by decide +kernel)) rfl (by omega) (Nat.le_of_ble_eq_true rfl) (Nat.le_of_ble_eq_true rfl) rfl (fun v g hg => k v g hg)

set_option maxRecDepth 20000 in
theorem bX5_readLine_103 {X : zX} {dep bc bs : Nat} (q : Int) (y : Int) (v : Int) {h : zH} {Q : Nat → zH → List zV → Prop}
    (k1 : ¬ v = 0 → zW mX5_readLine X dep bc bs 239 108 [(0, xR 24), (1, xR q), (2, xI y)] [] h Q)
    (k2 : v = 0 → Q 239 h [xI 0]) : zW mX5_readLine X dep bc bs 239 103 [(0, xR 24), (1, xR q), (2, xI y)] [xI v] h Q := by
  refine z_if_ne (tgt := 108) dX5_readLine_103 (by decide) (fun c1 => ?_) (fun c1 => ?_)
  ·
    exact k1 c1
  ·
    refine z_iconst dX5_readLine_106 (zi32_d rfl) ?_
    exact z_zret dX5_readLine_107 rfl (Or.inl rfl) (k2 c1)

set_option maxRecDepth 20000 in
theorem bX5_readLine_108 {X : zX} {dep bc bs : Nat} (q : Int) (y : Int) {h : zH} {Q : Nat → zH → List zV → Prop} (hw : zWd (h 24 6))
    (k1 : ¬ y = 0 → zW mX5_readLine X dep bc bs 239 136 [(0, xR 24), (1, xR q), (2, xI y)] [] h Q)
    (k2 : y = 0 → ¬ (h 24 6) = 1000003 → zW mX5_readLine X dep bc bs 239 136 [(0, xR 24), (1, xR q), (2, xI y)] [] h Q)
    (k3 : y = 0 → (h 24 6) = 1000003 → zW mX5_readLine X dep bc bs 239 123 [(0, xR 24), (1, xR q), (2, xI y)] [xR 24] h Q) : zW mX5_readLine X dep bc bs 239 108 [(0, xR 24), (1, xR q), (2, xI y)] [] h Q := by
  refine z_iload_n 2 dX5_readLine_108 rfl ?_
  refine z_if_ne (tgt := 136) dX5_readLine_109 (by decide) (fun c1 => ?_) (fun c1 => ?_)
  ·
    exact k1 c1
  ·
    refine z_aload_n 0 dX5_readLine_112 rfl ?_
    refine z_getD (v := (h 24 6)) (k := 6) (kz := 6) pk5 dX5_readLine_113 (by decide) zb_331 rfl (zOb.lit (by decide +kernel)) rfl rfl ?_
    refine z_getW 3 (by decide) dX5_readLine_116 zb_737 ?_
    show zW mX5_readLine X dep bc bs 239 119 [(0, xR 24), (1, xR q), (2, xI y)] [xR 1000003, xR (h 24 6)] h Q
    refine z_acmp_ne (tgt := 136) dX5_readLine_119 (by decide) hw (Or.inr ⟨by decide, by decide⟩) (fun c2 => ?_) (fun c2 => ?_)
    ·
      exact k2 c1 c2
    ·
      refine z_aload_n 0 dX5_readLine_122 rfl ?_
      exact k3 c1 c2

set_option maxRecDepth 20000 in
theorem rX5_readLine_123 {X : zX} {dep bc bs : Nat} (q : Int) (y : Int) {h : zH} {Q : Nat → zH → List zV → Prop} {P : zH → Prop}
    (hZ : zW mX5_readToken X (dep - 1) 0 0 239 0 (zar 0 [xR 24]) [] h (zQ0 P)) (hdep : 1 ≤ dep)
    (k : ∀ g : zH, P g → zW mX5_readLine X dep bc bs 239 126 [(0, xR 24), (1, xR q), (2, xI y)] [] g Q) : zW mX5_readLine X dep bc bs 239 123 [(0, xR 24), (1, xR q), (2, xI y)] [xR 24] h Q :=
  z_invQ0 (ci := 5) (N := 8) (as := []) (st := []) (ra := []) hZ dX5_readLine_123 nX5_readToken zb_685 zb_687 zb_3 zb_86 (zOb.lit (by decide +kernel)) rfl (by omega) (Nat.le_of_ble_eq_true rfl) (Nat.le_of_ble_eq_true rfl) rfl (fun g hg => k g hg)

set_option maxRecDepth 20000 in
theorem bX5_readLine_126 {X : zX} {dep bc bs : Nat} (q : Int) (y : Int) {h : zH} {Q : Nat → zH → List zV → Prop}
    (k1 : zW mX5_readLine X dep bc bs 239 128 [(0, xR 24), (1, xR q), (2, xI y)] [xI 0, xR 24] h Q) : zW mX5_readLine X dep bc bs 239 126 [(0, xR 24), (1, xR q), (2, xI y)] [] h Q := by
  refine z_aload_n 0 dX5_readLine_126 rfl ?_
  refine z_iconst dX5_readLine_127 (zi32_d rfl) ?_
  exact k1

set_option maxRecDepth 20000 in
theorem rX5_readLine_128 {X : zX} {dep bc bs : Nat} (q : Int) (y : Int) {h : zH} {Q : Nat → zH → List zV → Prop} {P : Int → zH → Prop}
    (hZ : zW mX5_readCond X (dep - 1) 0 0 239 0 (zar 0 [xR 24, xI 0]) [] h (zQI P)) (hdep : 1 ≤ dep)
    (k : ∀ (v : Int) (g : zH), P v g → zW mX5_readLine X dep bc bs 239 131 [(0, xR 24), (1, xR q), (2, xI y)] [xI v] g Q) : zW mX5_readLine X dep bc bs 239 128 [(0, xR 24), (1, xR q), (2, xI y)] [xI 0, xR 24] h Q :=
  z_invQI (ci := 5) (N := 8) (as := [xI 0]) (st := []) (ra := [xI 0]) hZ dX5_readLine_128 nX5_readCond zb_739 zb_741 zb_12 zb_86 (zOb.lit (by decide +kernel)) rfl (by omega) (Nat.le_of_ble_eq_true rfl) (Nat.le_of_ble_eq_true rfl) rfl (fun v g hg => k v g hg)

set_option maxRecDepth 20000 in
theorem bX5_readLine_131 {X : zX} {dep bc bs : Nat} (q : Int) (y : Int) (v : Int) {h : zH} {Q : Nat → zH → List zV → Prop}
    (k1 : ¬ v = 0 → zW mX5_readLine X dep bc bs 239 136 [(0, xR 24), (1, xR q), (2, xI y)] [] h Q)
    (k2 : v = 0 → Q 239 h [xI 0]) : zW mX5_readLine X dep bc bs 239 131 [(0, xR 24), (1, xR q), (2, xI y)] [xI v] h Q := by
  refine z_if_ne (tgt := 136) dX5_readLine_131 (by decide) (fun c1 => ?_) (fun c1 => ?_)
  ·
    exact k1 c1
  ·
    refine z_iconst dX5_readLine_134 (zi32_d rfl) ?_
    exact z_zret dX5_readLine_135 rfl (Or.inl rfl) (k2 c1)

set_option maxRecDepth 20000 in
theorem bX5_readLine_136 {X : zX} {dep bc bs : Nat} (q : Int) (y : Int) {h : zH} {Q : Nat → zH → List zV → Prop}
    (k1 : zW mX5_readLine X dep bc bs 239 139 [(0, xR 24), (1, xR q), (2, xI y)] [xI 59, xR 24] h Q) : zW mX5_readLine X dep bc bs 239 136 [(0, xR 24), (1, xR q), (2, xI y)] [] h Q := by
  refine z_aload_n 0 dX5_readLine_136 rfl ?_
  refine z_bipush dX5_readLine_137 (zi32_d rfl) (by decide) ?_
  exact k1

set_option maxRecDepth 20000 in
theorem rX5_readLine_139 {X : zX} {dep bc bs : Nat} (q : Int) (y : Int) {h : zH} {Q : Nat → zH → List zV → Prop} {P : Int → zH → Prop}
    (hZ : zW mX5_readSign X (dep - 1) 0 0 239 0 (zar 0 [xR 24, xI 59]) [] h (zQI P)) (hdep : 1 ≤ dep)
    (k : ∀ (v : Int) (g : zH), P v g → zW mX5_readLine X dep bc bs 239 142 [(0, xR 24), (1, xR q), (2, xI y)] [xI v] g Q) : zW mX5_readLine X dep bc bs 239 139 [(0, xR 24), (1, xR q), (2, xI y)] [xI 59, xR 24] h Q :=
  z_invQI (ci := 5) (N := 8) (as := [xI 59]) (st := []) (ra := [xI 59]) hZ dX5_readLine_139 nX5_readSign zb_762 zb_764 zb_16 zb_86 (zOb.lit (by decide +kernel)) rfl (by omega) (Nat.le_of_ble_eq_true rfl) (Nat.le_of_ble_eq_true rfl) rfl (fun v g hg => k v g hg)

set_option maxRecDepth 20000 in
theorem bX5_readLine_142 {X : zX} {dep bc bs : Nat} (q : Int) (y : Int) (v : Int) {h : zH} {Q : Nat → zH → List zV → Prop} (hv : v = 0 ∨ v = 1)
    (k1 : Q 239 h [xI v]) : zW mX5_readLine X dep bc bs 239 142 [(0, xR 24), (1, xR q), (2, xI y)] [xI v] h Q := by
  exact z_zret dX5_readLine_142 rfl hv (k1)

set_option maxRecDepth 20000 in
theorem bX5_read_0 {X : zX} {dep bc bs : Nat} (L : Int) {h : zH} {Q : Nat → zH → List zV → Prop} (h24 : L ≠ 24)
    (k1 : zW mX5_read X dep bc bs 239 9 [(0, xR 24), (1, xR 1), (2, xR L)] [xR L] (zst h 24 1 L) Q) : zW mX5_read X dep bc bs 239 0 [(0, xR 24), (1, xR 1), (2, xR L)] [] h Q := by
  refine z_aload_n 0 dX5_read_0 rfl ?_
  refine z_aload_n 2 dX5_read_1 rfl ?_
  refine z_putI (k := 1) (kz := 1) pk5 dX5_read_2 (by decide) zb_324 rfl (zFit_obj _ _) (zOb.lit (by decide +kernel)) rfl ?_
  refine z_aload_n 0 dX5_read_5 rfl ?_
  refine z_getD (v := L) (k := 1) (kz := 1) pk5 dX5_read_6 (by decide) zb_324 rfl (zOb.lit (by decide +kernel)) rfl (zst_self _ _ _ _) ?_
  exact k1

set_option maxRecDepth 20000 in
theorem rX5_read_9 {X : zX} {dep bc bs : Nat} (L : Int) {h : zH} {Q : Nat → zH → List zV → Prop} {P : zH → Prop} (hL : zLawO L)
    (hZ : zW mX1_empty X (dep - 1) 0 0 239 0 (zar 0 [xR L]) [] h (zQ0 P)) (hdep : 1 ≤ dep)
    (k : ∀ g : zH, P g → zW mX5_read X dep bc bs 239 12 [(0, xR 24), (1, xR 1), (2, xR L)] [] g Q) : zW mX5_read X dep bc bs 239 9 [(0, xR 24), (1, xR 1), (2, xR L)] [xR L] h Q :=
  z_invQ0 (ci := 1) (N := 13) (as := []) (st := []) (ra := []) hZ dX5_read_9 nX1_empty zb_596 zb_597 zb_598 zb_88 hL.1 rfl (by omega) (Nat.le_of_ble_eq_true rfl) (Nat.le_of_ble_eq_true rfl) rfl (fun g hg => k g hg)

set_option maxRecDepth 20000 in
theorem bX5_read_12 {X : zX} {dep bc bs : Nat} (L : Int) {h : zH} {Q : Nat → zH → List zV → Prop}
    (k1 : zW mX5_read X dep bc bs 239 37 [(0, xR 24), (1, xR 1), (2, xR L)] [xR 1, xR 25] (zst (zst (zst (zst h 24 2 0) 24 3 0) 24 7 0) 24 4 (-1)) Q) : zW mX5_read X dep bc bs 239 12 [(0, xR 24), (1, xR 1), (2, xR L)] [] h Q := by
  refine z_aload_n 0 dX5_read_12 rfl ?_
  refine z_iconst dX5_read_13 (zi32_d rfl) ?_
  refine z_putI (k := 2) (kz := 2) pk5 dX5_read_14 (by decide) zb_325 rfl (zFit_int _) (zOb.lit (by decide +kernel)) rfl ?_
  refine z_aload_n 0 dX5_read_17 rfl ?_
  refine z_iconst dX5_read_18 (zi32_d rfl) ?_
  refine z_putI (k := 3) (kz := 3) pk5 dX5_read_19 (by decide) zb_327 rfl (zFit_int _) (zOb.lit (by decide +kernel)) rfl ?_
  refine z_aload_n 0 dX5_read_22 rfl ?_
  refine z_iconst dX5_read_23 (zi32_d rfl) ?_
  refine z_putI (k := 7) (kz := 7) pk5 dX5_read_24 (by decide) zb_332 rfl (zFit_int _) (zOb.lit (by decide +kernel)) rfl ?_
  refine z_aload_n 0 dX5_read_27 rfl ?_
  refine z_iconst dX5_read_28 (zi32_d rfl) ?_
  refine z_putI (k := 4) (kz := 4) pk5 dX5_read_29 (by decide) zb_329 rfl (zFit_int _) (zOb.lit (by decide +kernel)) rfl ?_
  refine z_aload_n 0 dX5_read_32 rfl ?_
  refine z_getS (v := 25) (k := 0) (kz := 0) pk5 dX5_read_33 (by decide) zb_323 rfl (zOb.lit (by decide +kernel)) rfl (by decide +kernel) ?_
  refine z_aload_n 1 dX5_read_36 rfl ?_
  exact k1

set_option maxRecDepth 20000 in
theorem rX5_read_37 {X : zX} {dep bc bs : Nat} (L : Int) {h : zH} {Q : Nat → zH → List zV → Prop} {P : zH → Prop}
    (hZ : zW mX8_read X (dep - 1) 0 0 239 0 (zar 0 [xR 25, xR 1]) [] h (zQ0 P)) (hdep : 1 ≤ dep)
    (k : ∀ g : zH, P g → zW mX5_read X dep bc bs 239 40 [(0, xR 24), (1, xR 1), (2, xR L)] [] g Q) : zW mX5_read X dep bc bs 239 37 [(0, xR 24), (1, xR 1), (2, xR L)] [xR 1, xR 25] h Q :=
  z_invQ0 (ci := 8) (N := 6) (as := [xR 1]) (st := []) (ra := [xR 1]) hZ dX5_read_37 nX8_read zb_600 zb_601 zb_602 zb_87 (zOb.lit (by decide +kernel)) rfl (by omega) (Nat.le_of_ble_eq_true rfl) (Nat.le_of_ble_eq_true rfl) rfl (fun g hg => k g hg)

set_option maxRecDepth 20000 in
theorem bX5_read_40 {X : zX} {dep bc bs : Nat} (L : Int) {h : zH} {Q : Nat → zH → List zV → Prop}
    (k1 : zW mX5_read X dep bc bs 239 41 [(0, xR 24), (1, xR 1), (2, xR L)] [xR 24] h Q) : zW mX5_read X dep bc bs 239 40 [(0, xR 24), (1, xR 1), (2, xR L)] [] h Q := by
  refine z_aload_n 0 dX5_read_40 rfl ?_
  exact k1

set_option maxRecDepth 20000 in
theorem rX5_read_41 {X : zX} {dep bc bs : Nat} (L : Int) {h : zH} {Q : Nat → zH → List zV → Prop} {P : zH → Prop}
    (hZ : zW mX5_readToken X (dep - 1) 0 0 239 0 (zar 0 [xR 24]) [] h (zQ0 P)) (hdep : 1 ≤ dep)
    (k : ∀ g : zH, P g → zW mX5_read X dep bc bs 239 44 [(0, xR 24), (1, xR 1), (2, xR L)] [] g Q) : zW mX5_read X dep bc bs 239 41 [(0, xR 24), (1, xR 1), (2, xR L)] [xR 24] h Q :=
  z_invQ0 (ci := 5) (N := 8) (as := []) (st := []) (ra := []) hZ dX5_read_41 nX5_readToken zb_685 zb_687 zb_3 zb_86 (zOb.lit (by decide +kernel)) rfl (by omega) (Nat.le_of_ble_eq_true rfl) (Nat.le_of_ble_eq_true rfl) rfl (fun g hg => k g hg)

set_option maxRecDepth 20000 in
theorem bX5_read_44 {X : zX} {dep bc bs : Nat} (L : Int) {h : zH} {Q : Nat → zH → List zV → Prop}
    (k1 : zW mX5_read X dep bc bs 239 46 [(0, xR 24), (3, xI 0)] [] h Q) : zW mX5_read X dep bc bs 239 44 [(0, xR 24), (1, xR 1), (2, xR L)] [] h Q := by
  refine z_iconst dX5_read_44 (zi32_d rfl) ?_
  refine z_istore_n (lv' := [(3, xI 0), (0, xR 24), (1, xR 1), (2, xR L)]) dX5_read_45 (by decide) rfl ?_
  refine zW.sub (lv' := [(0, xR 24), (3, xI 0)]) [1, 0] rfl ?_
  exact k1

set_option maxRecDepth 20000 in
theorem bX5_read_46 {X : zX} {dep bc bs : Nat} (n : Int) {h : zH} {Q : Nat → zH → List zV → Prop}
    (k1 : 20 < n → zW mX5_read X dep bc bs 239 74 [(0, xR 24), (3, xI n)] [] h Q)
    (k2 : ¬ (20 < n) → (h 24 5) = 0 → zW mX5_read X dep bc bs 239 74 [(0, xR 24), (3, xI n)] [] h Q)
    (k3 : ¬ (20 < n) → ¬ ((h 24 5) = 0) → zW mX5_read X dep bc bs 239 60 [(0, xR 24), (3, xI n)] [xR 24] h Q) : zW mX5_read X dep bc bs 239 46 [(0, xR 24), (3, xI n)] [] h Q := by
  refine z_iload_n 1 dX5_read_46 rfl ?_
  refine z_bipush dX5_read_47 (zi32_d rfl) (by decide) ?_
  refine z_icmp_gt (tgt := 74) dX5_read_49 (by decide) (fun c1 => ?_) (fun c1 => ?_)
  ·
    exact k1 c1
  ·
    refine z_aload_n 0 dX5_read_52 rfl ?_
    refine z_getI (k := 5) (kz := 5) pk5 dX5_read_53 (by decide) zb_330 rfl (zOb.lit (by decide +kernel)) rfl ?_
    refine z_if_eq (tgt := 74) dX5_read_56 (by decide) (fun c2 => ?_) (fun c2 => ?_)
    ·
      exact k2 c1 c2
    ·
      refine z_aload_n 0 dX5_read_59 rfl ?_
      exact k3 c1 c2

set_option maxRecDepth 20000 in
theorem rX5_read_60 {X : zX} {dep bc bs : Nat} (n : Int) {h : zH} {Q : Nat → zH → List zV → Prop} {P : Int → zH → Prop}
    (hZ : zW mX5_readLine X (dep - 1) 0 0 239 0 (zar 0 [xR 24]) [] h (zQI P)) (hdep : 1 ≤ dep)
    (k : ∀ (v : Int) (g : zH), P v g → zW mX5_read X dep bc bs 239 63 [(0, xR 24), (3, xI n)] [xI v] g Q) : zW mX5_read X dep bc bs 239 60 [(0, xR 24), (3, xI n)] [xR 24] h Q :=
  z_invQI (ci := 5) (N := 8) (as := []) (st := []) (ra := []) hZ dX5_read_60 nX5_readLine zb_689 zb_691 zb_4 zb_86 (zOb.lit (by decide +kernel)) rfl (by omega) (Nat.le_of_ble_eq_true rfl) (Nat.le_of_ble_eq_true rfl) rfl (fun v g hg => k v g hg)

set_option maxRecDepth 20000 in
theorem bX5_read_63 {X : zX} {dep bc bs : Nat} (n : Int) (v : Int) {h : zH} {Q : Nat → zH → List zV → Prop} (hn : 0 ≤ n ∧ n ≤ 20)
    (k1 : ¬ v = 0 → zW mX5_read X dep bc bs 239 46 [(0, xR 24), (3, xI (n + 1))] [] h Q)
    (k2 : v = 0 → Q 239 h [xI 0]) : zW mX5_read X dep bc bs 239 63 [(0, xR 24), (3, xI n)] [xI v] h Q := by
  refine z_if_ne (tgt := 68) dX5_read_63 (by decide) (fun c1 => ?_) (fun c1 => ?_)
  ·
    refine z_iincN (lv' := [(3, xI (n + 1)), (0, xR 24)]) 1 dX5_read_68 rfl (by decide) rfl (show -2147483648 ≤ n + 1 ∧ n + 1 < 2147483648 from ⟨by omega, by omega⟩).1 (show -2147483648 ≤ n + 1 ∧ n + 1 < 2147483648 from ⟨by omega, by omega⟩).2 ?_
    refine z_goto (tgt := 46) dX5_read_71 (by decide) ?_
    refine zW.sub (lv' := [(0, xR 24), (3, xI (n + 1))]) [1, 0] rfl ?_
    exact k1 c1
  ·
    refine z_iconst dX5_read_66 (zi32_d rfl) ?_
    exact z_zret dX5_read_67 rfl (Or.inl rfl) (k2 c1)

set_option maxRecDepth 20000 in
theorem bX5_read_74 {X : zX} {dep bc bs : Nat} (n : Int) {h : zH} {Q : Nat → zH → List zV → Prop}
    (k1 : (h 25 5) = 0 → Q 239 h [xI 1])
    (k2 : ¬ ((h 25 5) = 0) → zW mX5_read X dep bc bs 239 86 [(0, xR 24), (3, xI n)] [xI 1, xR 24] h Q) : zW mX5_read X dep bc bs 239 74 [(0, xR 24), (3, xI n)] [] h Q := by
  refine z_aload_n 0 dX5_read_74 rfl ?_
  refine z_getS (v := 25) (k := 0) (kz := 0) pk5 dX5_read_75 (by decide) zb_323 rfl (zOb.lit (by decide +kernel)) rfl (by decide +kernel) ?_
  refine z_getI (k := 5) (kz := 5) pk8 dX5_read_78 (by decide) zb_252 rfl (zOb.lit (by decide +kernel)) rfl ?_
  refine z_if_eq (tgt := 92) dX5_read_81 (by decide) (fun c1 => ?_) (fun c1 => ?_)
  ·
    refine z_iconst dX5_read_92 (zi32_d rfl) ?_
    refine z_goto (tgt := 97) dX5_read_93 (by decide) ?_
    exact z_zret dX5_read_97 rfl (Or.inr rfl) (k1 c1)
  ·
    refine z_aload_n 0 dX5_read_84 rfl ?_
    refine z_iconst dX5_read_85 (zi32_d rfl) ?_
    exact k2 c1

set_option maxRecDepth 20000 in
theorem rX5_read_86 {X : zX} {dep bc bs : Nat} (n : Int) {h : zH} {Q : Nat → zH → List zV → Prop} {P : Int → zH → Prop}
    (hZ : zW mX5_fail X (dep - 1) 0 0 239 0 (zar 0 [xR 24, xI 1]) [] h (zQI P)) (hdep : 1 ≤ dep)
    (k : ∀ (v : Int) (g : zH), P v g → zW mX5_read X dep bc bs 239 89 [(0, xR 24), (3, xI n)] [xI v] g Q) : zW mX5_read X dep bc bs 239 86 [(0, xR 24), (3, xI n)] [xI 1, xR 24] h Q :=
  z_invQI (ci := 5) (N := 8) (as := [xI 1]) (st := []) (ra := [xI 1]) hZ dX5_read_86 nX5_fail zb_693 zb_695 zb_5 zb_86 (zOb.lit (by decide +kernel)) rfl (by omega) (Nat.le_of_ble_eq_true rfl) (Nat.le_of_ble_eq_true rfl) rfl (fun v g hg => k v g hg)

set_option maxRecDepth 20000 in
theorem bX5_read_89 {X : zX} {dep bc bs : Nat} (n : Int) (v : Int) {h : zH} {Q : Nat → zH → List zV → Prop}
    (k1 : Q 239 h [xI (if v = 0 then 0 else 1 : Int)]) : zW mX5_read X dep bc bs 239 89 [(0, xR 24), (3, xI n)] [xI v] h Q := by
  suffices KJ : zW mX5_read X dep bc bs 239 97 [(0, xR 24), (3, xI n)] [xI (if v = 0 then 0 else 1 : Int)] h Q by
    refine z_if_eq (tgt := 96) dX5_read_89 (by decide) (fun j1 => ?_) (fun j1 => ?_)
    ·
      refine z_iconst dX5_read_96 (zi32_d rfl) ?_
      rw [if_pos j1] at KJ
      exact KJ
    ·
      refine z_iconst dX5_read_92 (zi32_d rfl) ?_
      refine z_goto (tgt := 97) dX5_read_93 (by decide) ?_
      rw [if_neg j1] at KJ
      exact KJ
  exact z_zret dX5_read_97 rfl (by repeat (first | (left; rfl) | (right; rfl) | split)) (k1)

set_option maxRecDepth 20000 in
theorem bX10_law_0 {X : zX} {dep bc bs : Nat} (d : Int) {h : zH} {Q : Nat → zH → List zV → Prop} (hn : 0 ≤ h 0 11 ∧ h 0 11 ≤ 8) (hdep : 1 ≤ dep)
    (k1 : 8 ≤ (h 0 11) → Q 239 (zst h 1 1 0) [xI (-1000)])
    (k2 : ¬ (8 ≤ (h 0 11)) → ¬ (0 ≤ d ∧ d ≤ 3639) → Q 239 (zst h 1 1 0) [xI (-1000)])
    (k3 : ¬ (8 ≤ (h 0 11)) → 0 ≤ d ∧ d ≤ 3639 → (h 0 10) ≤ d → zW mX10_law X dep bc bs 239 55 [(2, xR (65 + 6 * (h 0 11))), (0, xR 0), (1, xI d)] [xR (65 + 6 * (h 0 11)), xR 1, xR 24] h Q)
    (k4 : ¬ (8 ≤ (h 0 11)) → 0 ≤ d ∧ d ≤ 3639 → ¬ ((h 0 10) ≤ d) → Q 239 (zst h 1 1 0) [xI (-1000)]) : zW mX10_law X dep bc bs 239 0 [(0, xR 0), (1, xI d)] [] h Q := by
  refine z_aload_n 0 dX10_law_0 rfl ?_
  refine z_getI (k := 11) (kz := 11) pk10 dX10_law_1 (by decide) zb_468 rfl (zOb.lit (by decide +kernel)) rfl ?_
  refine z_bipush dX10_law_4 (zi32_d rfl) (by decide) ?_
  refine z_icmp_ge (tgt := 24) dX10_law_6 (by decide) (fun c1 => ?_) (fun c1 => ?_)
  ·
    refine z_aload_n 0 dX10_law_24 rfl ?_
    refine z_getS (v := 1) (k := 0) (kz := 0) pk10 dX10_law_25 (by decide) zb_457 rfl (zOb.lit (by decide +kernel)) rfl (by decide +kernel) ?_
    refine z_iconst dX10_law_28 (zi32_d rfl) ?_
    refine z_putI (k := 1) (kz := 1) pk7 dX10_law_29 (by decide) zb_122 rfl (zFit_int _) (zOb.lit (by decide +kernel)) rfl ?_
    refine z_sipush dX10_law_32 (zi32_d rfl) (by decide) ?_
    exact z_iret dX10_law_35 rfl (k1 c1)
  ·
    refine z_iload_n 1 dX10_law_9 rfl ?_
    refine z_invSF (as := [xI d]) (st := []) (ra := [xI d]) (dep' := dep - 1) (rs := [xI (zb (0 ≤ d ∧ d ≤ 3639))]) (h' := h) (f_X10_isDay d (h := h) ) dX10_law_10 nX10_isDay zb_525 zb_526 zb_82 (by omega) zne_I (Nat.le_of_ble_eq_true rfl) (Nat.le_of_ble_eq_true rfl) rfl ?_
    refine z_ifB_eq (C := 0 ≤ d ∧ d ≤ 3639) (tgt := 24) dX10_law_13 (by decide) (fun c2 => ?_) (fun c2 => ?_)
    ·
      refine z_aload_n 0 dX10_law_24 rfl ?_
      refine z_getS (v := 1) (k := 0) (kz := 0) pk10 dX10_law_25 (by decide) zb_457 rfl (zOb.lit (by decide +kernel)) rfl (by decide +kernel) ?_
      refine z_iconst dX10_law_28 (zi32_d rfl) ?_
      refine z_putI (k := 1) (kz := 1) pk7 dX10_law_29 (by decide) zb_122 rfl (zFit_int _) (zOb.lit (by decide +kernel)) rfl ?_
      refine z_sipush dX10_law_32 (zi32_d rfl) (by decide) ?_
      exact z_iret dX10_law_35 rfl (k2 c1 c2)
    ·
      refine z_iload_n 1 dX10_law_16 rfl ?_
      refine z_aload_n 0 dX10_law_17 rfl ?_
      refine z_getI (k := 10) (kz := 10) pk10 dX10_law_18 (by decide) zb_467 rfl (zOb.lit (by decide +kernel)) rfl ?_
      refine z_icmp_ge (tgt := 36) dX10_law_21 (by decide) (fun c3 => ?_) (fun c3 => ?_)
      ·
        refine z_aload_n 0 dX10_law_36 rfl ?_
        refine z_getS (v := 42) (k := 4) (kz := 4) pk10 dX10_law_37 (by decide) zb_461 rfl (zOb.lit (by decide +kernel)) rfl (by decide +kernel) ?_
        refine z_aload_n 0 dX10_law_40 rfl ?_
        refine z_getI (k := 11) (kz := 11) pk10 dX10_law_41 (by decide) zb_468 rfl (zOb.lit (by decide +kernel)) rfl ?_
        refine z_aaldSL (v := (65 + 6 * (h 0 11))) dX10_law_44 (zOb.lit (by decide +kernel)) (show 0 ≤ (h 0 11) ∧ (h 0 11) < 8 from ⟨by omega, by omega⟩).1 (show 0 ≤ (h 0 11) ∧ (h 0 11) < 8 from ⟨by omega, by omega⟩).2 (zRF_laws (show 0 ≤ (h 0 11) ∧ (h 0 11) < 8 from ⟨by omega, by omega⟩).1 (show 0 ≤ (h 0 11) ∧ (h 0 11) < 8 from ⟨by omega, by omega⟩).2) ?_
        refine z_astore_n (lv' := [(2, xR (65 + 6 * (h 0 11))), (0, xR 0), (1, xI d)]) dX10_law_45 (by decide) rfl ?_
        refine z_aload_n 1 dX10_law_46 rfl ?_
        refine z_getS (v := 24) (k := 2) (kz := 2) pk10 dX10_law_47 (by decide) zb_459 rfl (zOb.lit (by decide +kernel)) rfl (by decide +kernel) ?_
        refine z_aload_n 1 dX10_law_50 rfl ?_
        refine z_getS (v := 1) (k := 0) (kz := 0) pk10 dX10_law_51 (by decide) zb_457 rfl (zOb.lit (by decide +kernel)) rfl (by decide +kernel) ?_
        refine z_aload_n 0 dX10_law_54 rfl ?_
        exact k3 c1 c2 c3
      ·
        refine z_aload_n 0 dX10_law_24 rfl ?_
        refine z_getS (v := 1) (k := 0) (kz := 0) pk10 dX10_law_25 (by decide) zb_457 rfl (zOb.lit (by decide +kernel)) rfl (by decide +kernel) ?_
        refine z_iconst dX10_law_28 (zi32_d rfl) ?_
        refine z_putI (k := 1) (kz := 1) pk7 dX10_law_29 (by decide) zb_122 rfl (zFit_int _) (zOb.lit (by decide +kernel)) rfl ?_
        refine z_sipush dX10_law_32 (zi32_d rfl) (by decide) ?_
        exact z_iret dX10_law_35 rfl (k4 c1 c2 c3)

set_option maxRecDepth 20000 in
theorem rX10_law_55 {X : zX} {dep bc bs : Nat} (d : Int) (i : Int) {h : zH} {Q : Nat → zH → List zV → Prop} {P : Int → zH → Prop}
    (hZ : zW mX5_read X (dep - 1) 0 0 239 0 (zar 0 [xR 24, xR 1, xR (65 + 6 * i)]) [] h (zQI P)) (hdep : 1 ≤ dep)
    (k : ∀ (v : Int) (g : zH), P v g → zW mX10_law X dep bc bs 239 58 [(0, xR 0), (1, xI d), (2, xR (65 + 6 * i))] [xI v] g Q) : zW mX10_law X dep bc bs 239 55 [(0, xR 0), (1, xI d), (2, xR (65 + 6 * i))] [xR (65 + 6 * i), xR 1, xR 24] h Q :=
  z_invQI (ci := 5) (N := 8) (as := [xR 1, xR (65 + 6 * i)]) (st := []) (ra := [xR (65 + 6 * i), xR 1]) hZ dX10_law_55 nX5_read zb_592 zb_593 zb_594 zb_86 (zOb.lit (by decide +kernel)) rfl (by omega) (Nat.le_of_ble_eq_true rfl) (Nat.le_of_ble_eq_true rfl) rfl (fun v g hg => k v g hg)

set_option maxRecDepth 20000 in
theorem bX10_law_58 {X : zX} {dep bc bs : Nat} (d : Int) (i : Int) (v : Int) {h : zH} {Q : Nat → zH → List zV → Prop} (hi : 0 ≤ i ∧ i < 8) (hn : 0 ≤ h 0 11 ∧ h 0 11 ≤ 8) (hp : 0 ≤ h 24 3 ∧ h 24 3 ≤ 340)
    (k1 : ¬ v = 0 → Q 239 (zst (zst (zst (zst (zst h 1 1 0) 0 13 (h 24 2)) (65 + 6 * i) 0 (h 0 10)) (65 + 6 * i) 1 d) 0 11 ((h 0 11) + 1)) [xI (h (65 + 6 * i) 6)])
    (k2 : v = 0 → Q 239 (zst (zst h 1 1 0) 0 13 (h 24 2)) [xI ((-1) - (h 24 3))]) : zW mX10_law X dep bc bs 239 58 [(0, xR 0), (1, xI d), (2, xR (65 + 6 * i))] [xI v] h Q := by
  refine z_istore_n (lv' := [(3, xI v), (0, xR 0), (1, xI d), (2, xR (65 + 6 * i))]) dX10_law_58 (by decide) rfl ?_
  refine z_aload_n 1 dX10_law_59 rfl ?_
  refine z_getS (v := 1) (k := 0) (kz := 0) pk10 dX10_law_60 (by decide) zb_457 rfl (zOb.lit (by decide +kernel)) rfl (by decide +kernel) ?_
  refine z_iconst dX10_law_63 (zi32_d rfl) ?_
  refine z_putI (k := 1) (kz := 1) pk7 dX10_law_64 (by decide) zb_122 rfl (zFit_int _) (zOb.lit (by decide +kernel)) rfl ?_
  refine z_aload_n 1 dX10_law_67 rfl ?_
  refine z_aload_n 1 dX10_law_68 rfl ?_
  refine z_getS (v := 24) (k := 2) (kz := 2) pk10 dX10_law_69 (by decide) zb_459 rfl (zOb.lit (by decide +kernel)) rfl (by decide +kernel) ?_
  refine z_getIV (v := (h 24 2)) (k := 2) (kz := 2) pk5 dX10_law_72 (by decide) zb_326 rfl (zOb.lit (by decide +kernel)) rfl (zst_ne (Or.inl (by decide))) ?_
  refine z_putI (k := 13) (kz := 13) pk10 dX10_law_75 (by decide) zb_470 rfl (zFit_int _) (zOb.lit (by decide +kernel)) rfl ?_
  refine z_iload_n 0 dX10_law_78 rfl ?_
  refine z_if_ne (tgt := 92) dX10_law_79 (by decide) (fun c1 => ?_) (fun c1 => ?_)
  ·
    refine z_aload_n 3 dX10_law_92 rfl ?_
    refine z_aload_n 1 dX10_law_93 rfl ?_
    refine z_getIV (v := (h 0 10)) (k := 10) (kz := 10) pk10 dX10_law_94 (by decide) zb_467 rfl (zOb.lit (by decide +kernel)) rfl ((zst_ne (Or.inr (by decide))).trans (zst_ne (Or.inl (by decide)))) ?_
    refine z_putI (k := 0) (kz := 0) pk1 dX10_law_97 (by decide) zb_272 rfl (zFit_int _) (zLawO_laws hi.1 hi.2).1 rfl ?_
    refine z_aload_n 3 dX10_law_100 rfl ?_
    refine z_iload_n 2 dX10_law_101 rfl ?_
    refine z_putI (k := 1) (kz := 1) pk1 dX10_law_102 (by decide) zb_274 rfl (zFit_int _) (zLawO_laws hi.1 hi.2).1 rfl ?_
    refine z_aload_n 1 dX10_law_105 rfl ?_
    refine z_dup dX10_law_106 zt2 ?_
    refine z_getIV (v := (h 0 11)) (k := 11) (kz := 11) pk10 dX10_law_107 (by decide) zb_468 rfl (zOb.lit (by decide +kernel)) rfl ((zst_ne (Or.inr (by decide))).trans ((zst_ne (Or.inr (by decide))).trans ((zst_ne (Or.inr (by decide))).trans (zst_ne (Or.inl (by decide)))))) ?_
    refine z_iconst dX10_law_110 (zi32_d rfl) ?_
    refine z_iaddN dX10_law_111 (show -2147483648 ≤ (h 0 11) + 1 ∧ (h 0 11) + 1 < 2147483648 from ⟨by omega, by omega⟩).1 (show -2147483648 ≤ (h 0 11) + 1 ∧ (h 0 11) + 1 < 2147483648 from ⟨by omega, by omega⟩).2 ?_
    refine z_putI (k := 11) (kz := 11) pk10 dX10_law_112 (by decide) zb_468 rfl (zFit_int _) (zOb.lit (by decide +kernel)) rfl ?_
    refine z_aload_n 3 dX10_law_115 rfl ?_
    refine z_getIV (v := (h (65 + 6 * i) 6)) (k := 6) (kz := 6) pk1 dX10_law_116 (by decide) zb_289 rfl (zLawO_laws hi.1 hi.2).1 rfl ((zst_ne (Or.inr (by decide))).trans ((zst_ne (Or.inr (by decide))).trans ((zst_ne (Or.inr (by decide))).trans ((zst_ne (Or.inr (by decide))).trans (zst_ne (Or.inr (by decide))))))) ?_
    exact z_iret dX10_law_119 rfl (k1 c1)
  ·
    refine z_iconst dX10_law_82 (zi32_d rfl) ?_
    refine z_aload_n 1 dX10_law_83 rfl ?_
    refine z_getS (v := 24) (k := 2) (kz := 2) pk10 dX10_law_84 (by decide) zb_459 rfl (zOb.lit (by decide +kernel)) rfl (by decide +kernel) ?_
    refine z_getIV (v := (h 24 3)) (k := 3) (kz := 3) pk5 dX10_law_87 (by decide) zb_328 rfl (zOb.lit (by decide +kernel)) rfl ((zst_ne (Or.inl (by decide))).trans (zst_ne (Or.inl (by decide)))) ?_
    refine z_isubN dX10_law_90 (show -2147483648 ≤ (-1) - (h 24 3) ∧ (-1) - (h 24 3) < 2147483648 from ⟨by omega, by omega⟩).1 (show -2147483648 ≤ (-1) - (h 24 3) ∧ (-1) - (h 24 3) < 2147483648 from ⟨by omega, by omega⟩).2 ?_
    exact z_iret dX10_law_91 rfl (k2 c1)

/-- a law as it is read: LINES (kind, number, first step, end), steps, ages, days of appeals -/
abbrev zLV : Type := List (Int × Int × Int × Int) × List Int × Int × Int × Int
abbrev zSrv (x : Int) : Prop := 0 ≤ x ∧ zand x 15 = 9
def zLi (h : zH) (L : Int) (V : zLV) : Prop := h L 6 = V.1.length ∧ h L 12 = V.2.1.length ∧ h L 2 = V.2.2.1 ∧ h L 3 = V.2.2.2.1 ∧ h L 4 = V.2.2.2.2 ∧ (h L 5 = 0 ↔ ∀ x ∈ V.2.1, ¬ zSrv x) ∧
  (∀ i : Nat, i < V.1.length → h (L + 1) i = (V.1.getD i (0, 0, 0, 0)).1 ∧ h (L + 2) i = (V.1.getD i (0, 0, 0, 0)).2.1 ∧ h (L + 3) i = (V.1.getD i (0, 0, 0, 0)).2.2.1 ∧ h (L + 4) i = (V.1.getD i (0, 0, 0, 0)).2.2.2) ∧ ∀ i : Nat, i < V.2.1.length → h (L + 5) i = V.2.1.getD i 0
theorem zgd1 {α : Type} {l T : List α} {i : Nat} {d : α} (hi : i < l.length) : (l ++ T).getD i d = l.getD i d := by
  rw [List.getD_eq_getElem?_getD, List.getD_eq_getElem?_getD, List.getElem?_append_left hi]
theorem zgd2 {α : Type} {l : List α} {x d : α} : (l ++ [x]).getD l.length d = x := by
  rw [List.getD_eq_getElem?_getD, List.getElem?_append_right (Nat.le_refl _), Nat.sub_self]
  rfl
theorem zLi.ap {h f : zH} {L : Int} {V : zLV} (w : zLi h L V) (a : ∀ k : Int, k = 2 ∨ k = 3 ∨ k = 4 ∨ k = 5 ∨ k = 6 ∨ k = 12 → f L k = h L k) (b : ∀ q k : Int, L + 1 ≤ q → q ≤ L + 5 → f q k = h q k) : zLi f L V := by
  obtain ⟨w6, w12, w2, w3, w4, w5, wl, ws⟩ := w
  refine ⟨(a 6 (by omega)).trans w6, (a 12 (by omega)).trans w12, (a 2 (by omega)).trans w2, (a 3 (by omega)).trans w3, (a 4 (by omega)).trans w4, by rw [a 5 (by omega)]; exact w5, fun i hi => ?_, fun i hi => ?_⟩
  · rw [b (L + 1) _ (by omega) (by omega), b (L + 2) _ (by omega) (by omega), b (L + 3) _ (by omega) (by omega), b (L + 4) _ (by omega) (by omega)]
    exact wl i hi
  · rw [b (L + 5) _ (by omega) (by omega)]
    exact ws i hi
theorem zLi.rd {h : zH} {L : Int} {V : zLV} (hL : 30 ≤ L) (w : zLi h L V) (j o : Int) : zLi (zrd h j o) L V :=
  w.ap (fun k _ => zrd_ne _ _ _ (by omega) k) (fun q k h1 h2 => zrd_ne _ _ _ (by omega) k)
def zadl (h : zH) (L k : Int) : zH := zst (zst (zst (zst (zst h (L + 1) (h L 6) k) (L + 2) (h L 6) 0) (L + 3) (h L 6) (h L 12)) (L + 4) (h L 6) (h L 12)) L 6 (h L 6 + 1)
theorem zLi.line {h : zH} {L : Int} {V : zLV} (w : zLi h L V) (k : Int) : zLi (zadl h L k) L (V.1 ++ [(k, 0, (V.2.1.length : Int), (V.2.1.length : Int))], V.2) := by
  obtain ⟨w6, w12, w2, w3, w4, w5, wl, ws⟩ := w
  have e : ∀ k2 : Int, k2 ≠ 6 → zadl h L k L k2 = h L k2 := fun k2 h6 => by
    unfold zadl
    rw [zst_ne (Or.inr h6), zst_ne (Or.inl (by omega)), zst_ne (Or.inl (by omega)), zst_ne (Or.inl (by omega)), zst_ne (Or.inl (by omega))]
  have e6 : zadl h L k L 6 = h L 6 + 1 := by unfold zadl; rw [zst_self]
  have a1 : ∀ i : Int, zadl h L k (L + 1) i = if i = h L 6 then k else h (L + 1) i := fun i => by
    unfold zadl
    rw [zst_ne (Or.inl (by omega)), zst_ne (Or.inl (by omega)), zst_ne (Or.inl (by omega)), zst_ne (Or.inl (by omega))]
    by_cases c : i = h L 6
    · rw [if_pos c, c, zst_self]
    · rw [if_neg c, zst_ne (Or.inr c)]
  have a2 : ∀ i : Int, zadl h L k (L + 2) i = if i = h L 6 then 0 else h (L + 2) i := fun i => by
    unfold zadl
    rw [zst_ne (Or.inl (by omega)), zst_ne (Or.inl (by omega)), zst_ne (Or.inl (by omega))]
    by_cases c : i = h L 6
    · rw [if_pos c, c, zst_self]
    · rw [if_neg c, zst_ne (Or.inr c), zst_ne (Or.inl (by omega))]
  have a3 : ∀ i : Int, zadl h L k (L + 3) i = if i = h L 6 then h L 12 else h (L + 3) i := fun i => by
    unfold zadl
    rw [zst_ne (Or.inl (by omega)), zst_ne (Or.inl (by omega))]
    by_cases c : i = h L 6
    · rw [if_pos c, c, zst_self]
    · rw [if_neg c, zst_ne (Or.inr c), zst_ne (Or.inl (by omega)), zst_ne (Or.inl (by omega))]
  have a4 : ∀ i : Int, zadl h L k (L + 4) i = if i = h L 6 then h L 12 else h (L + 4) i := fun i => by
    unfold zadl
    rw [zst_ne (Or.inl (by omega))]
    by_cases c : i = h L 6
    · rw [if_pos c, c, zst_self]
    · rw [if_neg c, zst_ne (Or.inr c), zst_ne (Or.inl (by omega)), zst_ne (Or.inl (by omega)), zst_ne (Or.inl (by omega))]
  have a5 : ∀ i : Int, zadl h L k (L + 5) i = h (L + 5) i := fun i => by
    unfold zadl
    rw [zst_ne (Or.inl (by omega)), zst_ne (Or.inl (by omega)), zst_ne (Or.inl (by omega)), zst_ne (Or.inl (by omega)), zst_ne (Or.inl (by omega))]
  refine ⟨?_, (e 12 (by omega)).trans w12, (e 2 (by omega)).trans w2, (e 3 (by omega)).trans w3, (e 4 (by omega)).trans w4, by rw [e 5 (by omega)]; exact w5, fun i hi => ?_, fun i hi => by rw [a5]; exact ws i hi⟩
  · rw [e6, w6]
    show _ = ((V.1 ++ [_]).length : Int)
    rw [List.length_append, List.length_singleton]
    omega
  · have hi2 : i < V.1.length + 1 := by
      have : i < (V.1 ++ [(k, 0, (V.2.1.length : Int), (V.2.1.length : Int))]).length := hi
      rw [List.length_append, List.length_singleton] at this
      exact this
    rw [a1, a2, a3, a4]
    show _ = ((V.1 ++ [_]).getD i _).1 ∧ _ = ((V.1 ++ [_]).getD i _).2.1 ∧ _ = ((V.1 ++ [_]).getD i _).2.2.1 ∧ _ = ((V.1 ++ [_]).getD i _).2.2.2
    by_cases c : i < V.1.length
    · rw [zgd1 c, if_neg (by omega), if_neg (by omega), if_neg (by omega), if_neg (by omega)]
      exact wl i c
    · have ei : i = V.1.length := by omega
      subst ei
      rw [zgd2, if_pos w6.symm, if_pos w6.symm, if_pos w6.symm, if_pos w6.symm]
      exact ⟨rfl, rfl, w12, w12⟩
theorem zLi.num {h : zH} {L k n f e : Int} {ls : List (Int × Int × Int × Int)} {R : List Int × Int × Int × Int} (w : zLi h L (ls ++ [(k, n, f, e)], R)) (v : Int) : zLi (zst h (L + 2) (h L 6 - 1) v) L (ls ++ [(k, v, f, e)], R) := by
  obtain ⟨w6, w12, w2, w3, w4, w5, wl, ws⟩ := w
  have ln : ∀ x : Int × Int × Int × Int, ((ls ++ [x]).length : Int) = ls.length + 1 := fun x => by rw [List.length_append, List.length_singleton]; omega
  have w6' : h L 6 = ls.length + 1 := by rw [w6]; exact ln _
  refine ⟨?_, (zst_ne (Or.inl (by omega))).trans w12, (zst_ne (Or.inl (by omega))).trans w2, (zst_ne (Or.inl (by omega))).trans w3, (zst_ne (Or.inl (by omega))).trans w4, by rw [zst_ne (Or.inl (by omega))]; exact w5, fun i hi => ?_, fun i hi => by rw [zst_ne (Or.inl (by omega))]; exact ws i hi⟩
  · rw [zst_ne (Or.inl (by omega)), w6']
    exact (ln _).symm
  · have hi2 : i < ls.length + 1 := by
      have h9 : i < (ls ++ [(k, v, f, e)]).length := hi
      rw [List.length_append, List.length_singleton] at h9
      exact h9
    have o := wl i (by show i < (ls ++ [(k, n, f, e)]).length; rw [List.length_append, List.length_singleton]; exact hi2)
    rw [zst_ne (o' := L + 1) (Or.inl (by omega)), zst_ne (o' := L + 3) (Or.inl (by omega)), zst_ne (o' := L + 4) (Or.inl (by omega))]
    show _ = ((ls ++ [_]).getD i _).1 ∧ _ = ((ls ++ [_]).getD i _).2.1 ∧ _ = ((ls ++ [_]).getD i _).2.2.1 ∧ _ = ((ls ++ [_]).getD i _).2.2.2
    by_cases c : i < ls.length
    · rw [zst_ne (Or.inr (by omega)), zgd1 c]
      have o2 : h (L + 1) i = ((ls ++ [(k, n, f, e)]).getD i (0, 0, 0, 0)).1 ∧ h (L + 2) i = ((ls ++ [(k, n, f, e)]).getD i (0, 0, 0, 0)).2.1 ∧ h (L + 3) i = ((ls ++ [(k, n, f, e)]).getD i (0, 0, 0, 0)).2.2.1 ∧ h (L + 4) i = ((ls ++ [(k, n, f, e)]).getD i (0, 0, 0, 0)).2.2.2 := o
      rw [zgd1 c] at o2
      exact o2
    · have ei : i = ls.length := by omega
      subst ei
      have o2 : h (L + 1) (ls.length : Nat) = ((ls ++ [(k, n, f, e)]).getD ls.length (0, 0, 0, 0)).1 ∧ h (L + 2) (ls.length : Nat) = ((ls ++ [(k, n, f, e)]).getD ls.length (0, 0, 0, 0)).2.1 ∧ h (L + 3) (ls.length : Nat) = ((ls ++ [(k, n, f, e)]).getD ls.length (0, 0, 0, 0)).2.2.1 ∧ h (L + 4) (ls.length : Nat) = ((ls ++ [(k, n, f, e)]).getD ls.length (0, 0, 0, 0)).2.2.2 := o
      rw [zgd2] at o2 ⊢
      rw [show h L 6 - 1 = ((ls.length : Nat) : Int) by omega, zst_self]
      exact ⟨o2.1, rfl, o2.2.2.1, o2.2.2.2⟩
theorem zLi.stp {h : zH} {L k n f e : Int} {ls : List (Int × Int × Int × Int)} {S : List Int} {R : Int × Int × Int} (w : zLi h L (ls ++ [(k, n, f, e)], S, R)) (x : Int) : zLi (zstp h L x) L (ls ++ [(k, n, f, (S.length : Int) + 1)], S ++ [x], R) := by
  obtain ⟨w6, w12, w2, w3, w4, w5, wl, ws⟩ := w
  have ln : ∀ x : Int × Int × Int × Int, ((ls ++ [x]).length : Int) = ls.length + 1 := fun x => by rw [List.length_append, List.length_singleton]; omega
  have w6' : h L 6 = ls.length + 1 := by rw [w6]; exact ln _
  have w12' : h L 12 = S.length := w12
  have eL := zstp_L h L x
  have e5 : zstp h L x L 5 = if h L 5 = 0 ∧ ¬ (0 ≤ x ∧ zand x 15 = 9) then 0 else 1 := by unfold zstp; rw [zst_self]
  have a4 : ∀ i : Int, zstp h L x (L + 4) i = if i = h L 6 - 1 then h L 12 + 1 else h (L + 4) i := fun i => by
    unfold zstp
    rw [zst_ne (Or.inl (by omega))]
    by_cases c : i = h L 6 - 1
    · rw [if_pos c, c, zst_self]
    · rw [if_neg c, zst_ne (Or.inr c), zst_ne (Or.inl (by omega)), zst_ne (Or.inl (by omega))]
  have a5 : ∀ i : Int, zstp h L x (L + 5) i = if i = h L 12 then x else h (L + 5) i := fun i => by
    unfold zstp
    rw [zst_ne (Or.inl (by omega)), zst_ne (Or.inl (by omega)), zst_ne (Or.inl (by omega))]
    by_cases c : i = h L 12
    · rw [if_pos c, c, zst_self]
    · rw [if_neg c, zst_ne (Or.inr c)]
  refine ⟨?_, ?_, (eL.2 2 (by omega) (by omega)).trans w2, (eL.2 3 (by omega) (by omega)).trans w3, (eL.2 4 (by omega) (by omega)).trans w4, ?_, fun i hi => ?_, fun i hi => ?_⟩
  · rw [eL.2 6 (by omega) (by omega), w6']
    exact (ln _).symm
  · rw [eL.1, w12']
    show _ = ((S ++ [x]).length : Int)
    rw [List.length_append, List.length_singleton]
    omega
  · rw [e5]
    show _ ↔ ∀ y ∈ S ++ [x], ¬ zSrv y
    constructor
    · intro q y hy
      have c : h L 5 = 0 ∧ ¬ (0 ≤ x ∧ zand x 15 = 9) := by
        refine Classical.byContradiction fun z => ?_
        rw [if_neg z] at q
        exact absurd q (by decide)
      rcases List.mem_append.mp hy with z | z
      · exact w5.mp c.1 y z
      · rw [List.mem_singleton.mp z]; exact c.2
    · intro q
      exact if_pos ⟨w5.mpr (fun y hy => q y (List.mem_append_left _ hy)), q x (List.mem_append_right _ List.mem_cons_self)⟩
  · have hi2 : i < ls.length + 1 := by
      have h9 : i < (ls ++ [(k, n, f, (S.length : Int) + 1)]).length := hi
      rw [List.length_append, List.length_singleton] at h9
      exact h9
    have o : h (L + 1) i = ((ls ++ [(k, n, f, e)]).getD i (0, 0, 0, 0)).1 ∧ h (L + 2) i = ((ls ++ [(k, n, f, e)]).getD i (0, 0, 0, 0)).2.1 ∧ h (L + 3) i = ((ls ++ [(k, n, f, e)]).getD i (0, 0, 0, 0)).2.2.1 ∧ h (L + 4) i = ((ls ++ [(k, n, f, e)]).getD i (0, 0, 0, 0)).2.2.2 := wl i (by show i < (ls ++ [(k, n, f, e)]).length; rw [List.length_append, List.length_singleton]; exact hi2)
    rw [zstp_ne h L x (q := L + 1) (by omega) (by omega) (by omega), zstp_ne h L x (q := L + 2) (by omega) (by omega) (by omega), zstp_ne h L x (q := L + 3) (by omega) (by omega) (by omega), a4]
    show _ = ((ls ++ [_]).getD i _).1 ∧ _ = ((ls ++ [_]).getD i _).2.1 ∧ _ = ((ls ++ [_]).getD i _).2.2.1 ∧ _ = ((ls ++ [_]).getD i _).2.2.2
    by_cases c : i < ls.length
    · rw [zgd1 c] at o ⊢
      rw [if_neg (by omega)]
      exact o
    · have ei : i = ls.length := by omega
      subst ei
      rw [zgd2] at o ⊢
      rw [if_pos (by omega)]
      exact ⟨o.1, o.2.1, o.2.2.1, by rw [w12']⟩
  · have hi2 : i < S.length + 1 := by
      have h9 : i < (S ++ [x]).length := hi
      rw [List.length_append, List.length_singleton] at h9
      exact h9
    rw [a5]
    show _ = (S ++ [x]).getD i 0
    by_cases c : i < S.length
    · rw [zgd1 c, if_neg (by omega)]
      exact ws i c
    · have ei : i = S.length := by omega
      subst ei
      rw [zgd2, if_pos w12'.symm]
theorem zLi.stps {L k n f : Int} {ls : List (Int × Int × Int × Int)} {R : Int × Int × Int} : ∀ (T S : List Int) (h : zH), zLi h L (ls ++ [(k, n, f, (S.length : Int))], S, R) → zLi (zstps h L T) L (ls ++ [(k, n, f, (S.length : Int) + T.length)], S ++ T, R)
  | [], S, h, w => by
    rw [List.append_nil, List.length_nil, show (S.length : Int) + ((0 : Nat) : Int) = S.length by omega]
    exact w
  | x :: T, S, h, w => by
    have w1 := w.stp x
    rw [show (S.length : Int) + 1 = ((S ++ [x]).length : Int) by rw [List.length_append, List.length_singleton]; omega] at w1
    have i := zLi.stps T (S ++ [x]) (zstp h L x) w1
    rw [List.append_assoc, List.length_append, List.length_singleton] at i
    rw [List.length_cons, show (S.length : Int) + ((T.length + 1 : Nat) : Int) = ((S.length + 1 : Nat) : Int) + T.length by omega]
    exact i
theorem zLi.yo {h : zH} {L : Int} {ls : List (Int × Int × Int × Int)} {S : List Int} {y o a : Int} (w : zLi h L (ls, S, y, o, a)) (v : Int) : zLi (zst h L 2 v) L (ls, S, v, o, a) := by
  obtain ⟨w6, w12, w2, w3, w4, w5, wl, ws⟩ := w
  refine ⟨(zst_ne (Or.inr (by omega))).trans w6, (zst_ne (Or.inr (by omega))).trans w12, zst_self _ _ _ _, (zst_ne (Or.inr (by omega))).trans w3, (zst_ne (Or.inr (by omega))).trans w4, by rw [zst_ne (Or.inr (by omega))]; exact w5, fun i hi => ?_, fun i hi => by rw [zst_ne (Or.inl (by omega))]; exact ws i hi⟩
  rw [zst_ne (o' := L + 1) (Or.inl (by omega)), zst_ne (o' := L + 2) (Or.inl (by omega)), zst_ne (o' := L + 3) (Or.inl (by omega)), zst_ne (o' := L + 4) (Or.inl (by omega))]
  exact wl i hi
theorem zLi.ol {h : zH} {L : Int} {ls : List (Int × Int × Int × Int)} {S : List Int} {y o a : Int} (w : zLi h L (ls, S, y, o, a)) (v : Int) : zLi (zst h L 3 v) L (ls, S, y, v, a) := by
  obtain ⟨w6, w12, w2, w3, w4, w5, wl, ws⟩ := w
  refine ⟨(zst_ne (Or.inr (by omega))).trans w6, (zst_ne (Or.inr (by omega))).trans w12, (zst_ne (Or.inr (by omega))).trans w2, zst_self _ _ _ _, (zst_ne (Or.inr (by omega))).trans w4, by rw [zst_ne (Or.inr (by omega))]; exact w5, fun i hi => ?_, fun i hi => by rw [zst_ne (Or.inl (by omega))]; exact ws i hi⟩
  rw [zst_ne (o' := L + 1) (Or.inl (by omega)), zst_ne (o' := L + 2) (Or.inl (by omega)), zst_ne (o' := L + 3) (Or.inl (by omega)), zst_ne (o' := L + 4) (Or.inl (by omega))]
  exact wl i hi
theorem zLi.pl {h : zH} {L : Int} {ls : List (Int × Int × Int × Int)} {S : List Int} {y o a : Int} (w : zLi h L (ls, S, y, o, a)) (v : Int) : zLi (zst h L 4 v) L (ls, S, y, o, v) := by
  obtain ⟨w6, w12, w2, w3, w4, w5, wl, ws⟩ := w
  refine ⟨(zst_ne (Or.inr (by omega))).trans w6, (zst_ne (Or.inr (by omega))).trans w12, (zst_ne (Or.inr (by omega))).trans w2, (zst_ne (Or.inr (by omega))).trans w3, zst_self _ _ _ _, by rw [zst_ne (Or.inr (by omega))]; exact w5, fun i hi => ?_, fun i hi => by rw [zst_ne (Or.inl (by omega))]; exact ws i hi⟩
  rw [zst_ne (o' := L + 1) (Or.inl (by omega)), zst_ne (o' := L + 2) (Or.inl (by omega)), zst_ne (o' := L + 3) (Or.inl (by omega)), zst_ne (o' := L + 4) (Or.inl (by omega))]
  exact wl i hi
/-- reading has come to token j, and the law holds V -/
def zLd (g : zH) (L j o : Int) (V : zLV) (f : zH) : Prop := zap (zLS L) g f ∧ zAt f L j o ∧ zLi f L V ∧ f 24 2 = g 24 2 ∧ f 24 3 = g 24 3
theorem zTkOK.ap {h f : zH} {L : Int} (hL : 30 ≤ L) (t : zTkOK h) (a : zap (zLS L) h f) : zTkOK f ∧ f 25 4 = h 25 4 ∧ f 26 = h 26 ∧ f 27 = h 27 ∧ f 28 = h 28 ∧ f 29 = h 29 ∧ f 25 5 = h 25 5 := by
  have e : ∀ q k : Int, 25 ≤ q → q ≤ 29 → f q k = h q k := fun q k h1 h2 => a q k (by simp only [zLS]; omega)
  have e26 : f 26 = h 26 := funext fun k => e 26 k (by omega) (by omega)
  have e29 : f 29 = h 29 := funext fun k => e 29 k (by omega) (by omega)
  refine ⟨?_, e 25 4 (by omega) (by omega), e26, funext fun k => e 27 k (by omega) (by omega), funext fun k => e 28 k (by omega) (by omega), e29, e 25 5 (by omega) (by omega)⟩
  unfold zTkOK
  rw [e 25 4 (by omega) (by omega), e26, e29]
  exact t
theorem zFt.tr {g h f : zH} {L k j : Int} (hL : 30 ≤ L) (a : zap (zLS L) g h) (a1 : h 24 1 = g 24 1) (b : zFt h L k j f) : zFt g L k j f :=
  ⟨a.tr b.1, b.2.1.trans a1, b.2.2.1, b.2.2.2.trans (a 27 j (by simp only [zLS]; omega))⟩
theorem zFt.st {g f : zH} {L k j : Int} (hL : 30 ≤ L) (b : zFt g L k j f) {q : Int} (hq : L ≤ q ∧ q ≤ L + 5) (i x : Int) : zFt g L k j (zst f q i x) :=
  ⟨b.1.st (Or.inr hq) _ _, (zst_ne (Or.inl (by omega))).trans b.2.1, (zst_ne (Or.inl (by omega))).trans b.2.2.1, (zst_ne (Or.inl (by omega))).trans b.2.2.2⟩
theorem zAt.st {h : zH} {L j o : Int} (hL : 30 ≤ L) (a : zAt h L j o) {q : Int} (hq : L ≤ q) (i x : Int) : zAt (zst h q i x) L j o := by
  obtain ⟨a1, a2, a4, a5, a6, a7, a8⟩ := a
  refine ⟨(zst_ne (Or.inl (by omega))).trans a1, ?_, (zst_ne (Or.inl (by omega))).trans a4, ?_, ?_, (zst_ne (Or.inl (by omega))).trans a7, a8⟩
  · rw [zst_ne (Or.inl (by omega))]; exact a2
  · rw [zst_ne (Or.inl (by omega)), zst_ne (Or.inl (by omega))]; exact a5
  · rw [zst_ne (Or.inl (by omega)), zst_ne (Or.inl (by omega))]; exact a6
theorem zAt.next {h : zH} {L j o : Int} (a : zAt h L j o) (j2 : Int) (hj : 0 ≤ j2 ∧ j2 < h 25 4) : zAt (zrd h j2 o) L j2 o := by
  refine ⟨?_, ?_, ?_, ?_, ?_, ?_, a.2.2.2.2.2.2⟩
  · rw [zrd_24]; exact a.1
  · rw [zrd_ne _ _ _ (by omega)]; exact hj
  · rw [zrd_24]; rfl
  · rw [zrd_24, zrd_ne _ _ _ (by omega)]; rfl
  · rw [zrd_24, zrd_ne _ _ _ (by omega)]; rfl
  · rw [zrd_24]; rfl
theorem zap_rd {L : Int} (h : zH) (j o : Int) : zap (zLS L) h (zrd h j o) := fun q k hq => zrd_ne _ _ _ (fun z => hq (Or.inl z)) k
/-- a fault told, nothing else -/
def zfl (h : zH) (k j : Int) : zH := zst (zst h 24 2 k) 24 3 (h 27 j)
theorem zfl_ne (h : zH) (k j : Int) {q : Int} (hq : q ≠ 24) (i : Int) : zfl h k j q i = h q i := by
  unfold zfl
  rw [zst_ne (Or.inl hq), zst_ne (Or.inl hq)]
theorem zfl_1 (h : zH) (k j : Int) : zfl h k j 24 1 = h 24 1 := by
  unfold zfl
  rw [zst_ne (Or.inr (by omega)), zst_ne (Or.inr (by omega))]
theorem zFt.fl (h : zH) (L k j : Int) : zFt h L k j (zfl h k j) := by
  refine ⟨fun q i hq => zfl_ne _ _ _ (fun z => hq (Or.inl z)) i, zfl_1 _ _ _, ?_, ?_⟩
  · unfold zfl
    rw [zst_ne (Or.inr (by omega)), zst_self]
  · unfold zfl
    rw [zst_self]
theorem f_X5_fl {X : zX} {dep : Nat} (L k j o : Int) {h : zH} (a : zAt h L j o) (hc : h 25 4 ≤ 301) : zW mX5_fail X dep 0 0 239 0 (zar 0 [xR 24, xI k]) [] h (zQI (fun v f => v = 0 ∧ f = zfl h k j)) := by
  have a4 := a.2.2.1
  refine bX5_fail_0 k (by have := a.2.1; omega) (fun c => absurd c (by have := a.2.1; omega)) (fun _ _ => ?_) (fun _ c => absurd (by have := a.2.1; omega) c)
  refine ⟨rfl, _, rfl, rfl, ?_⟩
  rw [a4]
  rfl
theorem f_X5_readNumber {X : zX} {dep : Nat} (L a b j o : Int) {h : zH} (w : zAt h L j o) (t : zTkOK h) (hdep : 1 ≤ dep) : zW mX5_readNumber X dep 0 0 239 0 (zar 0 [xR 24, xI a, xI b]) [] h
    (zQI (fun v f => (h 26 j = 2 ∧ ¬ (h 28 j < a ∨ b < h 28 j)) ∧ v = h 28 j ∧ f = zrd h (j + 1) o ∨ (¬ h 26 j = 2) ∧ v = -1 ∧ f = zfl h 1 j ∨ (h 26 j = 2 ∧ (h 28 j < a ∨ b < h 28 j)) ∧ v = -1 ∧ f = zfl h 2 j)) := by
  have w5 := w.2.2.2.1
  have w4 := w.2.2.1
  have t1 := t.1
  have wj := w.2.1
  have f2 : h 26 j = 2 ∧ (h 28 j < a ∨ b < h 28 j) → zW mX5_readNumber X dep 0 0 239 41 [(3, xI (h 28 (h 24 4))), (0, xR 24), (1, xI a), (2, xI b)] [xI 2, xR 24] h (zQI (fun v f => (h 26 j = 2 ∧ ¬ (h 28 j < a ∨ b < h 28 j)) ∧ v = h 28 j ∧ f = zrd h (j + 1) o ∨ (¬ h 26 j = 2) ∧ v = -1 ∧ f = zfl h 1 j ∨ (h 26 j = 2 ∧ (h 28 j < a ∨ b < h 28 j)) ∧ v = -1 ∧ f = zfl h 2 j)) := by
    intro c
    refine zW.sub (lv' := [(0, xR 24), (1, xI a), (2, xI b), (3, xI (h 28 (h 24 4)))]) [1, 2, 3, 0] rfl ?_
    refine rX5_readNumber_41 a b _ (f_X5_fl L 2 j o w t.1.2) hdep (fun v g hg => ?_)
    refine bX5_readNumber_44 a b _ v ?_
    exact ⟨rfl, _, rfl, Or.inr (Or.inr ⟨c, rfl, hg.2⟩)⟩
  refine bX5_readNumber_0 a b (by omega) (fun c1 c2 => f2 ?_) (fun c1 c2 c3 => ?_) (fun c1 c2 c3 => f2 ?_) (fun c1 => ?_)
  · rw [w4] at c2; exact ⟨by omega, by omega⟩
  · rw [w4] at c2 c3
    refine zW.sub (lv' := [(0, xR 24), (1, xI a), (2, xI b), (3, xI (h 28 (h 24 4)))]) [1, 2, 3, 0] rfl ?_
    refine rX5_readNumber_48 a b _ (f_X5_readToken L j o w ⟨t.lt wj (Or.inl (by omega)), t.1.2⟩) hdep (fun g hg => ?_)
    refine bX5_readNumber_51 a b _ ?_
    exact ⟨rfl, _, rfl, Or.inl ⟨⟨by omega, by omega⟩, by rw [w4], hg⟩⟩
  · rw [w4] at c2 c3; exact ⟨by omega, by omega⟩
  · refine rX5_readNumber_10 a b (f_X5_fl L 1 j o w t.1.2) hdep (fun v g hg => ?_)
    refine bX5_readNumber_13 a b v ?_
    exact ⟨rfl, _, rfl, Or.inr (Or.inl ⟨by omega, rfl, hg.2⟩)⟩
/-- what stands behind a LINE's first word -/
def zHd (kd wd vl : Int → Int) (k y ol ap j : Int) : (Int × Int) ⊕ (Int × Int × Int × Int × Int) :=
  if k = 0 then
    if kd j ≠ 2 then .inl (1, j) else if vl j < 0 ∨ 99 < vl j then .inl (2, j) else if wd (j + 1) ≠ 1000001 then .inl (1, j + 1)
    else if kd (j + 2) ≠ 2 then .inl (1, j + 2) else if vl (j + 2) < vl j ∨ 99 < vl (j + 2) then .inl (2, j + 2) else .inr (j + 3, 0, vl j, vl (j + 2), ap)
  else if k = 2 then (if kd j ≠ 2 then .inl (1, j) else if vl j < 1 ∨ 3000 < vl j then .inl (2, j) else .inr (j + 1, 0, y, ol, ap))
  else if k = 3 then (if kd j ≠ 2 then .inl (1, j) else if vl j < 0 ∨ 8 < vl j then .inl (2, j) else .inr (j + 1, vl j, y, ol, ap))
  else if k = 4 then (if wd j = 1000007 then .inr (j + 1, 0, y, ol, ap) else .inr (j, 1, y, ol, ap))
  else if k = 5 then (if kd j ≠ 2 then .inl (1, j) else if vl j < 0 ∨ 999 < vl j then .inl (2, j) else .inr (j + 1, 0, y, ol, vl j))
  else .inr (j, 0, y, ol, ap)
def zHo (h : zH) (L o k : Int) (ls : List (Int × Int × Int × Int)) (S : List Int) (r : (Int × Int) ⊕ (Int × Int × Int × Int × Int)) (v : Int) (f : zH) : Prop := match r with
  | .inl e => v = 0 ∧ zFt h L e.1 e.2 f
  | .inr r => v = 1 ∧ zLd h L r.1 o (ls ++ [(k, r.2.1, (S.length : Int), (S.length : Int))], S, r.2.2.1, r.2.2.2.1, r.2.2.2.2) f
theorem zHo.v {h : zH} {L o k : Int} {ls : List (Int × Int × Int × Int)} {S : List Int} {r : (Int × Int) ⊕ (Int × Int × Int × Int × Int)} {v : Int} {f : zH} (a : zHo h L o k ls S r v f) : v = 0 ∨ v = 1 := by
  cases r with
  | inl e => exact Or.inl a.1
  | inr r => exact Or.inr a.1
theorem f_X5_readSend {X : zX} {dep : Nat} (L j o y ol ap : Int) (ls : List (Int × Int × Int × Int)) (S : List Int) {h : zH} (hL : zLawO L) (hb : 30 ≤ L ∧ L ≤ 107) (w : zAt h L j o) (t : zTkOK h) (hl : ls.length < 20) (li : zLi h L (ls ++ [(4, 0, (S.length : Int), (S.length : Int))], S, y, ol, ap)) (hdep : 1 ≤ dep) :
    zW mX5_readSend X dep 0 0 239 0 (zar 0 [xR 24]) [] h (zQI (zHo h L o 4 ls S (zHd (h 26) (h 29) (h 28) 4 y ol ap j))) := by
  have w6 := w.2.2.2.2.1
  have wj := w.2.1
  have hwd := (t.2.2.2 j wj.1 wj.2).1
  have l6 : h L 6 = ls.length + 1 := by
    have := li.1
    rw [this]
    show ((ls ++ [_]).length : Int) = _
    rw [List.length_append, List.length_singleton]
    omega
  have key : ∀ x : Int, x = (if h 29 j = 1000007 then 0 else 1) → zW mX5_readSend X dep 0 0 239 19 [(0, xR 24)] [xI x, xR L] h (zQI (zHo h L o 4 ls S (zHd (h 26) (h 29) (h 28) 4 y ol ap j))) := by
    intro x hx
    refine rX5_readSend_19 L x hL ((f_X1_setNumber L x hL (by omega)).weaken (fun _ _ _ q => ⟨q.1, q.2.2, q.2.1⟩)) hdep (P := fun f => f = zst h (L + 2) (h L 6 - 1) x) (fun g hg => ?_)
    subst hg
    have a2 := w.st hb.1 (q := L + 2) (by omega) (h L 6 - 1) x
    have li2 := li.num x
    have ap2 : zap (zLS L) h (zst h (L + 2) (h L 6 - 1) x) := (zap.rf _ h).st (Or.inr (by omega)) _ _
    obtain ⟨t2, e25, e26, e27, e28, e29, -⟩ := t.ap hb.1 ap2
    refine bX5_readSend_22 (by rw [a2.2.2.2.2.1, e29]; exact hwd) (fun c => ?_) (fun c => ?_)
    · rw [a2.2.2.2.2.1, e29] at c
      refine ⟨rfl, _, rfl, ?_⟩
      unfold zHd
      rw [if_neg (by decide), if_neg (by decide), if_neg (by decide), if_pos rfl, if_neg c]
      rw [if_neg c] at hx
      subst hx
      exact ⟨rfl, ap2, a2, li2, zst_ne (Or.inl (by omega)), zst_ne (Or.inl (by omega))⟩
    · rw [a2.2.2.2.2.1, e29] at c
      have lt := t.lt wj (Or.inr (by omega))
      refine rX5_readSend_33 (f_X5_readToken L j o a2 ⟨by rw [e25]; exact lt, by rw [e25]; exact t.1.2⟩) hdep (fun g hg => ?_)
      refine bX5_readSend_36 ?_
      refine ⟨rfl, _, rfl, ?_⟩
      unfold zHd
      rw [if_neg (by decide), if_neg (by decide), if_neg (by decide), if_pos rfl, if_pos c]
      rw [if_pos c] at hx
      subst hx hg
      refine ⟨rfl, ap2.tr (zap_rd _ _ _), a2.next (j + 1) (by rw [e25]; omega), li2.rd hb.1 _ _, ?_, ?_⟩
      · rw [zrd_24]; exact zst_ne (Or.inl (by omega))
      · rw [zrd_24]; exact zst_ne (Or.inl (by omega))
  refine bX5_readSend_0 L hL w.1 (by rw [w6]; exact hwd) (fun c => key 1 ?_) (fun c => key 0 ?_)
  · rw [w6] at c; rw [if_neg c]
  · rw [w6] at c; rw [if_pos c]
theorem zLd.mk {h f : zH} {L j o j2 : Int} {V : zLV} (hb : 30 ≤ L) (w : zAt h L j o) (hj : 0 ≤ j2 ∧ j2 < h 25 4) (hf : f = zrd h j2 o) (li : zLi h L V) : zLd h L j2 o V f := by
  subst hf
  refine ⟨zap_rd _ _ _, w.next j2 hj, li.rd hb _ _, ?_, ?_⟩
  · rw [zrd_24]; rfl
  · rw [zrd_24]; rfl
theorem zLd.st {h f : zH} {L j o : Int} {V V2 : zLV} (hb : 30 ≤ L) (a : zLd h L j o V f) {q : Int} (hq : L ≤ q ∧ q ≤ L + 5) (i x : Int) (li : zLi (zst f q i x) L V2) : zLd h L j o V2 (zst f q i x) :=
  ⟨a.1.st (Or.inr hq) _ _, a.2.1.st hb hq.1 i x, li, (zst_ne (Or.inl (by omega))).trans a.2.2.2.1, (zst_ne (Or.inl (by omega))).trans a.2.2.2.2⟩
theorem f_X5_readClass {X : zX} {dep : Nat} (L j o y ol ap : Int) (ls : List (Int × Int × Int × Int)) (S : List Int) {h : zH} (hL : zLawO L) (hb : 30 ≤ L ∧ L ≤ 107) (w : zAt h L j o) (t : zTkOK h) (hl : ls.length < 20) (li : zLi h L (ls ++ [(3, 0, (S.length : Int), (S.length : Int))], S, y, ol, ap)) (hdep : 2 ≤ dep) :
    zW mX5_readClass X dep 0 0 239 0 (zar 0 [xR 24]) [] h (zQI (zHo h L o 3 ls S (zHd (h 26) (h 29) (h 28) 3 y ol ap j))) := by
  have wj := w.2.1
  have l6 : h L 6 = ls.length + 1 := by
    have := li.1
    rw [this]
    show ((ls ++ [_]).length : Int) = _
    rw [List.length_append, List.length_singleton]
    omega
  refine bX5_readClass_0 ?_
  refine rX5_readClass_4 (f_X5_readNumber L 0 8 j o w t (by omega)) (by omega) (fun v g hg => ?_)
  have g1 : g 24 1 = L ∧ g L 6 = h L 6 := by
    rcases hg with ⟨-, -, e⟩ | ⟨-, -, e⟩ | ⟨-, -, e⟩
    · rw [e]; exact ⟨by rw [zrd_24]; exact w.1, zrd_ne _ _ _ (by omega) 6⟩
    · rw [e]; exact ⟨by rw [zfl_1]; exact w.1, zfl_ne _ _ _ (by omega) 6⟩
    · rw [e]; exact ⟨by rw [zfl_1]; exact w.1, zfl_ne _ _ _ (by omega) 6⟩
  refine bX5_readClass_7 v L hL g1.1 ?_
  refine zW.sub (lv' := [(0, xR 24), (1, xI v)]) [1, 0] rfl ?_
  refine rX5_readClass_13 v L hL ((f_X1_setNumber L v hL (by omega)).weaken (fun _ _ _ q => ⟨q.1, q.2.2, q.2.1⟩)) (by omega) (P := fun f => f = zst g (L + 2) (g L 6 - 1) v) (fun f hf => ?_)
  subst hf
  refine bX5_readClass_16 v ?_
  refine ⟨rfl, _, rfl, ?_⟩
  unfold zHd
  rw [if_neg (by decide), if_neg (by decide), if_pos rfl]
  rcases hg with ⟨c, rfl, rfl⟩ | ⟨c, rfl, rfl⟩ | ⟨c, rfl, rfl⟩
  · rw [if_neg (show ¬ h 26 j ≠ 2 by omega), if_neg c.2, if_neg (show ¬ h 28 j = -1 by omega)]
    have lt := t.lt wj (Or.inl (by omega))
    exact ⟨rfl, (zLd.mk hb.1 w (by omega) rfl li).st hb.1 (by omega) _ _ ((li.rd hb.1 _ _).num _)⟩
  · rw [if_pos c, if_pos rfl]
    exact ⟨rfl, (zFt.fl h L 1 j).st hb.1 (by omega) _ _⟩
  · rw [if_neg (show ¬ h 26 j ≠ 2 by omega), if_pos c.2, if_pos rfl]
    exact ⟨rfl, (zFt.fl h L 2 j).st hb.1 (by omega) _ _⟩
theorem f_X5_readAppeal {X : zX} {dep : Nat} (L j o y ol ap : Int) (ls : List (Int × Int × Int × Int)) (S : List Int) {h : zH} (hL : zLawO L) (hb : 30 ≤ L ∧ L ≤ 107) (w : zAt h L j o) (t : zTkOK h) (li : zLi h L (ls ++ [(5, 0, (S.length : Int), (S.length : Int))], S, y, ol, ap)) (hdep : 2 ≤ dep) :
    zW mX5_readAppeal X dep 0 0 239 0 (zar 0 [xR 24]) [] h (zQI (zHo h L o 5 ls S (zHd (h 26) (h 29) (h 28) 5 y ol ap j))) := by
  have wj := w.2.1
  refine bX5_readAppeal_0 L w.1 ?_
  refine rX5_readAppeal_9 L (f_X5_readNumber L 0 999 j o w t (by omega)) (by omega) (fun v g hg => ?_)
  have g1 : g 24 1 = L := by
    rcases hg with ⟨-, -, e⟩ | ⟨-, -, e⟩ | ⟨-, -, e⟩
    · rw [e, zrd_24]; exact w.1
    · rw [e, zfl_1]; exact w.1
    · rw [e, zfl_1]; exact w.1
  refine bX5_readAppeal_12 v L hL g1 (by omega) ?_
  refine ⟨rfl, _, rfl, ?_⟩
  unfold zHd
  rw [if_neg (by decide), if_neg (by decide), if_neg (by decide), if_neg (by decide), if_pos rfl]
  rcases hg with ⟨c, rfl, rfl⟩ | ⟨c, rfl, rfl⟩ | ⟨c, rfl, rfl⟩
  · rw [if_neg (show ¬ h 26 j ≠ 2 by omega), if_neg c.2, if_neg (show ¬ h 28 j = -1 by omega)]
    have lt := t.lt wj (Or.inl (by omega))
    exact ⟨rfl, (zLd.mk hb.1 w (by omega) rfl li).st hb.1 (by omega) _ _ ((li.rd hb.1 _ _).pl _)⟩
  · rw [if_pos c, if_pos rfl]
    exact ⟨rfl, (zFt.fl h L 1 j).st hb.1 (by omega) _ _⟩
  · rw [if_neg (show ¬ h 26 j ≠ 2 by omega), if_pos c.2, if_pos rfl]
    exact ⟨rfl, (zFt.fl h L 2 j).st hb.1 (by omega) _ _⟩
theorem f_X5_readAges {X : zX} {dep : Nat} (L j o y ol ap : Int) (ls : List (Int × Int × Int × Int)) (S : List Int) {h : zH} (hL : zLawO L) (hb : 30 ≤ L ∧ L ≤ 107) (w : zAt h L j o) (t : zTkOK h) (li : zLi h L (ls ++ [(0, 0, (S.length : Int), (S.length : Int))], S, y, ol, ap)) (hdep : 2 ≤ dep) :
    zW mX5_readAges X dep 0 0 239 0 (zar 0 [xR 24]) [] h (zQI (zHo h L o 0 ls S (zHd (h 26) (h 29) (h 28) 0 y ol ap j))) := by
  have wj := w.2.1
  refine bX5_readAges_0 L w.1 ?_
  refine rX5_readAges_8 L (f_X5_readNumber L 0 99 j o w t (by omega)) (by omega) (fun v g hg => ?_)
  have bad : ∀ k : Int, g = zfl h k j → v = -1 → zHd (h 26) (h 29) (h 28) 0 y ol ap j = .inl (k, j) → zW mX5_readAges X dep 0 0 239 11 [(0, xR 24)] [xI v, xR L] g (zQI (zHo h L o 0 ls S (zHd (h 26) (h 29) (h 28) 0 y ol ap j))) := by
    rintro k rfl rfl he
    have e6 : zfl h k j 24 6 = h 24 6 := by unfold zfl; rw [zst_ne (Or.inr (by omega)), zst_ne (Or.inr (by omega))]
    refine bX5_readAges_11 (-1) L hL ((zfl_1 h k j).trans w.1) (by omega) (by rw [e6, w.2.2.2.2.1]; exact (t.2.2.2 j wj.1 wj.2).1) (fun c => absurd rfl c) (fun c => absurd rfl c) (fun _ => ?_)
    refine ⟨rfl, _, rfl, ?_⟩
    rw [he]
    exact ⟨rfl, (zFt.fl h L k j).st hb.1 (by omega) _ _⟩
  rcases hg with ⟨c, hv, hg⟩ | ⟨c, hv, hg⟩ | ⟨c, hv, hg⟩
  · have lt := t.lt wj (Or.inl (by omega))
    have ld := zLd.mk hb.1 w (j2 := j + 1) (by omega) hg li
    obtain ⟨tg, e25, e26, e27, e28, e29, -⟩ := t.ap hb.1 ld.1
    have ld2 := ld.st hb.1 (q := L) (by omega) 2 v (ld.2.2.1.yo v)
    obtain ⟨tg2, f25, f26, f27, f28, f29, -⟩ := t.ap hb.1 ld2.1
    have eh : zHd (h 26) (h 29) (h 28) 0 y ol ap j = if h 29 (j + 1) ≠ 1000001 then .inl (1, j + 1)
    else if h 26 (j + 2) ≠ 2 then .inl (1, j + 2) else if h 28 (j + 2) < h 28 j ∨ 99 < h 28 (j + 2) then .inl (2, j + 2) else .inr (j + 3, 0, h 28 j, h 28 (j + 2), ap) := by
      unfold zHd
      rw [if_pos rfl, if_neg (show ¬ h 26 j ≠ 2 by omega), if_neg c.2]
    have w6 := ld.2.1.2.2.2.2.1
    refine bX5_readAges_11 v L hL ld.2.1.1 (by omega) (by rw [w6]; exact (tg.2.2.2 _ ld.2.1.2.1.1 ld.2.1.2.1.2).1) (fun c1 c2 => ?_) (fun c1 c2 => ?_) (fun c1 => absurd c1 (by omega))
    · rw [w6, e29] at c2
      have lt2 := t.lt (j := j + 1) (by omega) (Or.inr (by omega))
      refine rX5_readAges_44 (f_X5_readToken L (j + 1) o ld2.2.1 (by rw [f25]; exact ⟨lt2, t.1.2⟩)) (by omega) (fun g3 hg3 => ?_)
      have ld3 := zLd.mk hb.1 ld2.2.1 (j2 := j + 1 + 1) (by rw [f25]; omega) hg3 ld2.2.2.1
      have a3 : zap (zLS L) h g3 := ld2.1.tr ld3.1
      obtain ⟨tg3, k25, k26, k27, k28, k29, -⟩ := t.ap hb.1 a3
      have g32 : g3 L 2 = h 28 j := ld3.2.2.1.2.2.1.trans hv
      refine bX5_readAges_47 L hL ld3.2.1.1 ?_
      refine rX5_readAges_61 L (f_X5_readNumber L (g3 L 2) 99 (j + 1 + 1) o ld3.2.1 tg3 (by omega)) (by omega) (fun u g4 hg4 => ?_)
      rw [k26, k28, g32] at hg4
      have u1 : g4 24 1 = L := by
        rcases hg4 with ⟨-, -, e⟩ | ⟨-, -, e⟩ | ⟨-, -, e⟩
        · rw [e, zrd_24]; exact ld3.2.1.1
        · rw [e, zfl_1]; exact ld3.2.1.1
        · rw [e, zfl_1]; exact ld3.2.1.1
      refine bX5_readAges_64 u L hL u1 (by omega) ?_
      refine ⟨rfl, _, rfl, ?_⟩
      rw [eh, if_neg (show ¬ h 29 (j + 1) ≠ 1000001 by omega)]
      rw [show j + 1 + 1 = j + 2 by omega] at hg4
      rcases hg4 with ⟨c4, hu, h4⟩ | ⟨c4, hu, h4⟩ | ⟨c4, hu, h4⟩
      · rw [if_neg (show ¬ h 26 (j + 2) ≠ 2 by omega), if_neg c4.2, if_neg (show ¬ u = -1 by omega)]
        have lt3 := t.lt (j := j + 2) (by omega) (Or.inl (by omega))
        have ld4 := zLd.mk hb.1 ld3.2.1 (j2 := j + 2 + 1) (by rw [k25]; omega) h4 ld3.2.2.1
        have ld5 := ld4.st hb.1 (q := L) (by omega) 3 u (ld4.2.2.1.ol u)
        refine ⟨rfl, a3.tr ld5.1, ?_, ?_, ?_, ?_⟩
        · rw [show j + 3 = j + 2 + 1 by omega]; exact ld5.2.1
        · have z := ld5.2.2.1
          rw [hv, hu] at z
          exact hu ▸ z
        · exact ld5.2.2.2.1.trans (ld3.2.2.2.1.trans ld2.2.2.2.1)
        · exact ld5.2.2.2.2.trans (ld3.2.2.2.2.trans ld2.2.2.2.2)
      · rw [if_pos c4, if_pos hu]
        refine ⟨rfl, zFt.tr hb.1 a3 (ld3.2.1.1.trans w.1.symm) ?_⟩
        rw [h4]
        exact (zFt.fl g3 L 1 (j + 2)).st hb.1 (by omega) _ _
      · rw [if_neg (show ¬ h 26 (j + 2) ≠ 2 by omega), if_pos c4.2, if_pos hu]
        refine ⟨rfl, zFt.tr hb.1 a3 (ld3.2.1.1.trans w.1.symm) ?_⟩
        rw [h4]
        exact (zFt.fl g3 L 2 (j + 2)).st hb.1 (by omega) _ _
    · rw [w6, e29] at c2
      refine rX5_readAges_39 (f_X5_fail L 1 (j + 1) o ld2.2.1 (by rw [f25]; exact t.1.2)) (by omega) (fun u g3 hg3 => ?_)
      obtain ⟨rfl, hg3⟩ := hg3
      refine bX5_readAges_42 0 (Or.inl rfl) ?_
      refine ⟨rfl, _, rfl, ?_⟩
      rw [eh, if_pos c2]
      exact ⟨rfl, zFt.tr hb.1 ld2.1 (ld2.2.1.1.trans w.1.symm) hg3⟩
  · refine bad 1 hg hv ?_
    unfold zHd
    rw [if_pos rfl, if_pos c]
  · refine bad 2 hg hv ?_
    unfold zHd
    rw [if_pos rfl, if_neg (show ¬ h 26 j ≠ 2 by omega), if_pos c.2]
theorem f_X5_readHead {X : zX} {dep : Nat} (L j o k y ol ap : Int) (ls : List (Int × Int × Int × Int)) (S : List Int) {h : zH} (hL : zLawO L) (hb : 30 ≤ L ∧ L ≤ 107) (w : zAt h L j o) (t : zTkOK h) (hl : ls.length < 20) (li : zLi h L (ls ++ [(k, 0, (S.length : Int), (S.length : Int))], S, y, ol, ap)) (hk : 0 ≤ k ∧ k ≤ 5) (hdep : 3 ≤ dep) :
    zW mX5_readHead X dep 0 0 239 0 (zar 0 [xR 24, xI k]) [] h (zQI (zHo h L o k ls S (zHd (h 26) (h 29) (h 28) k y ol ap j))) := by
  have wj := w.2.1
  refine bX5_readHead_0 k (fun c => absurd c (by omega)) (fun c => absurd c (by omega)) (fun c => ?_) (fun c => ?_) (fun c => ?_) (fun c => ?_) (fun c => ?_) (fun c => ?_)
  · subst c
    refine rX5_readHead_41 0 (f_X5_readAges L j o y ol ap ls S hL hb w t li (by omega)) (by omega) (fun v g hg => ?_)
    exact bX5_readHead_44 0 v hg.v ⟨rfl, _, rfl, hg⟩
  · subst c
    refine ⟨rfl, _, rfl, ?_⟩
    unfold zHd
    rw [if_neg (by decide), if_neg (by decide), if_neg (by decide), if_neg (by decide), if_neg (by decide)]
    exact ⟨rfl, zap.rf _ h, w, li, rfl, rfl⟩
  · subst c
    refine rX5_readHead_50 2 (f_X5_readNumber L 1 3000 j o w t (by omega)) (by omega) (fun v g hg => ?_)
    refine bX5_readHead_53 2 v ?_
    refine ⟨rfl, _, rfl, ?_⟩
    unfold zHd
    rw [if_neg (by decide), if_pos rfl]
    rcases hg with ⟨c, hv, hg⟩ | ⟨c, hv, hg⟩ | ⟨c, hv, hg⟩
    · rw [if_neg (show ¬ h 26 j ≠ 2 by omega), if_neg c.2, if_neg (show ¬ v = -1 by omega)]
      have lt := t.lt wj (Or.inl (by omega))
      exact ⟨rfl, zLd.mk hb.1 w (by omega) hg li⟩
    · rw [if_pos c, if_pos hv, hg]
      exact ⟨rfl, zFt.fl h L 1 j⟩
    · rw [if_neg (show ¬ h 26 j ≠ 2 by omega), if_pos c.2, if_pos hv, hg]
      exact ⟨rfl, zFt.fl h L 2 j⟩
  · subst c
    refine rX5_readHead_64 3 (f_X5_readClass L j o y ol ap ls S hL hb w t hl li (by omega)) (by omega) (fun v g hg => ?_)
    exact bX5_readHead_67 3 v hg.v ⟨rfl, _, rfl, hg⟩
  · subst c
    refine rX5_readHead_69 4 (f_X5_readSend L j o y ol ap ls S hL hb w t hl li (by omega)) (by omega) (fun v g hg => ?_)
    exact bX5_readHead_72 4 v hg.v ⟨rfl, _, rfl, hg⟩
  · subst c
    refine rX5_readHead_74 5 (f_X5_readAppeal L j o y ol ap ls S hL hb w t li (by omega)) (by omega) (fun v g hg => ?_)
    exact bX5_readHead_77 5 v hg.v ⟨rfl, _, rfl, hg⟩
