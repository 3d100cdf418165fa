/-! feeding, leaves, sending, mending, appeals -/
set_option maxRecDepth 20000 in
theorem bX10_feed_0 {X : zX} {dep bc bs : Nat} (a : Int) (b : Int) (c : Int) (d : Int) (e : Int) {h : zH} {Q : Nat → zH → List zV → Prop} (ht : 0 ≤ h 1 1 ∧ h 1 1 ≤ 340)
    (k1 : ((h 1 1) + 20) ≤ 340 → zW mX10_feed X dep bc bs 239 23 [(0, xR 0), (1, xI a), (2, xI b), (3, xI c), (4, xI d), (5, xI e)] [xI a, xR 1] h Q)
    (k2 : ¬ (((h 1 1) + 20) ≤ 340) → Q 239 h [xI (-1)]) : zW mX10_feed X dep bc bs 239 0 [(0, xR 0), (1, xI a), (2, xI b), (3, xI c), (4, xI d), (5, xI e)] [] h Q := by
  refine z_aload_n 0 dX10_feed_0 rfl ?_
  refine z_getS (v := 1) (k := 0) (kz := 0) pk10 dX10_feed_1 (by decide) zb_457 rfl (zOb.lit (by decide +kernel)) rfl (by decide +kernel) ?_
  refine z_getI (k := 1) (kz := 1) pk7 dX10_feed_4 (by decide) zb_122 rfl (zOb.lit (by decide +kernel)) rfl ?_
  refine z_bipush dX10_feed_7 (zi32_d rfl) (by decide) ?_
  refine z_iaddN dX10_feed_9 (show -2147483648 ≤ (h 1 1) + 20 ∧ (h 1 1) + 20 < 2147483648 from ⟨by omega, by omega⟩).1 (show -2147483648 ≤ (h 1 1) + 20 ∧ (h 1 1) + 20 < 2147483648 from ⟨by omega, by omega⟩).2 ?_
  refine z_sipush dX10_feed_10 (zi32_d rfl) (by decide) ?_
  refine z_icmp_le (tgt := 18) dX10_feed_13 (by decide) (fun c1 => ?_) (fun c1 => ?_)
  ·
    refine z_aload_n 0 dX10_feed_18 rfl ?_
    refine z_getS (v := 1) (k := 0) (kz := 0) pk10 dX10_feed_19 (by decide) zb_457 rfl (zOb.lit (by decide +kernel)) rfl (by decide +kernel) ?_
    refine z_iload_n 1 dX10_feed_22 rfl ?_
    exact k1 c1
  ·
    refine z_iconst dX10_feed_16 (zi32_d rfl) ?_
    exact z_iret dX10_feed_17 rfl (k2 c1)

set_option maxRecDepth 20000 in
theorem rX10_feed_23 {X : zX} {dep bc bs : Nat} (a : Int) (b : Int) (c : Int) (d : Int) (e : Int) {h : zH} {Q : Nat → zH → List zV → Prop} {P : zH → Prop}
    (hZ : zW mX7_put X (dep - 1) 0 0 239 0 (zar 0 [xR 1, xI a]) [] h (zQ0 P)) (hdep : 1 ≤ dep)
    (k : ∀ g : zH, P g → zW mX10_feed X dep bc bs 239 26 [(0, xR 0), (1, xI a), (2, xI b), (3, xI c), (4, xI d), (5, xI e)] [] g Q) : zW mX10_feed X dep bc bs 239 23 [(0, xR 0), (1, xI a), (2, xI b), (3, xI c), (4, xI d), (5, xI e)] [xI a, xR 1] h Q :=
  z_invQ0 (ci := 7) (N := 2) (as := [xI a]) (st := []) (ra := [xI a]) hZ dX10_feed_23 nX7_put zb_513 zb_514 zb_515 zb_83 (zOb.lit (by decide +kernel)) rfl (by omega) (Nat.le_of_ble_eq_true rfl) (Nat.le_of_ble_eq_true rfl) rfl (fun g hg => k g hg)

set_option maxRecDepth 20000 in
theorem bX10_feed_26 {X : zX} {dep bc bs : Nat} (a : Int) (b : Int) (c : Int) (d : Int) (e : Int) {h : zH} {Q : Nat → zH → List zV → Prop}
    (k1 : zW mX10_feed X dep bc bs 239 31 [(0, xR 0), (1, xI a), (2, xI b), (3, xI c), (4, xI d), (5, xI e)] [xI b, xR 1] h Q) : zW mX10_feed X dep bc bs 239 26 [(0, xR 0), (1, xI a), (2, xI b), (3, xI c), (4, xI d), (5, xI e)] [] h Q := by
  refine z_aload_n 0 dX10_feed_26 rfl ?_
  refine z_getS (v := 1) (k := 0) (kz := 0) pk10 dX10_feed_27 (by decide) zb_457 rfl (zOb.lit (by decide +kernel)) rfl (by decide +kernel) ?_
  refine z_iload_n 2 dX10_feed_30 rfl ?_
  exact k1

set_option maxRecDepth 20000 in
theorem rX10_feed_31 {X : zX} {dep bc bs : Nat} (a : Int) (b : Int) (c : Int) (d : Int) (e : Int) {h : zH} {Q : Nat → zH → List zV → Prop} {P : zH → Prop}
    (hZ : zW mX7_put X (dep - 1) 0 0 239 0 (zar 0 [xR 1, xI b]) [] h (zQ0 P)) (hdep : 1 ≤ dep)
    (k : ∀ g : zH, P g → zW mX10_feed X dep bc bs 239 34 [(0, xR 0), (1, xI a), (2, xI b), (3, xI c), (4, xI d), (5, xI e)] [] g Q) : zW mX10_feed X dep bc bs 239 31 [(0, xR 0), (1, xI a), (2, xI b), (3, xI c), (4, xI d), (5, xI e)] [xI b, xR 1] h Q :=
  z_invQ0 (ci := 7) (N := 2) (as := [xI b]) (st := []) (ra := [xI b]) hZ dX10_feed_31 nX7_put zb_513 zb_514 zb_515 zb_83 (zOb.lit (by decide +kernel)) rfl (by omega) (Nat.le_of_ble_eq_true rfl) (Nat.le_of_ble_eq_true rfl) rfl (fun g hg => k g hg)

set_option maxRecDepth 20000 in
theorem bX10_feed_34 {X : zX} {dep bc bs : Nat} (a : Int) (b : Int) (c : Int) (d : Int) (e : Int) {h : zH} {Q : Nat → zH → List zV → Prop}
    (k1 : zW mX10_feed X dep bc bs 239 39 [(0, xR 0), (1, xI a), (2, xI b), (3, xI c), (4, xI d), (5, xI e)] [xI c, xR 1] h Q) : zW mX10_feed X dep bc bs 239 34 [(0, xR 0), (1, xI a), (2, xI b), (3, xI c), (4, xI d), (5, xI e)] [] h Q := by
  refine z_aload_n 0 dX10_feed_34 rfl ?_
  refine z_getS (v := 1) (k := 0) (kz := 0) pk10 dX10_feed_35 (by decide) zb_457 rfl (zOb.lit (by decide +kernel)) rfl (by decide +kernel) ?_
  refine z_iload_n 3 dX10_feed_38 rfl ?_
  exact k1

set_option maxRecDepth 20000 in
theorem rX10_feed_39 {X : zX} {dep bc bs : Nat} (a : Int) (b : Int) (c : Int) (d : Int) (e : Int) {h : zH} {Q : Nat → zH → List zV → Prop} {P : zH → Prop}
    (hZ : zW mX7_put X (dep - 1) 0 0 239 0 (zar 0 [xR 1, xI c]) [] h (zQ0 P)) (hdep : 1 ≤ dep)
    (k : ∀ g : zH, P g → zW mX10_feed X dep bc bs 239 42 [(0, xR 0), (1, xI a), (2, xI b), (3, xI c), (4, xI d), (5, xI e)] [] g Q) : zW mX10_feed X dep bc bs 239 39 [(0, xR 0), (1, xI a), (2, xI b), (3, xI c), (4, xI d), (5, xI e)] [xI c, xR 1] h Q :=
  z_invQ0 (ci := 7) (N := 2) (as := [xI c]) (st := []) (ra := [xI c]) hZ dX10_feed_39 nX7_put zb_513 zb_514 zb_515 zb_83 (zOb.lit (by decide +kernel)) rfl (by omega) (Nat.le_of_ble_eq_true rfl) (Nat.le_of_ble_eq_true rfl) rfl (fun g hg => k g hg)

set_option maxRecDepth 20000 in
theorem bX10_feed_42 {X : zX} {dep bc bs : Nat} (a : Int) (b : Int) (c : Int) (d : Int) (e : Int) {h : zH} {Q : Nat → zH → List zV → Prop}
    (k1 : zW mX10_feed X dep bc bs 239 48 [(0, xR 0), (1, xI a), (2, xI b), (3, xI c), (4, xI d), (5, xI e)] [xI d, xR 1] h Q) : zW mX10_feed X dep bc bs 239 42 [(0, xR 0), (1, xI a), (2, xI b), (3, xI c), (4, xI d), (5, xI e)] [] h Q := by
  refine z_aload_n 0 dX10_feed_42 rfl ?_
  refine z_getS (v := 1) (k := 0) (kz := 0) pk10 dX10_feed_43 (by decide) zb_457 rfl (zOb.lit (by decide +kernel)) rfl (by decide +kernel) ?_
  refine z_iload 4 dX10_feed_46 rfl ?_
  exact k1

set_option maxRecDepth 20000 in
theorem rX10_feed_48 {X : zX} {dep bc bs : Nat} (a : Int) (b : Int) (c : Int) (d : Int) (e : Int) {h : zH} {Q : Nat → zH → List zV → Prop} {P : zH → Prop}
    (hZ : zW mX7_put X (dep - 1) 0 0 239 0 (zar 0 [xR 1, xI d]) [] h (zQ0 P)) (hdep : 1 ≤ dep)
    (k : ∀ g : zH, P g → zW mX10_feed X dep bc bs 239 51 [(0, xR 0), (1, xI a), (2, xI b), (3, xI c), (4, xI d), (5, xI e)] [] g Q) : zW mX10_feed X dep bc bs 239 48 [(0, xR 0), (1, xI a), (2, xI b), (3, xI c), (4, xI d), (5, xI e)] [xI d, xR 1] h Q :=
  z_invQ0 (ci := 7) (N := 2) (as := [xI d]) (st := []) (ra := [xI d]) hZ dX10_feed_48 nX7_put zb_513 zb_514 zb_515 zb_83 (zOb.lit (by decide +kernel)) rfl (by omega) (Nat.le_of_ble_eq_true rfl) (Nat.le_of_ble_eq_true rfl) rfl (fun g hg => k g hg)

set_option maxRecDepth 20000 in
theorem bX10_feed_51 {X : zX} {dep bc bs : Nat} (a : Int) (b : Int) (c : Int) (d : Int) (e : Int) {h : zH} {Q : Nat → zH → List zV → Prop}
    (k1 : zW mX10_feed X dep bc bs 239 57 [(0, xR 0), (1, xI a), (2, xI b), (3, xI c), (4, xI d), (5, xI e)] [xI e, xR 1] h Q) : zW mX10_feed X dep bc bs 239 51 [(0, xR 0), (1, xI a), (2, xI b), (3, xI c), (4, xI d), (5, xI e)] [] h Q := by
  refine z_aload_n 0 dX10_feed_51 rfl ?_
  refine z_getS (v := 1) (k := 0) (kz := 0) pk10 dX10_feed_52 (by decide) zb_457 rfl (zOb.lit (by decide +kernel)) rfl (by decide +kernel) ?_
  refine z_iload 5 dX10_feed_55 rfl ?_
  exact k1

set_option maxRecDepth 20000 in
theorem rX10_feed_57 {X : zX} {dep bc bs : Nat} (a : Int) (b : Int) (c : Int) (d : Int) (e : Int) {h : zH} {Q : Nat → zH → List zV → Prop} {P : zH → Prop}
    (hZ : zW mX7_put X (dep - 1) 0 0 239 0 (zar 0 [xR 1, xI e]) [] h (zQ0 P)) (hdep : 1 ≤ dep)
    (k : ∀ g : zH, P g → zW mX10_feed X dep bc bs 239 60 [(0, xR 0), (1, xI a), (2, xI b), (3, xI c), (4, xI d), (5, xI e)] [] g Q) : zW mX10_feed X dep bc bs 239 57 [(0, xR 0), (1, xI a), (2, xI b), (3, xI c), (4, xI d), (5, xI e)] [xI e, xR 1] h Q :=
  z_invQ0 (ci := 7) (N := 2) (as := [xI e]) (st := []) (ra := [xI e]) hZ dX10_feed_57 nX7_put zb_513 zb_514 zb_515 zb_83 (zOb.lit (by decide +kernel)) rfl (by omega) (Nat.le_of_ble_eq_true rfl) (Nat.le_of_ble_eq_true rfl) rfl (fun g hg => k g hg)

set_option maxRecDepth 20000 in
theorem bX10_feed_60 {X : zX} {dep bc bs : Nat} (a : Int) (b : Int) (c : Int) (d : Int) (e : Int) {h : zH} {Q : Nat → zH → List zV → Prop}
    (k1 : Q 239 h [xI (h 1 1)]) : zW mX10_feed X dep bc bs 239 60 [(0, xR 0), (1, xI a), (2, xI b), (3, xI c), (4, xI d), (5, xI e)] [] h Q := by
  refine z_aload_n 0 dX10_feed_60 rfl ?_
  refine z_getS (v := 1) (k := 0) (kz := 0) pk10 dX10_feed_61 (by decide) zb_457 rfl (zOb.lit (by decide +kernel)) rfl (by decide +kernel) ?_
  refine z_getI (k := 1) (kz := 1) pk7 dX10_feed_64 (by decide) zb_122 rfl (zOb.lit (by decide +kernel)) rfl ?_
  exact z_iret dX10_feed_67 rfl (k1)

set_option maxRecDepth 20000 in
theorem bX10_leaves_0 {X : zX} {dep bc bs : Nat} (l : Int) (t : Int) {h : zH} {Q : Nat → zH → List zV → Prop} (ht : 0 ≤ h 1 1 ∧ h 1 1 ≤ 340) (hdep : 2 ≤ dep)
    (k1 : ¬ (0 ≤ l ∧ l < h 0 12) → zW mX10_leaves X dep bc bs 239 62 [(0, xR 0), (4, xI (-1))] [] h Q)
    (k2 : 0 ≤ l ∧ l < h 0 12 → ¬ (zTold h) → zW mX10_leaves X dep bc bs 239 62 [(0, xR 0), (4, xI (-1))] [] h Q)
    (k3 : 0 ≤ l ∧ l < h 0 12 → zTold h → zW mX10_leaves X dep bc bs 239 46 [(4, xI (-1)), (3, xI 1), (0, xR 0), (1, xI l), (2, xI t)] [xI t, xI l, xR 0, xR 3, xR 1, xR 44] h Q) : zW mX10_leaves X dep bc bs 239 0 [(0, xR 0), (1, xI l), (2, xI t)] [] h Q := by
  refine z_aload_n 0 dX10_leaves_0 rfl ?_
  refine z_iload_n 1 dX10_leaves_1 rfl ?_
  refine z_invF (ci := 10) (N := 17) (as := [xI l]) (st := []) (ra := [xI l]) (dep' := dep - 1) (rs := [xI (zb (0 ≤ l ∧ l < h 0 12))]) (h' := h) (f_X10_isLot l (h := h) ) dX10_leaves_2 nX10_isLot zb_782 zb_784 zb_17 zb_82 (zOb.lit (by decide +kernel)) rfl (by omega) zne_I (Nat.le_of_ble_eq_true rfl) (Nat.le_of_ble_eq_true rfl) rfl ?_
  refine z_ifB_eq (C := 0 ≤ l ∧ l < h 0 12) (tgt := 22) dX10_leaves_5 (by decide) (fun c1 => ?_) (fun c1 => ?_)
  ·
    refine z_iconst dX10_leaves_22 (zi32_d rfl) ?_
    refine z_istore_n (lv' := [(3, xI 0), (0, xR 0), (1, xI l), (2, xI t)]) dX10_leaves_23 (by decide) rfl ?_
    refine z_iconst dX10_leaves_24 (zi32_d rfl) ?_
    refine z_istore (lv' := [(4, xI (-1)), (3, xI 0), (0, xR 0), (1, xI l), (2, xI t)]) dX10_leaves_25 (by decide) rfl ?_
    refine z_iload_n 1 dX10_leaves_27 rfl ?_
    refine z_if_eq (tgt := 62) dX10_leaves_28 (by decide) (fun _ => ?_) (fun c => absurd c (by decide))
    refine zW.sub (lv' := [(0, xR 0), (4, xI (-1))]) [2, 0] rfl ?_
    exact k1 c1
  ·
    refine z_aload_n 0 dX10_leaves_8 rfl ?_
    refine z_getS (v := 1) (k := 0) (kz := 0) pk10 dX10_leaves_9 (by decide) zb_457 rfl (zOb.lit (by decide +kernel)) rfl (by decide +kernel) ?_
    refine z_invSF (as := [xR 1]) (st := []) (ra := [xR 1]) (dep' := dep - 1) (rs := [xI (zb (zTold h))]) (h' := h) (f_X0_holdsTold  (h := h) ht (by omega)) dX10_leaves_12 nX0_holdsTold zb_1004 zb_1005 zb_89 (by omega) zne_I (Nat.le_of_ble_eq_true rfl) (Nat.le_of_ble_eq_true rfl) rfl ?_
    refine z_ifB_eq (C := zTold h) (tgt := 22) dX10_leaves_15 (by decide) (fun c2 => ?_) (fun c2 => ?_)
    ·
      refine z_iconst dX10_leaves_22 (zi32_d rfl) ?_
      refine z_istore_n (lv' := [(3, xI 0), (0, xR 0), (1, xI l), (2, xI t)]) dX10_leaves_23 (by decide) rfl ?_
      refine z_iconst dX10_leaves_24 (zi32_d rfl) ?_
      refine z_istore (lv' := [(4, xI (-1)), (3, xI 0), (0, xR 0), (1, xI l), (2, xI t)]) dX10_leaves_25 (by decide) rfl ?_
      refine z_iload_n 1 dX10_leaves_27 rfl ?_
      refine z_if_eq (tgt := 62) dX10_leaves_28 (by decide) (fun _ => ?_) (fun c => absurd c (by decide))
      refine zW.sub (lv' := [(0, xR 0), (4, xI (-1))]) [2, 0] rfl ?_
      exact k2 c1 c2
    ·
      refine z_iconst dX10_leaves_18 (zi32_d rfl) ?_
      refine z_goto (tgt := 23) dX10_leaves_19 (by decide) ?_
      refine z_istore_n (lv' := [(3, xI 1), (0, xR 0), (1, xI l), (2, xI t)]) dX10_leaves_23 (by decide) rfl ?_
      refine z_iconst dX10_leaves_24 (zi32_d rfl) ?_
      refine z_istore (lv' := [(4, xI (-1)), (3, xI 1), (0, xR 0), (1, xI l), (2, xI t)]) dX10_leaves_25 (by decide) rfl ?_
      refine z_iload_n 1 dX10_leaves_27 rfl ?_
      refine z_if_eq (tgt := 62) dX10_leaves_28 (by decide) (fun c => absurd c (by decide)) (fun _ => ?_)
      refine z_aload_n 2 dX10_leaves_31 rfl ?_
      refine z_getS (v := 44) (k := 6) (kz := 6) pk10 dX10_leaves_32 (by decide) zb_463 rfl (zOb.lit (by decide +kernel)) rfl (by decide +kernel) ?_
      refine z_aload_n 2 dX10_leaves_35 rfl ?_
      refine z_getS (v := 1) (k := 0) (kz := 0) pk10 dX10_leaves_36 (by decide) zb_457 rfl (zOb.lit (by decide +kernel)) rfl (by decide +kernel) ?_
      refine z_aload_n 2 dX10_leaves_39 rfl ?_
      refine z_getS (v := 3) (k := 1) (kz := 1) pk10 dX10_leaves_40 (by decide) zb_458 rfl (zOb.lit (by decide +kernel)) rfl (by decide +kernel) ?_
      refine z_aload_n 2 dX10_leaves_43 rfl ?_
      refine z_iload_n 3 dX10_leaves_44 rfl ?_
      refine z_iload_n 4 dX10_leaves_45 rfl ?_
      exact k3 c1 c2

set_option maxRecDepth 20000 in
theorem rX10_leaves_46 {X : zX} {dep bc bs : Nat} (l : Int) (t : Int) {h : zH} {Q : Nat → zH → List zV → Prop} {P : Int → zH → Prop}
    (hZ : zW mX10_rollAsOf X (dep - 1) 0 0 239 0 (zar 0 [xR 0, xI l, xI t]) [] h (zQR P)) (hdep : 1 ≤ dep)
    (k : ∀ (v : Int) (g : zH), P v g → zW mX10_leaves X dep bc bs 239 49 [(0, xR 0), (1, xI l), (2, xI t)] [xR v, xR 3, xR 1, xR 44] g Q) : zW mX10_leaves X dep bc bs 239 46 [(0, xR 0), (1, xI l), (2, xI t)] [xI t, xI l, xR 0, xR 3, xR 1, xR 44] h Q :=
  z_invQR (ci := 10) (N := 17) (as := [xI l, xI t]) (st := [xR 3, xR 1, xR 44]) (ra := [xI t, xI l]) hZ dX10_leaves_46 nX10_rollAsOf zb_865 zb_867 zb_20 zb_82 (zOb.lit (by decide +kernel)) rfl (by omega) (Nat.le_of_ble_eq_true rfl) (Nat.le_of_ble_eq_true rfl) rfl (fun v g hg => k v g hg)

set_option maxRecDepth 20000 in
theorem rX10_leaves_49 {X : zX} {dep bc bs : Nat} (l : Int) {h : zH} {Q : Nat → zH → List zV → Prop} {P : Int → zH → Prop} (hl : 0 ≤ l ∧ l < 4)
    (hZ : zW mX0_leave X (dep - 1) 0 0 239 0 (zar 0 [xR 44, xR 1, xR 3, xR (113 + 14 * l)]) [] h (zQI P)) (hdep : 1 ≤ dep)
    (k : ∀ (v : Int) (g : zH), P v g → zW mX10_leaves X dep bc bs 239 52 [(0, xR 0)] [xI v] g Q) : zW mX10_leaves X dep bc bs 239 49 [(0, xR 0)] [xR (113 + 14 * l), xR 3, xR 1, xR 44] h Q :=
  z_invQI (ci := 0) (N := 3) (as := [xR 1, xR 3, xR (113 + 14 * l)]) (st := []) (ra := [xR (113 + 14 * l), xR 3, xR 1]) hZ dX10_leaves_49 nX0_leave zb_1008 zb_1009 zb_1010 zb_89 (zOb.lit (by decide +kernel)) rfl (by omega) (Nat.le_of_ble_eq_true rfl) (Nat.le_of_ble_eq_true rfl) rfl (fun v g hg => k v g hg)

set_option maxRecDepth 20000 in
theorem bX10_leaves_52 {X : zX} {dep bc bs : Nat} (v : Int) {h : zH} {Q : Nat → zH → List zV → Prop}
    (k1 : zW mX10_leaves X dep bc bs 239 62 [(0, xR 0), (4, xI (if v = 0 then 0 else 1 : Int))] [] h Q) : zW mX10_leaves X dep bc bs 239 52 [(0, xR 0)] [xI v] h Q := by
  suffices KJ : zW mX10_leaves X dep bc bs 239 60 [(0, xR 0)] [xI (if v = 0 then 0 else 1 : Int)] h Q by
    refine z_if_eq (tgt := 59) dX10_leaves_52 (by decide) (fun j1 => ?_) (fun j1 => ?_)
    ·
      refine z_iconst dX10_leaves_59 (zi32_d rfl) ?_
      rw [if_pos j1] at KJ
      exact KJ
    ·
      refine z_iconst dX10_leaves_55 (zi32_d rfl) ?_
      refine z_goto (tgt := 60) dX10_leaves_56 (by decide) ?_
      rw [if_neg j1] at KJ
      exact KJ
  refine z_istore (lv' := [(4, xI (if v = 0 then 0 else 1 : Int)), (0, xR 0)]) dX10_leaves_60 (by decide) rfl ?_
  refine zW.sub (lv' := [(0, xR 0), (4, xI (if v = 0 then 0 else 1 : Int))]) [1, 0] rfl ?_
  exact k1

set_option maxRecDepth 20000 in
theorem bX10_leaves_62 {X : zX} {dep bc bs : Nat} (v : Int) {h : zH} {Q : Nat → zH → List zV → Prop}
    (k1 : Q 239 (zst h 1 1 0) [xI v]) : zW mX10_leaves X dep bc bs 239 62 [(0, xR 0), (4, xI v)] [] h Q := by
  refine z_aload_n 0 dX10_leaves_62 rfl ?_
  refine z_getS (v := 1) (k := 0) (kz := 0) pk10 dX10_leaves_63 (by decide) zb_457 rfl (zOb.lit (by decide +kernel)) rfl (by decide +kernel) ?_
  refine z_iconst dX10_leaves_66 (zi32_d rfl) ?_
  refine z_putI (k := 1) (kz := 1) pk7 dX10_leaves_67 (by decide) zb_122 rfl (zFit_int _) (zOb.lit (by decide +kernel)) rfl ?_
  refine z_iload 1 dX10_leaves_70 rfl ?_
  exact z_iret dX10_leaves_72 rfl (k1)

set_option maxRecDepth 20000 in
theorem bX10_send_0 {X : zX} {dep bc bs : Nat} (l : Int) (a : Int) (b : Int) {h : zH} {Q : Nat → zH → List zV → Prop} (hn : h 0 12 ≤ 4) (hdep : 1 ≤ dep)
    (k1 : ¬ (0 ≤ l ∧ l < h 0 12) → Q 239 h [xI 0])
    (k2 : 0 ≤ l ∧ l < h 0 12 → ¬ (0 ≤ a ∧ a < h 3 0) → Q 239 h [xI 0])
    (k3 : 0 ≤ l ∧ l < h 0 12 → 0 ≤ a ∧ a < h 3 0 → ¬ (0 ≤ b ∧ b < h 3 0) → Q 239 h [xI 0])
    (k4 : 0 ≤ l ∧ l < h 0 12 → 0 ≤ a ∧ a < h 3 0 → 0 ≤ b ∧ b < h 3 0 → (h ((113 + 14 * l) + 1) 0) ≤ (h 0 10) → zW mX10_send X dep bc bs 239 51 [(0, xR 0), (1, xI l), (2, xI a), (3, xI b)] [xI (h 0 10), xI l, xR 0] h Q)
    (k5 : 0 ≤ l ∧ l < h 0 12 → 0 ≤ a ∧ a < h 3 0 → 0 ≤ b ∧ b < h 3 0 → ¬ ((h ((113 + 14 * l) + 1) 0) ≤ (h 0 10)) → Q 239 h [xI 0]) : zW mX10_send X dep bc bs 239 0 [(0, xR 0), (1, xI l), (2, xI a), (3, xI b)] [] h Q := by
  refine z_aload_n 0 dX10_send_0 rfl ?_
  refine z_iload_n 1 dX10_send_1 rfl ?_
  refine z_invF (ci := 10) (N := 17) (as := [xI l]) (st := []) (ra := [xI l]) (dep' := dep - 1) (rs := [xI (zb (0 ≤ l ∧ l < h 0 12))]) (h' := h) (f_X10_isLot l (h := h) ) dX10_send_2 nX10_isLot zb_782 zb_784 zb_17 zb_82 (zOb.lit (by decide +kernel)) rfl (by omega) zne_I (Nat.le_of_ble_eq_true rfl) (Nat.le_of_ble_eq_true rfl) rfl ?_
  refine z_ifB_eq (C := 0 ≤ l ∧ l < h 0 12) (tgt := 43) dX10_send_5 (by decide) (fun c1 => ?_) (fun c1 => ?_)
  ·
    refine z_iconst dX10_send_43 (zi32_d rfl) ?_
    exact z_zret dX10_send_44 rfl (Or.inl rfl) (k1 c1)
  ·
    refine z_aload_n 0 dX10_send_8 rfl ?_
    refine z_iload_n 2 dX10_send_9 rfl ?_
    refine z_invF (ci := 10) (N := 17) (as := [xI a]) (st := []) (ra := [xI a]) (dep' := dep - 1) (rs := [xI (zb (0 ≤ a ∧ a < h 3 0))]) (h' := h) (f_X10_isMan a (h := h) ) dX10_send_10 nX10_isMan zb_559 zb_561 zb_0 zb_82 (zOb.lit (by decide +kernel)) rfl (by omega) zne_I (Nat.le_of_ble_eq_true rfl) (Nat.le_of_ble_eq_true rfl) rfl ?_
    refine z_ifB_eq (C := 0 ≤ a ∧ a < h 3 0) (tgt := 43) dX10_send_13 (by decide) (fun c2 => ?_) (fun c2 => ?_)
    ·
      refine z_iconst dX10_send_43 (zi32_d rfl) ?_
      exact z_zret dX10_send_44 rfl (Or.inl rfl) (k2 c1 c2)
    ·
      refine z_aload_n 0 dX10_send_16 rfl ?_
      refine z_iload_n 3 dX10_send_17 rfl ?_
      refine z_invF (ci := 10) (N := 17) (as := [xI b]) (st := []) (ra := [xI b]) (dep' := dep - 1) (rs := [xI (zb (0 ≤ b ∧ b < h 3 0))]) (h' := h) (f_X10_isMan b (h := h) ) dX10_send_18 nX10_isMan zb_559 zb_561 zb_0 zb_82 (zOb.lit (by decide +kernel)) rfl (by omega) zne_I (Nat.le_of_ble_eq_true rfl) (Nat.le_of_ble_eq_true rfl) rfl ?_
      refine z_ifB_eq (C := 0 ≤ b ∧ b < h 3 0) (tgt := 43) dX10_send_21 (by decide) (fun c3 => ?_) (fun c3 => ?_)
      ·
        refine z_iconst dX10_send_43 (zi32_d rfl) ?_
        exact z_zret dX10_send_44 rfl (Or.inl rfl) (k3 c1 c2 c3)
      ·
        refine z_aload_n 0 dX10_send_24 rfl ?_
        refine z_getI (k := 10) (kz := 10) pk10 dX10_send_25 (by decide) zb_467 rfl (zOb.lit (by decide +kernel)) rfl ?_
        refine z_aload_n 0 dX10_send_28 rfl ?_
        refine z_getS (v := 43) (k := 5) (kz := 5) pk10 dX10_send_29 (by decide) zb_462 rfl (zOb.lit (by decide +kernel)) rfl (by decide +kernel) ?_
        refine z_iload_n 1 dX10_send_32 rfl ?_
        refine z_aaldSR (v := (113 + 14 * l)) dX10_send_33 (zOb.lit (by decide +kernel)) (show 0 ≤ l ∧ l < 4 from ⟨by omega, by omega⟩).1 (show 0 ≤ l ∧ l < 4 from ⟨by omega, by omega⟩).2 (zRF_rolls (show 0 ≤ l ∧ l < 4 from ⟨by omega, by omega⟩).1 (show 0 ≤ l ∧ l < 4 from ⟨by omega, by omega⟩).2) ?_
        refine z_getS (v := ((113 + 14 * l) + 1)) (k := 1) (kz := 1) pk6 dX10_send_34 (by decide) zb_412 rfl (zRollO_rolls (show 0 ≤ l ∧ l < 4 from ⟨by omega, by omega⟩).1 (show 0 ≤ l ∧ l < 4 from ⟨by omega, by omega⟩).2).1 rfl (zRollO_rolls (show 0 ≤ l ∧ l < 4 from ⟨by omega, by omega⟩).1 (show 0 ≤ l ∧ l < 4 from ⟨by omega, by omega⟩).2).2.2.2.2.2.2.2.2.2.2.2.2.2.2.1 ?_
        refine z_getI (k := 0) (kz := 0) pk3 dX10_send_37 (by decide) zb_388 rfl (zRollO_rolls (show 0 ≤ l ∧ l < 4 from ⟨by omega, by omega⟩).1 (show 0 ≤ l ∧ l < 4 from ⟨by omega, by omega⟩).2).2.1 rfl ?_
        refine z_icmp_ge (tgt := 45) dX10_send_40 (by decide) (fun c4 => ?_) (fun c4 => ?_)
        ·
          refine z_aload_n 0 dX10_send_45 rfl ?_
          refine z_iload_n 1 dX10_send_46 rfl ?_
          refine z_aload_n 0 dX10_send_47 rfl ?_
          refine z_getI (k := 10) (kz := 10) pk10 dX10_send_48 (by decide) zb_467 rfl (zOb.lit (by decide +kernel)) rfl ?_
          exact k4 c1 c2 c3 c4
        ·
          refine z_iconst dX10_send_43 (zi32_d rfl) ?_
          exact z_zret dX10_send_44 rfl (Or.inl rfl) (k5 c1 c2 c3 c4)

set_option maxRecDepth 20000 in
theorem rX10_send_51 {X : zX} {dep bc bs : Nat} (l : Int) (a : Int) (b : Int) {h : zH} {Q : Nat → zH → List zV → Prop} {P : Int → zH → Prop}
    (hZ : zW mX10_rollAsOf X (dep - 1) 0 0 239 0 (zar 0 [xR 0, xI l, xI (h 0 10)]) [] h (zQR P)) (hdep : 1 ≤ dep)
    (k : ∀ (v : Int) (g : zH), P v g → zW mX10_send X dep bc bs 239 54 [(0, xR 0), (1, xI l), (2, xI a), (3, xI b)] [xR v] g Q) : zW mX10_send X dep bc bs 239 51 [(0, xR 0), (1, xI l), (2, xI a), (3, xI b)] [xI (h 0 10), xI l, xR 0] h Q :=
  z_invQR (ci := 10) (N := 17) (as := [xI l, xI (h 0 10)]) (st := []) (ra := [xI (h 0 10), xI l]) hZ dX10_send_51 nX10_rollAsOf zb_865 zb_867 zb_20 zb_82 (zOb.lit (by decide +kernel)) rfl (by omega) (Nat.le_of_ble_eq_true rfl) (Nat.le_of_ble_eq_true rfl) rfl (fun v g hg => k v g hg)

set_option maxRecDepth 20000 in
theorem bX10_send_54 {X : zX} {dep bc bs : Nat} (l : Int) (a : Int) (b : Int) {h : zH} {Q : Nat → zH → List zV → Prop} (hl : 0 ≤ l ∧ l < 4)
    (k1 : zW mX10_send X dep bc bs 239 65 [(4, xR (113 + 14 * l)), (0, xR 0), (1, xI l), (2, xI a), (3, xI b)] [xI (h 0 10), xI l, xR 0, xI a, xR (113 + 14 * l)] h Q) : zW mX10_send X dep bc bs 239 54 [(0, xR 0), (1, xI l), (2, xI a), (3, xI b)] [xR (113 + 14 * l)] h Q := by
  refine z_astore (lv' := [(4, xR (113 + 14 * l)), (0, xR 0), (1, xI l), (2, xI a), (3, xI b)]) dX10_send_54 (by decide) rfl ?_
  refine z_aload 0 dX10_send_56 rfl ?_
  refine z_iload_n 3 dX10_send_58 rfl ?_
  refine z_aload_n 1 dX10_send_59 rfl ?_
  refine z_iload_n 2 dX10_send_60 rfl ?_
  refine z_aload_n 1 dX10_send_61 rfl ?_
  refine z_getI (k := 10) (kz := 10) pk10 dX10_send_62 (by decide) zb_467 rfl (zOb.lit (by decide +kernel)) rfl ?_
  exact k1

set_option maxRecDepth 20000 in
theorem rX10_send_65 {X : zX} {dep bc bs : Nat} (l : Int) (a : Int) (b : Int) {h : zH} {Q : Nat → zH → List zV → Prop} {P : Int → zH → Prop}
    (hZ : zW mX10_lawFor X (dep - 1) 0 0 239 0 (zar 0 [xR 0, xI l, xI (h 0 10)]) [] h (zQR P)) (hdep : 1 ≤ dep)
    (k : ∀ (v : Int) (g : zH), P v g → zW mX10_send X dep bc bs 239 68 [(0, xR 0), (1, xI l), (2, xI a), (3, xI b), (4, xR (113 + 14 * l))] [xR v, xI a, xR (113 + 14 * l)] g Q) : zW mX10_send X dep bc bs 239 65 [(0, xR 0), (1, xI l), (2, xI a), (3, xI b), (4, xR (113 + 14 * l))] [xI (h 0 10), xI l, xR 0, xI a, xR (113 + 14 * l)] h Q :=
  z_invQR (ci := 10) (N := 17) (as := [xI l, xI (h 0 10)]) (st := [xI a, xR (113 + 14 * l)]) (ra := [xI (h 0 10), xI l]) hZ dX10_send_65 nX10_lawFor zb_869 zb_871 zb_21 zb_82 (zOb.lit (by decide +kernel)) rfl (by omega) (Nat.le_of_ble_eq_true rfl) (Nat.le_of_ble_eq_true rfl) rfl (fun v g hg => k v g hg)

set_option maxRecDepth 20000 in
theorem rX10_send_68 {X : zX} {dep bc bs : Nat} (l : Int) (a : Int) (b : Int) (L : Int) {h : zH} {Q : Nat → zH → List zV → Prop} {P : Int → zH → Prop} (hl : 0 ≤ l ∧ l < 4)
    (hZ : zW mX6_maySend X (dep - 1) 0 0 239 0 (zar 0 [xR (113 + 14 * l), xI a, xR L]) [] h (zQI P)) (hdep : 1 ≤ dep)
    (k : ∀ (v : Int) (g : zH), P v g → zW mX10_send X dep bc bs 239 71 [(0, xR 0), (1, xI l), (2, xI a), (3, xI b), (4, xR (113 + 14 * l))] [xI v] g Q) : zW mX10_send X dep bc bs 239 68 [(0, xR 0), (1, xI l), (2, xI a), (3, xI b), (4, xR (113 + 14 * l))] [xR L, xI a, xR (113 + 14 * l)] h Q :=
  z_invQI (ci := 6) (N := 13) (as := [xI a, xR L]) (st := []) (ra := [xR L, xI a]) hZ dX10_send_68 nX6_maySend zb_975 zb_976 zb_977 zb_90 (zRollO_rolls hl.1 hl.2).1 rfl (by omega) (Nat.le_of_ble_eq_true rfl) (Nat.le_of_ble_eq_true rfl) rfl (fun v g hg => k v g hg)

set_option maxRecDepth 20000 in
theorem bX10_send_71 {X : zX} {dep bc bs : Nat} (l : Int) (a : Int) (b : Int) (v : Int) {h : zH} {Q : Nat → zH → List zV → Prop} (hl : 0 ≤ l ∧ l < 4)
    (k1 : v = 0 → Q 239 h [xI 0])
    (k2 : ¬ (v = 0) → zW mX10_send X dep bc bs 239 77 [(0, xR 0), (1, xI l), (2, xI a), (3, xI b), (4, xR (113 + 14 * l))] [xI b, xR (113 + 14 * l)] h Q) : zW mX10_send X dep bc bs 239 71 [(0, xR 0), (1, xI l), (2, xI a), (3, xI b), (4, xR (113 + 14 * l))] [xI v] h Q := by
  refine z_if_eq (tgt := 83) dX10_send_71 (by decide) (fun c1 => ?_) (fun c1 => ?_)
  ·
    refine z_iconst dX10_send_83 (zi32_d rfl) ?_
    exact z_zret dX10_send_84 rfl (Or.inl rfl) (k1 c1)
  ·
    refine z_aload 4 dX10_send_74 rfl ?_
    refine z_iload_n 3 dX10_send_76 rfl ?_
    exact k2 c1

set_option maxRecDepth 20000 in
theorem rX10_send_77 {X : zX} {dep bc bs : Nat} (l : Int) (a : Int) (b : Int) {h : zH} {Q : Nat → zH → List zV → Prop} {P : Int → zH → Prop} (hl : 0 ≤ l ∧ l < 4)
    (hZ : zW mX6_mayBeSent X (dep - 1) 0 0 239 0 (zar 0 [xR (113 + 14 * l), xI b]) [] h (zQI P)) (hdep : 1 ≤ dep)
    (k : ∀ (v : Int) (g : zH), P v g → zW mX10_send X dep bc bs 239 80 [(0, xR 0), (1, xI l), (2, xI a), (3, xI b), (4, xR (113 + 14 * l))] [xI v] g Q) : zW mX10_send X dep bc bs 239 77 [(0, xR 0), (1, xI l), (2, xI a), (3, xI b), (4, xR (113 + 14 * l))] [xI b, xR (113 + 14 * l)] h Q :=
  z_invQI (ci := 6) (N := 13) (as := [xI b]) (st := []) (ra := [xI b]) hZ dX10_send_77 nX6_mayBeSent zb_979 zb_980 zb_981 zb_90 (zRollO_rolls hl.1 hl.2).1 rfl (by omega) (Nat.le_of_ble_eq_true rfl) (Nat.le_of_ble_eq_true rfl) rfl (fun v g hg => k v g hg)

set_option maxRecDepth 20000 in
theorem bX10_send_80 {X : zX} {dep bc bs : Nat} (l : Int) (a : Int) (b : Int) (v : Int) {h : zH} {Q : Nat → zH → List zV → Prop} (hl : 0 ≤ l ∧ l < 4)
    (k1 : ¬ v = 0 → zW mX10_send X dep bc bs 239 101 [(0, xR 0), (1, xI l), (2, xI a), (3, xI b), (4, xR (113 + 14 * l))] [xI 0, xI 0, xI b, xI a, xI l, xI (h 0 10), xR 15] h Q)
    (k2 : v = 0 → Q 239 h [xI 0]) : zW mX10_send X dep bc bs 239 80 [(0, xR 0), (1, xI l), (2, xI a), (3, xI b), (4, xR (113 + 14 * l))] [xI v] h Q := by
  refine z_if_ne (tgt := 85) dX10_send_80 (by decide) (fun c1 => ?_) (fun c1 => ?_)
  ·
    refine z_aload_n 0 dX10_send_85 rfl ?_
    refine z_getS (v := 3) (k := 1) (kz := 1) pk10 dX10_send_86 (by decide) zb_458 rfl (zOb.lit (by decide +kernel)) rfl (by decide +kernel) ?_
    refine z_getS (v := 15) (k := 8) (kz := 8) pk4 dX10_send_89 (by decide) zb_174 rfl (zOb.lit (by decide +kernel)) rfl (by decide +kernel) ?_
    refine z_aload_n 0 dX10_send_92 rfl ?_
    refine z_getI (k := 10) (kz := 10) pk10 dX10_send_93 (by decide) zb_467 rfl (zOb.lit (by decide +kernel)) rfl ?_
    refine z_iload_n 1 dX10_send_96 rfl ?_
    refine z_iload_n 2 dX10_send_97 rfl ?_
    refine z_iload_n 3 dX10_send_98 rfl ?_
    refine z_iconst dX10_send_99 (zi32_d rfl) ?_
    refine z_iconst dX10_send_100 (zi32_d rfl) ?_
    exact k1 c1
  ·
    refine z_iconst dX10_send_83 (zi32_d rfl) ?_
    exact z_zret dX10_send_84 rfl (Or.inl rfl) (k2 c1)

set_option maxRecDepth 20000 in
theorem rX10_send_101 {X : zX} {dep bc bs : Nat} (l : Int) (a : Int) (b : Int) {h : zH} {Q : Nat → zH → List zV → Prop} {P : Int → zH → Prop}
    (hZ : zW mX2_add X (dep - 1) 0 0 239 0 (zar 0 [xR 15, xI (h 0 10), xI l, xI a, xI b, xI 0, xI 0]) [] h (zQI P)) (hdep : 1 ≤ dep)
    (k : ∀ (v : Int) (g : zH), P v g → zW mX10_send X dep bc bs 239 104 [(0, xR 0), (1, xI l), (2, xI a), (3, xI b), (4, xR (113 + 14 * l))] [xI v] g Q) : zW mX10_send X dep bc bs 239 101 [(0, xR 0), (1, xI l), (2, xI a), (3, xI b), (4, xR (113 + 14 * l))] [xI 0, xI 0, xI b, xI a, xI l, xI (h 0 10), xR 15] h Q :=
  z_invQI (ci := 2) (N := 3) (as := [xI (h 0 10), xI l, xI a, xI b, xI 0, xI 0]) (st := []) (ra := [xI 0, xI 0, xI b, xI a, xI l, xI (h 0 10)]) hZ dX10_send_101 nX2_add zb_566 zb_567 zb_568 zb_85 (zOb.lit (by decide +kernel)) rfl (by omega) (Nat.le_of_ble_eq_true rfl) (Nat.le_of_ble_eq_true rfl) rfl (fun v g hg => k v g hg)

set_option maxRecDepth 20000 in
theorem bX10_send_104 {X : zX} {dep bc bs : Nat} (l : Int) (a : Int) (b : Int) (v : Int) {h : zH} {Q : Nat → zH → List zV → Prop} (hv : v = 0 ∨ v = 1)
    (k1 : Q 239 h [xI v]) : zW mX10_send X dep bc bs 239 104 [(0, xR 0), (1, xI l), (2, xI a), (3, xI b), (4, xR (113 + 14 * l))] [xI v] h Q := by
  exact z_zret dX10_send_104 rfl hv (k1)

set_option maxRecDepth 20000 in
theorem bX10_mended_0 {X : zX} {dep bc bs : Nat} (l : Int) (s : Int) (t : Int) (z : Int) {h : zH} {Q : Nat → zH → List zV → Prop} (hdep : 1 ≤ dep)
    (k1 : 0 ≤ l ∧ l < h 0 12 → zW mX10_mended X dep bc bs 239 13 [(0, xR 0), (1, xI l), (2, xI s), (3, xI t), (4, xI z)] [xI s, xI l, xR 0] h Q)
    (k2 : ¬ (0 ≤ l ∧ l < h 0 12) → Q 239 h [xI (-1)]) : zW mX10_mended X dep bc bs 239 0 [(0, xR 0), (1, xI l), (2, xI s), (3, xI t), (4, xI z)] [] h Q := by
  refine z_aload_n 0 dX10_mended_0 rfl ?_
  refine z_iload_n 1 dX10_mended_1 rfl ?_
  refine z_invF (ci := 10) (N := 17) (as := [xI l]) (st := []) (ra := [xI l]) (dep' := dep - 1) (rs := [xI (zb (0 ≤ l ∧ l < h 0 12))]) (h' := h) (f_X10_isLot l (h := h) ) dX10_mended_2 nX10_isLot zb_782 zb_784 zb_17 zb_82 (zOb.lit (by decide +kernel)) rfl (by omega) zne_I (Nat.le_of_ble_eq_true rfl) (Nat.le_of_ble_eq_true rfl) rfl ?_
  refine z_ifB_ne (C := 0 ≤ l ∧ l < h 0 12) (tgt := 10) dX10_mended_5 (by decide) (fun c1 => ?_) (fun c1 => ?_)
  ·
    refine z_aload_n 0 dX10_mended_10 rfl ?_
    refine z_iload_n 1 dX10_mended_11 rfl ?_
    refine z_iload_n 2 dX10_mended_12 rfl ?_
    exact k1 c1
  ·
    refine z_iconst dX10_mended_8 (zi32_d rfl) ?_
    exact z_iret dX10_mended_9 rfl (k2 c1)

set_option maxRecDepth 20000 in
theorem rX10_mended_13 {X : zX} {dep bc bs : Nat} (l : Int) (s : Int) (t : Int) (z : Int) {h : zH} {Q : Nat → zH → List zV → Prop} {P : Int → zH → Prop}
    (hZ : zW mX10_rollAsOf X (dep - 1) 0 0 239 0 (zar 0 [xR 0, xI l, xI s]) [] h (zQR P)) (hdep : 1 ≤ dep)
    (k : ∀ (v : Int) (g : zH), P v g → zW mX10_mended X dep bc bs 239 16 [(0, xR 0), (1, xI l), (2, xI s), (3, xI t), (4, xI z)] [xR v] g Q) : zW mX10_mended X dep bc bs 239 13 [(0, xR 0), (1, xI l), (2, xI s), (3, xI t), (4, xI z)] [xI s, xI l, xR 0] h Q :=
  z_invQR (ci := 10) (N := 17) (as := [xI l, xI s]) (st := []) (ra := [xI s, xI l]) hZ dX10_mended_13 nX10_rollAsOf zb_865 zb_867 zb_20 zb_82 (zOb.lit (by decide +kernel)) rfl (by omega) (Nat.le_of_ble_eq_true rfl) (Nat.le_of_ble_eq_true rfl) rfl (fun v g hg => k v g hg)

set_option maxRecDepth 20000 in
theorem bX10_mended_16 {X : zX} {dep bc bs : Nat} (l : Int) (s : Int) (t : Int) (z : Int) {h : zH} {Q : Nat → zH → List zV → Prop} (hl : 0 ≤ l ∧ l < 4)
    (k1 : zW mX10_mended X dep bc bs 239 21 [(0, xR 0), (1, xI l), (3, xI t), (4, xI z), (5, xR (113 + 14 * l)), (6, xI 0)] [] h Q) : zW mX10_mended X dep bc bs 239 16 [(0, xR 0), (1, xI l), (2, xI s), (3, xI t), (4, xI z)] [xR (113 + 14 * l)] h Q := by
  refine z_astore (lv' := [(5, xR (113 + 14 * l)), (0, xR 0), (1, xI l), (2, xI s), (3, xI t), (4, xI z)]) dX10_mended_16 (by decide) rfl ?_
  refine z_iconst dX10_mended_18 (zi32_d rfl) ?_
  refine z_istore (lv' := [(6, xI 0), (5, xR (113 + 14 * l)), (0, xR 0), (1, xI l), (2, xI s), (3, xI t), (4, xI z)]) dX10_mended_19 (by decide) rfl ?_
  refine zW.sub (lv' := [(0, xR 0), (1, xI l), (3, xI t), (4, xI z), (5, xR (113 + 14 * l)), (6, xI 0)]) [2, 3, 5, 6, 1, 0] rfl ?_
  exact k1

set_option maxRecDepth 20000 in
theorem bX10_mended_21 {X : zX} {dep bc bs : Nat} (l : Int) (t : Int) (z : Int) (i : Int) {h : zH} {Q : Nat → zH → List zV → Prop} (hl : 0 ≤ l ∧ l < 4) (h3 : h 3 0 ≤ 60) (hi : 0 ≤ i)
    (k1 : (h 3 0) ≤ i → zW mX10_mended X dep bc bs 239 66 [(0, xR 0), (1, xI l), (3, xI t), (4, xI z), (5, xR (113 + 14 * l)), (6, xI i)] [xI t, xI l, xR 0] h Q)
    (k2 : ¬ ((h 3 0) ≤ i) → zW mX10_mended X dep bc bs 239 21 [(0, xR 0), (1, xI l), (3, xI t), (4, xI z), (5, xR (113 + 14 * l)), (6, xI (i + 1))] [] (zst h 63 i (if (h ((113 + 14 * l) + 5) i) = 5 then 1 else 0 : Int)) Q) : zW mX10_mended X dep bc bs 239 21 [(0, xR 0), (1, xI l), (3, xI t), (4, xI z), (5, xR (113 + 14 * l)), (6, xI i)] [] h Q := by
  refine z_iload 5 dX10_mended_21 rfl ?_
  refine z_aload_n 0 dX10_mended_23 rfl ?_
  refine z_getS (v := 3) (k := 1) (kz := 1) pk10 dX10_mended_24 (by decide) zb_458 rfl (zOb.lit (by decide +kernel)) rfl (by decide +kernel) ?_
  refine z_getI (k := 0) (kz := 0) pk4 dX10_mended_27 (by decide) zb_156 rfl (zOb.lit (by decide +kernel)) rfl ?_
  refine z_icmp_ge (tgt := 63) dX10_mended_30 (by decide) (fun c1 => ?_) (fun c1 => ?_)
  ·
    refine z_aload_n 0 dX10_mended_63 rfl ?_
    refine z_iload_n 1 dX10_mended_64 rfl ?_
    refine z_iload_n 2 dX10_mended_65 rfl ?_
    exact k1 c1
  ·
    refine z_aload_n 0 dX10_mended_33 rfl ?_
    refine z_getS (v := 63) (k := 7) (kz := 7) pk10 dX10_mended_34 (by decide) zb_464 rfl (zOb.lit (by decide +kernel)) rfl (by decide +kernel) ?_
    refine z_iload 5 dX10_mended_37 rfl ?_
    refine z_aload 4 dX10_mended_39 rfl ?_
    refine z_getS (v := ((113 + 14 * l) + 5)) (k := 3) (kz := 3) pk6 dX10_mended_41 (by decide) zb_415 rfl (zRollO_rolls hl.1 hl.2).1 rfl (zRollO_rolls hl.1 hl.2).2.2.2.2.2.2.2.2.2.2.2.2.2.2.2.2.1 ?_
    refine z_iload 5 dX10_mended_44 rfl ?_
    refine z_iald dX10_mended_46 (zRollO_rolls hl.1 hl.2).2.2.2.2.2.1 (show 0 ≤ i ∧ i < 60 from ⟨by omega, by omega⟩).1 (show 0 ≤ i ∧ i < 60 from ⟨by omega, by omega⟩).2 ?_
    refine z_iconst dX10_mended_47 (zi32_d rfl) ?_
    suffices KJ : zW mX10_mended X dep bc bs 239 56 [(0, xR 0), (1, xI l), (3, xI t), (4, xI z), (5, xR (113 + 14 * l)), (6, xI i)] [xI (if (h ((113 + 14 * l) + 5) i) = 5 then 1 else 0 : Int), xI i, xR 63] h Q by
      refine z_icmp_ne (tgt := 55) dX10_mended_48 (by decide) (fun j1 => ?_) (fun j1 => ?_)
      ·
        refine z_iconst dX10_mended_55 (zi32_d rfl) ?_
        rw [if_neg j1] at KJ
        exact KJ
      ·
        refine z_iconst dX10_mended_51 (zi32_d rfl) ?_
        refine z_goto (tgt := 56) dX10_mended_52 (by decide) ?_
        rw [if_pos j1] at KJ
        exact KJ
    refine z_zast dX10_mended_56 (zOb.lit (by decide +kernel)) (show 0 ≤ i ∧ i < 60 from ⟨by omega, by omega⟩).1 (show 0 ≤ i ∧ i < 60 from ⟨by omega, by omega⟩).2 (by repeat (first | (left; rfl) | (right; rfl) | split)) ?_
    refine z_iincN (lv' := [(6, xI (i + 1)), (0, xR 0), (1, xI l), (3, xI t), (4, xI z), (5, xR (113 + 14 * l))]) 5 dX10_mended_57 rfl (by decide) rfl (show -2147483648 ≤ i + 1 ∧ i + 1 < 2147483648 from ⟨by omega, by omega⟩).1 (show -2147483648 ≤ i + 1 ∧ i + 1 < 2147483648 from ⟨by omega, by omega⟩).2 ?_
    refine z_goto (tgt := 21) dX10_mended_60 (by decide) ?_
    refine zW.sub (lv' := [(0, xR 0), (1, xI l), (3, xI t), (4, xI z), (5, xR (113 + 14 * l)), (6, xI (i + 1))]) [1, 2, 3, 4, 5, 0] rfl ?_
    exact k2 c1

set_option maxRecDepth 20000 in
theorem rX10_mended_66 {X : zX} {dep bc bs : Nat} (l : Int) (t : Int) (z : Int) (i : Int) {h : zH} {Q : Nat → zH → List zV → Prop} {P : Int → zH → Prop}
    (hZ : zW mX10_rollAsOf X (dep - 1) 0 0 239 0 (zar 0 [xR 0, xI l, xI t]) [] h (zQR P)) (hdep : 1 ≤ dep)
    (k : ∀ (v : Int) (g : zH), P v g → zW mX10_mended X dep bc bs 239 69 [(0, xR 0), (1, xI l), (3, xI t), (4, xI z), (5, xR (113 + 14 * l)), (6, xI i)] [xR v] g Q) : zW mX10_mended X dep bc bs 239 66 [(0, xR 0), (1, xI l), (3, xI t), (4, xI z), (5, xR (113 + 14 * l)), (6, xI i)] [xI t, xI l, xR 0] h Q :=
  z_invQR (ci := 10) (N := 17) (as := [xI l, xI t]) (st := []) (ra := [xI t, xI l]) hZ dX10_mended_66 nX10_rollAsOf zb_865 zb_867 zb_20 zb_82 (zOb.lit (by decide +kernel)) rfl (by omega) (Nat.le_of_ble_eq_true rfl) (Nat.le_of_ble_eq_true rfl) rfl (fun v g hg => k v g hg)

set_option maxRecDepth 20000 in
theorem bX10_mended_69 {X : zX} {dep bc bs : Nat} (l : Int) (t : Int) (z : Int) (i : Int) {h : zH} {Q : Nat → zH → List zV → Prop} (hl : 0 ≤ l ∧ l < 4)
    (k1 : zW mX10_mended X dep bc bs 239 79 [(0, xR 0), (4, xI z), (5, xR (113 + 14 * l)), (6, xI 0)] [] (zst h 0 9 0) Q) : zW mX10_mended X dep bc bs 239 69 [(0, xR 0), (1, xI l), (3, xI t), (4, xI z), (5, xR (113 + 14 * l)), (6, xI i)] [xR (113 + 14 * l)] h Q := by
  refine z_astore (lv' := [(5, xR (113 + 14 * l)), (0, xR 0), (1, xI l), (3, xI t), (4, xI z), (6, xI i)]) dX10_mended_69 (by decide) rfl ?_
  refine z_aload_n 1 dX10_mended_71 rfl ?_
  refine z_iconst dX10_mended_72 (zi32_d rfl) ?_
  refine z_putI (k := 9) (kz := 9) pk10 dX10_mended_73 (by decide) zb_466 rfl (zFit_int _) (zOb.lit (by decide +kernel)) rfl ?_
  refine z_iconst dX10_mended_76 (zi32_d rfl) ?_
  refine z_istore (lv' := [(6, xI 0), (5, xR (113 + 14 * l)), (0, xR 0), (1, xI l), (3, xI t), (4, xI z)]) dX10_mended_77 (by decide) rfl ?_
  refine zW.sub (lv' := [(0, xR 0), (4, xI z), (5, xR (113 + 14 * l)), (6, xI 0)]) [2, 5, 1, 0] rfl ?_
  exact k1

set_option maxRecDepth 20000 in
theorem bX10_mended_79 {X : zX} {dep bc bs : Nat} (l : Int) (z : Int) (i : Int) {h : zH} {Q : Nat → zH → List zV → Prop} (hl : 0 ≤ l ∧ l < 4) (h3 : h 3 0 ≤ 60) (hi : 0 ≤ i) (hc : 0 ≤ h 0 9 ∧ h 0 9 ≤ i)
    (k1 : (h 3 0) ≤ i → Q 239 h [xI (h 0 9)])
    (k2 : ¬ ((h 3 0) ≤ i) → (if (h ((113 + 14 * l) + 5) i) = 5 then 1 else 0 : Int) = (h 63 i) → zW mX10_mended X dep bc bs 239 79 [(0, xR 0), (4, xI z), (5, xR (113 + 14 * l)), (6, xI (i + 1))] [] h Q)
    (k3 : ¬ ((h 3 0) ≤ i) → ¬ ((if (h ((113 + 14 * l) + 5) i) = 5 then 1 else 0 : Int) = (h 63 i)) → (if (h ((113 + 14 * l) + 5) i) = 5 then 1 else 0 : Int) = z → zW mX10_mended X dep bc bs 239 79 [(0, xR 0), (4, xI z), (5, xR (113 + 14 * l)), (6, xI (i + 1))] [] h Q)
    (k4 : ¬ ((h 3 0) ≤ i) → ¬ ((if (h ((113 + 14 * l) + 5) i) = 5 then 1 else 0 : Int) = (h 63 i)) → ¬ ((if (h ((113 + 14 * l) + 5) i) = 5 then 1 else 0 : Int) = z) → zW mX10_mended X dep bc bs 239 79 [(0, xR 0), (4, xI z), (5, xR (113 + 14 * l)), (6, xI (i + 1))] [] (zst (zst h 64 (h 0 9) i) 0 9 ((h 0 9) + 1)) Q) : zW mX10_mended X dep bc bs 239 79 [(0, xR 0), (4, xI z), (5, xR (113 + 14 * l)), (6, xI i)] [] h Q := by
  refine z_iload 3 dX10_mended_79 rfl ?_
  refine z_aload_n 0 dX10_mended_81 rfl ?_
  refine z_getS (v := 3) (k := 1) (kz := 1) pk10 dX10_mended_82 (by decide) zb_458 rfl (zOb.lit (by decide +kernel)) rfl (by decide +kernel) ?_
  refine z_getI (k := 0) (kz := 0) pk4 dX10_mended_85 (by decide) zb_156 rfl (zOb.lit (by decide +kernel)) rfl ?_
  refine z_icmp_ge (tgt := 156) dX10_mended_88 (by decide) (fun c1 => ?_) (fun c1 => ?_)
  ·
    refine z_aload_n 0 dX10_mended_156 rfl ?_
    refine z_getI (k := 9) (kz := 9) pk10 dX10_mended_157 (by decide) zb_466 rfl (zOb.lit (by decide +kernel)) rfl ?_
    exact z_iret dX10_mended_160 rfl (k1 c1)
  ·
    refine z_aload 2 dX10_mended_91 rfl ?_
    refine z_getS (v := ((113 + 14 * l) + 5)) (k := 3) (kz := 3) pk6 dX10_mended_93 (by decide) zb_415 rfl (zRollO_rolls hl.1 hl.2).1 rfl (zRollO_rolls hl.1 hl.2).2.2.2.2.2.2.2.2.2.2.2.2.2.2.2.2.1 ?_
    refine z_iload 3 dX10_mended_96 rfl ?_
    refine z_iald dX10_mended_98 (zRollO_rolls hl.1 hl.2).2.2.2.2.2.1 (show 0 ≤ i ∧ i < 60 from ⟨by omega, by omega⟩).1 (show 0 ≤ i ∧ i < 60 from ⟨by omega, by omega⟩).2 ?_
    refine z_iconst dX10_mended_99 (zi32_d rfl) ?_
    suffices KJ : zW mX10_mended X dep bc bs 239 108 [(0, xR 0), (4, xI z), (5, xR (113 + 14 * l)), (6, xI i)] [xI (if (h ((113 + 14 * l) + 5) i) = 5 then 1 else 0 : Int)] h Q by
      refine z_icmp_ne (tgt := 107) dX10_mended_100 (by decide) (fun j1 => ?_) (fun j1 => ?_)
      ·
        refine z_iconst dX10_mended_107 (zi32_d rfl) ?_
        rw [if_neg j1] at KJ
        exact KJ
      ·
        refine z_iconst dX10_mended_103 (zi32_d rfl) ?_
        refine z_goto (tgt := 108) dX10_mended_104 (by decide) ?_
        rw [if_pos j1] at KJ
        exact KJ
    refine z_istore (lv' := [(7, xI (if (h ((113 + 14 * l) + 5) i) = 5 then 1 else 0 : Int)), (0, xR 0), (4, xI z), (5, xR (113 + 14 * l)), (6, xI i)]) dX10_mended_108 (by decide) rfl ?_
    refine z_iload 0 dX10_mended_110 rfl ?_
    refine z_aload_n 1 dX10_mended_112 rfl ?_
    refine z_getS (v := 63) (k := 7) (kz := 7) pk10 dX10_mended_113 (by decide) zb_464 rfl (zOb.lit (by decide +kernel)) rfl (by decide +kernel) ?_
    refine z_iload 4 dX10_mended_116 rfl ?_
    refine z_zald dX10_mended_118 (zOb.lit (by decide +kernel)) (show 0 ≤ i ∧ i < 60 from ⟨by omega, by omega⟩).1 (show 0 ≤ i ∧ i < 60 from ⟨by omega, by omega⟩).2 ?_
    refine z_icmp_eq (tgt := 150) dX10_mended_119 (by decide) (fun c2 => ?_) (fun c2 => ?_)
    ·
      refine z_iincN (lv' := [(6, xI (i + 1)), (7, xI (if (h ((113 + 14 * l) + 5) i) = 5 then 1 else 0 : Int)), (0, xR 0), (4, xI z), (5, xR (113 + 14 * l))]) 4 dX10_mended_150 rfl (by decide) rfl (show -2147483648 ≤ i + 1 ∧ i + 1 < 2147483648 from ⟨by omega, by omega⟩).1 (show -2147483648 ≤ i + 1 ∧ i + 1 < 2147483648 from ⟨by omega, by omega⟩).2 ?_
      refine z_goto (tgt := 79) dX10_mended_153 (by decide) ?_
      refine zW.sub (lv' := [(0, xR 0), (4, xI z), (5, xR (113 + 14 * l)), (6, xI (i + 1))]) [2, 3, 4, 0] rfl ?_
      exact k2 c1 c2
    ·
      refine z_iload 0 dX10_mended_122 rfl ?_
      refine z_iload 2 dX10_mended_124 rfl ?_
      refine z_icmp_eq (tgt := 150) dX10_mended_126 (by decide) (fun c3 => ?_) (fun c3 => ?_)
      ·
        refine z_iincN (lv' := [(6, xI (i + 1)), (7, xI (if (h ((113 + 14 * l) + 5) i) = 5 then 1 else 0 : Int)), (0, xR 0), (4, xI z), (5, xR (113 + 14 * l))]) 4 dX10_mended_150 rfl (by decide) rfl (show -2147483648 ≤ i + 1 ∧ i + 1 < 2147483648 from ⟨by omega, by omega⟩).1 (show -2147483648 ≤ i + 1 ∧ i + 1 < 2147483648 from ⟨by omega, by omega⟩).2 ?_
        refine z_goto (tgt := 79) dX10_mended_153 (by decide) ?_
        refine zW.sub (lv' := [(0, xR 0), (4, xI z), (5, xR (113 + 14 * l)), (6, xI (i + 1))]) [2, 3, 4, 0] rfl ?_
        exact k3 c1 c2 c3
      ·
        refine z_aload_n 1 dX10_mended_129 rfl ?_
        refine z_getS (v := 64) (k := 8) (kz := 8) pk10 dX10_mended_130 (by decide) zb_465 rfl (zOb.lit (by decide +kernel)) rfl (by decide +kernel) ?_
        refine z_aload_n 1 dX10_mended_133 rfl ?_
        refine z_getI (k := 9) (kz := 9) pk10 dX10_mended_134 (by decide) zb_466 rfl (zOb.lit (by decide +kernel)) rfl ?_
        refine z_iload 4 dX10_mended_137 rfl ?_
        refine z_iast dX10_mended_139 (zOb.lit (by decide +kernel)) (show 0 ≤ (h 0 9) ∧ (h 0 9) < 60 from ⟨by omega, by omega⟩).1 (show 0 ≤ (h 0 9) ∧ (h 0 9) < 60 from ⟨by omega, by omega⟩).2 ?_
        refine z_aload_n 1 dX10_mended_140 rfl ?_
        refine z_dup dX10_mended_141 zt2 ?_
        refine z_getIV (v := (h 0 9)) (k := 9) (kz := 9) pk10 dX10_mended_142 (by decide) zb_466 rfl (zOb.lit (by decide +kernel)) rfl (zst_ne (Or.inl (by decide))) ?_
        refine z_iconst dX10_mended_145 (zi32_d rfl) ?_
        refine z_iaddN dX10_mended_146 (show -2147483648 ≤ (h 0 9) + 1 ∧ (h 0 9) + 1 < 2147483648 from ⟨by omega, by omega⟩).1 (show -2147483648 ≤ (h 0 9) + 1 ∧ (h 0 9) + 1 < 2147483648 from ⟨by omega, by omega⟩).2 ?_
        refine z_putI (k := 9) (kz := 9) pk10 dX10_mended_147 (by decide) zb_466 rfl (zFit_int _) (zOb.lit (by decide +kernel)) rfl ?_
        refine z_iincN (lv' := [(6, xI (i + 1)), (7, xI (if (h ((113 + 14 * l) + 5) i) = 5 then 1 else 0 : Int)), (0, xR 0), (4, xI z), (5, xR (113 + 14 * l))]) 4 dX10_mended_150 rfl (by decide) rfl (show -2147483648 ≤ i + 1 ∧ i + 1 < 2147483648 from ⟨by omega, by omega⟩).1 (show -2147483648 ≤ i + 1 ∧ i + 1 < 2147483648 from ⟨by omega, by omega⟩).2 ?_
        refine z_goto (tgt := 79) dX10_mended_153 (by decide) ?_
        refine zW.sub (lv' := [(0, xR 0), (4, xI z), (5, xR (113 + 14 * l)), (6, xI (i + 1))]) [2, 3, 4, 0] rfl ?_
        exact k4 c1 c2 c3

set_option maxRecDepth 20000 in
theorem bX10_appeal_0 {X : zX} {dep bc bs : Nat} (l : Int) (m : Int) {h : zH} {Q : Nat → zH → List zV → Prop} (hn : h 0 12 ≤ 4) (hd : 0 ≤ h 0 10 ∧ h 0 10 ≤ 3639) (hd2 : 0 ≤ l → l < 4 → 0 ≤ h (113 + 14 * l + 1) 0 ∧ h (113 + 14 * l + 1) 0 ≤ 3639) (hdep : 1 ≤ dep)
    (k1 : ¬ (0 ≤ l ∧ l < h 0 12) → Q 239 h [xI (-1)])
    (k2 : 0 ≤ l ∧ l < h 0 12 → ¬ (0 ≤ m ∧ m < h 3 0) → Q 239 h [xI (-1)])
    (k3 : 0 ≤ l ∧ l < h 0 12 → 0 ≤ m ∧ m < h 3 0 → (h 0 15) < 60 → (h 0 10) < (h ((113 + 14 * l) + 1) 0) → Q 239 h [xI (-1)])
    (k4 : 0 ≤ l ∧ l < h 0 12 → 0 ≤ m ∧ m < h 3 0 → (h 0 15) < 60 → ¬ ((h 0 10) < (h ((113 + 14 * l) + 1) 0)) → zW mX10_appeal X dep bc bs 239 60 [(3, xI (h ((113 + 14 * l) + 1) 0)), (0, xR 0), (1, xI l), (2, xI m)] [xI (h 0 10), xI l, xR 0, xI ((h 0 10) - (h ((113 + 14 * l) + 1) 0))] h Q)
    (k5 : 0 ≤ l ∧ l < h 0 12 → 0 ≤ m ∧ m < h 3 0 → ¬ ((h 0 15) < 60) → Q 239 h [xI (-1)]) : zW mX10_appeal X dep bc bs 239 0 [(0, xR 0), (1, xI l), (2, xI m)] [] h Q := by
  refine z_aload_n 0 dX10_appeal_0 rfl ?_
  refine z_iload_n 1 dX10_appeal_1 rfl ?_
  refine z_invF (ci := 10) (N := 17) (as := [xI l]) (st := []) (ra := [xI l]) (dep' := dep - 1) (rs := [xI (zb (0 ≤ l ∧ l < h 0 12))]) (h' := h) (f_X10_isLot l (h := h) ) dX10_appeal_2 nX10_isLot zb_782 zb_784 zb_17 zb_82 (zOb.lit (by decide +kernel)) rfl (by omega) zne_I (Nat.le_of_ble_eq_true rfl) (Nat.le_of_ble_eq_true rfl) rfl ?_
  refine z_ifB_eq (C := 0 ≤ l ∧ l < h 0 12) (tgt := 25) dX10_appeal_5 (by decide) (fun c1 => ?_) (fun c1 => ?_)
  ·
    refine z_iconst dX10_appeal_25 (zi32_d rfl) ?_
    exact z_iret dX10_appeal_26 rfl (k1 c1)
  ·
    refine z_aload_n 0 dX10_appeal_8 rfl ?_
    refine z_iload_n 2 dX10_appeal_9 rfl ?_
    refine z_invF (ci := 10) (N := 17) (as := [xI m]) (st := []) (ra := [xI m]) (dep' := dep - 1) (rs := [xI (zb (0 ≤ m ∧ m < h 3 0))]) (h' := h) (f_X10_isMan m (h := h) ) dX10_appeal_10 nX10_isMan zb_559 zb_561 zb_0 zb_82 (zOb.lit (by decide +kernel)) rfl (by omega) zne_I (Nat.le_of_ble_eq_true rfl) (Nat.le_of_ble_eq_true rfl) rfl ?_
    refine z_ifB_eq (C := 0 ≤ m ∧ m < h 3 0) (tgt := 25) dX10_appeal_13 (by decide) (fun c2 => ?_) (fun c2 => ?_)
    ·
      refine z_iconst dX10_appeal_25 (zi32_d rfl) ?_
      exact z_iret dX10_appeal_26 rfl (k2 c1 c2)
    ·
      refine z_aload_n 0 dX10_appeal_16 rfl ?_
      refine z_getI (k := 15) (kz := 15) pk10 dX10_appeal_17 (by decide) zb_472 rfl (zOb.lit (by decide +kernel)) rfl ?_
      refine z_bipush dX10_appeal_20 (zi32_d rfl) (by decide) ?_
      refine z_icmp_lt (tgt := 27) dX10_appeal_22 (by decide) (fun c3 => ?_) (fun c3 => ?_)
      ·
        refine z_aload_n 0 dX10_appeal_27 rfl ?_
        refine z_getS (v := 43) (k := 5) (kz := 5) pk10 dX10_appeal_28 (by decide) zb_462 rfl (zOb.lit (by decide +kernel)) rfl (by decide +kernel) ?_
        refine z_iload_n 1 dX10_appeal_31 rfl ?_
        refine z_aaldSR (v := (113 + 14 * l)) dX10_appeal_32 (zOb.lit (by decide +kernel)) (show 0 ≤ l ∧ l < 4 from ⟨by omega, by omega⟩).1 (show 0 ≤ l ∧ l < 4 from ⟨by omega, by omega⟩).2 (zRF_rolls (show 0 ≤ l ∧ l < 4 from ⟨by omega, by omega⟩).1 (show 0 ≤ l ∧ l < 4 from ⟨by omega, by omega⟩).2) ?_
        refine z_getS (v := ((113 + 14 * l) + 1)) (k := 1) (kz := 1) pk6 dX10_appeal_33 (by decide) zb_412 rfl (zRollO_rolls (show 0 ≤ l ∧ l < 4 from ⟨by omega, by omega⟩).1 (show 0 ≤ l ∧ l < 4 from ⟨by omega, by omega⟩).2).1 rfl (zRollO_rolls (show 0 ≤ l ∧ l < 4 from ⟨by omega, by omega⟩).1 (show 0 ≤ l ∧ l < 4 from ⟨by omega, by omega⟩).2).2.2.2.2.2.2.2.2.2.2.2.2.2.2.1 ?_
        refine z_getI (k := 0) (kz := 0) pk3 dX10_appeal_36 (by decide) zb_388 rfl (zRollO_rolls (show 0 ≤ l ∧ l < 4 from ⟨by omega, by omega⟩).1 (show 0 ≤ l ∧ l < 4 from ⟨by omega, by omega⟩).2).2.1 rfl ?_
        refine z_istore_n (lv' := [(3, xI (h ((113 + 14 * l) + 1) 0)), (0, xR 0), (1, xI l), (2, xI m)]) dX10_appeal_39 (by decide) rfl ?_
        refine z_aload_n 1 dX10_appeal_40 rfl ?_
        refine z_getI (k := 10) (kz := 10) pk10 dX10_appeal_41 (by decide) zb_467 rfl (zOb.lit (by decide +kernel)) rfl ?_
        refine z_iload_n 0 dX10_appeal_44 rfl ?_
        refine z_icmp_lt (tgt := 69) dX10_appeal_45 (by decide) (fun c4 => ?_) (fun c4 => ?_)
        ·
          refine z_iconst dX10_appeal_69 (zi32_d rfl) ?_
          exact z_iret dX10_appeal_70 rfl (k3 c1 c2 c3 c4)
        ·
          refine z_aload_n 1 dX10_appeal_48 rfl ?_
          refine z_getI (k := 10) (kz := 10) pk10 dX10_appeal_49 (by decide) zb_467 rfl (zOb.lit (by decide +kernel)) rfl ?_
          refine z_iload_n 0 dX10_appeal_52 rfl ?_
          refine z_isubN dX10_appeal_53 (show -2147483648 ≤ (h 0 10) - (h ((113 + 14 * l) + 1) 0) ∧ (h 0 10) - (h ((113 + 14 * l) + 1) 0) < 2147483648 from ⟨by omega, by omega⟩).1 (show -2147483648 ≤ (h 0 10) - (h ((113 + 14 * l) + 1) 0) ∧ (h 0 10) - (h ((113 + 14 * l) + 1) 0) < 2147483648 from ⟨by omega, by omega⟩).2 ?_
          refine z_aload_n 1 dX10_appeal_54 rfl ?_
          refine z_iload_n 2 dX10_appeal_55 rfl ?_
          refine z_aload_n 1 dX10_appeal_56 rfl ?_
          refine z_getI (k := 10) (kz := 10) pk10 dX10_appeal_57 (by decide) zb_467 rfl (zOb.lit (by decide +kernel)) rfl ?_
          exact k4 c1 c2 c3 c4
      ·
        refine z_iconst dX10_appeal_25 (zi32_d rfl) ?_
        exact z_iret dX10_appeal_26 rfl (k5 c1 c2 c3)

set_option maxRecDepth 20000 in
theorem rX10_appeal_60 {X : zX} {dep bc bs : Nat} (l : Int) (m : Int) (d : Int) (x : Int) {h : zH} {Q : Nat → zH → List zV → Prop} {P : Int → zH → Prop}
    (hZ : zW mX10_lawFor X (dep - 1) 0 0 239 0 (zar 0 [xR 0, xI l, xI (h 0 10)]) [] h (zQR P)) (hdep : 1 ≤ dep)
    (k : ∀ (v : Int) (g : zH), P v g → zW mX10_appeal X dep bc bs 239 63 [(0, xR 0), (1, xI l), (2, xI m), (3, xI d)] [xR v, xI x] g Q) : zW mX10_appeal X dep bc bs 239 60 [(0, xR 0), (1, xI l), (2, xI m), (3, xI d)] [xI (h 0 10), xI l, xR 0, xI x] h Q :=
  z_invQR (ci := 10) (N := 17) (as := [xI l, xI (h 0 10)]) (st := [xI x]) (ra := [xI (h 0 10), xI l]) hZ dX10_appeal_60 nX10_lawFor zb_869 zb_871 zb_21 zb_82 (zOb.lit (by decide +kernel)) rfl (by omega) (Nat.le_of_ble_eq_true rfl) (Nat.le_of_ble_eq_true rfl) rfl (fun v g hg => k v g hg)

set_option maxRecDepth 20000 in
theorem bX10_appeal_63 {X : zX} {dep bc bs : Nat} (l : Int) (m : Int) (d : Int) (x : Int) (L : Int) {h : zH} {Q : Nat → zH → List zV → Prop} (hL : zLawO L)
    (k1 : x ≤ (h L 4) → zW mX10_appeal X dep bc bs 239 74 [(0, xR 0), (1, xI l), (2, xI m), (3, xI d)] [xI d, xI l, xR 0] h Q)
    (k2 : ¬ (x ≤ (h L 4)) → Q 239 h [xI (-1)]) : zW mX10_appeal X dep bc bs 239 63 [(0, xR 0), (1, xI l), (2, xI m), (3, xI d)] [xR L, xI x] h Q := by
  refine z_getI (k := 4) (kz := 4) pk1 dX10_appeal_63 (by decide) zb_283 rfl hL.1 rfl ?_
  refine z_icmp_le (tgt := 71) dX10_appeal_66 (by decide) (fun c1 => ?_) (fun c1 => ?_)
  ·
    refine z_aload_n 0 dX10_appeal_71 rfl ?_
    refine z_iload_n 1 dX10_appeal_72 rfl ?_
    refine z_iload_n 3 dX10_appeal_73 rfl ?_
    exact k1 c1
  ·
    refine z_iconst dX10_appeal_69 (zi32_d rfl) ?_
    exact z_iret dX10_appeal_70 rfl (k2 c1)

set_option maxRecDepth 20000 in
theorem rX10_appeal_74 {X : zX} {dep bc bs : Nat} (l : Int) (m : Int) (d : Int) {h : zH} {Q : Nat → zH → List zV → Prop} {P : Int → zH → Prop}
    (hZ : zW mX10_rollAsOf X (dep - 1) 0 0 239 0 (zar 0 [xR 0, xI l, xI d]) [] h (zQR P)) (hdep : 1 ≤ dep)
    (k : ∀ (v : Int) (g : zH), P v g → zW mX10_appeal X dep bc bs 239 77 [(0, xR 0), (1, xI l), (2, xI m), (3, xI d)] [xR v] g Q) : zW mX10_appeal X dep bc bs 239 74 [(0, xR 0), (1, xI l), (2, xI m), (3, xI d)] [xI d, xI l, xR 0] h Q :=
  z_invQR (ci := 10) (N := 17) (as := [xI l, xI d]) (st := []) (ra := [xI d, xI l]) hZ dX10_appeal_74 nX10_rollAsOf zb_865 zb_867 zb_20 zb_82 (zOb.lit (by decide +kernel)) rfl (by omega) (Nat.le_of_ble_eq_true rfl) (Nat.le_of_ble_eq_true rfl) rfl (fun v g hg => k v g hg)

set_option maxRecDepth 20000 in
theorem bX10_appeal_77 {X : zX} {dep bc bs : Nat} (l : Int) (m : Int) (d : Int) {h : zH} {Q : Nat → zH → List zV → Prop} (hl : 0 ≤ l ∧ l < 4) (hm : 0 ≤ m ∧ m < 60)
    (k1 : zW mX10_appeal X dep bc bs 239 99 [(4, xI (if (h ((113 + 14 * l) + 5) m) = 5 then 1 else 0 : Int)), (0, xR 0), (1, xI l), (2, xI m), (3, xI d)] [xI (h 0 10), xI l, xR 0] h Q) : zW mX10_appeal X dep bc bs 239 77 [(0, xR 0), (1, xI l), (2, xI m), (3, xI d)] [xR (113 + 14 * l)] h Q := by
  refine z_getS (v := ((113 + 14 * l) + 5)) (k := 3) (kz := 3) pk6 dX10_appeal_77 (by decide) zb_415 rfl (zRollO_rolls hl.1 hl.2).1 rfl (zRollO_rolls hl.1 hl.2).2.2.2.2.2.2.2.2.2.2.2.2.2.2.2.2.1 ?_
  refine z_iload_n 2 dX10_appeal_80 rfl ?_
  refine z_iald dX10_appeal_81 (zRollO_rolls hl.1 hl.2).2.2.2.2.2.1 hm.1 hm.2 ?_
  refine z_iconst dX10_appeal_82 (zi32_d rfl) ?_
  suffices KJ : zW mX10_appeal X dep bc bs 239 91 [(0, xR 0), (1, xI l), (2, xI m), (3, xI d)] [xI (if (h ((113 + 14 * l) + 5) m) = 5 then 1 else 0 : Int)] h Q by
    refine z_icmp_ne (tgt := 90) dX10_appeal_83 (by decide) (fun j1 => ?_) (fun j1 => ?_)
    ·
      refine z_iconst dX10_appeal_90 (zi32_d rfl) ?_
      rw [if_neg j1] at KJ
      exact KJ
    ·
      refine z_iconst dX10_appeal_86 (zi32_d rfl) ?_
      refine z_goto (tgt := 91) dX10_appeal_87 (by decide) ?_
      rw [if_pos j1] at KJ
      exact KJ
  refine z_istore (lv' := [(4, xI (if (h ((113 + 14 * l) + 5) m) = 5 then 1 else 0 : Int)), (0, xR 0), (1, xI l), (2, xI m), (3, xI d)]) dX10_appeal_91 (by decide) rfl ?_
  refine z_aload_n 1 dX10_appeal_93 rfl ?_
  refine z_iload_n 2 dX10_appeal_94 rfl ?_
  refine z_aload_n 1 dX10_appeal_95 rfl ?_
  refine z_getI (k := 10) (kz := 10) pk10 dX10_appeal_96 (by decide) zb_467 rfl (zOb.lit (by decide +kernel)) rfl ?_
  exact k1

set_option maxRecDepth 20000 in
theorem rX10_appeal_99 {X : zX} {dep bc bs : Nat} (l : Int) (m : Int) (d : Int) (y : Int) {h : zH} {Q : Nat → zH → List zV → Prop} {P : Int → zH → Prop}
    (hZ : zW mX10_rollAsOf X (dep - 1) 0 0 239 0 (zar 0 [xR 0, xI l, xI (h 0 10)]) [] h (zQR P)) (hdep : 1 ≤ dep)
    (k : ∀ (v : Int) (g : zH), P v g → zW mX10_appeal X dep bc bs 239 102 [(0, xR 0), (1, xI l), (2, xI m), (3, xI d), (4, xI y)] [xR v] g Q) : zW mX10_appeal X dep bc bs 239 99 [(0, xR 0), (1, xI l), (2, xI m), (3, xI d), (4, xI y)] [xI (h 0 10), xI l, xR 0] h Q :=
  z_invQR (ci := 10) (N := 17) (as := [xI l, xI (h 0 10)]) (st := []) (ra := [xI (h 0 10), xI l]) hZ dX10_appeal_99 nX10_rollAsOf zb_865 zb_867 zb_20 zb_82 (zOb.lit (by decide +kernel)) rfl (by omega) (Nat.le_of_ble_eq_true rfl) (Nat.le_of_ble_eq_true rfl) rfl (fun v g hg => k v g hg)

set_option maxRecDepth 20000 in
theorem bX10_appeal_102 {X : zX} {dep bc bs : Nat} (l : Int) (m : Int) (d : Int) (y : Int) {h : zH} {Q : Nat → zH → List zV → Prop} (hl : 0 ≤ l ∧ l < 4) (hm : 0 ≤ m ∧ m < 60) (ha : 0 ≤ h 0 15 ∧ h 0 15 ≤ 60) (hh : 0 ≤ h 0 16 ∧ h 0 16 ≤ 60)
    (k1 : y = 0 → Q 239 (zst h 0 15 ((h 0 15) + 1)) [xI 0])
    (k2 : ¬ (y = 0) → (if (h ((113 + 14 * l) + 5) m) = 5 then 1 else 0 : Int) = 0 → Q 239 (zst (zst h 0 15 ((h 0 15) + 1)) 0 16 ((h 0 16) + 1)) [xI 1])
    (k3 : ¬ (y = 0) → ¬ ((if (h ((113 + 14 * l) + 5) m) = 5 then 1 else 0 : Int) = 0) → Q 239 (zst h 0 15 ((h 0 15) + 1)) [xI 0]) : zW mX10_appeal X dep bc bs 239 102 [(0, xR 0), (1, xI l), (2, xI m), (3, xI d), (4, xI y)] [xR (113 + 14 * l)] h Q := by
  refine z_getS (v := ((113 + 14 * l) + 5)) (k := 3) (kz := 3) pk6 dX10_appeal_102 (by decide) zb_415 rfl (zRollO_rolls hl.1 hl.2).1 rfl (zRollO_rolls hl.1 hl.2).2.2.2.2.2.2.2.2.2.2.2.2.2.2.2.2.1 ?_
  refine z_iload_n 2 dX10_appeal_105 rfl ?_
  refine z_iald dX10_appeal_106 (zRollO_rolls hl.1 hl.2).2.2.2.2.2.1 hm.1 hm.2 ?_
  refine z_iconst dX10_appeal_107 (zi32_d rfl) ?_
  suffices KJ : zW mX10_appeal X dep bc bs 239 116 [(0, xR 0), (1, xI l), (2, xI m), (3, xI d), (4, xI y)] [xI (if (h ((113 + 14 * l) + 5) m) = 5 then 1 else 0 : Int)] h Q by
    refine z_icmp_ne (tgt := 115) dX10_appeal_108 (by decide) (fun j1 => ?_) (fun j1 => ?_)
    ·
      refine z_iconst dX10_appeal_115 (zi32_d rfl) ?_
      rw [if_neg j1] at KJ
      exact KJ
    ·
      refine z_iconst dX10_appeal_111 (zi32_d rfl) ?_
      refine z_goto (tgt := 116) dX10_appeal_112 (by decide) ?_
      rw [if_pos j1] at KJ
      exact KJ
  refine z_istore (lv' := [(5, xI (if (h ((113 + 14 * l) + 5) m) = 5 then 1 else 0 : Int)), (0, xR 0), (1, xI l), (2, xI m), (3, xI d), (4, xI y)]) dX10_appeal_116 (by decide) rfl ?_
  refine z_aload_n 1 dX10_appeal_118 rfl ?_
  refine z_dup dX10_appeal_119 zt2 ?_
  refine z_getI (k := 15) (kz := 15) pk10 dX10_appeal_120 (by decide) zb_472 rfl (zOb.lit (by decide +kernel)) rfl ?_
  refine z_iconst dX10_appeal_123 (zi32_d rfl) ?_
  refine z_iaddN dX10_appeal_124 (show -2147483648 ≤ (h 0 15) + 1 ∧ (h 0 15) + 1 < 2147483648 from ⟨by omega, by omega⟩).1 (show -2147483648 ≤ (h 0 15) + 1 ∧ (h 0 15) + 1 < 2147483648 from ⟨by omega, by omega⟩).2 ?_
  refine z_putI (k := 15) (kz := 15) pk10 dX10_appeal_125 (by decide) zb_472 rfl (zFit_int _) (zOb.lit (by decide +kernel)) rfl ?_
  refine z_iload 5 dX10_appeal_128 rfl ?_
  refine z_if_eq (tgt := 138) dX10_appeal_130 (by decide) (fun c1 => ?_) (fun c1 => ?_)
  ·
    refine z_iconst dX10_appeal_138 (zi32_d rfl) ?_
    exact z_iret dX10_appeal_139 rfl (k1 c1)
  ·
    refine z_iload 0 dX10_appeal_133 rfl ?_
    refine z_if_eq (tgt := 140) dX10_appeal_135 (by decide) (fun c2 => ?_) (fun c2 => ?_)
    ·
      refine z_aload_n 1 dX10_appeal_140 rfl ?_
      refine z_dup dX10_appeal_141 zt2 ?_
      refine z_getIV (v := (h 0 16)) (k := 16) (kz := 16) pk10 dX10_appeal_142 (by decide) zb_473 rfl (zOb.lit (by decide +kernel)) rfl (zst_ne (Or.inr (by decide))) ?_
      refine z_iconst dX10_appeal_145 (zi32_d rfl) ?_
      refine z_iaddN dX10_appeal_146 (show -2147483648 ≤ (h 0 16) + 1 ∧ (h 0 16) + 1 < 2147483648 from ⟨by omega, by omega⟩).1 (show -2147483648 ≤ (h 0 16) + 1 ∧ (h 0 16) + 1 < 2147483648 from ⟨by omega, by omega⟩).2 ?_
      refine z_putI (k := 16) (kz := 16) pk10 dX10_appeal_147 (by decide) zb_473 rfl (zFit_int _) (zOb.lit (by decide +kernel)) rfl ?_
      refine z_iconst dX10_appeal_150 (zi32_d rfl) ?_
      exact z_iret dX10_appeal_151 rfl (k2 c1 c2)
    ·
      refine z_iconst dX10_appeal_138 (zi32_d rfl) ?_
      exact z_iret dX10_appeal_139 rfl (k3 c1 c2)

def zmbs (h : zH) (o m : Int) : Prop := (h (o + 5) m = 1 ∨ h (o + 5) m = 4) ∧ h (o + 13) m = 0 ∧ h (o + 12) m = -1
def zfed (h : zH) (A O K a b c d e : Int) : zH := zput4 (zput4 (zput4 (zput4 (zput4 h A O K a) A O K b) A O K c) A O K d) A O K e
theorem zput4_len {h : zH} {A O K a : Int} (hn : A ≠ O) : zput4 h A O K a O K = h O K + 4 := by
  unfold zput4
  rw [zst_self]
theorem f_X10_feed {X : zX} {dep : Nat} (a b c d e : Int) {h : zH} (ht : 0 ≤ h 1 1 ∧ h 1 1 ≤ 340) (hdep : 1 ≤ dep) : zW mX10_feed X dep 0 0 239 0 (zar 0 [xR 0, xI a, xI b, xI c, xI d, xI e]) [] h
    (zQI (fun v g => h 1 1 + 20 ≤ 340 ∧ v = h 1 1 + 20 ∧ g = zfed h 2 1 1 a b c d e ∨ ¬ (h 1 1 + 20 ≤ 340) ∧ v = -1 ∧ g = h)) := by
  have pt : ∀ (g : zH) (x : Int), 0 ≤ g 1 1 ∧ g 1 1 ≤ 336 → zW mX7_put X (dep - 1) 0 0 239 0 (zar 0 [xR 1, xI x]) [] g (zQ0 (fun f => f = zput4 g 2 1 1 x)) := fun g x hg => (f_X7_put x hg).weaken (fun _ _ _ q => ⟨q.1, q.2.2, q.2.1⟩)
  have ln : ∀ (g : zH) (x : Int), zput4 g 2 1 1 x 1 1 = g 1 1 + 4 := fun g x => zput4_len (by omega)
  refine bX10_feed_0 a b c d e ht (fun c0 => ?_) (fun c0 => ?_)
  · refine rX10_feed_23 a b c d e (pt _ _ (by omega)) hdep (fun g hg => ?_)
    subst hg
    refine bX10_feed_26 a b c d e ?_
    refine rX10_feed_31 a b c d e (pt _ _ (by rw [ln]; omega)) hdep (fun g hg => ?_)
    subst hg
    refine bX10_feed_34 a b c d e ?_
    refine rX10_feed_39 a b c d e (pt _ _ (by rw [ln, ln]; omega)) hdep (fun g hg => ?_)
    subst hg
    refine bX10_feed_42 a b c d e ?_
    refine rX10_feed_48 a b c d e (pt _ _ (by rw [ln, ln, ln]; omega)) hdep (fun g hg => ?_)
    subst hg
    refine bX10_feed_51 a b c d e ?_
    refine rX10_feed_57 a b c d e (pt _ _ (by rw [ln, ln, ln, ln]; omega)) hdep (fun g hg => ?_)
    subst hg
    refine bX10_feed_60 a b c d e ?_
    refine ⟨rfl, _, rfl, Or.inl ⟨c0, ?_, rfl⟩⟩
    rw [ln, ln, ln, ln, ln]
    omega
  · exact ⟨rfl, _, rfl, Or.inr ⟨c0, rfl, rfl⟩⟩
/-- what the rolls that were drawn leave alone -/
theorem zRolls.lo {L : Int → Int} {g0 : zH} {f : Int} (hf : 0 ≤ f) : ∀ {k : Nat} {g : zH}, f + k ≤ 4 → zRolls L g0 f k g → ∀ q j : Int, q < 23 → g q j = g0 q j
  | 0, _, _, hg, q, j, hq => by
    rw [hg]
  | k + 1, g, hk, ⟨e, he, hd⟩, q, j, hq => by
    rw [hd.1.1 q j (by simp only [zDS]; omega), zRolls.lo hf (by omega) he q j hq]
theorem zRolled.last {h g : zH} {l t : Int} (hl : 0 ≤ l ∧ l < 4) (a : zRolled h l t g) : ∃ e, zDrawn e (113 + 14 * l) (zbest h l t (h 0 11).toNat) g ∧ ∃ g0, (zag [17, 18, 19, 20, 21, 22, 23] (zst h 3 9 t) g0 ∧ zLook h g0 (zknown h 13 t).toNat (zknown h 7 t).toNat (h 3 0).toNat) ∧ ∀ q j : Int, q < 23 → g q j = g0 q j := by
  obtain ⟨w, kg, g0, hg0, hr⟩ := a
  have key : ∀ f : Int, 0 ≤ f → f ≤ l → zRolls (fun j => zbest h j t (h 0 11).toNat) g0 f (l + 1 - f).toNat g → ∃ e, zDrawn e (113 + 14 * l) (zbest h l t (h 0 11).toNat) g ∧ ∃ g0, (zag [17, 18, 19, 20, 21, 22, 23] (zst h 3 9 t) g0 ∧ zLook h g0 (zknown h 13 t).toNat (zknown h 7 t).toNat (h 3 0).toNat) ∧ ∀ q j : Int, q < 23 → g q j = g0 q j := by
    intro f f0 f1 hq
    have lo := zRolls.lo f0 (by omega) hq
    rw [show (l + 1 - f).toNat = (l - f).toNat + 1 by omega] at hq
    obtain ⟨e, he, hd⟩ := hq
    rw [show f + ((l - f).toNat : Int) = l by omega] at hd
    exact ⟨e, hd, g0, hg0, lo⟩
  by_cases c : h (zbest h l t (h 0 11).toNat) 5 = 0
  · rw [if_pos c] at hr
    exact key l hl.1 (Int.le_refl _) hr
  · rw [if_neg c] at hr
    exact key 0 (Int.le_refl _) hl.1 hr
theorem zRolled.lvOK {h g : zH} {l t : Int} (hl : 0 ≤ l ∧ l < 4) (a : zRolled h l t g) (h3 : 0 ≤ h 3 0 ∧ h 3 0 ≤ 60) (ht : 0 ≤ h 1 1 ∧ h 1 1 ≤ 340) (hT : zTold h) (hh : ∀ p w : Int, 0 ≤ p → p < 8 → 0 ≤ w → w < 12 → 0 ≤ h (46 + p) w ∧ h (46 + p) w ≤ 60) : zLvOK g (113 + 14 * l) := by
  obtain ⟨e, hd, g0, hg0, lo⟩ := a.last hl
  have e1 : ∀ q k : Int, q = 1 ∨ q = 2 ∨ 46 ≤ q ∧ q ≤ 53 → g q k = h q k := fun q k hq => a.2.1.1 q k (by simp only [zKS]; omega)
  have ez : ∀ i : Int, zat g i = zat h i := fun i => by
    unfold zat
    rw [e1 1 1 (by omega), e1 2 i (by omega)]
  refine ⟨by rw [e1 1 1 (by omega)]; exact ht, ?_, fun p p0 p1 => ⟨?_, ?_⟩, fun p w p0 p1 w0 w1 => by rw [e1 (46 + p) w (by omega)]; exact hh p w p0 p1 w0 w1⟩
  · unfold zTold
    simp only [e1 1 1 (by omega), ez]
    exact hT
  · rw [lo 22 p (by omega), hg0.2.2.2.2 p p0 p1]
    have := zcnt_in (fun m => zthere h (zknown h 13 t).toNat (zknown h 7 t).toNat m ∧ h 4 m = p) (h 3 0).toNat
    omega
  · rw [hd.2.2.2.2.1 p p0 p1]
    have g3 : g 3 0 = h 3 0 := a.2.1.2.1 0 (by omega)
    have rw1 := a.1.2.2.2.2.2.2.1 l hl.1 hl.2
    exact (zqr_in (fun q => zq0_in g (113 + 14 * l) q (by omega) rw1.2.2.1) _ p).1
theorem f_X10_leaves {X : zX} {dep : Nat} (l t : Int) {h : zH} (w : zBase h) (ht : 0 ≤ h 1 1 ∧ h 1 1 ≤ 340) (hh : ∀ p w : Int, 0 ≤ p → p < 8 → 0 ≤ w → w < 12 → 0 ≤ h (46 + p) w ∧ h (46 + p) w ≤ 60) (hdep : 6 ≤ dep) : zW mX10_leaves X dep 0 0 239 0 (zar 0 [xR 0, xI l, xI t]) [] h
    (zQI (fun v g => ((0 ≤ l ∧ l < h 0 12) ∧ zTold h) ∧ (∃ e f, zRolled h l t e ∧ zLv e (113 + 14 * l) 12 0 f ∧ v = (zlv (zcap e (113 + 14 * l)) (zto e) 12).2.2 ∧ g = zst f 1 1 0) ∨ ¬ ((0 ≤ l ∧ l < h 0 12) ∧ zTold h) ∧ v = -1 ∧ g = zst h 1 1 0)) := by
  have h12 := w.2.2.2.2.2.2.2.2
  refine bX10_leaves_0 l t ht (by omega) (fun c => ?_) (fun c c1 => ?_) (fun c c1 => ?_)
  · refine bX10_leaves_62 (-1) ?_
    exact ⟨rfl, _, rfl, Or.inr ⟨fun z => c z.1, rfl, rfl⟩⟩
  · refine bX10_leaves_62 (-1) ?_
    exact ⟨rfl, _, rfl, Or.inr ⟨fun z => c1 z.2, rfl, rfl⟩⟩
  · refine zW.sub (lv' := [(0, xR 0), (1, xI l), (2, xI t)]) [2, 3, 4] rfl ?_
    refine rX10_leaves_46 l t (f_X10_rollAsOf l t (by omega) w (by omega)) (by omega) (fun v e he => ?_)
    obtain ⟨rfl, he⟩ := he
    refine zW.sub (lv' := [(0, xR 0)]) [0] rfl ?_
    refine rX10_leaves_49 l (by omega) (f_X0_leave _ (zRollO_rolls (by omega) (by omega)) (by omega) (he.lvOK (by omega) w.1.1 ht c1 hh) (by omega)) (by omega) (fun v f hf => ?_)
    refine bX10_leaves_52 v ?_
    refine bX10_leaves_62 _ ?_
    refine ⟨rfl, _, rfl, Or.inl ⟨⟨c, c1⟩, e, f, he, hf.2, ?_, rfl⟩⟩
    have := zlv_c (zcap e (113 + 14 * l)) (zto e) 12
    rw [← hf.1] at this ⊢
    rcases this with q | q
    · rw [q]; rfl
    · rw [q]; rfl
theorem zbest_ok {h g : zH} (a : zKept h g) (w : zBase g) (l t : Int) : (zLawOK g (zbest h l t (h 0 11).toNat) ∧ zClsOK g (zbest h l t (h 0 11).toNat)) ∧ zLawO (zbest h l t (h 0 11).toNat) ∧ 30 ≤ zbest h l t (h 0 11).toNat ∧ zbest h l t (h 0 11).toNat ≤ 107 := by
  have e11 := a.1 0 11 (by simp only [zKS]; omega)
  have hn := w.2.2.2.2.2.2.2.1
  refine ⟨?_, zbest_O h l t (by omega)⟩
  rcases zbest_is h l t (h 0 11).toNat with e | ⟨i, e1, e2, e3⟩
  · rw [e]; exact w.2.2.2.2.2.1
  · rw [e3]; exact w.2.2.2.2.1 i e1 (by omega)
theorem f_X10_send {X : zX} {dep : Nat} (l a b : Int) {h : zH} (w : zBase h) (hs : h 15 1 = 60) (hdep : 6 ≤ dep) : zW mX10_send X dep 0 0 239 0 (zar 0 [xR 0, xI l, xI a, xI b]) [] h
    (zQI (fun v g => ((0 ≤ l ∧ l < h 0 12) ∧ (0 ≤ a ∧ a < h 3 0) ∧ (0 ≤ b ∧ b < h 3 0) ∧ h (113 + 14 * l + 1) 0 ≤ h 0 10) ∧ (∃ e, zRolled h l (h 0 10) e ∧ ((zmay e (113 + 14 * l) (zbest h l (h 0 10) (h 0 11).toNat) a ∧ zmbs e (113 + 14 * l) b) ∧ v = zb (e 15 2 < e 15 1) ∧ g = zaddr e 15 (h 0 10) l a b 0 0 ∨ ¬ (zmay e (113 + 14 * l) (zbest h l (h 0 10) (h 0 11).toNat) a ∧ zmbs e (113 + 14 * l) b) ∧ v = 0 ∧ g = e)) ∨
      ¬ ((0 ≤ l ∧ l < h 0 12) ∧ (0 ≤ a ∧ a < h 3 0) ∧ (0 ≤ b ∧ b < h 3 0) ∧ h (113 + 14 * l + 1) 0 ≤ h 0 10) ∧ v = 0 ∧ g = h)) := by
  have h12 := w.2.2.2.2.2.2.2.2
  have h3 := w.1.1
  have h11 := w.2.2.2.2.2.2.2.1
  refine bX10_send_0 l a b h12.2 (by omega) (fun c => ?_) (fun c c1 => ?_) (fun c c1 c2 => ?_) (fun c c1 c2 c3 => ?_) (fun c c1 c2 c3 => ?_)
  · exact ⟨rfl, _, rfl, Or.inr ⟨fun z => c z.1, rfl, rfl⟩⟩
  · exact ⟨rfl, _, rfl, Or.inr ⟨fun z => c1 z.2.1, rfl, rfl⟩⟩
  · exact ⟨rfl, _, rfl, Or.inr ⟨fun z => c2 z.2.2.1, rfl, rfl⟩⟩
  · refine rX10_send_51 l a b (f_X10_rollAsOf l (h 0 10) (by omega) w (by omega)) (by omega) (fun v e he => ?_)
    obtain ⟨rfl, he⟩ := he
    have e10 : e 0 10 = h 0 10 := he.2.1.1 0 10 (by simp only [zKS]; omega)
    have e11 : e 0 11 = h 0 11 := he.2.1.1 0 11 (by simp only [zKS]; omega)
    have bo := zbest_ok he.2.1 he.1 l (h 0 10)
    have hO : zRollO (113 + 14 * l) := zRollO_rolls (by omega) (by omega)
    refine bX10_send_54 l a b (by omega) ?_
    refine zW.sub (lv' := [(0, xR 0), (1, xI l), (2, xI a), (3, xI b), (4, xR (113 + 14 * l))]) [1, 2, 3, 4, 0] rfl ?_
    refine rX10_send_65 l a b (P := fun v f => v = zbest h l (h 0 10) (h 0 11).toNat ∧ e = f) ((f_X10_lawFor l (e 0 10) he.1.2.2.2.2.2.2.2.1 (by omega)).weaken (fun _ _ _ q => ?_)) (by omega) (fun v f hf => ?_)
    · refine ⟨q.1, _, q.2.2, ?_, q.2.1.symm⟩
      rw [e10, e11]
      exact zbest_K he.2.1 (by omega) (by omega)
    obtain ⟨rfl, rfl⟩ := hf
    refine rX10_send_68 l a b _ (by omega) (P := fun v f => v = zb (zmay e (113 + 14 * l) (zbest h l (h 0 10) (h 0 11).toNat) a) ∧ e = f) ((f_X6_maySend _ a _ hO (by omega) bo.2.1 bo.2.2 (by omega) bo.1.1 (by omega)).weaken (fun _ _ _ q => ⟨q.1, _, q.2.2, rfl, q.2.1.symm⟩)) (by omega) (fun v f hf => ?_)
    obtain ⟨rfl, rfl⟩ := hf
    refine bX10_send_71 l a b _ (by omega) (fun c4 => ?_) (fun c4 => ?_)
    · refine ⟨rfl, _, rfl, Or.inl ⟨⟨c, c1, c2, c3⟩, e, he, Or.inr ⟨fun z => ?_, rfl, rfl⟩⟩⟩
      rw [zb_t z.1] at c4
      exact absurd c4 (by decide)
    · have m1 : zmay e (113 + 14 * l) (zbest h l (h 0 10) (h 0 11).toNat) a := Classical.byContradiction fun z => c4 (zb_f z)
      refine rX10_send_77 l a b (by omega) (P := fun v f => v = zb (zmbs e (113 + 14 * l) b) ∧ e = f) ((f_X6_mayBeSent _ b hO (by omega)).weaken (fun _ _ _ q => ⟨q.1, _, q.2.2, rfl, q.2.1.symm⟩)) (by omega) (fun v f hf => ?_)
      obtain ⟨rfl, rfl⟩ := hf
      refine bX10_send_80 l a b _ (by omega) (fun c5 => ?_) (fun c5 => ?_)
      · have m2 : zmbs e (113 + 14 * l) b := Classical.byContradiction fun z => c5 (zb_f z)
        have e15 : e 15 1 = 60 := (he.2.1.1 15 1 (by simp only [zKS]; omega)).trans hs
        have s15 := he.1.2.2.2.1.2.2.1
        refine rX10_send_101 l a b (P := fun v f => v = zb (e 15 2 < e 15 1) ∧ f = zaddr e 15 (h 0 10) l a b 0 0) ((f_X2_add (N := 360) 15 (e 0 10) l a b 0 0 zLedO_15 (by omega)).weaken (fun _ _ _ q => ⟨q.1, _, q.2.2, rfl, by rw [q.2.1, e10]⟩)) (by omega) (fun v f hf => ?_)
        obtain ⟨rfl, rfl⟩ := hf
        refine bX10_send_104 l a b _ (zb01 _) ?_
        exact ⟨rfl, _, rfl, Or.inl ⟨⟨c, c1, c2, c3⟩, e, he, Or.inl ⟨⟨m1, m2⟩, rfl, rfl⟩⟩⟩
      · refine ⟨rfl, _, rfl, Or.inl ⟨⟨c, c1, c2, c3⟩, e, he, Or.inr ⟨fun z => ?_, rfl, rfl⟩⟩⟩
        rw [zb_t z.2] at c5
        exact absurd c5 (by decide)
  · exact ⟨rfl, _, rfl, Or.inr ⟨fun z => c3 z.2.2.2, rfl, rfl⟩⟩
theorem l_X10_mended_21 {X : zX} {dep : Nat} {Q : Nat → zH → List zV → Prop} (l t z : Int) {h : zH} (hl : 0 ≤ l ∧ l < 4) (h3 : 0 ≤ h 3 0 ∧ h 3 0 ≤ 60)
    (kx : ∀ g : zH, zap (fun q => q = 63) h g → (∀ m : Int, 0 ≤ m → m < h 3 0 → g 63 m = if h (113 + 14 * l + 5) m = 5 then 1 else 0) → zW mX10_mended X dep 0 0 239 66 [(0, xR 0), (1, xI l), (3, xI t), (4, xI z), (5, xR (113 + 14 * l)), (6, xI (h 3 0))] [xI t, xI l, xR 0] g Q) :
    ∀ (k j : Nat) (g : zH), (j : Int) + k = h 3 0 → zap (fun q => q = 63) h g → (∀ m : Int, 0 ≤ m → m < j → g 63 m = if h (113 + 14 * l + 5) m = 5 then 1 else 0) → zW mX10_mended X dep 0 0 239 21 [(0, xR 0), (1, xI l), (3, xI t), (4, xI z), (5, xR (113 + 14 * l)), (6, xI j)] [] g Q := by
  intro k
  induction k with
  | zero =>
    intro j g hk a b
    have e3 : g 3 0 = h 3 0 := a 3 0 (by omega)
    refine bX10_mended_21 l t z j hl (by omega) (by omega) (fun c => ?_) (fun c => absurd (by omega) c)
    have := kx g a (fun m m0 m1 => b m m0 (by omega))
    rw [show (h 3 0 : Int) = (j : Int) by omega] at this
    exact this
  | succ k ih =>
    intro j g hk a b
    have e3 : g 3 0 = h 3 0 := a 3 0 (by omega)
    refine bX10_mended_21 l t z j hl (by omega) (by omega) (fun c => absurd c (by omega)) (fun c => ?_)
    have e5 : g (113 + 14 * l + 5) j = h (113 + 14 * l + 5) j := a _ _ (by omega)
    rw [e5]
    refine ih (j + 1) _ (by omega) (a.st rfl _ _) (fun m m0 m1 => ?_)
    by_cases c2 : m = j
    · rw [c2, zst_self]
    · rw [zst_ne (Or.inr c2)]
      exact b m m0 (by omega)
/-- the mended list: who is called by one list and not by the other -/
def zMdd (C : Int → Prop) (h : zH) (n : Nat) (g : zH) : Prop := zap (fun q => q = 0 ∨ q = 64) h g ∧ (∀ k : Int, k ≠ 9 → g 0 k = h 0 k) ∧ g 0 9 = zcnt C n ∧ ∀ m : Int, 0 ≤ m → m < n → C m → g 64 (zcnt C m.toNat) = m
theorem zcnt_s (C : Int → Prop) (n : Nat) : zcnt C (n + 1) = zcnt C n + zb (C n) := rfl
theorem zcnt_mono (C : Int → Prop) : ∀ (a b : Nat), a ≤ b → zcnt C a ≤ zcnt C b
  | a, 0, h => by
    obtain rfl : a = 0 := by omega
    exact Int.le_refl _
  | a, b + 1, h => by
    by_cases c : a = b + 1
    · rw [c]; exact Int.le_refl _
    · have := zcnt_mono C a b (by omega)
      have q9 := zb01 (C b)
      rw [zcnt_s]
      omega
theorem l_X10_mended_79 {X : zX} {dep : Nat} (l z : Int) {h : zH} (hl : 0 ≤ l ∧ l < 4) (h3 : 0 ≤ h 3 0 ∧ h 3 0 ≤ 60) (hz : z = 0 ∨ z = 1) (hb : ∀ m : Int, 0 ≤ m → m < h 3 0 → h 63 m = 0 ∨ h 63 m = 1) :
    ∀ (k j : Nat) (g : zH), (j : Int) + k = h 3 0 → zMdd (fun m => if z = 0 then h (113 + 14 * l + 5) m = 5 ∧ h 63 m = 0 else h (113 + 14 * l + 5) m ≠ 5 ∧ h 63 m = 1) h j g → zW mX10_mended X dep 0 0 239 79 [(0, xR 0), (4, xI z), (5, xR (113 + 14 * l)), (6, xI j)] [] g
      (zQI (fun v g => v = zcnt (fun m => if z = 0 then h (113 + 14 * l + 5) m = 5 ∧ h 63 m = 0 else h (113 + 14 * l + 5) m ≠ 5 ∧ h 63 m = 1) (h 3 0).toNat ∧ zMdd (fun m => if z = 0 then h (113 + 14 * l + 5) m = 5 ∧ h 63 m = 0 else h (113 + 14 * l + 5) m ≠ 5 ∧ h 63 m = 1) h (h 3 0).toNat g)) := by
  intro k
  induction k with
  | zero =>
    intro j g hk a
    have e3 : g 3 0 = h 3 0 := a.1 3 0 (by omega)
    have ci := zcnt_in (fun m => if z = 0 then h (113 + 14 * l + 5) m = 5 ∧ h 63 m = 0 else h (113 + 14 * l + 5) m ≠ 5 ∧ h 63 m = 1) j
    have e9 := a.2.2.1
    refine bX10_mended_79 l z j hl (by omega) (by omega) (by omega) (fun c => ?_) (fun c => absurd (by omega) c) (fun c => absurd (by omega) c) (fun c => absurd (by omega) c)
    refine ⟨rfl, _, rfl, ?_, ?_⟩
    · rw [show (h 3 0).toNat = j by omega]
      exact e9
    · rw [show (h 3 0).toNat = j by omega]
      exact a
  | succ k ih =>
    intro j g hk a
    have e3 : g 3 0 = h 3 0 := a.1 3 0 (by omega)
    have ci := zcnt_in (fun m => if z = 0 then h (113 + 14 * l + 5) m = 5 ∧ h 63 m = 0 else h (113 + 14 * l + 5) m ≠ 5 ∧ h 63 m = 1) j
    have e9 := a.2.2.1
    have e5 : g (113 + 14 * l + 5) j = h (113 + 14 * l + 5) j := a.1 _ _ (by omega)
    have e63 : g 63 j = h 63 j := a.1 _ _ (by omega)
    have b1 := hb j (by omega) (by omega)
    have no : ∀ f : zH, f = g → ¬ (if z = 0 then h (113 + 14 * l + 5) j = 5 ∧ h 63 j = 0 else h (113 + 14 * l + 5) j ≠ 5 ∧ h 63 j = 1) → zMdd (fun m => if z = 0 then h (113 + 14 * l + 5) m = 5 ∧ h 63 m = 0 else h (113 + 14 * l + 5) m ≠ 5 ∧ h 63 m = 1) h (j + 1) f := by
      rintro f rfl hn
      refine ⟨a.1, a.2.1, ?_, fun m m0 m1 hm => ?_⟩
      · rw [zcnt_s, zb_f hn, e9]
        omega
      · by_cases c2 : m = j
        · exact absurd (c2 ▸ hm) hn
        · exact a.2.2.2 m m0 (by omega) hm
    refine bX10_mended_79 l z j hl (by omega) (by omega) (by omega) (fun c => absurd c (by omega)) (fun c c1 => ?_) (fun c c1 c2 => ?_) (fun c c1 c2 => ?_)
    · refine ih (j + 1) g (by omega) (no g rfl ?_)
      rw [e5, e63] at c1
      split at c1 <;> split <;> omega
    · refine ih (j + 1) g (by omega) (no g rfl ?_)
      rw [e5, e63] at c1
      rw [e5] at c2
      split at c1 <;> split <;> omega
    · have yes : (if z = 0 then h (113 + 14 * l + 5) j = 5 ∧ h 63 j = 0 else h (113 + 14 * l + 5) j ≠ 5 ∧ h 63 j = 1) := by
        rw [e5, e63] at c1
        rw [e5] at c2
        split at c1 <;> split <;> omega
      refine ih (j + 1) _ (by omega) ⟨(a.1.st (Or.inr rfl) _ _).st (Or.inl rfl) _ _, fun q hq => ?_, ?_, fun m m0 m1 hm => ?_⟩
      · rw [zst_ne (Or.inr hq), zst_ne (Or.inl (by omega))]
        exact a.2.1 q hq
      · rw [zst_self, zcnt_s, zb_t yes, e9]
      · rw [zst_ne (Or.inl (by omega))]
        by_cases c2 : m = j
        · subst c2
          rw [Int.toNat_natCast, e9, zst_self]
        · have mm := zcnt_mono (fun m => if z = 0 then h (113 + 14 * l + 5) m = 5 ∧ h 63 m = 0 else h (113 + 14 * l + 5) m ≠ 5 ∧ h 63 m = 1) (m.toNat + 1) j (by omega)
          rw [zcnt_s, zb_t (show _ from by rw [Int.toNat_of_nonneg m0]; exact hm)] at mm
          rw [zst_ne (Or.inr (by omega))]
          exact a.2.2.2 m m0 (by omega) hm
theorem zBase.oth {S : Int → Prop} {h g : zH} (w : zBase h) (a : zap S h g) (n : ∀ q : Int, 3 ≤ q ∧ q ≤ 16 ∨ 36 ≤ q ∧ q ≤ 41 ∨ 65 ≤ q ∧ q ≤ 168 → ¬ S q) (e11 : g 0 11 = h 0 11) (e12 : g 0 12 = h 0 12) : zBase g := by
  obtain ⟨w1, w2, w3, ⟨w4, w5, w6⟩, w7, w8, w9, w10, w11⟩ := w
  have e3 : g 3 0 = h 3 0 := a 3 0 (n 3 (by omega))
  refine ⟨?_, ?_, ?_, ⟨?_, ?_, ?_⟩, fun i i0 i1 => ?_, ?_, fun l l0 l1 => ?_, ?_, ?_⟩
  · unfold zMenOK
    simp only [e3, a 4 _ (n 4 (by omega)), a 5 _ (n 5 (by omega)), a 6 _ (n 6 (by omega))]
    exact w1
  · unfold zSameOK
    simp only [e3, a 13 _ (n 13 (by omega)), zget_ap a (n 13 (by omega)) (n (13 + 1) (by omega))]
    exact w2
  · unfold zBirthOK
    simp only [e3, a 7 _ (n 7 (by omega)), zget_ap a (n 7 (by omega)) (n (7 + 1) (by omega))]
    exact w3
  · unfold zFactOK
    simp only [e3, a 9 _ (n 9 (by omega)), zget_ap a (n 9 (by omega)) (n (9 + 1) (by omega))]
    exact w4
  · unfold zExamOK
    simp only [e3, a 11 _ (n 11 (by omega)), zget_ap a (n 11 (by omega)) (n (11 + 1) (by omega))]
    exact w5
  · unfold zSendOK
    simp only [e3, a 15 _ (n 15 (by omega)), zget_ap a (n 15 (by omega)) (n (15 + 1) (by omega))]
    exact w6
  · rw [e11] at i1
    exact ⟨zLawOK_ap a (n _ (by omega)) (n _ (by omega)) (n _ (by omega)) (w7 i i0 i1).1, zClsOK_ap a (n _ (by omega)) (n _ (by omega)) (n _ (by omega)) (w7 i i0 i1).2⟩
  · exact ⟨zLawOK_ap a (n _ (by omega)) (n _ (by omega)) (n _ (by omega)) w8.1, zClsOK_ap a (n _ (by omega)) (n _ (by omega)) (n _ (by omega)) w8.2⟩
  · exact (w9 l l0 l1).ap a (n _ (by omega)) (n _ (by omega)) (n _ (by omega)) (fun q q0 q1 => by rw [a _ q (n _ (by omega))]; exact (w9 l l0 l1).2.2.2 q q0 q1)
  · rw [e11]; exact w10
  · rw [e12]; exact w11
theorem f_X10_mended {X : zX} {dep : Nat} (l s t z : Int) {h : zH} (w : zBase h) (hz : z = 0 ∨ z = 1) (hdep : 6 ≤ dep) : zW mX10_mended X dep 0 0 239 0 (zar 0 [xR 0, xI l, xI s, xI t, xI z]) [] h
    (zQI (fun v g => (0 ≤ l ∧ l < h 0 12) ∧ (∃ e1 e2 e3, zRolled h l s e1 ∧ (zap (fun q => q = 63) e1 e2 ∧ ∀ m : Int, 0 ≤ m → m < h 3 0 → e2 63 m = if e1 (113 + 14 * l + 5) m = 5 then 1 else 0) ∧ zRolled e2 l t e3 ∧
        v = zcnt (fun m => if z = 0 then e3 (113 + 14 * l + 5) m = 5 ∧ e3 63 m = 0 else e3 (113 + 14 * l + 5) m ≠ 5 ∧ e3 63 m = 1) (h 3 0).toNat ∧ zMdd (fun m => if z = 0 then e3 (113 + 14 * l + 5) m = 5 ∧ e3 63 m = 0 else e3 (113 + 14 * l + 5) m ≠ 5 ∧ e3 63 m = 1) e3 (h 3 0).toNat g) ∨
      ¬ (0 ≤ l ∧ l < h 0 12) ∧ v = -1 ∧ g = h)) := by
  have h12 := w.2.2.2.2.2.2.2.2
  have h3 := w.1.1
  refine bX10_mended_0 l s t z (by omega) (fun c => ?_) (fun c => ?_)
  · refine rX10_mended_13 l s t z (f_X10_rollAsOf l s (by omega) w (by omega)) (by omega) (fun v e1 he1 => ?_)
    obtain ⟨rfl, he1⟩ := he1
    have e3 : e1 3 0 = h 3 0 := he1.2.1.2.1 0 (by omega)
    refine bX10_mended_16 l s t z (by omega) ?_
    refine l_X10_mended_21 l t z (by omega) (by omega) (fun e2 a2 b2 => ?_) (h 3 0).toNat 0 e1 (by omega) (zap.rf _ e1) (fun m m0 m1 => by omega)
    have w2 : zBase e2 := he1.1.oth a2 (fun q hq => by omega) (a2 0 11 (by omega)) (a2 0 12 (by omega))
    refine rX10_mended_66 l t z _ (f_X10_rollAsOf l t (by omega) w2 (by omega)) (by omega) (fun v e4 he4 => ?_)
    obtain ⟨rfl, he4⟩ := he4
    have e33 : e4 3 0 = h 3 0 := (he4.2.1.2.1 0 (by omega)).trans ((a2 3 0 (by omega)).trans e3)
    have e63 : ∀ m : Int, e4 63 m = e2 63 m := fun m => he4.2.1.1 63 m (by simp only [zKS]; omega)
    refine bX10_mended_69 l t z _ (by omega) ?_
    have hb : ∀ m : Int, 0 ≤ m → m < e4 3 0 → e4 63 m = 0 ∨ e4 63 m = 1 := fun m m0 m1 => by
      rw [e63, b2 m m0 (by omega)]
      split
      · exact Or.inr rfl
      · exact Or.inl rfl
    have go := l_X10_mended_79 (X := X) (dep := dep) l z (h := e4) (by omega) (by omega) hz hb (h 3 0).toNat 0 (zst e4 0 9 0) (by omega) ⟨(zap.rf _ e4).st (Or.inl rfl) _ _, fun k hk => zst_ne (Or.inr hk), zst_self _ _ _ _, fun m m0 m1 => by omega⟩
    refine go.weaken (fun _ g _ q => ?_)
    obtain ⟨q1, v, q2, q3, q4⟩ := q
    refine ⟨q1, v, q2, Or.inl ⟨c, e1, e2, e4, he1, ⟨a2, fun m m0 m1 => b2 m m0 (by omega)⟩, he4, ?_, ?_⟩⟩
    · rw [← e33]; exact q3
    · rw [← e33]; exact q4
  · exact ⟨rfl, _, rfl, Or.inr ⟨c, rfl, rfl⟩⟩
theorem f_X10_appeal {X : zX} {dep : Nat} (l m : Int) {h : zH} (w : zBase h) (hd : 0 ≤ h 0 10 ∧ h 0 10 ≤ 3639) (ha : 0 ≤ h 0 15 ∧ h 0 15 ≤ 60) (hh : 0 ≤ h 0 16 ∧ h 0 16 ≤ 60) (hdep : 6 ≤ dep) : zW mX10_appeal X dep 0 0 239 0 (zar 0 [xR 0, xI l, xI m]) [] h
    (zQI (fun v g => ((0 ≤ l ∧ l < h 0 12) ∧ (0 ≤ m ∧ m < h 3 0) ∧ h 0 15 < 60 ∧ h (113 + 14 * l + 1) 0 ≤ h 0 10 ∧ h 0 10 - h (113 + 14 * l + 1) 0 ≤ h (zbest h l (h 0 10) (h 0 11).toNat) 4) ∧ (∃ e1 e2, zRolled h l (h (113 + 14 * l + 1) 0) e1 ∧ zRolled e1 l (h 0 10) e2 ∧
        ((e1 (113 + 14 * l + 5) m = 5 ∧ e2 (113 + 14 * l + 5) m ≠ 5) ∧ v = 1 ∧ g = zst (zst e2 0 15 (h 0 15 + 1)) 0 16 (h 0 16 + 1) ∨ ¬ (e1 (113 + 14 * l + 5) m = 5 ∧ e2 (113 + 14 * l + 5) m ≠ 5) ∧ v = 0 ∧ g = zst e2 0 15 (h 0 15 + 1))) ∨
      ¬ ((0 ≤ l ∧ l < h 0 12) ∧ (0 ≤ m ∧ m < h 3 0) ∧ h 0 15 < 60 ∧ h (113 + 14 * l + 1) 0 ≤ h 0 10 ∧ h 0 10 - h (113 + 14 * l + 1) 0 ≤ h (zbest h l (h 0 10) (h 0 11).toNat) 4) ∧ v = -1 ∧ g = h)) := by
  have h12 := w.2.2.2.2.2.2.2.2
  have h3 := w.1.1
  have h11 := w.2.2.2.2.2.2.2.1
  refine bX10_appeal_0 l m h12.2 hd (fun l0 l1 => (w.2.2.2.2.2.2.1 l l0 l1).2.1) (by omega) (fun c => ?_) (fun c c1 => ?_) (fun c c1 c2 c3 => ?_) (fun c c1 c2 c3 => ?_) (fun c c1 c2 => ?_)
  · exact ⟨rfl, _, rfl, Or.inr ⟨fun z => c z.1, rfl, rfl⟩⟩
  · exact ⟨rfl, _, rfl, Or.inr ⟨fun z => c1 z.2.1, rfl, rfl⟩⟩
  · exact ⟨rfl, _, rfl, Or.inr ⟨fun z => by omega, rfl, rfl⟩⟩
  · refine zW.sub (lv' := [(0, xR 0), (1, xI l), (2, xI m), (3, xI (h ((113 + 14 * l) + 1) 0))]) [1, 2, 3, 0] rfl ?_
    refine rX10_appeal_60 l m _ _ (P := fun v f => v = zbest h l (h 0 10) (h 0 11).toNat ∧ h = f) ((f_X10_lawFor l (h 0 10) h11 (by omega)).weaken (fun _ _ _ q => ⟨q.1, _, q.2.2, rfl, q.2.1.symm⟩)) (by omega) (fun v f hf => ?_)
    obtain ⟨rfl, rfl⟩ := hf
    have bo := zbest_ok (zKept.rf h) w l (h 0 10)
    refine bX10_appeal_63 l m _ _ _ bo.2.1 (fun c4 => ?_) (fun c4 => ?_)
    · refine rX10_appeal_74 l m _ (f_X10_rollAsOf l (h (113 + 14 * l + 1) 0) (by omega) w (by omega)) (by omega) (fun v e1 he1 => ?_)
      obtain ⟨rfl, he1⟩ := he1
      have e10 : e1 0 10 = h 0 10 := he1.2.1.1 0 10 (by simp only [zKS]; omega)
      refine bX10_appeal_77 l m _ (by omega) (by omega) ?_
      refine zW.sub (lv' := [(0, xR 0), (1, xI l), (2, xI m), (3, xI (h ((113 + 14 * l) + 1) 0)), (4, xI (if (e1 ((113 + 14 * l) + 5) m) = 5 then 1 else 0 : Int))]) [1, 2, 3, 4, 0] rfl ?_
      refine rX10_appeal_99 l m _ _ (f_X10_rollAsOf l (e1 0 10) (by omega) he1.1 (by omega)) (by omega) (fun v e2 he2 => ?_)
      obtain ⟨rfl, he2⟩ := he2
      rw [e10] at he2
      have f15 : e2 0 15 = h 0 15 := (he2.2.1.1 0 15 (by simp only [zKS]; omega)).trans (he1.2.1.1 0 15 (by simp only [zKS]; omega))
      have f16 : e2 0 16 = h 0 16 := (he2.2.1.1 0 16 (by simp only [zKS]; omega)).trans (he1.2.1.1 0 16 (by simp only [zKS]; omega))
      refine bX10_appeal_102 l m _ _ (by omega) (by omega) (by omega) (by omega) (fun c5 => ?_) (fun c5 c6 => ?_) (fun c5 c6 => ?_)
      · refine ⟨rfl, _, rfl, Or.inl ⟨⟨c, c1, c2, by omega, c4⟩, e1, e2, he1, he2, Or.inr ⟨fun z => ?_, rfl, by rw [f15]⟩⟩⟩
        rw [if_pos z.1] at c5
        exact absurd c5 (by decide)
      · refine ⟨rfl, _, rfl, Or.inl ⟨⟨c, c1, c2, by omega, c4⟩, e1, e2, he1, he2, Or.inl ⟨⟨?_, ?_⟩, rfl, by rw [f15, f16]⟩⟩⟩
        · exact Classical.byContradiction fun z => c5 (if_neg z)
        · intro z
          rw [if_pos z] at c6
          exact absurd c6 (by decide)
      · refine ⟨rfl, _, rfl, Or.inl ⟨⟨c, c1, c2, by omega, c4⟩, e1, e2, he1, he2, Or.inr ⟨fun z => c6 (if_neg z.2), rfl, by rw [f15]⟩⟩⟩
    · exact ⟨rfl, _, rfl, Or.inr ⟨fun z => c4 z.2.2.2.2, rfl, rfl⟩⟩
  · exact ⟨rfl, _, rfl, Or.inr ⟨fun z => by omega, rfl, rfl⟩⟩
