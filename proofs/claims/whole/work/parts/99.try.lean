/-! feeding, leaves, sending, mending, appeals -/
set_option maxRecDepth 20000 in
theorem bX10_feed_0 {X : zX} {dep bc bs : Nat} (a : Int) (b : Int) (c : Int) (d : Int) (e : Int) {h : zH} {Q : Nat → zH → List zV → Prop} (ht : 0 ≤ h 1 1 ∧ h 1 1 ≤ 340)
    (k1 : ((h 1 1) + 20) ≤ 340 → zW mX10_feed X dep bc bs 239 23 [(0, xR 0), (1, xI a), (2, xI b), (3, xI c), (4, xI d), (5, xI e)] [xI a, xR 1] h Q)
    (k2 : ¬ (((h 1 1) + 20) ≤ 340) → Q 239 h [xI (-1)]) : zW mX10_feed X dep bc bs 239 0 [(0, xR 0), (1, xI a), (2, xI b), (3, xI c), (4, xI d), (5, xI e)] [] h Q := by
  refine z_aload_n 0 dX10_feed_0 rfl ?_
  refine z_getS (v := 1) (k := 0) (kz := 0) pk10 dX10_feed_1 (by decide) zb_457 rfl (zOb.lit (by decide +kernel)) rfl (by decide +kernel) ?_
  refine z_getI (k := 1) (kz := 1) pk7 dX10_feed_4 (by decide) zb_122 rfl (zOb.lit (by decide +kernel)) rfl ?_
  refine z_bipush dX10_feed_7 (zi32_d rfl) (by decide) ?_
  refine z_iaddN dX10_feed_9 (show -2147483648 ≤ (h 1 1) + 20 ∧ (h 1 1) + 20 < 2147483648 from ⟨by omega, by omega⟩).1 (show -2147483648 ≤ (h 1 1) + 20 ∧ (h 1 1) + 20 < 2147483648 from ⟨by omega, by omega⟩).2 ?_
  refine z_sipush dX10_feed_10 (zi32_d rfl) (by decide) ?_
  refine z_icmp_le (tgt := 18) dX10_feed_13 (by decide) (fun c1 => ?_) (fun c1 => ?_)
  ·
    refine z_aload_n 0 dX10_feed_18 rfl ?_
    refine z_getS (v := 1) (k := 0) (kz := 0) pk10 dX10_feed_19 (by decide) zb_457 rfl (zOb.lit (by decide +kernel)) rfl (by decide +kernel) ?_
    refine z_iload_n 1 dX10_feed_22 rfl ?_
    exact k1 c1
  ·
    refine z_iconst dX10_feed_16 (zi32_d rfl) ?_
    exact z_iret dX10_feed_17 rfl (k2 c1)

set_option maxRecDepth 20000 in
theorem rX10_feed_23 {X : zX} {dep bc bs : Nat} (a : Int) (b : Int) (c : Int) (d : Int) (e : Int) {h : zH} {Q : Nat → zH → List zV → Prop} {P : zH → Prop}
    (hZ : zW mX7_put X (dep - 1) 0 0 239 0 (zar 0 [xR 1, xI a]) [] h (zQ0 P)) (hdep : 1 ≤ dep)
    (k : ∀ g : zH, P g → zW mX10_feed X dep bc bs 239 26 [(0, xR 0), (1, xI a), (2, xI b), (3, xI c), (4, xI d), (5, xI e)] [] g Q) : zW mX10_feed X dep bc bs 239 23 [(0, xR 0), (1, xI a), (2, xI b), (3, xI c), (4, xI d), (5, xI e)] [xI a, xR 1] h Q :=
  z_invQ0 (ci := 7) (N := 2) (as := [xI a]) (st := []) (ra := [xI a]) hZ dX10_feed_23 nX7_put zb_513 zb_514 zb_515 zb_83 (zOb.lit (by decide +kernel)) rfl (by omega) (Nat.le_of_ble_eq_true rfl) (Nat.le_of_ble_eq_true rfl) rfl (fun g hg => k g hg)

set_option maxRecDepth 20000 in
theorem bX10_feed_26 {X : zX} {dep bc bs : Nat} (a : Int) (b : Int) (c : Int) (d : Int) (e : Int) {h : zH} {Q : Nat → zH → List zV → Prop}
    (k1 : zW mX10_feed X dep bc bs 239 31 [(0, xR 0), (1, xI a), (2, xI b), (3, xI c), (4, xI d), (5, xI e)] [xI b, xR 1] h Q) : zW mX10_feed X dep bc bs 239 26 [(0, xR 0), (1, xI a), (2, xI b), (3, xI c), (4, xI d), (5, xI e)] [] h Q := by
  refine z_aload_n 0 dX10_feed_26 rfl ?_
  refine z_getS (v := 1) (k := 0) (kz := 0) pk10 dX10_feed_27 (by decide) zb_457 rfl (zOb.lit (by decide +kernel)) rfl (by decide +kernel) ?_
  refine z_iload_n 2 dX10_feed_30 rfl ?_
  exact k1

set_option maxRecDepth 20000 in
theorem rX10_feed_31 {X : zX} {dep bc bs : Nat} (a : Int) (b : Int) (c : Int) (d : Int) (e : Int) {h : zH} {Q : Nat → zH → List zV → Prop} {P : zH → Prop}
    (hZ : zW mX7_put X (dep - 1) 0 0 239 0 (zar 0 [xR 1, xI b]) [] h (zQ0 P)) (hdep : 1 ≤ dep)
    (k : ∀ g : zH, P g → zW mX10_feed X dep bc bs 239 34 [(0, xR 0), (1, xI a), (2, xI b), (3, xI c), (4, xI d), (5, xI e)] [] g Q) : zW mX10_feed X dep bc bs 239 31 [(0, xR 0), (1, xI a), (2, xI b), (3, xI c), (4, xI d), (5, xI e)] [xI b, xR 1] h Q :=
  z_invQ0 (ci := 7) (N := 2) (as := [xI b]) (st := []) (ra := [xI b]) hZ dX10_feed_31 nX7_put zb_513 zb_514 zb_515 zb_83 (zOb.lit (by decide +kernel)) rfl (by omega) (Nat.le_of_ble_eq_true rfl) (Nat.le_of_ble_eq_true rfl) rfl (fun g hg => k g hg)

set_option maxRecDepth 20000 in
theorem bX10_feed_34 {X : zX} {dep bc bs : Nat} (a : Int) (b : Int) (c : Int) (d : Int) (e : Int) {h : zH} {Q : Nat → zH → List zV → Prop}
    (k1 : zW mX10_feed X dep bc bs 239 39 [(0, xR 0), (1, xI a), (2, xI b), (3, xI c), (4, xI d), (5, xI e)] [xI c, xR 1] h Q) : zW mX10_feed X dep bc bs 239 34 [(0, xR 0), (1, xI a), (2, xI b), (3, xI c), (4, xI d), (5, xI e)] [] h Q := by
  refine z_aload_n 0 dX10_feed_34 rfl ?_
  refine z_getS (v := 1) (k := 0) (kz := 0) pk10 dX10_feed_35 (by decide) zb_457 rfl (zOb.lit (by decide +kernel)) rfl (by decide +kernel) ?_
  refine z_iload_n 3 dX10_feed_38 rfl ?_
  exact k1

set_option maxRecDepth 20000 in
theorem rX10_feed_39 {X : zX} {dep bc bs : Nat} (a : Int) (b : Int) (c : Int) (d : Int) (e : Int) {h : zH} {Q : Nat → zH → List zV → Prop} {P : zH → Prop}
    (hZ : zW mX7_put X (dep - 1) 0 0 239 0 (zar 0 [xR 1, xI c]) [] h (zQ0 P)) (hdep : 1 ≤ dep)
    (k : ∀ g : zH, P g → zW mX10_feed X dep bc bs 239 42 [(0, xR 0), (1, xI a), (2, xI b), (3, xI c), (4, xI d), (5, xI e)] [] g Q) : zW mX10_feed X dep bc bs 239 39 [(0, xR 0), (1, xI a), (2, xI b), (3, xI c), (4, xI d), (5, xI e)] [xI c, xR 1] h Q :=
  z_invQ0 (ci := 7) (N := 2) (as := [xI c]) (st := []) (ra := [xI c]) hZ dX10_feed_39 nX7_put zb_513 zb_514 zb_515 zb_83 (zOb.lit (by decide +kernel)) rfl (by omega) (Nat.le_of_ble_eq_true rfl) (Nat.le_of_ble_eq_true rfl) rfl (fun g hg => k g hg)

set_option maxRecDepth 20000 in
theorem bX10_feed_42 {X : zX} {dep bc bs : Nat} (a : Int) (b : Int) (c : Int) (d : Int) (e : Int) {h : zH} {Q : Nat → zH → List zV → Prop}
    (k1 : zW mX10_feed X dep bc bs 239 48 [(0, xR 0), (1, xI a), (2, xI b), (3, xI c), (4, xI d), (5, xI e)] [xI d, xR 1] h Q) : zW mX10_feed X dep bc bs 239 42 [(0, xR 0), (1, xI a), (2, xI b), (3, xI c), (4, xI d), (5, xI e)] [] h Q := by
  refine z_aload_n 0 dX10_feed_42 rfl ?_
  refine z_getS (v := 1) (k := 0) (kz := 0) pk10 dX10_feed_43 (by decide) zb_457 rfl (zOb.lit (by decide +kernel)) rfl (by decide +kernel) ?_
  refine z_iload 4 dX10_feed_46 rfl ?_
  exact k1

set_option maxRecDepth 20000 in
theorem rX10_feed_48 {X : zX} {dep bc bs : Nat} (a : Int) (b : Int) (c : Int) (d : Int) (e : Int) {h : zH} {Q : Nat → zH → List zV → Prop} {P : zH → Prop}
    (hZ : zW mX7_put X (dep - 1) 0 0 239 0 (zar 0 [xR 1, xI d]) [] h (zQ0 P)) (hdep : 1 ≤ dep)
    (k : ∀ g : zH, P g → zW mX10_feed X dep bc bs 239 51 [(0, xR 0), (1, xI a), (2, xI b), (3, xI c), (4, xI d), (5, xI e)] [] g Q) : zW mX10_feed X dep bc bs 239 48 [(0, xR 0), (1, xI a), (2, xI b), (3, xI c), (4, xI d), (5, xI e)] [xI d, xR 1] h Q :=
  z_invQ0 (ci := 7) (N := 2) (as := [xI d]) (st := []) (ra := [xI d]) hZ dX10_feed_48 nX7_put zb_513 zb_514 zb_515 zb_83 (zOb.lit (by decide +kernel)) rfl (by omega) (Nat.le_of_ble_eq_true rfl) (Nat.le_of_ble_eq_true rfl) rfl (fun g hg => k g hg)

set_option maxRecDepth 20000 in
theorem bX10_feed_51 {X : zX} {dep bc bs : Nat} (a : Int) (b : Int) (c : Int) (d : Int) (e : Int) {h : zH} {Q : Nat → zH → List zV → Prop}
    (k1 : zW mX10_feed X dep bc bs 239 57 [(0, xR 0), (1, xI a), (2, xI b), (3, xI c), (4, xI d), (5, xI e)] [xI e, xR 1] h Q) : zW mX10_feed X dep bc bs 239 51 [(0, xR 0), (1, xI a), (2, xI b), (3, xI c), (4, xI d), (5, xI e)] [] h Q := by
  refine z_aload_n 0 dX10_feed_51 rfl ?_
  refine z_getS (v := 1) (k := 0) (kz := 0) pk10 dX10_feed_52 (by decide) zb_457 rfl (zOb.lit (by decide +kernel)) rfl (by decide +kernel) ?_
  refine z_iload 5 dX10_feed_55 rfl ?_
  exact k1

set_option maxRecDepth 20000 in
theorem rX10_feed_57 {X : zX} {dep bc bs : Nat} (a : Int) (b : Int) (c : Int) (d : Int) (e : Int) {h : zH} {Q : Nat → zH → List zV → Prop} {P : zH → Prop}
    (hZ : zW mX7_put X (dep - 1) 0 0 239 0 (zar 0 [xR 1, xI e]) [] h (zQ0 P)) (hdep : 1 ≤ dep)
    (k : ∀ g : zH, P g → zW mX10_feed X dep bc bs 239 60 [(0, xR 0), (1, xI a), (2, xI b), (3, xI c), (4, xI d), (5, xI e)] [] g Q) : zW mX10_feed X dep bc bs 239 57 [(0, xR 0), (1, xI a), (2, xI b), (3, xI c), (4, xI d), (5, xI e)] [xI e, xR 1] h Q :=
  z_invQ0 (ci := 7) (N := 2) (as := [xI e]) (st := []) (ra := [xI e]) hZ dX10_feed_57 nX7_put zb_513 zb_514 zb_515 zb_83 (zOb.lit (by decide +kernel)) rfl (by omega) (Nat.le_of_ble_eq_true rfl) (Nat.le_of_ble_eq_true rfl) rfl (fun g hg => k g hg)

set_option maxRecDepth 20000 in
theorem bX10_feed_60 {X : zX} {dep bc bs : Nat} (a : Int) (b : Int) (c : Int) (d : Int) (e : Int) {h : zH} {Q : Nat → zH → List zV → Prop}
    (k1 : Q 239 h [xI (h 1 1)]) : zW mX10_feed X dep bc bs 239 60 [(0, xR 0), (1, xI a), (2, xI b), (3, xI c), (4, xI d), (5, xI e)] [] h Q := by
  refine z_aload_n 0 dX10_feed_60 rfl ?_
  refine z_getS (v := 1) (k := 0) (kz := 0) pk10 dX10_feed_61 (by decide) zb_457 rfl (zOb.lit (by decide +kernel)) rfl (by decide +kernel) ?_
  refine z_getI (k := 1) (kz := 1) pk7 dX10_feed_64 (by decide) zb_122 rfl (zOb.lit (by decide +kernel)) rfl ?_
  exact z_iret dX10_feed_67 rfl (k1)

set_option maxRecDepth 20000 in
theorem bX10_leaves_0 {X : zX} {dep bc bs : Nat} (l : Int) (t : Int) {h : zH} {Q : Nat → zH → List zV → Prop} (ht : 0 ≤ h 1 1 ∧ h 1 1 ≤ 340) (hdep : 2 ≤ dep)
    (k1 : ¬ (0 ≤ l ∧ l < h 0 12) → zW mX10_leaves X dep bc bs 239 62 [(0, xR 0), (4, xI (-1))] [] h Q)
    (k2 : 0 ≤ l ∧ l < h 0 12 → ¬ (zTold h) → zW mX10_leaves X dep bc bs 239 62 [(0, xR 0), (4, xI (-1))] [] h Q)
    (k3 : 0 ≤ l ∧ l < h 0 12 → zTold h → zW mX10_leaves X dep bc bs 239 46 [(4, xI (-1)), (3, xI 1), (0, xR 0), (1, xI l), (2, xI t)] [xI t, xI l, xR 0, xR 3, xR 1, xR 44] h Q) : zW mX10_leaves X dep bc bs 239 0 [(0, xR 0), (1, xI l), (2, xI t)] [] h Q := by
  refine z_aload_n 0 dX10_leaves_0 rfl ?_
  refine z_iload_n 1 dX10_leaves_1 rfl ?_
  refine z_invF (ci := 10) (N := 17) (as := [xI l]) (st := []) (ra := [xI l]) (dep' := dep - 1) (rs := [xI (zb (0 ≤ l ∧ l < h 0 12))]) (h' := h) (f_X10_isLot l (h := h) ) dX10_leaves_2 nX10_isLot zb_782 zb_784 zb_17 zb_82 (zOb.lit (by decide +kernel)) rfl (by omega) zne_I (Nat.le_of_ble_eq_true rfl) (Nat.le_of_ble_eq_true rfl) rfl ?_
  refine z_ifB_eq (C := 0 ≤ l ∧ l < h 0 12) (tgt := 22) dX10_leaves_5 (by decide) (fun c1 => ?_) (fun c1 => ?_)
  ·
    refine z_iconst dX10_leaves_22 (zi32_d rfl) ?_
    refine z_istore_n (lv' := [(3, xI 0), (0, xR 0), (1, xI l), (2, xI t)]) dX10_leaves_23 (by decide) rfl ?_
    refine z_iconst dX10_leaves_24 (zi32_d rfl) ?_
    refine z_istore (lv' := [(4, xI (-1)), (3, xI 0), (0, xR 0), (1, xI l), (2, xI t)]) dX10_leaves_25 (by decide) rfl ?_
    refine z_iload_n 1 dX10_leaves_27 rfl ?_
    refine z_if_eq (tgt := 62) dX10_leaves_28 (by decide) (fun _ => ?_) (fun c => absurd c (by decide))
    refine zW.sub (lv' := [(0, xR 0), (4, xI (-1))]) [2, 0] rfl ?_
    exact k1 c1
  ·
    refine z_aload_n 0 dX10_leaves_8 rfl ?_
    refine z_getS (v := 1) (k := 0) (kz := 0) pk10 dX10_leaves_9 (by decide) zb_457 rfl (zOb.lit (by decide +kernel)) rfl (by decide +kernel) ?_
    refine z_invSF (as := [xR 1]) (st := []) (ra := [xR 1]) (dep' := dep - 1) (rs := [xI (zb (zTold h))]) (h' := h) (f_X0_holdsTold  (h := h) ht (by omega)) dX10_leaves_12 nX0_holdsTold zb_1004 zb_1005 zb_89 (by omega) zne_I (Nat.le_of_ble_eq_true rfl) (Nat.le_of_ble_eq_true rfl) rfl ?_
    refine z_ifB_eq (C := zTold h) (tgt := 22) dX10_leaves_15 (by decide) (fun c2 => ?_) (fun c2 => ?_)
    ·
      refine z_iconst dX10_leaves_22 (zi32_d rfl) ?_
      refine z_istore_n (lv' := [(3, xI 0), (0, xR 0), (1, xI l), (2, xI t)]) dX10_leaves_23 (by decide) rfl ?_
      refine z_iconst dX10_leaves_24 (zi32_d rfl) ?_
      refine z_istore (lv' := [(4, xI (-1)), (3, xI 0), (0, xR 0), (1, xI l), (2, xI t)]) dX10_leaves_25 (by decide) rfl ?_
      refine z_iload_n 1 dX10_leaves_27 rfl ?_
      refine z_if_eq (tgt := 62) dX10_leaves_28 (by decide) (fun _ => ?_) (fun c => absurd c (by decide))
      refine zW.sub (lv' := [(0, xR 0), (4, xI (-1))]) [2, 0] rfl ?_
      exact k2 c1 c2
    ·
      refine z_iconst dX10_leaves_18 (zi32_d rfl) ?_
      refine z_goto (tgt := 23) dX10_leaves_19 (by decide) ?_
      refine z_istore_n (lv' := [(3, xI 1), (0, xR 0), (1, xI l), (2, xI t)]) dX10_leaves_23 (by decide) rfl ?_
      refine z_iconst dX10_leaves_24 (zi32_d rfl) ?_
      refine z_istore (lv' := [(4, xI (-1)), (3, xI 1), (0, xR 0), (1, xI l), (2, xI t)]) dX10_leaves_25 (by decide) rfl ?_
      refine z_iload_n 1 dX10_leaves_27 rfl ?_
      refine z_if_eq (tgt := 62) dX10_leaves_28 (by decide) (fun c => absurd c (by decide)) (fun _ => ?_)
      refine z_aload_n 2 dX10_leaves_31 rfl ?_
      refine z_getS (v := 44) (k := 6) (kz := 6) pk10 dX10_leaves_32 (by decide) zb_463 rfl (zOb.lit (by decide +kernel)) rfl (by decide +kernel) ?_
      refine z_aload_n 2 dX10_leaves_35 rfl ?_
      refine z_getS (v := 1) (k := 0) (kz := 0) pk10 dX10_leaves_36 (by decide) zb_457 rfl (zOb.lit (by decide +kernel)) rfl (by decide +kernel) ?_
      refine z_aload_n 2 dX10_leaves_39 rfl ?_
      refine z_getS (v := 3) (k := 1) (kz := 1) pk10 dX10_leaves_40 (by decide) zb_458 rfl (zOb.lit (by decide +kernel)) rfl (by decide +kernel) ?_
      refine z_aload_n 2 dX10_leaves_43 rfl ?_
      refine z_iload_n 3 dX10_leaves_44 rfl ?_
      refine z_iload_n 4 dX10_leaves_45 rfl ?_
      exact k3 c1 c2

set_option maxRecDepth 20000 in
theorem rX10_leaves_46 {X : zX} {dep bc bs : Nat} (l : Int) (t : Int) {h : zH} {Q : Nat → zH → List zV → Prop} {P : Int → zH → Prop}
    (hZ : zW mX10_rollAsOf X (dep - 1) 0 0 239 0 (zar 0 [xR 0, xI l, xI t]) [] h (zQR P)) (hdep : 1 ≤ dep)
    (k : ∀ (v : Int) (g : zH), P v g → zW mX10_leaves X dep bc bs 239 49 [(0, xR 0), (1, xI l), (2, xI t)] [xR v, xR 3, xR 1, xR 44] g Q) : zW mX10_leaves X dep bc bs 239 46 [(0, xR 0), (1, xI l), (2, xI t)] [xI t, xI l, xR 0, xR 3, xR 1, xR 44] h Q :=
  z_invQR (ci := 10) (N := 17) (as := [xI l, xI t]) (st := [xR 3, xR 1, xR 44]) (ra := [xI t, xI l]) hZ dX10_leaves_46 nX10_rollAsOf zb_865 zb_867 zb_20 zb_82 (zOb.lit (by decide +kernel)) rfl (by omega) (Nat.le_of_ble_eq_true rfl) (Nat.le_of_ble_eq_true rfl) rfl (fun v g hg => k v g hg)

set_option maxRecDepth 20000 in
theorem rX10_leaves_49 {X : zX} {dep bc bs : Nat} (l : Int) {h : zH} {Q : Nat → zH → List zV → Prop} {P : Int → zH → Prop} (hl : 0 ≤ l ∧ l < 4)
    (hZ : zW mX0_leave X (dep - 1) 0 0 239 0 (zar 0 [xR 44, xR 1, xR 3, xR (113 + 14 * l)]) [] h (zQI P)) (hdep : 1 ≤ dep)
    (k : ∀ (v : Int) (g : zH), P v g → zW mX10_leaves X dep bc bs 239 52 [(0, xR 0)] [xI v] g Q) : zW mX10_leaves X dep bc bs 239 49 [(0, xR 0)] [xR (113 + 14 * l), xR 3, xR 1, xR 44] h Q :=
  z_invQI (ci := 0) (N := 3) (as := [xR 1, xR 3, xR (113 + 14 * l)]) (st := []) (ra := [xR (113 + 14 * l), xR 3, xR 1]) hZ dX10_leaves_49 nX0_leave zb_1008 zb_1009 zb_1010 zb_89 (zOb.lit (by decide +kernel)) rfl (by omega) (Nat.le_of_ble_eq_true rfl) (Nat.le_of_ble_eq_true rfl) rfl (fun v g hg => k v g hg)

set_option maxRecDepth 20000 in
theorem bX10_leaves_52 {X : zX} {dep bc bs : Nat} (v : Int) {h : zH} {Q : Nat → zH → List zV → Prop}
    (k1 : zW mX10_leaves X dep bc bs 239 62 [(0, xR 0), (4, xI (if v = 0 then 0 else 1 : Int))] [] h Q) : zW mX10_leaves X dep bc bs 239 52 [(0, xR 0)] [xI v] h Q := by
  suffices KJ : zW mX10_leaves X dep bc bs 239 60 [(0, xR 0)] [xI (if v = 0 then 0 else 1 : Int)] h Q by
    refine z_if_eq (tgt := 59) dX10_leaves_52 (by decide) (fun j1 => ?_) (fun j1 => ?_)
    ·
      refine z_iconst dX10_leaves_59 (zi32_d rfl) ?_
      rw [if_pos j1] at KJ
      exact KJ
    ·
      refine z_iconst dX10_leaves_55 (zi32_d rfl) ?_
      refine z_goto (tgt := 60) dX10_leaves_56 (by decide) ?_
      rw [if_neg j1] at KJ
      exact KJ
  refine z_istore (lv' := [(4, xI (if v = 0 then 0 else 1 : Int)), (0, xR 0)]) dX10_leaves_60 (by decide) rfl ?_
  refine zW.sub (lv' := [(0, xR 0), (4, xI (if v = 0 then 0 else 1 : Int))]) [1, 0] rfl ?_
  exact k1

set_option maxRecDepth 20000 in
theorem bX10_leaves_62 {X : zX} {dep bc bs : Nat} (v : Int) {h : zH} {Q : Nat → zH → List zV → Prop}
    (k1 : Q 239 (zst h 1 1 0) [xI v]) : zW mX10_leaves X dep bc bs 239 62 [(0, xR 0), (4, xI v)] [] h Q := by
  refine z_aload_n 0 dX10_leaves_62 rfl ?_
  refine z_getS (v := 1) (k := 0) (kz := 0) pk10 dX10_leaves_63 (by decide) zb_457 rfl (zOb.lit (by decide +kernel)) rfl (by decide +kernel) ?_
  refine z_iconst dX10_leaves_66 (zi32_d rfl) ?_
  refine z_putI (k := 1) (kz := 1) pk7 dX10_leaves_67 (by decide) zb_122 rfl (zFit_int _) (zOb.lit (by decide +kernel)) rfl ?_
  refine z_iload 1 dX10_leaves_70 rfl ?_
  exact z_iret dX10_leaves_72 rfl (k1)

set_option maxRecDepth 20000 in
theorem bX10_send_0 {X : zX} {dep bc bs : Nat} (l : Int) (a : Int) (b : Int) {h : zH} {Q : Nat → zH → List zV → Prop} (hn : h 0 12 ≤ 4) (hdep : 1 ≤ dep)
    (k1 : ¬ (0 ≤ l ∧ l < h 0 12) → Q 239 h [xI 0])
    (k2 : 0 ≤ l ∧ l < h 0 12 → ¬ (0 ≤ a ∧ a < h 3 0) → Q 239 h [xI 0])
    (k3 : 0 ≤ l ∧ l < h 0 12 → 0 ≤ a ∧ a < h 3 0 → ¬ (0 ≤ b ∧ b < h 3 0) → Q 239 h [xI 0])
    (k4 : 0 ≤ l ∧ l < h 0 12 → 0 ≤ a ∧ a < h 3 0 → 0 ≤ b ∧ b < h 3 0 → (h ((113 + 14 * l) + 1) 0) ≤ (h 0 10) → zW mX10_send X dep bc bs 239 51 [(0, xR 0), (1, xI l), (2, xI a), (3, xI b)] [xI (h 0 10), xI l, xR 0] h Q)
    (k5 : 0 ≤ l ∧ l < h 0 12 → 0 ≤ a ∧ a < h 3 0 → 0 ≤ b ∧ b < h 3 0 → ¬ ((h ((113 + 14 * l) + 1) 0) ≤ (h 0 10)) → Q 239 h [xI 0]) : zW mX10_send X dep bc bs 239 0 [(0, xR 0), (1, xI l), (2, xI a), (3, xI b)] [] h Q := by
  refine z_aload_n 0 dX10_send_0 rfl ?_
  refine z_iload_n 1 dX10_send_1 rfl ?_
  refine z_invF (ci := 10) (N := 17) (as := [xI l]) (st := []) (ra := [xI l]) (dep' := dep - 1) (rs := [xI (zb (0 ≤ l ∧ l < h 0 12))]) (h' := h) (f_X10_isLot l (h := h) ) dX10_send_2 nX10_isLot zb_782 zb_784 zb_17 zb_82 (zOb.lit (by decide +kernel)) rfl (by omega) zne_I (Nat.le_of_ble_eq_true rfl) (Nat.le_of_ble_eq_true rfl) rfl ?_
  refine z_ifB_eq (C := 0 ≤ l ∧ l < h 0 12) (tgt := 43) dX10_send_5 (by decide) (fun c1 => ?_) (fun c1 => ?_)
  ·
    refine z_iconst dX10_send_43 (zi32_d rfl) ?_
    exact z_zret dX10_send_44 rfl (Or.inl rfl) (k1 c1)
  ·
    refine z_aload_n 0 dX10_send_8 rfl ?_
    refine z_iload_n 2 dX10_send_9 rfl ?_
    refine z_invF (ci := 10) (N := 17) (as := [xI a]) (st := []) (ra := [xI a]) (dep' := dep - 1) (rs := [xI (zb (0 ≤ a ∧ a < h 3 0))]) (h' := h) (f_X10_isMan a (h := h) ) dX10_send_10 nX10_isMan zb_559 zb_561 zb_0 zb_82 (zOb.lit (by decide +kernel)) rfl (by omega) zne_I (Nat.le_of_ble_eq_true rfl) (Nat.le_of_ble_eq_true rfl) rfl ?_
    refine z_ifB_eq (C := 0 ≤ a ∧ a < h 3 0) (tgt := 43) dX10_send_13 (by decide) (fun c2 => ?_) (fun c2 => ?_)
    ·
      refine z_iconst dX10_send_43 (zi32_d rfl) ?_
      exact z_zret dX10_send_44 rfl (Or.inl rfl) (k2 c1 c2)
    ·
      refine z_aload_n 0 dX10_send_16 rfl ?_
      refine z_iload_n 3 dX10_send_17 rfl ?_
      refine z_invF (ci := 10) (N := 17) (as := [xI b]) (st := []) (ra := [xI b]) (dep' := dep - 1) (rs := [xI (zb (0 ≤ b ∧ b < h 3 0))]) (h' := h) (f_X10_isMan b (h := h) ) dX10_send_18 nX10_isMan zb_559 zb_561 zb_0 zb_82 (zOb.lit (by decide +kernel)) rfl (by omega) zne_I (Nat.le_of_ble_eq_true rfl) (Nat.le_of_ble_eq_true rfl) rfl ?_
      refine z_ifB_eq (C := 0 ≤ b ∧ b < h 3 0) (tgt := 43) dX10_send_21 (by decide) (fun c3 => ?_) (fun c3 => ?_)
      ·
        refine z_iconst dX10_send_43 (zi32_d rfl) ?_
        exact z_zret dX10_send_44 rfl (Or.inl rfl) (k3 c1 c2 c3)
      ·
        refine z_aload_n 0 dX10_send_24 rfl ?_
        refine z_getI (k := 10) (kz := 10) pk10 dX10_send_25 (by decide) zb_467 rfl (zOb.lit (by decide +kernel)) rfl ?_
        refine z_aload_n 0 dX10_send_28 rfl ?_
        refine z_getS (v := 43) (k := 5) (kz := 5) pk10 dX10_send_29 (by decide) zb_462 rfl (zOb.lit (by decide +kernel)) rfl (by decide +kernel) ?_
        refine z_iload_n 1 dX10_send_32 rfl ?_
        refine z_aaldSR (v := (113 + 14 * l)) dX10_send_33 (zOb.lit (by decide +kernel)) (show 0 ≤ l ∧ l < 4 from ⟨by omega, by omega⟩).1 (show 0 ≤ l ∧ l < 4 from ⟨by omega, by omega⟩).2 (zRF_rolls (show 0 ≤ l ∧ l < 4 from ⟨by omega, by omega⟩).1 (show 0 ≤ l ∧ l < 4 from ⟨by omega, by omega⟩).2) ?_
        refine z_getS (v := ((113 + 14 * l) + 1)) (k := 1) (kz := 1) pk6 dX10_send_34 (by decide) zb_412 rfl (zRollO_rolls (show 0 ≤ l ∧ l < 4 from ⟨by omega, by omega⟩).1 (show 0 ≤ l ∧ l < 4 from ⟨by omega, by omega⟩).2).1 rfl (zRollO_rolls (show 0 ≤ l ∧ l < 4 from ⟨by omega, by omega⟩).1 (show 0 ≤ l ∧ l < 4 from ⟨by omega, by omega⟩).2).2.2.2.2.2.2.2.2.2.2.2.2.2.2.1 ?_
        refine z_getI (k := 0) (kz := 0) pk3 dX10_send_37 (by decide) zb_388 rfl (zRollO_rolls (show 0 ≤ l ∧ l < 4 from ⟨by omega, by omega⟩).1 (show 0 ≤ l ∧ l < 4 from ⟨by omega, by omega⟩).2).2.1 rfl ?_
        refine z_icmp_ge (tgt := 45) dX10_send_40 (by decide) (fun c4 => ?_) (fun c4 => ?_)
        ·
          refine z_aload_n 0 dX10_send_45 rfl ?_
          refine z_iload_n 1 dX10_send_46 rfl ?_
          refine z_aload_n 0 dX10_send_47 rfl ?_
          refine z_getI (k := 10) (kz := 10) pk10 dX10_send_48 (by decide) zb_467 rfl (zOb.lit (by decide +kernel)) rfl ?_
          exact k4 c1 c2 c3 c4
        ·
          refine z_iconst dX10_send_43 (zi32_d rfl) ?_
          exact z_zret dX10_send_44 rfl (Or.inl rfl) (k5 c1 c2 c3 c4)

set_option maxRecDepth 20000 in
theorem rX10_send_51 {X : zX} {dep bc bs : Nat} (l : Int) (a : Int) (b : Int) {h : zH} {Q : Nat → zH → List zV → Prop} {P : Int → zH → Prop}
    (hZ : zW mX10_rollAsOf X (dep - 1) 0 0 239 0 (zar 0 [xR 0, xI l, xI (h 0 10)]) [] h (zQR P)) (hdep : 1 ≤ dep)
    (k : ∀ (v : Int) (g : zH), P v g → zW mX10_send X dep bc bs 239 54 [(0, xR 0), (1, xI l), (2, xI a), (3, xI b)] [xR v] g Q) : zW mX10_send X dep bc bs 239 51 [(0, xR 0), (1, xI l), (2, xI a), (3, xI b)] [xI (h 0 10), xI l, xR 0] h Q :=
  z_invQR (ci := 10) (N := 17) (as := [xI l, xI (h 0 10)]) (st := []) (ra := [xI (h 0 10), xI l]) hZ dX10_send_51 nX10_rollAsOf zb_865 zb_867 zb_20 zb_82 (zOb.lit (by decide +kernel)) rfl (by omega) (Nat.le_of_ble_eq_true rfl) (Nat.le_of_ble_eq_true rfl) rfl (fun v g hg => k v g hg)

set_option maxRecDepth 20000 in
theorem bX10_send_54 {X : zX} {dep bc bs : Nat} (l : Int) (a : Int) (b : Int) {h : zH} {Q : Nat → zH → List zV → Prop} (hl : 0 ≤ l ∧ l < 4)
    (k1 : zW mX10_send X dep bc bs 239 65 [(4, xR (113 + 14 * l)), (0, xR 0), (1, xI l), (2, xI a), (3, xI b)] [xI (h 0 10), xI l, xR 0, xI a, xR (113 + 14 * l)] h Q) : zW mX10_send X dep bc bs 239 54 [(0, xR 0), (1, xI l), (2, xI a), (3, xI b)] [xR (113 + 14 * l)] h Q := by
  refine z_astore (lv' := [(4, xR (113 + 14 * l)), (0, xR 0), (1, xI l), (2, xI a), (3, xI b)]) dX10_send_54 (by decide) rfl ?_
  refine z_aload 0 dX10_send_56 rfl ?_
  refine z_iload_n 3 dX10_send_58 rfl ?_
  refine z_aload_n 1 dX10_send_59 rfl ?_
  refine z_iload_n 2 dX10_send_60 rfl ?_
  refine z_aload_n 1 dX10_send_61 rfl ?_
  refine z_getI (k := 10) (kz := 10) pk10 dX10_send_62 (by decide) zb_467 rfl (zOb.lit (by decide +kernel)) rfl ?_
  exact k1

set_option maxRecDepth 20000 in
theorem rX10_send_65 {X : zX} {dep bc bs : Nat} (l : Int) (a : Int) (b : Int) {h : zH} {Q : Nat → zH → List zV → Prop} {P : Int → zH → Prop}
    (hZ : zW mX10_lawFor X (dep - 1) 0 0 239 0 (zar 0 [xR 0, xI l, xI (h 0 10)]) [] h (zQR P)) (hdep : 1 ≤ dep)
    (k : ∀ (v : Int) (g : zH), P v g → zW mX10_send X dep bc bs 239 68 [(0, xR 0), (1, xI l), (2, xI a), (3, xI b), (4, xR (113 + 14 * l))] [xR v, xI a, xR (113 + 14 * l)] g Q) : zW mX10_send X dep bc bs 239 65 [(0, xR 0), (1, xI l), (2, xI a), (3, xI b), (4, xR (113 + 14 * l))] [xI (h 0 10), xI l, xR 0, xI a, xR (113 + 14 * l)] h Q :=
  z_invQR (ci := 10) (N := 17) (as := [xI l, xI (h 0 10)]) (st := [xI a, xR (113 + 14 * l)]) (ra := [xI (h 0 10), xI l]) hZ dX10_send_65 nX10_lawFor zb_869 zb_871 zb_21 zb_82 (zOb.lit (by decide +kernel)) rfl (by omega) (Nat.le_of_ble_eq_true rfl) (Nat.le_of_ble_eq_true rfl) rfl (fun v g hg => k v g hg)

set_option maxRecDepth 20000 in
theorem rX10_send_68 {X : zX} {dep bc bs : Nat} (l : Int) (a : Int) (b : Int) (L : Int) {h : zH} {Q : Nat → zH → List zV → Prop} {P : Int → zH → Prop} (hl : 0 ≤ l ∧ l < 4)
    (hZ : zW mX6_maySend X (dep - 1) 0 0 239 0 (zar 0 [xR (113 + 14 * l), xI a, xR L]) [] h (zQI P)) (hdep : 1 ≤ dep)
    (k : ∀ (v : Int) (g : zH), P v g → zW mX10_send X dep bc bs 239 71 [(0, xR 0), (1, xI l), (2, xI a), (3, xI b), (4, xR (113 + 14 * l))] [xI v] g Q) : zW mX10_send X dep bc bs 239 68 [(0, xR 0), (1, xI l), (2, xI a), (3, xI b), (4, xR (113 + 14 * l))] [xR L, xI a, xR (113 + 14 * l)] h Q :=
  z_invQI (ci := 6) (N := 13) (as := [xI a, xR L]) (st := []) (ra := [xR L, xI a]) hZ dX10_send_68 nX6_maySend zb_975 zb_976 zb_977 zb_90 (zRollO_rolls hl.1 hl.2).1 rfl (by omega) (Nat.le_of_ble_eq_true rfl) (Nat.le_of_ble_eq_true rfl) rfl (fun v g hg => k v g hg)

set_option maxRecDepth 20000 in
theorem bX10_send_71 {X : zX} {dep bc bs : Nat} (l : Int) (a : Int) (b : Int) (v : Int) {h : zH} {Q : Nat → zH → List zV → Prop} (hl : 0 ≤ l ∧ l < 4)
    (k1 : v = 0 → Q 239 h [xI 0])
    (k2 : ¬ (v = 0) → zW mX10_send X dep bc bs 239 77 [(0, xR 0), (1, xI l), (2, xI a), (3, xI b), (4, xR (113 + 14 * l))] [xI b, xR (113 + 14 * l)] h Q) : zW mX10_send X dep bc bs 239 71 [(0, xR 0), (1, xI l), (2, xI a), (3, xI b), (4, xR (113 + 14 * l))] [xI v] h Q := by
  refine z_if_eq (tgt := 83) dX10_send_71 (by decide) (fun c1 => ?_) (fun c1 => ?_)
  ·
    refine z_iconst dX10_send_83 (zi32_d rfl) ?_
    exact z_zret dX10_send_84 rfl (Or.inl rfl) (k1 c1)
  ·
    refine z_aload 4 dX10_send_74 rfl ?_
    refine z_iload_n 3 dX10_send_76 rfl ?_
    exact k2 c1

set_option maxRecDepth 20000 in
theorem rX10_send_77 {X : zX} {dep bc bs : Nat} (l : Int) (a : Int) (b : Int) {h : zH} {Q : Nat → zH → List zV → Prop} {P : Int → zH → Prop} (hl : 0 ≤ l ∧ l < 4)
    (hZ : zW mX6_mayBeSent X (dep - 1) 0 0 239 0 (zar 0 [xR (113 + 14 * l), xI b]) [] h (zQI P)) (hdep : 1 ≤ dep)
    (k : ∀ (v : Int) (g : zH), P v g → zW mX10_send X dep bc bs 239 80 [(0, xR 0), (1, xI l), (2, xI a), (3, xI b), (4, xR (113 + 14 * l))] [xI v] g Q) : zW mX10_send X dep bc bs 239 77 [(0, xR 0), (1, xI l), (2, xI a), (3, xI b), (4, xR (113 + 14 * l))] [xI b, xR (113 + 14 * l)] h Q :=
  z_invQI (ci := 6) (N := 13) (as := [xI b]) (st := []) (ra := [xI b]) hZ dX10_send_77 nX6_mayBeSent zb_979 zb_980 zb_981 zb_90 (zRollO_rolls hl.1 hl.2).1 rfl (by omega) (Nat.le_of_ble_eq_true rfl) (Nat.le_of_ble_eq_true rfl) rfl (fun v g hg => k v g hg)

set_option maxRecDepth 20000 in
theorem bX10_send_80 {X : zX} {dep bc bs : Nat} (l : Int) (a : Int) (b : Int) (v : Int) {h : zH} {Q : Nat → zH → List zV → Prop} (hl : 0 ≤ l ∧ l < 4)
    (k1 : ¬ v = 0 → zW mX10_send X dep bc bs 239 101 [(0, xR 0), (1, xI l), (2, xI a), (3, xI b), (4, xR (113 + 14 * l))] [xI 0, xI 0, xI b, xI a, xI l, xI (h 0 10), xR 15] h Q)
    (k2 : v = 0 → Q 239 h [xI 0]) : zW mX10_send X dep bc bs 239 80 [(0, xR 0), (1, xI l), (2, xI a), (3, xI b), (4, xR (113 + 14 * l))] [xI v] h Q := by
  refine z_if_ne (tgt := 85) dX10_send_80 (by decide) (fun c1 => ?_) (fun c1 => ?_)
  ·
    refine z_aload_n 0 dX10_send_85 rfl ?_
    refine z_getS (v := 3) (k := 1) (kz := 1) pk10 dX10_send_86 (by decide) zb_458 rfl (zOb.lit (by decide +kernel)) rfl (by decide +kernel) ?_
    refine z_getS (v := 15) (k := 8) (kz := 8) pk4 dX10_send_89 (by decide) zb_174 rfl (zOb.lit (by decide +kernel)) rfl (by decide +kernel) ?_
    refine z_aload_n 0 dX10_send_92 rfl ?_
    refine z_getI (k := 10) (kz := 10) pk10 dX10_send_93 (by decide) zb_467 rfl (zOb.lit (by decide +kernel)) rfl ?_
    refine z_iload_n 1 dX10_send_96 rfl ?_
    refine z_iload_n 2 dX10_send_97 rfl ?_
    refine z_iload_n 3 dX10_send_98 rfl ?_
    refine z_iconst dX10_send_99 (zi32_d rfl) ?_
    refine z_iconst dX10_send_100 (zi32_d rfl) ?_
    exact k1 c1
  ·
    refine z_iconst dX10_send_83 (zi32_d rfl) ?_
    exact z_zret dX10_send_84 rfl (Or.inl rfl) (k2 c1)

set_option maxRecDepth 20000 in
theorem rX10_send_101 {X : zX} {dep bc bs : Nat} (l : Int) (a : Int) (b : Int) {h : zH} {Q : Nat → zH → List zV → Prop} {P : Int → zH → Prop}
    (hZ : zW mX2_add X (dep - 1) 0 0 239 0 (zar 0 [xR 15, xI (h 0 10), xI l, xI a, xI b, xI 0, xI 0]) [] h (zQI P)) (hdep : 1 ≤ dep)
    (k : ∀ (v : Int) (g : zH), P v g → zW mX10_send X dep bc bs 239 104 [(0, xR 0), (1, xI l), (2, xI a), (3, xI b), (4, xR (113 + 14 * l))] [xI v] g Q) : zW mX10_send X dep bc bs 239 101 [(0, xR 0), (1, xI l), (2, xI a), (3, xI b), (4, xR (113 + 14 * l))] [xI 0, xI 0, xI b, xI a, xI l, xI (h 0 10), xR 15] h Q :=
  z_invQI (ci := 2) (N := 3) (as := [xI (h 0 10), xI l, xI a, xI b, xI 0, xI 0]) (st := []) (ra := [xI 0, xI 0, xI b, xI a, xI l, xI (h 0 10)]) hZ dX10_send_101 nX2_add zb_566 zb_567 zb_568 zb_85 (zOb.lit (by decide +kernel)) rfl (by omega) (Nat.le_of_ble_eq_true rfl) (Nat.le_of_ble_eq_true rfl) rfl (fun v g hg => k v g hg)

set_option maxRecDepth 20000 in
theorem bX10_send_104 {X : zX} {dep bc bs : Nat} (l : Int) (a : Int) (b : Int) (v : Int) {h : zH} {Q : Nat → zH → List zV → Prop} (hv : v = 0 ∨ v = 1)
    (k1 : Q 239 h [xI v]) : zW mX10_send X dep bc bs 239 104 [(0, xR 0), (1, xI l), (2, xI a), (3, xI b), (4, xR (113 + 14 * l))] [xI v] h Q := by
  exact z_zret dX10_send_104 rfl hv (k1)

set_option maxRecDepth 20000 in
theorem bX10_mended_0 {X : zX} {dep bc bs : Nat} (l : Int) (s : Int) (t : Int) (z : Int) {h : zH} {Q : Nat → zH → List zV → Prop} (hdep : 1 ≤ dep)
    (k1 : 0 ≤ l ∧ l < h 0 12 → zW mX10_mended X dep bc bs 239 13 [(0, xR 0), (1, xI l), (2, xI s), (3, xI t), (4, xI z)] [xI s, xI l, xR 0] h Q)
    (k2 : ¬ (0 ≤ l ∧ l < h 0 12) → Q 239 h [xI (-1)]) : zW mX10_mended X dep bc bs 239 0 [(0, xR 0), (1, xI l), (2, xI s), (3, xI t), (4, xI z)] [] h Q := by
  refine z_aload_n 0 dX10_mended_0 rfl ?_
  refine z_iload_n 1 dX10_mended_1 rfl ?_
  refine z_invF (ci := 10) (N := 17) (as := [xI l]) (st := []) (ra := [xI l]) (dep' := dep - 1) (rs := [xI (zb (0 ≤ l ∧ l < h 0 12))]) (h' := h) (f_X10_isLot l (h := h) ) dX10_mended_2 nX10_isLot zb_782 zb_784 zb_17 zb_82 (zOb.lit (by decide +kernel)) rfl (by omega) zne_I (Nat.le_of_ble_eq_true rfl) (Nat.le_of_ble_eq_true rfl) rfl ?_
  refine z_ifB_ne (C := 0 ≤ l ∧ l < h 0 12) (tgt := 10) dX10_mended_5 (by decide) (fun c1 => ?_) (fun c1 => ?_)
  ·
    refine z_aload_n 0 dX10_mended_10 rfl ?_
    refine z_iload_n 1 dX10_mended_11 rfl ?_
    refine z_iload_n 2 dX10_mended_12 rfl ?_
    exact k1 c1
  ·
    refine z_iconst dX10_mended_8 (zi32_d rfl) ?_
    exact z_iret dX10_mended_9 rfl (k2 c1)

set_option maxRecDepth 20000 in
theorem rX10_mended_13 {X : zX} {dep bc bs : Nat} (l : Int) (s : Int) (t : Int) (z : Int) {h : zH} {Q : Nat → zH → List zV → Prop} {P : Int → zH → Prop}
    (hZ : zW mX10_rollAsOf X (dep - 1) 0 0 239 0 (zar 0 [xR 0, xI l, xI s]) [] h (zQR P)) (hdep : 1 ≤ dep)
    (k : ∀ (v : Int) (g : zH), P v g → zW mX10_mended X dep bc bs 239 16 [(0, xR 0), (1, xI l), (2, xI s), (3, xI t), (4, xI z)] [xR v] g Q) : zW mX10_mended X dep bc bs 239 13 [(0, xR 0), (1, xI l), (2, xI s), (3, xI t), (4, xI z)] [xI s, xI l, xR 0] h Q :=
  z_invQR (ci := 10) (N := 17) (as := [xI l, xI s]) (st := []) (ra := [xI s, xI l]) hZ dX10_mended_13 nX10_rollAsOf zb_865 zb_867 zb_20 zb_82 (zOb.lit (by decide +kernel)) rfl (by omega) (Nat.le_of_ble_eq_true rfl) (Nat.le_of_ble_eq_true rfl) rfl (fun v g hg => k v g hg)

set_option maxRecDepth 20000 in
theorem bX10_mended_16 {X : zX} {dep bc bs : Nat} (l : Int) (s : Int) (t : Int) (z : Int) {h : zH} {Q : Nat → zH → List zV → Prop} (hl : 0 ≤ l ∧ l < 4)
    (k1 : zW mX10_mended X dep bc bs 239 21 [(0, xR 0), (1, xI l), (3, xI t), (4, xI z), (5, xR (113 + 14 * l)), (6, xI 0)] [] h Q) : zW mX10_mended X dep bc bs 239 16 [(0, xR 0), (1, xI l), (2, xI s), (3, xI t), (4, xI z)] [xR (113 + 14 * l)] h Q := by
  refine z_astore (lv' := [(5, xR (113 + 14 * l)), (0, xR 0), (1, xI l), (2, xI s), (3, xI t), (4, xI z)]) dX10_mended_16 (by decide) rfl ?_
  refine z_iconst dX10_mended_18 (zi32_d rfl) ?_
  refine z_istore (lv' := [(6, xI 0), (5, xR (113 + 14 * l)), (0, xR 0), (1, xI l), (2, xI s), (3, xI t), (4, xI z)]) dX10_mended_19 (by decide) rfl ?_
  refine zW.sub (lv' := [(0, xR 0), (1, xI l), (3, xI t), (4, xI z), (5, xR (113 + 14 * l)), (6, xI 0)]) [2, 3, 5, 6, 1, 0] rfl ?_
  exact k1

set_option maxRecDepth 20000 in
theorem bX10_mended_21 {X : zX} {dep bc bs : Nat} (l : Int) (t : Int) (z : Int) (i : Int) {h : zH} {Q : Nat → zH → List zV → Prop} (hl : 0 ≤ l ∧ l < 4) (h3 : h 3 0 ≤ 60) (hi : 0 ≤ i)
    (k1 : (h 3 0) ≤ i → zW mX10_mended X dep bc bs 239 66 [(0, xR 0), (1, xI l), (3, xI t), (4, xI z), (5, xR (113 + 14 * l)), (6, xI i)] [xI t, xI l, xR 0] h Q)
    (k2 : ¬ ((h 3 0) ≤ i) → zW mX10_mended X dep bc bs 239 21 [(0, xR 0), (1, xI l), (3, xI t), (4, xI z), (5, xR (113 + 14 * l)), (6, xI (i + 1))] [] (zst h 63 i (if (h ((113 + 14 * l) + 5) i) = 5 then 1 else 0 : Int)) Q) : zW mX10_mended X dep bc bs 239 21 [(0, xR 0), (1, xI l), (3, xI t), (4, xI z), (5, xR (113 + 14 * l)), (6, xI i)] [] h Q := by
  refine z_iload 5 dX10_mended_21 rfl ?_
  refine z_aload_n 0 dX10_mended_23 rfl ?_
  refine z_getS (v := 3) (k := 1) (kz := 1) pk10 dX10_mended_24 (by decide) zb_458 rfl (zOb.lit (by decide +kernel)) rfl (by decide +kernel) ?_
  refine z_getI (k := 0) (kz := 0) pk4 dX10_mended_27 (by decide) zb_156 rfl (zOb.lit (by decide +kernel)) rfl ?_
  refine z_icmp_ge (tgt := 63) dX10_mended_30 (by decide) (fun c1 => ?_) (fun c1 => ?_)
  ·
    refine z_aload_n 0 dX10_mended_63 rfl ?_
    refine z_iload_n 1 dX10_mended_64 rfl ?_
    refine z_iload_n 2 dX10_mended_65 rfl ?_
    exact k1 c1
  ·
    refine z_aload_n 0 dX10_mended_33 rfl ?_
    refine z_getS (v := 63) (k := 7) (kz := 7) pk10 dX10_mended_34 (by decide) zb_464 rfl (zOb.lit (by decide +kernel)) rfl (by decide +kernel) ?_
    refine z_iload 5 dX10_mended_37 rfl ?_
    refine z_aload 4 dX10_mended_39 rfl ?_
    refine z_getS (v := ((113 + 14 * l) + 5)) (k := 3) (kz := 3) pk6 dX10_mended_41 (by decide) zb_415 rfl (zRollO_rolls hl.1 hl.2).1 rfl (zRollO_rolls hl.1 hl.2).2.2.2.2.2.2.2.2.2.2.2.2.2.2.2.2.1 ?_
    refine z_iload 5 dX10_mended_44 rfl ?_
    refine z_iald dX10_mended_46 (zRollO_rolls hl.1 hl.2).2.2.2.2.2.1 (show 0 ≤ i ∧ i < 60 from ⟨by omega, by omega⟩).1 (show 0 ≤ i ∧ i < 60 from ⟨by omega, by omega⟩).2 ?_
    refine z_iconst dX10_mended_47 (zi32_d rfl) ?_
    suffices KJ : zW mX10_mended X dep bc bs 239 56 [(0, xR 0), (1, xI l), (3, xI t), (4, xI z), (5, xR (113 + 14 * l)), (6, xI i)] [xI (if (h ((113 + 14 * l) + 5) i) = 5 then 1 else 0 : Int), xI i, xR 63] h Q by
      refine z_icmp_ne (tgt := 55) dX10_mended_48 (by decide) (fun j1 => ?_) (fun j1 => ?_)
      ·
        refine z_iconst dX10_mended_55 (zi32_d rfl) ?_
        rw [if_neg j1] at KJ
        exact KJ
      ·
        refine z_iconst dX10_mended_51 (zi32_d rfl) ?_
        refine z_goto (tgt := 56) dX10_mended_52 (by decide) ?_
        rw [if_pos j1] at KJ
        exact KJ
    refine z_zast dX10_mended_56 (zOb.lit (by decide +kernel)) (show 0 ≤ i ∧ i < 60 from ⟨by omega, by omega⟩).1 (show 0 ≤ i ∧ i < 60 from ⟨by omega, by omega⟩).2 (by repeat (first | (left; rfl) | (right; rfl) | split)) ?_
    refine z_iincN (lv' := [(6, xI (i + 1)), (0, xR 0), (1, xI l), (3, xI t), (4, xI z), (5, xR (113 + 14 * l))]) 5 dX10_mended_57 rfl (by decide) rfl (show -2147483648 ≤ i + 1 ∧ i + 1 < 2147483648 from ⟨by omega, by omega⟩).1 (show -2147483648 ≤ i + 1 ∧ i + 1 < 2147483648 from ⟨by omega, by omega⟩).2 ?_
    refine z_goto (tgt := 21) dX10_mended_60 (by decide) ?_
    refine zW.sub (lv' := [(0, xR 0), (1, xI l), (3, xI t), (4, xI z), (5, xR (113 + 14 * l)), (6, xI (i + 1))]) [1, 2, 3, 4, 5, 0] rfl ?_
    exact k2 c1

set_option maxRecDepth 20000 in
theorem rX10_mended_66 {X : zX} {dep bc bs : Nat} (l : Int) (t : Int) (z : Int) (i : Int) {h : zH} {Q : Nat → zH → List zV → Prop} {P : Int → zH → Prop}
    (hZ : zW mX10_rollAsOf X (dep - 1) 0 0 239 0 (zar 0 [xR 0, xI l, xI t]) [] h (zQR P)) (hdep : 1 ≤ dep)
    (k : ∀ (v : Int) (g : zH), P v g → zW mX10_mended X dep bc bs 239 69 [(0, xR 0), (1, xI l), (3, xI t), (4, xI z), (5, xR (113 + 14 * l)), (6, xI i)] [xR v] g Q) : zW mX10_mended X dep bc bs 239 66 [(0, xR 0), (1, xI l), (3, xI t), (4, xI z), (5, xR (113 + 14 * l)), (6, xI i)] [xI t, xI l, xR 0] h Q :=
  z_invQR (ci := 10) (N := 17) (as := [xI l, xI t]) (st := []) (ra := [xI t, xI l]) hZ dX10_mended_66 nX10_rollAsOf zb_865 zb_867 zb_20 zb_82 (zOb.lit (by decide +kernel)) rfl (by omega) (Nat.le_of_ble_eq_true rfl) (Nat.le_of_ble_eq_true rfl) rfl (fun v g hg => k v g hg)

set_option maxRecDepth 20000 in
theorem bX10_mended_69 {X : zX} {dep bc bs : Nat} (l : Int) (t : Int) (z : Int) (i : Int) {h : zH} {Q : Nat → zH → List zV → Prop} (hl : 0 ≤ l ∧ l < 4)
    (k1 : zW mX10_mended X dep bc bs 239 79 [(0, xR 0), (4, xI z), (5, xR (113 + 14 * l)), (6, xI 0)] [] (zst h 0 9 0) Q) : zW mX10_mended X dep bc bs 239 69 [(0, xR 0), (1, xI l), (3, xI t), (4, xI z), (5, xR (113 + 14 * l)), (6, xI i)] [xR (113 + 14 * l)] h Q := by
  refine z_astore (lv' := [(5, xR (113 + 14 * l)), (0, xR 0), (1, xI l), (3, xI t), (4, xI z), (6, xI i)]) dX10_mended_69 (by decide) rfl ?_
  refine z_aload_n 1 dX10_mended_71 rfl ?_
  refine z_iconst dX10_mended_72 (zi32_d rfl) ?_
  refine z_putI (k := 9) (kz := 9) pk10 dX10_mended_73 (by decide) zb_466 rfl (zFit_int _) (zOb.lit (by decide +kernel)) rfl ?_
  refine z_iconst dX10_mended_76 (zi32_d rfl) ?_
  refine z_istore (lv' := [(6, xI 0), (5, xR (113 + 14 * l)), (0, xR 0), (1, xI l), (3, xI t), (4, xI z)]) dX10_mended_77 (by decide) rfl ?_
  refine zW.sub (lv' := [(0, xR 0), (4, xI z), (5, xR (113 + 14 * l)), (6, xI 0)]) [2, 5, 1, 0] rfl ?_
  exact k1

set_option maxRecDepth 20000 in
theorem bX10_mended_79 {X : zX} {dep bc bs : Nat} (l : Int) (z : Int) (i : Int) {h : zH} {Q : Nat → zH → List zV → Prop} (hl : 0 ≤ l ∧ l < 4) (h3 : h 3 0 ≤ 60) (hi : 0 ≤ i) (hc : 0 ≤ h 0 9 ∧ h 0 9 ≤ i)
    (k1 : (h 3 0) ≤ i → Q 239 h [xI (h 0 9)])
    (k2 : ¬ ((h 3 0) ≤ i) → (if (h ((113 + 14 * l) + 5) i) = 5 then 1 else 0 : Int) = (h 63 i) → zW mX10_mended X dep bc bs 239 79 [(0, xR 0), (4, xI z), (5, xR (113 + 14 * l)), (6, xI (i + 1))] [] h Q)
    (k3 : ¬ ((h 3 0) ≤ i) → ¬ ((if (h ((113 + 14 * l) + 5) i) = 5 then 1 else 0 : Int) = (h 63 i)) → (if (h ((113 + 14 * l) + 5) i) = 5 then 1 else 0 : Int) = z → zW mX10_mended X dep bc bs 239 79 [(0, xR 0), (4, xI z), (5, xR (113 + 14 * l)), (6, xI (i + 1))] [] h Q)
    (k4 : ¬ ((h 3 0) ≤ i) → ¬ ((if (h ((113 + 14 * l) + 5) i) = 5 then 1 else 0 : Int) = (h 63 i)) → ¬ ((if (h ((113 + 14 * l) + 5) i) = 5 then 1 else 0 : Int) = z) → zW mX10_mended X dep bc bs 239 79 [(0, xR 0), (4, xI z), (5, xR (113 + 14 * l)), (6, xI (i + 1))] [] (zst (zst h 64 (h 0 9) i) 0 9 ((h 0 9) + 1)) Q) : zW mX10_mended X dep bc bs 239 79 [(0, xR 0), (4, xI z), (5, xR (113 + 14 * l)), (6, xI i)] [] h Q := by
  refine z_iload 3 dX10_mended_79 rfl ?_
  refine z_aload_n 0 dX10_mended_81 rfl ?_
  refine z_getS (v := 3) (k := 1) (kz := 1) pk10 dX10_mended_82 (by decide) zb_458 rfl (zOb.lit (by decide +kernel)) rfl (by decide +kernel) ?_
  refine z_getI (k := 0) (kz := 0) pk4 dX10_mended_85 (by decide) zb_156 rfl (zOb.lit (by decide +kernel)) rfl ?_
  refine z_icmp_ge (tgt := 156) dX10_mended_88 (by decide) (fun c1 => ?_) (fun c1 => ?_)
  ·
    refine z_aload_n 0 dX10_mended_156 rfl ?_
    refine z_getI (k := 9) (kz := 9) pk10 dX10_mended_157 (by decide) zb_466 rfl (zOb.lit (by decide +kernel)) rfl ?_
    exact z_iret dX10_mended_160 rfl (k1 c1)
  ·
    refine z_aload 2 dX10_mended_91 rfl ?_
    refine z_getS (v := ((113 + 14 * l) + 5)) (k := 3) (kz := 3) pk6 dX10_mended_93 (by decide) zb_415 rfl (zRollO_rolls hl.1 hl.2).1 rfl (zRollO_rolls hl.1 hl.2).2.2.2.2.2.2.2.2.2.2.2.2.2.2.2.2.1 ?_
    refine z_iload 3 dX10_mended_96 rfl ?_
    refine z_iald dX10_mended_98 (zRollO_rolls hl.1 hl.2).2.2.2.2.2.1 (show 0 ≤ i ∧ i < 60 from ⟨by omega, by omega⟩).1 (show 0 ≤ i ∧ i < 60 from ⟨by omega, by omega⟩).2 ?_
    refine z_iconst dX10_mended_99 (zi32_d rfl) ?_
    suffices KJ : zW mX10_mended X dep bc bs 239 108 [(0, xR 0), (4, xI z), (5, xR (113 + 14 * l)), (6, xI i)] [xI (if (h ((113 + 14 * l) + 5) i) = 5 then 1 else 0 : Int)] h Q by
      refine z_icmp_ne (tgt := 107) dX10_mended_100 (by decide) (fun j1 => ?_) (fun j1 => ?_)
      ·
        refine z_iconst dX10_mended_107 (zi32_d rfl) ?_
        rw [if_neg j1] at KJ
        exact KJ
      ·
        refine z_iconst dX10_mended_103 (zi32_d rfl) ?_
        refine z_goto (tgt := 108) dX10_mended_104 (by decide) ?_
        rw [if_pos j1] at KJ
        exact KJ
    refine z_istore (lv' := [(7, xI (if (h ((113 + 14 * l) + 5) i) = 5 then 1 else 0 : Int)), (0, xR 0), (4, xI z), (5, xR (113 + 14 * l)), (6, xI i)]) dX10_mended_108 (by decide) rfl ?_
    refine z_iload 0 dX10_mended_110 rfl ?_
    refine z_aload_n 1 dX10_mended_112 rfl ?_
    refine z_getS (v := 63) (k := 7) (kz := 7) pk10 dX10_mended_113 (by decide) zb_464 rfl (zOb.lit (by decide +kernel)) rfl (by decide +kernel) ?_
    refine z_iload 4 dX10_mended_116 rfl ?_
    refine z_zald dX10_mended_118 (zOb.lit (by decide +kernel)) (show 0 ≤ i ∧ i < 60 from ⟨by omega, by omega⟩).1 (show 0 ≤ i ∧ i < 60 from ⟨by omega, by omega⟩).2 ?_
    refine z_icmp_eq (tgt := 150) dX10_mended_119 (by decide) (fun c2 => ?_) (fun c2 => ?_)
    ·
      refine z_iincN (lv' := [(6, xI (i + 1)), (7, xI (if (h ((113 + 14 * l) + 5) i) = 5 then 1 else 0 : Int)), (0, xR 0), (4, xI z), (5, xR (113 + 14 * l))]) 4 dX10_mended_150 rfl (by decide) rfl (show -2147483648 ≤ i + 1 ∧ i + 1 < 2147483648 from ⟨by omega, by omega⟩).1 (show -2147483648 ≤ i + 1 ∧ i + 1 < 2147483648 from ⟨by omega, by omega⟩).2 ?_
      refine z_goto (tgt := 79) dX10_mended_153 (by decide) ?_
      refine zW.sub (lv' := [(0, xR 0), (4, xI z), (5, xR (113 + 14 * l)), (6, xI (i + 1))]) [2, 3, 4, 0] rfl ?_
      exact k2 c1 c2
    ·
      refine z_iload 0 dX10_mended_122 rfl ?_
      refine z_iload 2 dX10_mended_124 rfl ?_
      refine z_icmp_eq (tgt := 150) dX10_mended_126 (by decide) (fun c3 => ?_) (fun c3 => ?_)
      ·
        refine z_iincN (lv' := [(6, xI (i + 1)), (7, xI (if (h ((113 + 14 * l) + 5) i) = 5 then 1 else 0 : Int)), (0, xR 0), (4, xI z), (5, xR (113 + 14 * l))]) 4 dX10_mended_150 rfl (by decide) rfl (show -2147483648 ≤ i + 1 ∧ i + 1 < 2147483648 from ⟨by omega, by omega⟩).1 (show -2147483648 ≤ i + 1 ∧ i + 1 < 2147483648 from ⟨by omega, by omega⟩).2 ?_
        refine z_goto (tgt := 79) dX10_mended_153 (by decide) ?_
        refine zW.sub (lv' := [(0, xR 0), (4, xI z), (5, xR (113 + 14 * l)), (6, xI (i + 1))]) [2, 3, 4, 0] rfl ?_
        exact k3 c1 c2 c3
      ·
        refine z_aload_n 1 dX10_mended_129 rfl ?_
        refine z_getS (v := 64) (k := 8) (kz := 8) pk10 dX10_mended_130 (by decide) zb_465 rfl (zOb.lit (by decide +kernel)) rfl (by decide +kernel) ?_
        refine z_aload_n 1 dX10_mended_133 rfl ?_
        refine z_getI (k := 9) (kz := 9) pk10 dX10_mended_134 (by decide) zb_466 rfl (zOb.lit (by decide +kernel)) rfl ?_
        refine z_iload 4 dX10_mended_137 rfl ?_
        refine z_iast dX10_mended_139 (zOb.lit (by decide +kernel)) (show 0 ≤ (h 0 9) ∧ (h 0 9) < 60 from ⟨by omega, by omega⟩).1 (show 0 ≤ (h 0 9) ∧ (h 0 9) < 60 from ⟨by omega, by omega⟩).2 ?_
        refine z_aload_n 1 dX10_mended_140 rfl ?_
        refine z_dup dX10_mended_141 zt2 ?_
        refine z_getIV (v := (h 0 9)) (k := 9) (kz := 9) pk10 dX10_mended_142 (by decide) zb_466 rfl (zOb.lit (by decide +kernel)) rfl (zst_ne (Or.inl (by decide))) ?_
        refine z_iconst dX10_mended_145 (zi32_d rfl) ?_
        refine z_iaddN dX10_mended_146 (show -2147483648 ≤ (h 0 9) + 1 ∧ (h 0 9) + 1 < 2147483648 from ⟨by omega, by omega⟩).1 (show -2147483648 ≤ (h 0 9) + 1 ∧ (h 0 9) + 1 < 2147483648 from ⟨by omega, by omega⟩).2 ?_
        refine z_putI (k := 9) (kz := 9) pk10 dX10_mended_147 (by decide) zb_466 rfl (zFit_int _) (zOb.lit (by decide +kernel)) rfl ?_
        refine z_iincN (lv' := [(6, xI (i + 1)), (7, xI (if (h ((113 + 14 * l) + 5) i) = 5 then 1 else 0 : Int)), (0, xR 0), (4, xI z), (5, xR (113 + 14 * l))]) 4 dX10_mended_150 rfl (by decide) rfl (show -2147483648 ≤ i + 1 ∧ i + 1 < 2147483648 from ⟨by omega, by omega⟩).1 (show -2147483648 ≤ i + 1 ∧ i + 1 < 2147483648 from ⟨by omega, by omega⟩).2 ?_
        refine z_goto (tgt := 79) dX10_mended_153 (by decide) ?_
        refine zW.sub (lv' := [(0, xR 0), (4, xI z), (5, xR (113 + 14 * l)), (6, xI (i + 1))]) [2, 3, 4, 0] rfl ?_
        exact k4 c1 c2 c3

set_option maxRecDepth 20000 in
theorem bX10_appeal_0 {X : zX} {dep bc bs : Nat} (l : Int) (m : Int) {h : zH} {Q : Nat → zH → List zV → Prop} (hn : h 0 12 ≤ 4) (hd : 0 ≤ h 0 10 ∧ h 0 10 ≤ 3639) (hd2 : 0 ≤ l → l < 4 → 0 ≤ h (113 + 14 * l + 1) 0 ∧ h (113 + 14 * l + 1) 0 ≤ 3639) (hdep : 1 ≤ dep)
    (k1 : ¬ (0 ≤ l ∧ l < h 0 12) → Q 239 h [xI (-1)])
    (k2 : 0 ≤ l ∧ l < h 0 12 → ¬ (0 ≤ m ∧ m < h 3 0) → Q 239 h [xI (-1)])
    (k3 : 0 ≤ l ∧ l < h 0 12 → 0 ≤ m ∧ m < h 3 0 → (h 0 15) < 60 → (h 0 10) < (h ((113 + 14 * l) + 1) 0) → Q 239 h [xI (-1)])
    (k4 : 0 ≤ l ∧ l < h 0 12 → 0 ≤ m ∧ m < h 3 0 → (h 0 15) < 60 → ¬ ((h 0 10) < (h ((113 + 14 * l) + 1) 0)) → zW mX10_appeal X dep bc bs 239 60 [(3, xI (h ((113 + 14 * l) + 1) 0)), (0, xR 0), (1, xI l), (2, xI m)] [xI (h 0 10), xI l, xR 0, xI ((h 0 10) - (h ((113 + 14 * l) + 1) 0))] h Q)
    (k5 : 0 ≤ l ∧ l < h 0 12 → 0 ≤ m ∧ m < h 3 0 → ¬ ((h 0 15) < 60) → Q 239 h [xI (-1)]) : zW mX10_appeal X dep bc bs 239 0 [(0, xR 0), (1, xI l), (2, xI m)] [] h Q := by
  refine z_aload_n 0 dX10_appeal_0 rfl ?_
  refine z_iload_n 1 dX10_appeal_1 rfl ?_
  refine z_invF (ci := 10) (N := 17) (as := [xI l]) (st := []) (ra := [xI l]) (dep' := dep - 1) (rs := [xI (zb (0 ≤ l ∧ l < h 0 12))]) (h' := h) (f_X10_isLot l (h := h) ) dX10_appeal_2 nX10_isLot zb_782 zb_784 zb_17 zb_82 (zOb.lit (by decide +kernel)) rfl (by omega) zne_I (Nat.le_of_ble_eq_true rfl) (Nat.le_of_ble_eq_true rfl) rfl ?_
  refine z_ifB_eq (C := 0 ≤ l ∧ l < h 0 12) (tgt := 25) dX10_appeal_5 (by decide) (fun c1 => ?_) (fun c1 => ?_)
  ·
    refine z_iconst dX10_appeal_25 (zi32_d rfl) ?_
    exact z_iret dX10_appeal_26 rfl (k1 c1)
  ·
    refine z_aload_n 0 dX10_appeal_8 rfl ?_
    refine z_iload_n 2 dX10_appeal_9 rfl ?_
    refine z_invF (ci := 10) (N := 17) (as := [xI m]) (st := []) (ra := [xI m]) (dep' := dep - 1) (rs := [xI (zb (0 ≤ m ∧ m < h 3 0))]) (h' := h) (f_X10_isMan m (h := h) ) dX10_appeal_10 nX10_isMan zb_559 zb_561 zb_0 zb_82 (zOb.lit (by decide +kernel)) rfl (by omega) zne_I (Nat.le_of_ble_eq_true rfl) (Nat.le_of_ble_eq_true rfl) rfl ?_
    refine z_ifB_eq (C := 0 ≤ m ∧ m < h 3 0) (tgt := 25) dX10_appeal_13 (by decide) (fun c2 => ?_) (fun c2 => ?_)
    ·
      refine z_iconst dX10_appeal_25 (zi32_d rfl) ?_
      exact z_iret dX10_appeal_26 rfl (k2 c1 c2)
    ·
      refine z_aload_n 0 dX10_appeal_16 rfl ?_
      refine z_getI (k := 15) (kz := 15) pk10 dX10_appeal_17 (by decide) zb_472 rfl (zOb.lit (by decide +kernel)) rfl ?_
      refine z_bipush dX10_appeal_20 (zi32_d rfl) (by decide) ?_
      refine z_icmp_lt (tgt := 27) dX10_appeal_22 (by decide) (fun c3 => ?_) (fun c3 => ?_)
      ·
        refine z_aload_n 0 dX10_appeal_27 rfl ?_
        refine z_getS (v := 43) (k := 5) (kz := 5) pk10 dX10_appeal_28 (by decide) zb_462 rfl (zOb.lit (by decide +kernel)) rfl (by decide +kernel) ?_
        refine z_iload_n 1 dX10_appeal_31 rfl ?_
        refine z_aaldSR (v := (113 + 14 * l)) dX10_appeal_32 (zOb.lit (by decide +kernel)) (show 0 ≤ l ∧ l < 4 from ⟨by omega, by omega⟩).1 (show 0 ≤ l ∧ l < 4 from ⟨by omega, by omega⟩).2 (zRF_rolls (show 0 ≤ l ∧ l < 4 from ⟨by omega, by omega⟩).1 (show 0 ≤ l ∧ l < 4 from ⟨by omega, by omega⟩).2) ?_
        refine z_getS (v := ((113 + 14 * l) + 1)) (k := 1) (kz := 1) pk6 dX10_appeal_33 (by decide) zb_412 rfl (zRollO_rolls (show 0 ≤ l ∧ l < 4 from ⟨by omega, by omega⟩).1 (show 0 ≤ l ∧ l < 4 from ⟨by omega, by omega⟩).2).1 rfl (zRollO_rolls (show 0 ≤ l ∧ l < 4 from ⟨by omega, by omega⟩).1 (show 0 ≤ l ∧ l < 4 from ⟨by omega, by omega⟩).2).2.2.2.2.2.2.2.2.2.2.2.2.2.2.1 ?_
        refine z_getI (k := 0) (kz := 0) pk3 dX10_appeal_36 (by decide) zb_388 rfl (zRollO_rolls (show 0 ≤ l ∧ l < 4 from ⟨by omega, by omega⟩).1 (show 0 ≤ l ∧ l < 4 from ⟨by omega, by omega⟩).2).2.1 rfl ?_
        refine z_istore_n (lv' := [(3, xI (h ((113 + 14 * l) + 1) 0)), (0, xR 0), (1, xI l), (2, xI m)]) dX10_appeal_39 (by decide) rfl ?_
        refine z_aload_n 1 dX10_appeal_40 rfl ?_
        refine z_getI (k := 10) (kz := 10) pk10 dX10_appeal_41 (by decide) zb_467 rfl (zOb.lit (by decide +kernel)) rfl ?_
        refine z_iload_n 0 dX10_appeal_44 rfl ?_
        refine z_icmp_lt (tgt := 69) dX10_appeal_45 (by decide) (fun c4 => ?_) (fun c4 => ?_)
        ·
          refine z_iconst dX10_appeal_69 (zi32_d rfl) ?_
          exact z_iret dX10_appeal_70 rfl (k3 c1 c2 c3 c4)
        ·
          refine z_aload_n 1 dX10_appeal_48 rfl ?_
          refine z_getI (k := 10) (kz := 10) pk10 dX10_appeal_49 (by decide) zb_467 rfl (zOb.lit (by decide +kernel)) rfl ?_
          refine z_iload_n 0 dX10_appeal_52 rfl ?_
          refine z_isubN dX10_appeal_53 (show -2147483648 ≤ (h 0 10) - (h ((113 + 14 * l) + 1) 0) ∧ (h 0 10) - (h ((113 + 14 * l) + 1) 0) < 2147483648 from ⟨by omega, by omega⟩).1 (show -2147483648 ≤ (h 0 10) - (h ((113 + 14 * l) + 1) 0) ∧ (h 0 10) - (h ((113 + 14 * l) + 1) 0) < 2147483648 from ⟨by omega, by omega⟩).2 ?_
          refine z_aload_n 1 dX10_appeal_54 rfl ?_
          refine z_iload_n 2 dX10_appeal_55 rfl ?_
          refine z_aload_n 1 dX10_appeal_56 rfl ?_
          refine z_getI (k := 10) (kz := 10) pk10 dX10_appeal_57 (by decide) zb_467 rfl (zOb.lit (by decide +kernel)) rfl ?_
          exact k4 c1 c2 c3 c4
      ·
        refine z_iconst dX10_appeal_25 (zi32_d rfl) ?_
        exact z_iret dX10_appeal_26 rfl (k5 c1 c2 c3)

set_option maxRecDepth 20000 in
theorem rX10_appeal_60 {X : zX} {dep bc bs : Nat} (l : Int) (m : Int) (d : Int) (x : Int) {h : zH} {Q : Nat → zH → List zV → Prop} {P : Int → zH → Prop}
    (hZ : zW mX10_lawFor X (dep - 1) 0 0 239 0 (zar 0 [xR 0, xI l, xI (h 0 10)]) [] h (zQR P)) (hdep : 1 ≤ dep)
    (k : ∀ (v : Int) (g : zH), P v g → zW mX10_appeal X dep bc bs 239 63 [(0, xR 0), (1, xI l), (2, xI m), (3, xI d)] [xR v, xI x] g Q) : zW mX10_appeal X dep bc bs 239 60 [(0, xR 0), (1, xI l), (2, xI m), (3, xI d)] [xI (h 0 10), xI l, xR 0, xI x] h Q :=
  z_invQR (ci := 10) (N := 17) (as := [xI l, xI (h 0 10)]) (st := [xI x]) (ra := [xI (h 0 10), xI l]) hZ dX10_appeal_60 nX10_lawFor zb_869 zb_871 zb_21 zb_82 (zOb.lit (by decide +kernel)) rfl (by omega) (Nat.le_of_ble_eq_true rfl) (Nat.le_of_ble_eq_true rfl) rfl (fun v g hg => k v g hg)

set_option maxRecDepth 20000 in
theorem bX10_appeal_63 {X : zX} {dep bc bs : Nat} (l : Int) (m : Int) (d : Int) (x : Int) (L : Int) {h : zH} {Q : Nat → zH → List zV → Prop} (hL : zLawO L)
    (k1 : x ≤ (h L 4) → zW mX10_appeal X dep bc bs 239 74 [(0, xR 0), (1, xI l), (2, xI m), (3, xI d)] [xI d, xI l, xR 0] h Q)
    (k2 : ¬ (x ≤ (h L 4)) → Q 239 h [xI (-1)]) : zW mX10_appeal X dep bc bs 239 63 [(0, xR 0), (1, xI l), (2, xI m), (3, xI d)] [xR L, xI x] h Q := by
  refine z_getI (k := 4) (kz := 4) pk1 dX10_appeal_63 (by decide) zb_283 rfl hL.1 rfl ?_
  refine z_icmp_le (tgt := 71) dX10_appeal_66 (by decide) (fun c1 => ?_) (fun c1 => ?_)
  ·
    refine z_aload_n 0 dX10_appeal_71 rfl ?_
    refine z_iload_n 1 dX10_appeal_72 rfl ?_
    refine z_iload_n 3 dX10_appeal_73 rfl ?_
    exact k1 c1
  ·
    refine z_iconst dX10_appeal_69 (zi32_d rfl) ?_
    exact z_iret dX10_appeal_70 rfl (k2 c1)

set_option maxRecDepth 20000 in
theorem rX10_appeal_74 {X : zX} {dep bc bs : Nat} (l : Int) (m : Int) (d : Int) {h : zH} {Q : Nat → zH → List zV → Prop} {P : Int → zH → Prop}
    (hZ : zW mX10_rollAsOf X (dep - 1) 0 0 239 0 (zar 0 [xR 0, xI l, xI d]) [] h (zQR P)) (hdep : 1 ≤ dep)
    (k : ∀ (v : Int) (g : zH), P v g → zW mX10_appeal X dep bc bs 239 77 [(0, xR 0), (1, xI l), (2, xI m), (3, xI d)] [xR v] g Q) : zW mX10_appeal X dep bc bs 239 74 [(0, xR 0), (1, xI l), (2, xI m), (3, xI d)] [xI d, xI l, xR 0] h Q :=
  z_invQR (ci := 10) (N := 17) (as := [xI l, xI d]) (st := []) (ra := [xI d, xI l]) hZ dX10_appeal_74 nX10_rollAsOf zb_865 zb_867 zb_20 zb_82 (zOb.lit (by decide +kernel)) rfl (by omega) (Nat.le_of_ble_eq_true rfl) (Nat.le_of_ble_eq_true rfl) rfl (fun v g hg => k v g hg)

set_option maxRecDepth 20000 in
theorem bX10_appeal_77 {X : zX} {dep bc bs : Nat} (l : Int) (m : Int) (d : Int) {h : zH} {Q : Nat → zH → List zV → Prop} (hl : 0 ≤ l ∧ l < 4) (hm : 0 ≤ m ∧ m < 60)
    (k1 : zW mX10_appeal X dep bc bs 239 99 [(4, xI (if (h ((113 + 14 * l) + 5) m) = 5 then 1 else 0 : Int)), (0, xR 0), (1, xI l), (2, xI m), (3, xI d)] [xI (h 0 10), xI l, xR 0] h Q) : zW mX10_appeal X dep bc bs 239 77 [(0, xR 0), (1, xI l), (2, xI m), (3, xI d)] [xR (113 + 14 * l)] h Q := by
  refine z_getS (v := ((113 + 14 * l) + 5)) (k := 3) (kz := 3) pk6 dX10_appeal_77 (by decide) zb_415 rfl (zRollO_rolls hl.1 hl.2).1 rfl (zRollO_rolls hl.1 hl.2).2.2.2.2.2.2.2.2.2.2.2.2.2.2.2.2.1 ?_
  refine z_iload_n 2 dX10_appeal_80 rfl ?_
  refine z_iald dX10_appeal_81 (zRollO_rolls hl.1 hl.2).2.2.2.2.2.1 hm.1 hm.2 ?_
  refine z_iconst dX10_appeal_82 (zi32_d rfl) ?_
  suffices KJ : zW mX10_appeal X dep bc bs 239 91 [(0, xR 0), (1, xI l), (2, xI m), (3, xI d)] [xI (if (h ((113 + 14 * l) + 5) m) = 5 then 1 else 0 : Int)] h Q by
    refine z_icmp_ne (tgt := 90) dX10_appeal_83 (by decide) (fun j1 => ?_) (fun j1 => ?_)
    ·
      refine z_iconst dX10_appeal_90 (zi32_d rfl) ?_
      rw [if_neg j1] at KJ
      exact KJ
    ·
      refine z_iconst dX10_appeal_86 (zi32_d rfl) ?_
      refine z_goto (tgt := 91) dX10_appeal_87 (by decide) ?_
      rw [if_pos j1] at KJ
      exact KJ
  refine z_istore (lv' := [(4, xI (if (h ((113 + 14 * l) + 5) m) = 5 then 1 else 0 : Int)), (0, xR 0), (1, xI l), (2, xI m), (3, xI d)]) dX10_appeal_91 (by decide) rfl ?_
  refine z_aload_n 1 dX10_appeal_93 rfl ?_
  refine z_iload_n 2 dX10_appeal_94 rfl ?_
  refine z_aload_n 1 dX10_appeal_95 rfl ?_
  refine z_getI (k := 10) (kz := 10) pk10 dX10_appeal_96 (by decide) zb_467 rfl (zOb.lit (by decide +kernel)) rfl ?_
  exact k1

set_option maxRecDepth 20000 in
theorem rX10_appeal_99 {X : zX} {dep bc bs : Nat} (l : Int) (m : Int) (d : Int) (y : Int) {h : zH} {Q : Nat → zH → List zV → Prop} {P : Int → zH → Prop}
    (hZ : zW mX10_rollAsOf X (dep - 1) 0 0 239 0 (zar 0 [xR 0, xI l, xI (h 0 10)]) [] h (zQR P)) (hdep : 1 ≤ dep)
    (k : ∀ (v : Int) (g : zH), P v g → zW mX10_appeal X dep bc bs 239 102 [(0, xR 0), (1, xI l), (2, xI m), (3, xI d), (4, xI y)] [xR v] g Q) : zW mX10_appeal X dep bc bs 239 99 [(0, xR 0), (1, xI l), (2, xI m), (3, xI d), (4, xI y)] [xI (h 0 10), xI l, xR 0] h Q :=
  z_invQR (ci := 10) (N := 17) (as := [xI l, xI (h 0 10)]) (st := []) (ra := [xI (h 0 10), xI l]) hZ dX10_appeal_99 nX10_rollAsOf zb_865 zb_867 zb_20 zb_82 (zOb.lit (by decide +kernel)) rfl (by omega) (Nat.le_of_ble_eq_true rfl) (Nat.le_of_ble_eq_true rfl) rfl (fun v g hg => k v g hg)

set_option maxRecDepth 20000 in
theorem bX10_appeal_102 {X : zX} {dep bc bs : Nat} (l : Int) (m : Int) (d : Int) (y : Int) {h : zH} {Q : Nat → zH → List zV → Prop} (hl : 0 ≤ l ∧ l < 4) (hm : 0 ≤ m ∧ m < 60) (ha : 0 ≤ h 0 15 ∧ h 0 15 ≤ 60) (hh : 0 ≤ h 0 16 ∧ h 0 16 ≤ 60)
    (k1 : y = 0 → Q 239 (zst h 0 15 ((h 0 15) + 1)) [xI 0])
    (k2 : ¬ (y = 0) → (if (h ((113 + 14 * l) + 5) m) = 5 then 1 else 0 : Int) = 0 → Q 239 (zst (zst h 0 15 ((h 0 15) + 1)) 0 16 ((h 0 16) + 1)) [xI 1])
    (k3 : ¬ (y = 0) → ¬ ((if (h ((113 + 14 * l) + 5) m) = 5 then 1 else 0 : Int) = 0) → Q 239 (zst h 0 15 ((h 0 15) + 1)) [xI 0]) : zW mX10_appeal X dep bc bs 239 102 [(0, xR 0), (1, xI l), (2, xI m), (3, xI d), (4, xI y)] [xR (113 + 14 * l)] h Q := by
  refine z_getS (v := ((113 + 14 * l) + 5)) (k := 3) (kz := 3) pk6 dX10_appeal_102 (by decide) zb_415 rfl (zRollO_rolls hl.1 hl.2).1 rfl (zRollO_rolls hl.1 hl.2).2.2.2.2.2.2.2.2.2.2.2.2.2.2.2.2.1 ?_
  refine z_iload_n 2 dX10_appeal_105 rfl ?_
  refine z_iald dX10_appeal_106 (zRollO_rolls hl.1 hl.2).2.2.2.2.2.1 hm.1 hm.2 ?_
  refine z_iconst dX10_appeal_107 (zi32_d rfl) ?_
  suffices KJ : zW mX10_appeal X dep bc bs 239 116 [(0, xR 0), (1, xI l), (2, xI m), (3, xI d), (4, xI y)] [xI (if (h ((113 + 14 * l) + 5) m) = 5 then 1 else 0 : Int)] h Q by
    refine z_icmp_ne (tgt := 115) dX10_appeal_108 (by decide) (fun j1 => ?_) (fun j1 => ?_)
    ·
      refine z_iconst dX10_appeal_115 (zi32_d rfl) ?_
      rw [if_neg j1] at KJ
      exact KJ
    ·
      refine z_iconst dX10_appeal_111 (zi32_d rfl) ?_
      refine z_goto (tgt := 116) dX10_appeal_112 (by decide) ?_
      rw [if_pos j1] at KJ
      exact KJ
  refine z_istore (lv' := [(5, xI (if (h ((113 + 14 * l) + 5) m) = 5 then 1 else 0 : Int)), (0, xR 0), (1, xI l), (2, xI m), (3, xI d), (4, xI y)]) dX10_appeal_116 (by decide) rfl ?_
  refine z_aload_n 1 dX10_appeal_118 rfl ?_
  refine z_dup dX10_appeal_119 zt2 ?_
  refine z_getI (k := 15) (kz := 15) pk10 dX10_appeal_120 (by decide) zb_472 rfl (zOb.lit (by decide +kernel)) rfl ?_
  refine z_iconst dX10_appeal_123 (zi32_d rfl) ?_
  refine z_iaddN dX10_appeal_124 (show -2147483648 ≤ (h 0 15) + 1 ∧ (h 0 15) + 1 < 2147483648 from ⟨by omega, by omega⟩).1 (show -2147483648 ≤ (h 0 15) + 1 ∧ (h 0 15) + 1 < 2147483648 from ⟨by omega, by omega⟩).2 ?_
  refine z_putI (k := 15) (kz := 15) pk10 dX10_appeal_125 (by decide) zb_472 rfl (zFit_int _) (zOb.lit (by decide +kernel)) rfl ?_
  refine z_iload 5 dX10_appeal_128 rfl ?_
  refine z_if_eq (tgt := 138) dX10_appeal_130 (by decide) (fun c1 => ?_) (fun c1 => ?_)
  ·
    refine z_iconst dX10_appeal_138 (zi32_d rfl) ?_
    exact z_iret dX10_appeal_139 rfl (k1 c1)
  ·
    refine z_iload 0 dX10_appeal_133 rfl ?_
    refine z_if_eq (tgt := 140) dX10_appeal_135 (by decide) (fun c2 => ?_) (fun c2 => ?_)
    ·
      refine z_aload_n 1 dX10_appeal_140 rfl ?_
      refine z_dup dX10_appeal_141 zt2 ?_
      refine z_getIV (v := (h 0 16)) (k := 16) (kz := 16) pk10 dX10_appeal_142 (by decide) zb_473 rfl (zOb.lit (by decide +kernel)) rfl (zst_ne (Or.inr (by decide))) ?_
      refine z_iconst dX10_appeal_145 (zi32_d rfl) ?_
      refine z_iaddN dX10_appeal_146 (show -2147483648 ≤ (h 0 16) + 1 ∧ (h 0 16) + 1 < 2147483648 from ⟨by omega, by omega⟩).1 (show -2147483648 ≤ (h 0 16) + 1 ∧ (h 0 16) + 1 < 2147483648 from ⟨by omega, by omega⟩).2 ?_
      refine z_putI (k := 16) (kz := 16) pk10 dX10_appeal_147 (by decide) zb_473 rfl (zFit_int _) (zOb.lit (by decide +kernel)) rfl ?_
      refine z_iconst dX10_appeal_150 (zi32_d rfl) ?_
      exact z_iret dX10_appeal_151 rfl (k2 c1 c2)
    ·
      refine z_iconst dX10_appeal_138 (zi32_d rfl) ?_
      exact z_iret dX10_appeal_139 rfl (k3 c1 c2)

def zmbs (h : zH) (o m : Int) : Prop := (h (o + 5) m = 1 ∨ h (o + 5) m = 4) ∧ h (o + 13) m = 0 ∧ h (o + 12) m = -1
def zfed (h : zH) (A O K a b c d e : Int) : zH := zput4 (zput4 (zput4 (zput4 (zput4 h A O K a) A O K b) A O K c) A O K d) A O K e
theorem zput4_len {h : zH} {A O K a : Int} (hn : A ≠ O) : zput4 h A O K a O K = h O K + 4 := by
  unfold zput4
  rw [zst_self]
theorem f_X10_feed {X : zX} {dep : Nat} (a b c d e : Int) {h : zH} (ht : 0 ≤ h 1 1 ∧ h 1 1 ≤ 340) (hdep : 1 ≤ dep) : zW mX10_feed X dep 0 0 239 0 (zar 0 [xR 0, xI a, xI b, xI c, xI d, xI e]) [] h
    (zQI (fun v g => h 1 1 + 20 ≤ 340 ∧ v = h 1 1 + 20 ∧ g = zfed h 2 1 1 a b c d e ∨ ¬ (h 1 1 + 20 ≤ 340) ∧ v = -1 ∧ g = h)) := by
  have pt : ∀ (g : zH) (x : Int), 0 ≤ g 1 1 ∧ g 1 1 ≤ 336 → zW mX7_put X (dep - 1) 0 0 239 0 (zar 0 [xR 1, xI x]) [] g (zQ0 (fun f => f = zput4 g 2 1 1 x)) := fun g x hg => (f_X7_put x hg).weaken (fun _ _ _ q => ⟨q.1, q.2.2, q.2.1⟩)
  have ln : ∀ (g : zH) (x : Int), zput4 g 2 1 1 x 1 1 = g 1 1 + 4 := fun g x => zput4_len (by omega)
  refine bX10_feed_0 a b c d e ht (fun c0 => ?_) (fun c0 => ?_)
  · refine rX10_feed_23 a b c d e (pt _ _ (by omega)) hdep (fun g hg => ?_)
    subst hg
    refine bX10_feed_26 a b c d e ?_
    refine rX10_feed_31 a b c d e (pt _ _ (by rw [ln]; omega)) hdep (fun g hg => ?_)
    subst hg
    refine bX10_feed_34 a b c d e ?_
    refine rX10_feed_39 a b c d e (pt _ _ (by rw [ln, ln]; omega)) hdep (fun g hg => ?_)
    subst hg
    refine bX10_feed_42 a b c d e ?_
    refine rX10_feed_48 a b c d e (pt _ _ (by rw [ln, ln, ln]; omega)) hdep (fun g hg => ?_)
    subst hg
    refine bX10_feed_51 a b c d e ?_
    refine rX10_feed_57 a b c d e (pt _ _ (by rw [ln, ln, ln, ln]; omega)) hdep (fun g hg => ?_)
    subst hg
    refine bX10_feed_60 a b c d e ?_
    refine ⟨rfl, _, rfl, Or.inl ⟨c0, ?_, rfl⟩⟩
    rw [ln, ln, ln, ln, ln]
    omega
  · exact ⟨rfl, _, rfl, Or.inr ⟨c0, rfl, rfl⟩⟩
/-- what the rolls that were drawn leave alone -/
theorem zRolls.lo {L : Int → Int} {g0 : zH} {f : Int} (hf : 0 ≤ f) : ∀ {k : Nat} {g : zH}, f + k ≤ 4 → zRolls L g0 f k g → ∀ q j : Int, q < 23 → g q j = g0 q j
  | 0, _, _, hg, q, j, hq => by
    rw [hg]
  | k + 1, g, hk, ⟨e, he, hd⟩, q, j, hq => by
    rw [hd.1.1 q j (by simp only [zDS]; omega), zRolls.lo hf (by omega) he q j hq]
theorem zRolled.last {h g : zH} {l t : Int} (hl : 0 ≤ l ∧ l < 4) (a : zRolled h l t g) : ∃ e, zDrawn e (113 + 14 * l) (zbest h l t (h 0 11).toNat) g ∧ ∃ g0, (zag [17, 18, 19, 20, 21, 22, 23] (zst h 3 9 t) g0 ∧ zLook h g0 (zknown h 13 t).toNat (zknown h 7 t).toNat (h 3 0).toNat) ∧ ∀ q j : Int, q < 23 → g q j = g0 q j := by
  obtain ⟨w, kg, g0, hg0, hr⟩ := a
  have key : ∀ f : Int, 0 ≤ f → f ≤ l → zRolls (fun j => zbest h j t (h 0 11).toNat) g0 f (l + 1 - f).toNat g → ∃ e, zDrawn e (113 + 14 * l) (zbest h l t (h 0 11).toNat) g ∧ ∃ g0, (zag [17, 18, 19, 20, 21, 22, 23] (zst h 3 9 t) g0 ∧ zLook h g0 (zknown h 13 t).toNat (zknown h 7 t).toNat (h 3 0).toNat) ∧ ∀ q j : Int, q < 23 → g q j = g0 q j := by
    intro f f0 f1 hq
    have lo := zRolls.lo f0 (by omega) hq
    rw [show (l + 1 - f).toNat = (l - f).toNat + 1 by omega] at hq
    obtain ⟨e, he, hd⟩ := hq
    rw [show f + ((l - f).toNat : Int) = l by omega] at hd
    exact ⟨e, hd, g0, hg0, lo⟩
  by_cases c : h (zbest h l t (h 0 11).toNat) 5 = 0
  · rw [if_pos c] at hr
    exact key l hl.1 (Int.le_refl _) hr
  · rw [if_neg c] at hr
    exact key 0 (Int.le_refl _) hl.1 hr
theorem zRolled.lvOK {h g : zH} {l t : Int} (hl : 0 ≤ l ∧ l < 4) (a : zRolled h l t g) (h3 : 0 ≤ h 3 0 ∧ h 3 0 ≤ 60) (ht : 0 ≤ h 1 1 ∧ h 1 1 ≤ 340) (hT : zTold h) (hh : ∀ p w : Int, 0 ≤ p → p < 8 → 0 ≤ w → w < 12 → 0 ≤ h (46 + p) w ∧ h (46 + p) w ≤ 60) : zLvOK g (113 + 14 * l) := by
  obtain ⟨e, hd, g0, hg0, lo⟩ := a.last hl
  have e1 : ∀ q k : Int, q = 1 ∨ q = 2 ∨ 46 ≤ q ∧ q ≤ 53 → g q k = h q k := fun q k hq => a.2.1.1 q k (by simp only [zKS]; omega)
  have ez : ∀ i : Int, zat g i = zat h i := fun i => by
    unfold zat
    rw [e1 1 1 (by omega), e1 2 i (by omega)]
  refine ⟨by rw [e1 1 1 (by omega)]; exact ht, ?_, fun p p0 p1 => ⟨?_, ?_⟩, fun p w p0 p1 w0 w1 => by rw [e1 (46 + p) w (by omega)]; exact hh p w p0 p1 w0 w1⟩
  · unfold zTold
    simp only [e1 1 1 (by omega), ez]
    exact hT
  · rw [lo 22 p (by omega), hg0.2.2.2.2 p p0 p1]
    have := zcnt_in (fun m => zthere h (zknown h 13 t).toNat (zknown h 7 t).toNat m ∧ h 4 m = p) (h 3 0).toNat
    omega
  · rw [hd.2.2.2.2.1 p p0 p1]
    have g3 : g 3 0 = h 3 0 := a.2.1.2.1 0 (by omega)
    have rw1 := a.1.2.2.2.2.2.2.1 l hl.1 hl.2
    exact (zqr_in (fun q => zq0_in g (113 + 14 * l) q (by omega) rw1.2.2.1) _ p).1
theorem f_X10_leaves {X : zX} {dep : Nat} (l t : Int) {h : zH} (w : zBase h) (ht : 0 ≤ h 1 1 ∧ h 1 1 ≤ 340) (hh : ∀ p w : Int, 0 ≤ p → p < 8 → 0 ≤ w → w < 12 → 0 ≤ h (46 + p) w ∧ h (46 + p) w ≤ 60) (hdep : 6 ≤ dep) : zW mX10_leaves X dep 0 0 239 0 (zar 0 [xR 0, xI l, xI t]) [] h
    (zQI (fun v g => ((0 ≤ l ∧ l < h 0 12) ∧ zTold h) ∧ (∃ e f, zRolled h l t e ∧ zLv e (113 + 14 * l) 12 0 f ∧ v = (zlv (zcap e (113 + 14 * l)) (zto e) 12).2.2 ∧ g = zst f 1 1 0) ∨ ¬ ((0 ≤ l ∧ l < h 0 12) ∧ zTold h) ∧ v = -1 ∧ g = zst h 1 1 0)) := by
  have h12 := w.2.2.2.2.2.2.2.2
  refine bX10_leaves_0 l t ht (by omega) (fun c => ?_) (fun c c1 => ?_) (fun c c1 => ?_)
  · refine bX10_leaves_62 (-1) ?_
    exact ⟨rfl, _, rfl, Or.inr ⟨fun z => c z.1, rfl, rfl⟩⟩
  · refine bX10_leaves_62 (-1) ?_
    exact ⟨rfl, _, rfl, Or.inr ⟨fun z => c1 z.2, rfl, rfl⟩⟩
  · refine zW.sub (lv' := [(0, xR 0), (1, xI l), (2, xI t)]) [2, 3, 4] rfl ?_
    refine rX10_leaves_46 l t (f_X10_rollAsOf l t (by omega) w (by omega)) (by omega) (fun v e he => ?_)
    obtain ⟨rfl, he⟩ := he
    refine zW.sub (lv' := [(0, xR 0)]) [0] rfl ?_
    refine rX10_leaves_49 l (by omega) (f_X0_leave _ (zRollO_rolls (by omega) (by omega)) (by omega) (he.lvOK (by omega) w.1.1 ht c1 hh) (by omega)) (by omega) (fun v f hf => ?_)
    refine bX10_leaves_52 v ?_
    refine bX10_leaves_62 _ ?_
    refine ⟨rfl, _, rfl, Or.inl ⟨⟨c, c1⟩, e, f, he, hf.2, ?_, rfl⟩⟩
    have := zlv_c (zcap e (113 + 14 * l)) (zto e) 12
    rw [← hf.1] at this ⊢
    rcases this with q | q
    · rw [q]; rfl
    · rw [q]; rfl
theorem zbest_ok {h g : zH} (a : zKept h g) (w : zBase g) (l t : Int) : (zLawOK g (zbest h l t (h 0 11).toNat) ∧ zClsOK g (zbest h l t (h 0 11).toNat)) ∧ zLawO (zbest h l t (h 0 11).toNat) ∧ 30 ≤ zbest h l t (h 0 11).toNat ∧ zbest h l t (h 0 11).toNat ≤ 107 := by
  have e11 := a.1 0 11 (by simp only [zKS]; omega)
  have hn := w.2.2.2.2.2.2.2.1
  refine ⟨?_, zbest_O h l t (by omega)⟩
  rcases zbest_is h l t (h 0 11).toNat with e | ⟨i, e1, e2, e3⟩
  · rw [e]; exact w.2.2.2.2.2.1
  · rw [e3]; exact w.2.2.2.2.1 i e1 (by omega)
theorem f_X10_send {X : zX} {dep : Nat} (l a b : Int) {h : zH} (w : zBase h) (hs : h 15 1 = 60) (hdep : 6 ≤ dep) : zW mX10_send X dep 0 0 239 0 (zar 0 [xR 0, xI l, xI a, xI b]) [] h
    (zQI (fun v g => ((0 ≤ l ∧ l < h 0 12) ∧ (0 ≤ a ∧ a < h 3 0) ∧ (0 ≤ b ∧ b < h 3 0) ∧ h (113 + 14 * l + 1) 0 ≤ h 0 10) ∧ (∃ e, zRolled h l (h 0 10) e ∧ ((zmay e (113 + 14 * l) (zbest h l (h 0 10) (h 0 11).toNat) a ∧ zmbs e (113 + 14 * l) b) ∧ v = zb (e 15 2 < e 15 1) ∧ g = zaddr e 15 (h 0 10) l a b 0 0 ∨ ¬ (zmay e (113 + 14 * l) (zbest h l (h 0 10) (h 0 11).toNat) a ∧ zmbs e (113 + 14 * l) b) ∧ v = 0 ∧ g = e)) ∨
      ¬ ((0 ≤ l ∧ l < h 0 12) ∧ (0 ≤ a ∧ a < h 3 0) ∧ (0 ≤ b ∧ b < h 3 0) ∧ h (113 + 14 * l + 1) 0 ≤ h 0 10) ∧ v = 0 ∧ g = h)) := by
  have h12 := w.2.2.2.2.2.2.2.2
  have h3 := w.1.1
  have h11 := w.2.2.2.2.2.2.2.1
  refine bX10_send_0 l a b h12.2 (by omega) (fun c => ?_) (fun c c1 => ?_) (fun c c1 c2 => ?_) (fun c c1 c2 c3 => ?_) (fun c c1 c2 c3 => ?_)
  · exact ⟨rfl, _, rfl, Or.inr ⟨fun z => c z.1, rfl, rfl⟩⟩
  · exact ⟨rfl, _, rfl, Or.inr ⟨fun z => c1 z.2.1, rfl, rfl⟩⟩
  · exact ⟨rfl, _, rfl, Or.inr ⟨fun z => c2 z.2.2.1, rfl, rfl⟩⟩
  · refine rX10_send_51 l a b (f_X10_rollAsOf l (h 0 10) (by omega) w (by omega)) (by omega) (fun v e he => ?_)
    obtain ⟨rfl, he⟩ := he
    have e10 : e 0 10 = h 0 10 := he.2.1.1 0 10 (by simp only [zKS]; omega)
    have e11 : e 0 11 = h 0 11 := he.2.1.1 0 11 (by simp only [zKS]; omega)
    have bo := zbest_ok he.2.1 he.1 l (h 0 10)
    have hO : zRollO (113 + 14 * l) := zRollO_rolls (by omega) (by omega)
    refine bX10_send_54 l a b (by omega) ?_
    refine zW.sub (lv' := [(0, xR 0), (1, xI l), (2, xI a), (3, xI b), (4, xR (113 + 14 * l))]) [1, 2, 3, 4, 0] rfl ?_
    refine rX10_send_65 l a b (P := fun v f => v = zbest h l (h 0 10) (h 0 11).toNat ∧ e = f) ((f_X10_lawFor l (e 0 10) he.1.2.2.2.2.2.2.2.1 (by omega)).weaken (fun _ _ _ q => ?_)) (by omega) (fun v f hf => ?_)
    · refine ⟨q.1, _, q.2.2, ?_, q.2.1.symm⟩
      rw [e10, e11]
      exact zbest_K he.2.1 (by omega) (by omega)
    obtain ⟨rfl, rfl⟩ := hf
    refine rX10_send_68 l a b _ (by omega) (P := fun v f => v = zb (zmay e (113 + 14 * l) (zbest h l (h 0 10) (h 0 11).toNat) a) ∧ e = f) ((f_X6_maySend _ a _ hO (by omega) bo.2.1 bo.2.2 (by omega) bo.1.1 (by omega)).weaken (fun _ _ _ q => ⟨q.1, _, q.2.2, rfl, q.2.1.symm⟩)) (by omega) (fun v f hf => ?_)
    obtain ⟨rfl, rfl⟩ := hf
    refine bX10_send_71 l a b _ (by omega) (fun c4 => ?_) (fun c4 => ?_)
    · refine ⟨rfl, _, rfl, Or.inl ⟨⟨c, c1, c2, c3⟩, e, he, Or.inr ⟨fun z => ?_, rfl, rfl⟩⟩⟩
      rw [zb_t z.1] at c4
      exact absurd c4 (by decide)
    · have m1 : zmay e (113 + 14 * l) (zbest h l (h 0 10) (h 0 11).toNat) a := Classical.byContradiction fun z => c4 (zb_f z)
      refine rX10_send_77 l a b (by omega) (P := fun v f => v = zb (zmbs e (113 + 14 * l) b) ∧ e = f) ((f_X6_mayBeSent _ b hO (by omega)).weaken (fun _ _ _ q => ⟨q.1, _, q.2.2, rfl, q.2.1.symm⟩)) (by omega) (fun v f hf => ?_)
      obtain ⟨rfl, rfl⟩ := hf
      refine bX10_send_80 l a b _ (by omega) (fun c5 => ?_) (fun c5 => ?_)
      · have m2 : zmbs e (113 + 14 * l) b := Classical.byContradiction fun z => c5 (zb_f z)
        have e15 : e 15 1 = 60 := (he.2.1.1 15 1 (by simp only [zKS]; omega)).trans hs
        have s15 := he.1.2.2.2.1.2.2.1
        refine rX10_send_101 l a b (P := fun v f => v = zb (e 15 2 < e 15 1) ∧ f = zaddr e 15 (h 0 10) l a b 0 0) ((f_X2_add (N := 360) 15 (e 0 10) l a b 0 0 zLedO_15 (by omega)).weaken (fun _ _ _ q => ⟨q.1, _, q.2.2, rfl, by rw [q.2.1, e10]⟩)) (by omega) (fun v f hf => ?_)
        obtain ⟨rfl, rfl⟩ := hf
        refine bX10_send_104 l a b _ (zb01 _) ?_
        exact ⟨rfl, _, rfl, Or.inl ⟨⟨c, c1, c2, c3⟩, e, he, Or.inl ⟨⟨m1, m2⟩, rfl, rfl⟩⟩⟩
      · refine ⟨rfl, _, rfl, Or.inl ⟨⟨c, c1, c2, c3⟩, e, he, Or.inr ⟨fun z => ?_, rfl, rfl⟩⟩⟩
        rw [zb_t z.2] at c5
        exact absurd c5 (by decide)
  · exact ⟨rfl, _, rfl, Or.inr ⟨fun z => c3 z.2.2.2, rfl, rfl⟩⟩
theorem l_X10_mended_21 {X : zX} {dep : Nat} {Q : Nat → zH → List zV → Prop} (l t z : Int) {h : zH} (hl : 0 ≤ l ∧ l < 4) (h3 : 0 ≤ h 3 0 ∧ h 3 0 ≤ 60)
    (kx : ∀ g : zH, zap (fun q => q = 63) h g → (∀ m : Int, 0 ≤ m → m < h 3 0 → g 63 m = if h (113 + 14 * l + 5) m = 5 then 1 else 0) → zW mX10_mended X dep 0 0 239 66 [(0, xR 0), (1, xI l), (3, xI t), (4, xI z), (5, xR (113 + 14 * l)), (6, xI (h 3 0))] [xI t, xI l, xR 0] g Q) :
    ∀ (k j : Nat) (g : zH), (j : Int) + k = h 3 0 → zap (fun q => q = 63) h g → (∀ m : Int, 0 ≤ m → m < j → g 63 m = if h (113 + 14 * l + 5) m = 5 then 1 else 0) → zW mX10_mended X dep 0 0 239 21 [(0, xR 0), (1, xI l), (3, xI t), (4, xI z), (5, xR (113 + 14 * l)), (6, xI j)] [] g Q := by
  intro k
  induction k with
  | zero =>
    intro j g hk a b
    have e3 : g 3 0 = h 3 0 := a 3 0 (by omega)
    refine bX10_mended_21 l t z j hl (by omega) (by omega) (fun c => ?_) (fun c => absurd (by omega) c)
    have := kx g a (fun m m0 m1 => b m m0 (by omega))
    rw [show (h 3 0 : Int) = (j : Int) by omega] at this
    exact this
  | succ k ih =>
    intro j g hk a b
    have e3 : g 3 0 = h 3 0 := a 3 0 (by omega)
    refine bX10_mended_21 l t z j hl (by omega) (by omega) (fun c => absurd c (by omega)) (fun c => ?_)
    have e5 : g (113 + 14 * l + 5) j = h (113 + 14 * l + 5) j := a _ _ (by omega)
    rw [e5]
    refine ih (j + 1) _ (by omega) (a.st rfl _ _) (fun m m0 m1 => ?_)
    by_cases c2 : m = j
    · rw [c2, zst_self]
    · rw [zst_ne (Or.inr c2)]
      exact b m m0 (by omega)
/-- the mended list: who is called by one list and not by the other -/
def zMdd (C : Int → Prop) (h : zH) (n : Nat) (g : zH) : Prop := zap (fun q => q = 0 ∨ q = 64) h g ∧ (∀ k : Int, k ≠ 9 → g 0 k = h 0 k) ∧ g 0 9 = zcnt C n ∧ ∀ m : Int, 0 ≤ m → m < n → C m → g 64 (zcnt C m.toNat) = m
theorem zcnt_s (C : Int → Prop) (n : Nat) : zcnt C (n + 1) = zcnt C n + zb (C n) := rfl
theorem zcnt_mono (C : Int → Prop) : ∀ (a b : Nat), a ≤ b → zcnt C a ≤ zcnt C b
  | a, 0, h => by
    obtain rfl : a = 0 := by omega
    exact Int.le_refl _
  | a, b + 1, h => by
    by_cases c : a = b + 1
    · rw [c]; exact Int.le_refl _
    · have := zcnt_mono C a b (by omega)
      unfold zcnt
      have := zb01 (C b)
      omega
theorem zcnt_s (C : Int → Prop) (n : Nat) : zcnt C (n + 1) = zcnt C n + zb (C n) := rfl
theorem l_X10_mended_79 {X : zX} {dep : Nat} (l z : Int) {h : zH} (hl : 0 ≤ l ∧ l < 4) (h3 : 0 ≤ h 3 0 ∧ h 3 0 ≤ 60) (hz : z = 0 ∨ z = 1) (hb : ∀ m : Int, 0 ≤ m → m < h 3 0 → h 63 m = 0 ∨ h 63 m = 1) :
    ∀ (k j : Nat) (g : zH), (j : Int) + k = h 3 0 → zMdd (fun m => if z = 0 then h (113 + 14 * l + 5) m = 5 ∧ h 63 m = 0 else h (113 + 14 * l + 5) m ≠ 5 ∧ h 63 m = 1) h j g → zW mX10_mended X dep 0 0 239 79 [(0, xR 0), (4, xI z), (5, xR (113 + 14 * l)), (6, xI j)] [] g
      (zQI (fun v g => v = zcnt (fun m => if z = 0 then h (113 + 14 * l + 5) m = 5 ∧ h 63 m = 0 else h (113 + 14 * l + 5) m ≠ 5 ∧ h 63 m = 1) (h 3 0).toNat ∧ zMdd (fun m => if z = 0 then h (113 + 14 * l + 5) m = 5 ∧ h 63 m = 0 else h (113 + 14 * l + 5) m ≠ 5 ∧ h 63 m = 1) h (h 3 0).toNat g)) := by
  intro k
  induction k with
  | zero =>
    intro j g hk a
    have e3 : g 3 0 = h 3 0 := a.1 3 0 (by omega)
    have ci := zcnt_in (fun m => if z = 0 then h (113 + 14 * l + 5) m = 5 ∧ h 63 m = 0 else h (113 + 14 * l + 5) m ≠ 5 ∧ h 63 m = 1) j
    have e9 := a.2.2.1
    refine bX10_mended_79 l z j hl (by omega) (by omega) (by omega) (fun c => ?_) (fun c => absurd (by omega) c) (fun c => absurd (by omega) c) (fun c => absurd (by omega) c)
    refine ⟨rfl, _, rfl, ?_, ?_⟩
    · rw [show (h 3 0).toNat = j by omega]
      exact e9
    · rw [show (h 3 0).toNat = j by omega]
      exact a
  | succ k ih =>
    intro j g hk a
    have e3 : g 3 0 = h 3 0 := a.1 3 0 (by omega)
    have ci := zcnt_in (fun m => if z = 0 then h (113 + 14 * l + 5) m = 5 ∧ h 63 m = 0 else h (113 + 14 * l + 5) m ≠ 5 ∧ h 63 m = 1) j
    have e9 := a.2.2.1
    have e5 : g (113 + 14 * l + 5) j = h (113 + 14 * l + 5) j := a.1 _ _ (by omega)
    have e63 : g 63 j = h 63 j := a.1 _ _ (by omega)
    have b1 := hb j (by omega) (by omega)
    have no : ∀ f : zH, f = g → ¬ (if z = 0 then h (113 + 14 * l + 5) j = 5 ∧ h 63 j = 0 else h (113 + 14 * l + 5) j ≠ 5 ∧ h 63 j = 1) → zMdd (fun m => if z = 0 then h (113 + 14 * l + 5) m = 5 ∧ h 63 m = 0 else h (113 + 14 * l + 5) m ≠ 5 ∧ h 63 m = 1) h (j + 1) f := by
      rintro f rfl hn
      refine ⟨a.1, a.2.1, ?_, fun m m0 m1 hm => ?_⟩
      · rw [zcnt_s, zb_f hn, e9]
        omega
      · by_cases c2 : m = j
        · exact absurd (c2 ▸ hm) hn
        · exact a.2.2.2 m m0 (by omega) hm
    refine bX10_mended_79 l z j hl (by omega) (by omega) (by omega) (fun c => absurd c (by omega)) (fun c c1 => ?_) (fun c c1 c2 => ?_) (fun c c1 c2 => ?_)
    · refine ih (j + 1) g (by omega) (no g rfl ?_)
      rw [e5, e63] at c1
      split at c1 <;> split <;> omega
    · refine ih (j + 1) g (by omega) (no g rfl ?_)
      rw [e5, e63] at c1
      rw [e5] at c2
      split at c1 <;> split <;> omega
    · have yes : (if z = 0 then h (113 + 14 * l + 5) j = 5 ∧ h 63 j = 0 else h (113 + 14 * l + 5) j ≠ 5 ∧ h 63 j = 1) := by
        rw [e5, e63] at c1
        rw [e5] at c2
        split at c1 <;> split <;> omega
      refine ih (j + 1) _ (by omega) ⟨(a.1.st (Or.inr rfl) _ _).st (Or.inl rfl) _ _, fun q hq => ?_, ?_, fun m m0 m1 hm => ?_⟩
      · rw [zst_ne (Or.inr hq), zst_ne (Or.inl (by omega))]
        exact a.2.1 q hq
      · rw [zst_self, zcnt_s, zb_t yes, e9]
      · rw [zst_ne (Or.inl (by omega))]
        by_cases c2 : m = j
        · subst c2
          rw [Int.toNat_natCast, e9, zst_self]
        · have mm := zcnt_mono (fun m => if z = 0 then h (113 + 14 * l + 5) m = 5 ∧ h 63 m = 0 else h (113 + 14 * l + 5) m ≠ 5 ∧ h 63 m = 1) (m.toNat + 1) j (by omega)
          rw [zcnt_s, zb_t (show _ from by rw [Int.toNat_of_nonneg m0]; exact hm)] at mm
          rw [zst_ne (Or.inr (by omega))]
          exact a.2.2.2 m m0 (by omega) hm
theorem zBase.oth {S : Int → Prop} {h g : zH} (w : zBase h) (a : zap S h g) (n : ∀ q : Int, 3 ≤ q ∧ q ≤ 16 ∨ 36 ≤ q ∧ q ≤ 41 ∨ 65 ≤ q ∧ q ≤ 168 → ¬ S q) (e11 : g 0 11 = h 0 11) (e12 : g 0 12 = h 0 12) : zBase g := by
  obtain ⟨w1, w2, w3, ⟨w4, w5, w6⟩, w7, w8, w9, w10, w11⟩ := w
  have e3 : g 3 0 = h 3 0 := a 3 0 (n 3 (by omega))
  refine ⟨?_, ?_, ?_, ⟨?_, ?_, ?_⟩, fun i i0 i1 => ?_, ?_, fun l l0 l1 => ?_, ?_, ?_⟩
  · unfold zMenOK
    simp only [e3, a 4 _ (n 4 (by omega)), a 5 _ (n 5 (by omega)), a 6 _ (n 6 (by omega))]
    exact w1
  · unfold zSameOK
    simp only [e3, a 13 _ (n 13 (by omega)), zget_ap a (n 13 (by omega)) (n (13 + 1) (by omega))]
    exact w2
  · unfold zBirthOK
    simp only [e3, a 7 _ (n 7 (by omega)), zget_ap a (n 7 (by omega)) (n (7 + 1) (by omega))]
    exact w3
  · unfold zFactOK
    simp only [e3, a 9 _ (n 9 (by omega)), zget_ap a (n 9 (by omega)) (n (9 + 1) (by omega))]
    exact w4
  · unfold zExamOK
    simp only [e3, a 11 _ (n 11 (by omega)), zget_ap a (n 11 (by omega)) (n (11 + 1) (by omega))]
    exact w5
  · unfold zSendOK
    simp only [e3, a 15 _ (n 15 (by omega)), zget_ap a (n 15 (by omega)) (n (15 + 1) (by omega))]
    exact w6
  · rw [e11] at i1
    exact ⟨zLawOK_ap a (n _ (by omega)) (n _ (by omega)) (n _ (by omega)) (w7 i i0 i1).1, zClsOK_ap a (n _ (by omega)) (n _ (by omega)) (n _ (by omega)) (w7 i i0 i1).2⟩
  · exact ⟨zLawOK_ap a (n _ (by omega)) (n _ (by omega)) (n _ (by omega)) w8.1, zClsOK_ap a (n _ (by omega)) (n _ (by omega)) (n _ (by omega)) w8.2⟩
  · exact (w9 l l0 l1).ap a (n _ (by omega)) (n _ (by omega)) (n _ (by omega)) (fun q q0 q1 => by rw [a _ q (n _ (by omega))]; exact (w9 l l0 l1).2.2.2 q q0 q1)
  · rw [e11]; exact w10
  · rw [e12]; exact w11
theorem f_X10_mended {X : zX} {dep : Nat} (l s t z : Int) {h : zH} (w : zBase h) (hz : z = 0 ∨ z = 1) (hdep : 6 ≤ dep) : zW mX10_mended X dep 0 0 239 0 (zar 0 [xR 0, xI l, xI s, xI t, xI z]) [] h
    (zQI (fun v g => (0 ≤ l ∧ l < h 0 12) ∧ (∃ e1 e2 e3, zRolled h l s e1 ∧ (zap (fun q => q = 63) e1 e2 ∧ ∀ m : Int, 0 ≤ m → m < h 3 0 → e2 63 m = if e1 (113 + 14 * l + 5) m = 5 then 1 else 0) ∧ zRolled e2 l t e3 ∧
        v = zcnt (fun m => if z = 0 then e3 (113 + 14 * l + 5) m = 5 ∧ e3 63 m = 0 else e3 (113 + 14 * l + 5) m ≠ 5 ∧ e3 63 m = 1) (h 3 0).toNat ∧ zMdd (fun m => if z = 0 then e3 (113 + 14 * l + 5) m = 5 ∧ e3 63 m = 0 else e3 (113 + 14 * l + 5) m ≠ 5 ∧ e3 63 m = 1) e3 (h 3 0).toNat g) ∨
      ¬ (0 ≤ l ∧ l < h 0 12) ∧ v = -1 ∧ g = h)) := by
  have h12 := w.2.2.2.2.2.2.2.2
  have h3 := w.1.1
  refine bX10_mended_0 l s t z (by omega) (fun c => ?_) (fun c => ?_)
  · refine rX10_mended_13 l s t z (f_X10_rollAsOf l s (by omega) w (by omega)) (by omega) (fun v e1 he1 => ?_)
    obtain ⟨rfl, he1⟩ := he1
    have e3 : e1 3 0 = h 3 0 := he1.2.1.2.1 0 (by omega)
    refine bX10_mended_16 l s t z (by omega) ?_
    refine l_X10_mended_21 l t z (by omega) (by omega) (fun e2 a2 b2 => ?_) (h 3 0).toNat 0 e1 (by omega) (zap.rf _ e1) (fun m m0 m1 => by omega)
    have w2 : zBase e2 := he1.1.oth a2 (fun q hq => by omega) (a2 0 11 (by omega)) (a2 0 12 (by omega))
    refine rX10_mended_66 l t z _ (f_X10_rollAsOf l t (by omega) w2 (by omega)) (by omega) (fun v e4 he4 => ?_)
    obtain ⟨rfl, he4⟩ := he4
    have e33 : e4 3 0 = h 3 0 := (he4.2.1.2.1 0 (by omega)).trans ((a2 3 0 (by omega)).trans e3)
    have e63 : ∀ m : Int, e4 63 m = e2 63 m := fun m => he4.2.1.1 63 m (by simp only [zKS]; omega)
    refine bX10_mended_69 l t z _ (by omega) ?_
    have hb : ∀ m : Int, 0 ≤ m → m < e4 3 0 → e4 63 m = 0 ∨ e4 63 m = 1 := fun m m0 m1 => by
      rw [e63, b2 m m0 (by omega)]
      split
      · exact Or.inr rfl
      · exact Or.inl rfl
    have go := l_X10_mended_79 (X := X) (dep := dep) l z (h := e4) (by omega) (by omega) hz hb (h 3 0).toNat 0 (zst e4 0 9 0) (by omega) ⟨(zap.rf _ e4).st (Or.inl rfl) _ _, fun k hk => zst_ne (Or.inr hk), zst_self _ _ _ _, fun m m0 m1 => by omega⟩
    refine go.weaken (fun _ g _ q => ?_)
    obtain ⟨q1, v, q2, q3, q4⟩ := q
    refine ⟨q1, v, q2, Or.inl ⟨c, e1, e2, e4, he1, ⟨a2, fun m m0 m1 => b2 m m0 (by omega)⟩, he4, ?_, ?_⟩⟩
    · rw [← e33]; exact q3
    · rw [← e33]; exact q4
  · exact ⟨rfl, _, rfl, Or.inr ⟨c, rfl, rfl⟩⟩
theorem f_X10_appeal {X : zX} {dep : Nat} (l m : Int) {h : zH} (w : zBase h) (hd : 0 ≤ h 0 10 ∧ h 0 10 ≤ 3639) (ha : 0 ≤ h 0 15 ∧ h 0 15 ≤ 60) (hh : 0 ≤ h 0 16 ∧ h 0 16 ≤ 60) (hdep : 6 ≤ dep) : zW mX10_appeal X dep 0 0 239 0 (zar 0 [xR 0, xI l, xI m]) [] h
    (zQI (fun v g => ((0 ≤ l ∧ l < h 0 12) ∧ (0 ≤ m ∧ m < h 3 0) ∧ h 0 15 < 60 ∧ h (113 + 14 * l + 1) 0 ≤ h 0 10 ∧ h 0 10 - h (113 + 14 * l + 1) 0 ≤ h (zbest h l (h 0 10) (h 0 11).toNat) 4) ∧ (∃ e1 e2, zRolled h l (h (113 + 14 * l + 1) 0) e1 ∧ zRolled e1 l (h 0 10) e2 ∧
        ((e1 (113 + 14 * l + 5) m = 5 ∧ e2 (113 + 14 * l + 5) m ≠ 5) ∧ v = 1 ∧ g = zst (zst e2 0 15 (h 0 15 + 1)) 0 16 (h 0 16 + 1) ∨ ¬ (e1 (113 + 14 * l + 5) m = 5 ∧ e2 (113 + 14 * l + 5) m ≠ 5) ∧ v = 0 ∧ g = zst e2 0 15 (h 0 15 + 1))) ∨
      ¬ ((0 ≤ l ∧ l < h 0 12) ∧ (0 ≤ m ∧ m < h 3 0) ∧ h 0 15 < 60 ∧ h (113 + 14 * l + 1) 0 ≤ h 0 10 ∧ h 0 10 - h (113 + 14 * l + 1) 0 ≤ h (zbest h l (h 0 10) (h 0 11).toNat) 4) ∧ v = -1 ∧ g = h)) := by
  have h12 := w.2.2.2.2.2.2.2.2
  have h3 := w.1.1
  have h11 := w.2.2.2.2.2.2.2.1
  refine bX10_appeal_0 l m h12.2 hd (fun l0 l1 => (w.2.2.2.2.2.2.1 l l0 l1).2.1) (by omega) (fun c => ?_) (fun c c1 => ?_) (fun c c1 c2 c3 => ?_) (fun c c1 c2 c3 => ?_) (fun c c1 c2 => ?_)
  · exact ⟨rfl, _, rfl, Or.inr ⟨fun z => c z.1, rfl, rfl⟩⟩
  · exact ⟨rfl, _, rfl, Or.inr ⟨fun z => c1 z.2.1, rfl, rfl⟩⟩
  · exact ⟨rfl, _, rfl, Or.inr ⟨fun z => by omega, rfl, rfl⟩⟩
  · refine zW.sub (lv' := [(0, xR 0), (1, xI l), (2, xI m), (3, xI (h ((113 + 14 * l) + 1) 0))]) [1, 2, 3, 0] rfl ?_
    refine rX10_appeal_60 l m _ _ (P := fun v f => v = zbest h l (h 0 10) (h 0 11).toNat ∧ h = f) ((f_X10_lawFor l (h 0 10) h11 (by omega)).weaken (fun _ _ _ q => ⟨q.1, _, q.2.2, rfl, q.2.1.symm⟩)) (by omega) (fun v f hf => ?_)
    obtain ⟨rfl, rfl⟩ := hf
    have bo := zbest_ok (zKept.rf h) w l (h 0 10)
    refine bX10_appeal_63 l m _ _ _ bo.2.1 (fun c4 => ?_) (fun c4 => ?_)
    · refine rX10_appeal_74 l m _ (f_X10_rollAsOf l (h (113 + 14 * l + 1) 0) (by omega) w (by omega)) (by omega) (fun v e1 he1 => ?_)
      obtain ⟨rfl, he1⟩ := he1
      have e10 : e1 0 10 = h 0 10 := he1.2.1.1 0 10 (by simp only [zKS]; omega)
      refine bX10_appeal_77 l m _ (by omega) (by omega) ?_
      refine zW.sub (lv' := [(0, xR 0), (1, xI l), (2, xI m), (3, xI (h ((113 + 14 * l) + 1) 0)), (4, xI (if (e1 ((113 + 14 * l) + 5) m) = 5 then 1 else 0 : Int))]) [1, 2, 3, 4, 0] rfl ?_
      refine rX10_appeal_99 l m _ _ (f_X10_rollAsOf l (e1 0 10) (by omega) he1.1 (by omega)) (by omega) (fun v e2 he2 => ?_)
      obtain ⟨rfl, he2⟩ := he2
      rw [e10] at he2
      have f15 : e2 0 15 = h 0 15 := (he2.2.1.1 0 15 (by simp only [zKS]; omega)).trans (he1.2.1.1 0 15 (by simp only [zKS]; omega))
      have f16 : e2 0 16 = h 0 16 := (he2.2.1.1 0 16 (by simp only [zKS]; omega)).trans (he1.2.1.1 0 16 (by simp only [zKS]; omega))
      refine bX10_appeal_102 l m _ _ (by omega) (by omega) (by omega) (by omega) (fun c5 => ?_) (fun c5 c6 => ?_) (fun c5 c6 => ?_)
      · refine ⟨rfl, _, rfl, Or.inl ⟨⟨c, c1, c2, by omega, c4⟩, e1, e2, he1, he2, Or.inr ⟨fun z => ?_, rfl, by rw [f15]⟩⟩⟩
        rw [if_pos z.1] at c5
        exact absurd c5 (by decide)
      · refine ⟨rfl, _, rfl, Or.inl ⟨⟨c, c1, c2, by omega, c4⟩, e1, e2, he1, he2, Or.inl ⟨⟨?_, ?_⟩, rfl, by rw [f15, f16]⟩⟩⟩
        · exact Classical.byContradiction fun z => c5 (if_neg z)
        · intro z
          rw [if_pos z] at c6
          exact absurd c6 (by decide)
      · refine ⟨rfl, _, rfl, Or.inl ⟨⟨c, c1, c2, by omega, c4⟩, e1, e2, he1, he2, Or.inr ⟨fun z => c6 (if_neg z.2), rfl, by rw [f15]⟩⟩⟩
    · exact ⟨rfl, _, rfl, Or.inr ⟨fun z => c4 z.2.2.2.2, rfl, rfl⟩⟩
  · exact ⟨rfl, _, rfl, Or.inr ⟨fun z => by omega, rfl, rfl⟩⟩

/-! chance, mixed, doubt -/
theorem z_thr {d : zMd} {X : zX} {dep bc bs n pc j : Nat} {lv : List (Nat × zV)} {h : zH} {Q : Nat → zH → List zV → Prop} (hn : 0 < n) (hdg : decode d.by pc = .ok (.new j, 3)) (q : Q n h [(9, 0)]) : zW d X dep bc bs n pc lv [] h Q := by
  intro p l e R s m args below meth c H locs cells slots A E ls Z hF h1 h2 hD hE
  exact hE H locs cells slots E ls n h pc [(9, 0)] [] (.new j) 3 (by omega) (by omega) (hD.end _ (fun v hv => by rw [List.mem_singleton.mp hv]; exact (show (0 : Int) = -1 ∨ (0 ≤ (0 : Int) ∧ (0 : Int) < n) ∨ 1000000 ≤ (0 : Int) from Or.inr (Or.inl ⟨Int.le_refl _, by omega⟩)))) (zEx.rf E n) q hdg (Or.inr (Or.inr (Or.inr (Or.inr ⟨⟨j, rfl⟩, rfl, rfl, rfl⟩))))

set_option maxRecDepth 20000 in
theorem bX10_ways_0 {X : zX} {dep bc bs : Nat} (n : Int) (c : Int) {h : zH} {Q : Nat → zH → List zV → Prop}
    (k1 : c < 0 → Q 239 h [xL 0])
    (k2 : ¬ (c < 0) → c ≤ n → zW mX10_ways X dep bc bs 239 16 [(0, xI n), (1, xI c), (2, xL 1), (4, xI 0)] [] h Q)
    (k3 : ¬ (c < 0) → ¬ (c ≤ n) → Q 239 h [xL 0]) : zW mX10_ways X dep bc bs 239 0 [(0, xI n), (1, xI c)] [] h Q := by
  refine z_iload_n 1 dX10_ways_0 rfl ?_
  refine z_if_lt (tgt := 9) dX10_ways_1 (by decide) (fun c1 => ?_) (fun c1 => ?_)
  ·
    refine z_lconst dX10_ways_9 ?_
    show zW mX10_ways X dep bc bs 239 10 [(0, xI n), (1, xI c)] [xL 0] h Q
    exact z_lret dX10_ways_10 rfl (k1 c1)
  ·
    refine z_iload_n 1 dX10_ways_4 rfl ?_
    refine z_iload_n 0 dX10_ways_5 rfl ?_
    refine z_icmp_le (tgt := 11) dX10_ways_6 (by decide) (fun c2 => ?_) (fun c2 => ?_)
    ·
      refine z_lconst dX10_ways_11 ?_
      show zW mX10_ways X dep bc bs 239 12 [(0, xI n), (1, xI c)] [xL 1] h Q
      refine z_lstore_n (lv' := [(2, xL 1), (0, xI n), (1, xI c)]) dX10_ways_12 (by decide) rfl ?_
      refine z_iconst dX10_ways_13 (zi32_d rfl) ?_
      refine z_istore (lv' := [(4, xI 0), (2, xL 1), (0, xI n), (1, xI c)]) dX10_ways_14 (by decide) rfl ?_
      refine zW.sub (lv' := [(0, xI n), (1, xI c), (2, xL 1), (4, xI 0)]) [2, 3, 1, 0] rfl ?_
      exact k2 c1 c2
    ·
      refine z_lconst dX10_ways_9 ?_
      show zW mX10_ways X dep bc bs 239 10 [(0, xI n), (1, xI c)] [xL 0] h Q
      exact z_lret dX10_ways_10 rfl (k3 c1 c2)

set_option maxRecDepth 20000 in
theorem bX10_ways_16 {X : zX} {dep bc bs : Nat} (n : Int) (c : Int) (f : Int) (i : Int) {h : zH} {Q : Nat → zH → List zV → Prop} (hn : 0 ≤ n ∧ n ≤ 60) (hi : 0 ≤ i ∧ i ≤ 60)
    (k1 : c ≤ i → Q 239 h [xL f])
    (k2 : ¬ (c ≤ i) → zW mX10_ways X dep bc bs 239 16 [(0, xI n), (1, xI c), (2, xL (zldiv (w64 (f * (n - i))) (i + 1))), (4, xI (i + 1))] [] h Q) : zW mX10_ways X dep bc bs 239 16 [(0, xI n), (1, xI c), (2, xL f), (4, xI i)] [] h Q := by
  refine z_iload 3 dX10_ways_16 rfl ?_
  refine z_iload_n 1 dX10_ways_18 rfl ?_
  refine z_icmp_ge (tgt := 42) dX10_ways_19 (by decide) (fun c1 => ?_) (fun c1 => ?_)
  ·
    refine z_lload_n 2 dX10_ways_42 rfl ?_
    exact z_lret dX10_ways_43 rfl (k1 c1)
  ·
    refine z_lload_n 2 dX10_ways_22 rfl ?_
    refine z_iload_n 0 dX10_ways_23 rfl ?_
    refine z_iload 3 dX10_ways_24 rfl ?_
    refine z_isubN dX10_ways_26 (show -2147483648 ≤ n - i ∧ n - i < 2147483648 from ⟨by omega, by omega⟩).1 (show -2147483648 ≤ n - i ∧ n - i < 2147483648 from ⟨by omega, by omega⟩).2 ?_
    refine z_i2l dX10_ways_27 ?_
    refine z_lmul dX10_ways_28 ?_
    refine z_iload 3 dX10_ways_29 rfl ?_
    refine z_iconst dX10_ways_31 (zi32_d rfl) ?_
    refine z_iaddN dX10_ways_32 (show -2147483648 ≤ i + 1 ∧ i + 1 < 2147483648 from ⟨by omega, by omega⟩).1 (show -2147483648 ≤ i + 1 ∧ i + 1 < 2147483648 from ⟨by omega, by omega⟩).2 ?_
    refine z_i2l dX10_ways_33 ?_
    refine z_ldiv dX10_ways_34 (show (i + 1) ≠ 0 by omega) ?_
    refine z_lstore_n (lv' := [(2, xL (zldiv (w64 (f * (n - i))) (i + 1))), (0, xI n), (1, xI c), (4, xI i)]) dX10_ways_35 (by decide) rfl ?_
    refine z_iincN (lv' := [(4, xI (i + 1)), (2, xL (zldiv (w64 (f * (n - i))) (i + 1))), (0, xI n), (1, xI c)]) 3 dX10_ways_36 rfl (by decide) rfl (show -2147483648 ≤ i + 1 ∧ i + 1 < 2147483648 from ⟨by omega, by omega⟩).1 (show -2147483648 ≤ i + 1 ∧ i + 1 < 2147483648 from ⟨by omega, by omega⟩).2 ?_
    refine z_goto (tgt := 16) dX10_ways_39 (by decide) ?_
    refine zW.sub (lv' := [(0, xI n), (1, xI c), (2, xL (zldiv (w64 (f * (n - i))) (i + 1))), (4, xI (i + 1))]) [2, 3, 1, 0] rfl ?_
    exact k2 c1

set_option maxRecDepth 20000 in
theorem bX10_commonDivisor_0 {X : zX} {dep bc bs : Nat} (a : Int) (b : Int) {h : zH} {Q : Nat → zH → List zV → Prop}
    (k1 : zW mX10_commonDivisor X dep bc bs 239 9 [(4, xL a), (6, xL b), (8, xI 0)] [] h Q) : zW mX10_commonDivisor X dep bc bs 239 0 [(0, xL a), (2, xL b)] [] h Q := by
  refine z_lload_n 0 dX10_commonDivisor_0 rfl ?_
  refine z_lstore (lv' := [(4, xL a), (0, xL a), (2, xL b)]) dX10_commonDivisor_1 (by decide) rfl ?_
  refine z_lload_n 2 dX10_commonDivisor_3 rfl ?_
  refine z_lstore (lv' := [(6, xL b), (4, xL a), (0, xL a), (2, xL b)]) dX10_commonDivisor_4 (by decide) rfl ?_
  refine z_iconst dX10_commonDivisor_6 (zi32_d rfl) ?_
  refine z_istore (lv' := [(8, xI 0), (6, xL b), (4, xL a), (0, xL a), (2, xL b)]) dX10_commonDivisor_7 (by decide) rfl ?_
  refine zW.sub (lv' := [(4, xL a), (6, xL b), (8, xI 0)]) [2, 1, 0] rfl ?_
  exact k1

set_option maxRecDepth 20000 in
theorem bX10_commonDivisor_9 {X : zX} {dep bc bs : Nat} (a : Int) (b : Int) (i : Int) {h : zH} {Q : Nat → zH → List zV → Prop} (hi : 0 ≤ i ∧ i ≤ 1000) (s1 : ¬ (1000 ≤ i) → ¬ ((zcmp b 0) = 0) → b ≠ 0)
    (k1 : 1000 ≤ i → Q 239 h [xL a])
    (k2 : ¬ (1000 ≤ i) → (zcmp b 0) = 0 → Q 239 h [xL a])
    (k3 : ¬ (1000 ≤ i) → ¬ ((zcmp b 0) = 0) → zW mX10_commonDivisor X dep bc bs 239 9 [(4, xL b), (6, xL (zlrem a b)), (8, xI (i + 1))] [] h Q) : zW mX10_commonDivisor X dep bc bs 239 9 [(4, xL a), (6, xL b), (8, xI i)] [] h Q := by
  refine z_iload 2 dX10_commonDivisor_9 rfl ?_
  refine z_sipush dX10_commonDivisor_11 (zi32_d rfl) (by decide) ?_
  refine z_icmp_ge (tgt := 45) dX10_commonDivisor_14 (by decide) (fun c1 => ?_) (fun c1 => ?_)
  ·
    refine z_lload 0 dX10_commonDivisor_45 rfl ?_
    exact z_lret dX10_commonDivisor_47 rfl (k1 c1)
  ·
    refine z_lload 1 dX10_commonDivisor_17 rfl ?_
    refine z_lconst dX10_commonDivisor_19 ?_
    show zW mX10_commonDivisor X dep bc bs 239 20 [(4, xL a), (6, xL b), (8, xI i)] [xL 0, xL b] h Q
    refine z_lcmp dX10_commonDivisor_20 ?_
    refine z_if_eq (tgt := 45) dX10_commonDivisor_21 (by decide) (fun c2 => ?_) (fun c2 => ?_)
    ·
      refine z_lload 0 dX10_commonDivisor_45 rfl ?_
      exact z_lret dX10_commonDivisor_47 rfl (k2 c1 c2)
    ·
      refine z_lload 0 dX10_commonDivisor_24 rfl ?_
      refine z_lload 1 dX10_commonDivisor_26 rfl ?_
      refine z_lrem dX10_commonDivisor_28 (s1 c1 c2) ?_
      refine z_lstore (lv' := [(9, xL (zlrem a b)), (4, xL a), (6, xL b), (8, xI i)]) dX10_commonDivisor_29 (by decide) rfl ?_
      refine z_lload 2 dX10_commonDivisor_31 rfl ?_
      refine z_lstore (lv' := [(4, xL b), (9, xL (zlrem a b)), (6, xL b), (8, xI i)]) dX10_commonDivisor_33 (by decide) rfl ?_
      refine z_lload 1 dX10_commonDivisor_35 rfl ?_
      refine z_lstore (lv' := [(6, xL (zlrem a b)), (4, xL b), (9, xL (zlrem a b)), (8, xI i)]) dX10_commonDivisor_37 (by decide) rfl ?_
      refine z_iincN (lv' := [(8, xI (i + 1)), (6, xL (zlrem a b)), (4, xL b), (9, xL (zlrem a b))]) 3 dX10_commonDivisor_39 rfl (by decide) rfl (show -2147483648 ≤ i + 1 ∧ i + 1 < 2147483648 from ⟨by omega, by omega⟩).1 (show -2147483648 ≤ i + 1 ∧ i + 1 < 2147483648 from ⟨by omega, by omega⟩).2 ?_
      refine z_goto (tgt := 9) dX10_commonDivisor_42 (by decide) ?_
      refine zW.sub (lv' := [(4, xL b), (6, xL (zlrem a b)), (8, xI (i + 1))]) [2, 1, 0] rfl ?_
      exact k3 c1 c2

set_option maxRecDepth 20000 in
theorem bX10_chance_0 {X : zX} {dep bc bs : Nat} (n : Int) (m : Int) (c : Int) (x : Int) (w : Int) {h : zH} {Q : Nat → zH → List zV → Prop}
    (k1 : zW mX10_chance X dep bc bs 239 6 [(0, xI n), (1, xI m), (2, xI c), (4, xI w), (5, xL 0), (7, xI x)] [] h Q) : zW mX10_chance X dep bc bs 239 0 [(0, xI n), (1, xI m), (2, xI c), (3, xI x), (4, xI w)] [] h Q := by
  refine z_lconst dX10_chance_0 ?_
  show zW mX10_chance X dep bc bs 239 1 [(0, xI n), (1, xI m), (2, xI c), (3, xI x), (4, xI w)] [xL 0] h Q
  refine z_lstore (lv' := [(5, xL 0), (0, xI n), (1, xI m), (2, xI c), (3, xI x), (4, xI w)]) dX10_chance_1 (by decide) rfl ?_
  refine z_iload_n 4 dX10_chance_3 rfl ?_
  refine z_istore (lv' := [(7, xI x), (5, xL 0), (0, xI n), (1, xI m), (2, xI c), (3, xI x), (4, xI w)]) dX10_chance_4 (by decide) rfl ?_
  refine zW.sub (lv' := [(0, xI n), (1, xI m), (2, xI c), (4, xI w), (5, xL 0), (7, xI x)]) [2, 3, 4, 6, 1, 0] rfl ?_
  exact k1

set_option maxRecDepth 20000 in
theorem bX10_chance_6 {X : zX} {dep bc bs : Nat} (n : Int) (m : Int) (c : Int) (w : Int) (u : Int) (i : Int) {h : zH} {Q : Nat → zH → List zV → Prop} (hn : 0 ≤ m ∧ m ≤ n ∧ n ≤ 60 ∧ 0 ≤ c ∧ c ≤ 60) (hi : 0 ≤ i)
    (k1 : c < i → zW mX10_chance X dep bc bs 239 46 [(0, xI n), (2, xI c), (4, xI w), (5, xL u)] [] h Q)
    (k2 : ¬ (c < i) → m < i → zW mX10_chance X dep bc bs 239 46 [(0, xI n), (2, xI c), (4, xI w), (5, xL u)] [] h Q)
    (k3 : ¬ (c < i) → ¬ (m < i) → zW mX10_chance X dep bc bs 239 23 [(0, xI n), (1, xI m), (2, xI c), (4, xI w), (5, xL u), (7, xI i)] [xI i, xI m, xL u] h Q) : zW mX10_chance X dep bc bs 239 6 [(0, xI n), (1, xI m), (2, xI c), (4, xI w), (5, xL u), (7, xI i)] [] h Q := by
  refine z_iload 5 dX10_chance_6 rfl ?_
  refine z_iload_n 2 dX10_chance_8 rfl ?_
  refine z_icmp_gt (tgt := 46) dX10_chance_9 (by decide) (fun c1 => ?_) (fun c1 => ?_)
  ·
    refine zW.sub (lv' := [(0, xI n), (2, xI c), (4, xI w), (5, xL u)]) [0, 2, 3, 4] rfl ?_
    exact k1 c1
  ·
    refine z_iload 5 dX10_chance_12 rfl ?_
    refine z_iload_n 1 dX10_chance_14 rfl ?_
    refine z_icmp_gt (tgt := 46) dX10_chance_15 (by decide) (fun c2 => ?_) (fun c2 => ?_)
    ·
      refine zW.sub (lv' := [(0, xI n), (2, xI c), (4, xI w), (5, xL u)]) [0, 2, 3, 4] rfl ?_
      exact k2 c1 c2
    ·
      refine z_lload 4 dX10_chance_18 rfl ?_
      refine z_iload_n 1 dX10_chance_20 rfl ?_
      refine z_iload 5 dX10_chance_21 rfl ?_
      exact k3 c1 c2

set_option maxRecDepth 20000 in
theorem rX10_chance_23 {X : zX} {dep bc bs : Nat} (n : Int) (m : Int) (c : Int) (w : Int) (u : Int) (i : Int) {h : zH} {Q : Nat → zH → List zV → Prop} {P : Int → zH → Prop}
    (hZ : zW mX10_ways X (dep - 1) 0 0 239 0 (zar 0 [xI m, xI i]) [] h (zQL P)) (hdep : 1 ≤ dep)
    (k : ∀ (v : Int) (g : zH), P v g → zW mX10_chance X dep bc bs 239 26 [(0, xI n), (1, xI m), (2, xI c), (4, xI w), (5, xL u), (7, xI i)] [xL v, xL u] g Q) : zW mX10_chance X dep bc bs 239 23 [(0, xI n), (1, xI m), (2, xI c), (4, xI w), (5, xL u), (7, xI i)] [xI i, xI m, xL u] h Q :=
  z_invSQL (as := [xI m, xI i]) (st := [xL u]) (ra := [xI i, xI m]) hZ dX10_chance_23 nX10_ways zb_1103 zb_1104 zb_82 (by omega) (Nat.le_of_ble_eq_true rfl) (Nat.le_of_ble_eq_true rfl) rfl (fun v g hg => k v g hg)

set_option maxRecDepth 20000 in
theorem bX10_chance_26 {X : zX} {dep bc bs : Nat} (n : Int) (m : Int) (c : Int) (w : Int) (u : Int) (i : Int) (f : Int) {h : zH} {Q : Nat → zH → List zV → Prop} (hn : 0 ≤ m ∧ m ≤ n ∧ n ≤ 60 ∧ 0 ≤ c ∧ c ≤ 60) (hi : 0 ≤ i ∧ i ≤ 60)
    (k1 : zW mX10_chance X dep bc bs 239 33 [(0, xI n), (1, xI m), (2, xI c), (4, xI w), (5, xL u), (7, xI i)] [xI (c - i), xI (n - m), xL f, xL u] h Q) : zW mX10_chance X dep bc bs 239 26 [(0, xI n), (1, xI m), (2, xI c), (4, xI w), (5, xL u), (7, xI i)] [xL f, xL u] h Q := by
  refine z_iload_n 0 dX10_chance_26 rfl ?_
  refine z_iload_n 1 dX10_chance_27 rfl ?_
  refine z_isubN dX10_chance_28 (show -2147483648 ≤ n - m ∧ n - m < 2147483648 from ⟨by omega, by omega⟩).1 (show -2147483648 ≤ n - m ∧ n - m < 2147483648 from ⟨by omega, by omega⟩).2 ?_
  refine z_iload_n 2 dX10_chance_29 rfl ?_
  refine z_iload 5 dX10_chance_30 rfl ?_
  refine z_isubN dX10_chance_32 (show -2147483648 ≤ c - i ∧ c - i < 2147483648 from ⟨by omega, by omega⟩).1 (show -2147483648 ≤ c - i ∧ c - i < 2147483648 from ⟨by omega, by omega⟩).2 ?_
  exact k1

set_option maxRecDepth 20000 in
theorem rX10_chance_33 {X : zX} {dep bc bs : Nat} (n : Int) (m : Int) (c : Int) (w : Int) (u : Int) (i : Int) (f : Int) {h : zH} {Q : Nat → zH → List zV → Prop} {P : Int → zH → Prop}
    (hZ : zW mX10_ways X (dep - 1) 0 0 239 0 (zar 0 [xI (n - m), xI (c - i)]) [] h (zQL P)) (hdep : 1 ≤ dep)
    (k : ∀ (v : Int) (g : zH), P v g → zW mX10_chance X dep bc bs 239 36 [(0, xI n), (1, xI m), (2, xI c), (4, xI w), (5, xL u), (7, xI i)] [xL v, xL f, xL u] g Q) : zW mX10_chance X dep bc bs 239 33 [(0, xI n), (1, xI m), (2, xI c), (4, xI w), (5, xL u), (7, xI i)] [xI (c - i), xI (n - m), xL f, xL u] h Q :=
  z_invSQL (as := [xI (n - m), xI (c - i)]) (st := [xL f, xL u]) (ra := [xI (c - i), xI (n - m)]) hZ dX10_chance_33 nX10_ways zb_1103 zb_1104 zb_82 (by omega) (Nat.le_of_ble_eq_true rfl) (Nat.le_of_ble_eq_true rfl) rfl (fun v g hg => k v g hg)

set_option maxRecDepth 20000 in
theorem bX10_chance_36 {X : zX} {dep bc bs : Nat} (n : Int) (m : Int) (c : Int) (w : Int) (u : Int) (i : Int) (f : Int) (y : Int) {h : zH} {Q : Nat → zH → List zV → Prop} (hn : 0 ≤ m ∧ m ≤ n ∧ n ≤ 60 ∧ 0 ≤ c ∧ c ≤ 60) (hi : 0 ≤ i ∧ i ≤ 60)
    (k1 : zW mX10_chance X dep bc bs 239 6 [(0, xI n), (1, xI m), (2, xI c), (4, xI w), (5, xL (w64 (u + (w64 (f * y))))), (7, xI (i + 1))] [] h Q) : zW mX10_chance X dep bc bs 239 36 [(0, xI n), (1, xI m), (2, xI c), (4, xI w), (5, xL u), (7, xI i)] [xL y, xL f, xL u] h Q := by
  refine z_lmul dX10_chance_36 ?_
  refine z_ladd dX10_chance_37 ?_
  refine z_lstore (lv' := [(5, xL (w64 (u + (w64 (f * y))))), (0, xI n), (1, xI m), (2, xI c), (4, xI w), (7, xI i)]) dX10_chance_38 (by decide) rfl ?_
  refine z_iincN (lv' := [(7, xI (i + 1)), (5, xL (w64 (u + (w64 (f * y))))), (0, xI n), (1, xI m), (2, xI c), (4, xI w)]) 5 dX10_chance_40 rfl (by decide) rfl (show -2147483648 ≤ i + 1 ∧ i + 1 < 2147483648 from ⟨by omega, by omega⟩).1 (show -2147483648 ≤ i + 1 ∧ i + 1 < 2147483648 from ⟨by omega, by omega⟩).2 ?_
  refine z_goto (tgt := 6) dX10_chance_43 (by decide) ?_
  refine zW.sub (lv' := [(0, xI n), (1, xI m), (2, xI c), (4, xI w), (5, xL (w64 (u + (w64 (f * y))))), (7, xI (i + 1))]) [2, 3, 4, 5, 1, 0] rfl ?_
  exact k1

set_option maxRecDepth 20000 in
theorem bX10_chance_46 {X : zX} {dep bc bs : Nat} (n : Int) (c : Int) (w : Int) (u : Int) {h : zH} {Q : Nat → zH → List zV → Prop}
    (k1 : zW mX10_chance X dep bc bs 239 48 [(0, xI n), (2, xI c), (4, xI w), (5, xL u)] [xI c, xI n] h Q) : zW mX10_chance X dep bc bs 239 46 [(0, xI n), (2, xI c), (4, xI w), (5, xL u)] [] h Q := by
  refine z_iload_n 0 dX10_chance_46 rfl ?_
  refine z_iload_n 1 dX10_chance_47 rfl ?_
  exact k1

set_option maxRecDepth 20000 in
theorem rX10_chance_48 {X : zX} {dep bc bs : Nat} (n : Int) (c : Int) (w : Int) (u : Int) {h : zH} {Q : Nat → zH → List zV → Prop} {P : Int → zH → Prop}
    (hZ : zW mX10_ways X (dep - 1) 0 0 239 0 (zar 0 [xI n, xI c]) [] h (zQL P)) (hdep : 1 ≤ dep)
    (k : ∀ (v : Int) (g : zH), P v g → zW mX10_chance X dep bc bs 239 51 [(0, xI n), (2, xI c), (4, xI w), (5, xL u)] [xL v] g Q) : zW mX10_chance X dep bc bs 239 48 [(0, xI n), (2, xI c), (4, xI w), (5, xL u)] [xI c, xI n] h Q :=
  z_invSQL (as := [xI n, xI c]) (st := []) (ra := [xI c, xI n]) hZ dX10_chance_48 nX10_ways zb_1103 zb_1104 zb_82 (by omega) (Nat.le_of_ble_eq_true rfl) (Nat.le_of_ble_eq_true rfl) rfl (fun v g hg => k v g hg)

set_option maxRecDepth 20000 in
theorem bX10_chance_51 {X : zX} {dep bc bs : Nat} (n : Int) (c : Int) (w : Int) (u : Int) (f : Int) {h : zH} {Q : Nat → zH → List zV → Prop}
    (k1 : zW mX10_chance X dep bc bs 239 57 [(7, xL f), (0, xI n), (2, xI c), (4, xI w), (5, xL u)] [xL f, xL u] h Q) : zW mX10_chance X dep bc bs 239 51 [(0, xI n), (2, xI c), (4, xI w), (5, xL u)] [xL f] h Q := by
  refine z_lstore (lv' := [(7, xL f), (0, xI n), (2, xI c), (4, xI w), (5, xL u)]) dX10_chance_51 (by decide) rfl ?_
  refine z_lload 4 dX10_chance_53 rfl ?_
  refine z_lload 0 dX10_chance_55 rfl ?_
  exact k1

set_option maxRecDepth 20000 in
theorem rX10_chance_57 {X : zX} {dep bc bs : Nat} (w : Int) (u : Int) (f : Int) {h : zH} {Q : Nat → zH → List zV → Prop} {P : Int → zH → Prop}
    (hZ : zW mX10_commonDivisor X (dep - 1) 0 0 239 0 (zar 0 [xL u, xL f]) [] h (zQL P)) (hdep : 1 ≤ dep)
    (k : ∀ (v : Int) (g : zH), P v g → zW mX10_chance X dep bc bs 239 60 [(4, xI w), (5, xL u), (7, xL f)] [xL v] g Q) : zW mX10_chance X dep bc bs 239 57 [(4, xI w), (5, xL u), (7, xL f)] [xL f, xL u] h Q :=
  z_invSQL (as := [xL u, xL f]) (st := []) (ra := [xL f, xL u]) hZ dX10_chance_57 nX10_commonDivisor zb_1106 zb_1107 zb_82 (by omega) (Nat.le_of_ble_eq_true rfl) (Nat.le_of_ble_eq_true rfl) rfl (fun v g hg => k v g hg)

set_option maxRecDepth 20000 in
theorem bX10_chance_60 {X : zX} {dep bc bs : Nat} (w : Int) (u : Int) (f : Int) (y : Int) {h : zH} {Q : Nat → zH → List zV → Prop} (hy : 0 < y) (s1 : 0 < (zcmp y 0) → ¬ w = 0 → y ≠ 0) (s2 : 0 < (zcmp y 0) → w = 0 → y ≠ 0)
    (k1 : 0 < (zcmp y 0) → ¬ w = 0 → Q 239 h [xL (zldiv f y)])
    (k2 : 0 < (zcmp y 0) → w = 0 → Q 239 h [xL (zldiv u y)])
    (k3 : ¬ (0 < (zcmp y 0)) → Q 239 h [xL 0]) : zW mX10_chance X dep bc bs 239 60 [(4, xI w), (5, xL u), (7, xL f)] [xL y] h Q := by
  refine z_lstore (lv' := [(9, xL y), (4, xI w), (5, xL u), (7, xL f)]) dX10_chance_60 (by decide) rfl ?_
  refine z_lload 0 dX10_chance_62 rfl ?_
  refine z_lconst dX10_chance_64 ?_
  show zW mX10_chance X dep bc bs 239 65 [(9, xL y), (4, xI w), (5, xL u), (7, xL f)] [xL 0, xL y] h Q
  refine z_lcmp dX10_chance_65 ?_
  refine z_if_gt (tgt := 71) dX10_chance_66 (by decide) (fun c1 => ?_) (fun c1 => ?_)
  ·
    refine z_iload 1 dX10_chance_71 rfl ?_
    refine z_if_ne (tgt := 84) dX10_chance_73 (by decide) (fun c2 => ?_) (fun c2 => ?_)
    ·
      refine z_lload 3 dX10_chance_84 rfl ?_
      refine z_lload 0 dX10_chance_86 rfl ?_
      refine z_ldiv dX10_chance_88 (s1 c1 c2) ?_
      exact z_lret dX10_chance_89 rfl (k1 c1 c2)
    ·
      refine z_lload 2 dX10_chance_76 rfl ?_
      refine z_lload 0 dX10_chance_78 rfl ?_
      refine z_ldiv dX10_chance_80 (s2 c1 c2) ?_
      refine z_goto (tgt := 89) dX10_chance_81 (by decide) ?_
      exact z_lret dX10_chance_89 rfl (k2 c1 c2)
  ·
    refine z_lconst dX10_chance_69 ?_
    show zW mX10_chance X dep bc bs 239 70 [(9, xL y), (4, xI w), (5, xL u), (7, xL f)] [xL 0] h Q
    exact z_lret dX10_chance_70 rfl (k3 c1)

set_option maxRecDepth 20000 in
theorem bX10_mixed_0 {X : zX} {dep bc bs : Nat} (l : Int) (c : Int) (a : Int) (b : Int) (w : Int) {h : zH} {Q : Nat → zH → List zV → Prop} (hn : h 0 12 ≤ 4) (hdep : 1 ≤ dep)
    (k1 : ¬ (0 ≤ l ∧ l < h 0 12) → Q 239 h [(9, 0)])
    (k2 : 0 ≤ l ∧ l < h 0 12 → c < 0 → Q 239 h [(9, 0)])
    (k3 : 0 ≤ l ∧ l < h 0 12 → ¬ (c < 0) → 52 < c → Q 239 h [(9, 0)])
    (k4 : 0 ≤ l ∧ l < h 0 12 → ¬ (c < 0) → ¬ (52 < c) → ¬ (0 ≤ a ∧ a < 52) → Q 239 h [(9, 0)])
    (k5 : 0 ≤ l ∧ l < h 0 12 → ¬ (c < 0) → ¬ (52 < c) → 0 ≤ a ∧ a < 52 → ¬ (0 ≤ b ∧ b < 52) → Q 239 h [(9, 0)])
    (k6 : 0 ≤ l ∧ l < h 0 12 → ¬ (c < 0) → ¬ (52 < c) → 0 ≤ a ∧ a < 52 → 0 ≤ b ∧ b < 52 → b < a → Q 239 h [(9, 0)])
    (k7 : 0 ≤ l ∧ l < h 0 12 → ¬ (c < 0) → ¬ (52 < c) → 0 ≤ a ∧ a < 52 → 0 ≤ b ∧ b < 52 → ¬ (b < a) → 0 ≤ w ∧ w ≤ 2 → zW mX10_mixed X dep bc bs 239 55 [(0, xR 0), (1, xI l), (2, xI c), (3, xI a), (4, xI b), (5, xI w)] [] h Q)
    (k8 : 0 ≤ l ∧ l < h 0 12 → ¬ (c < 0) → ¬ (52 < c) → 0 ≤ a ∧ a < 52 → 0 ≤ b ∧ b < 52 → ¬ (b < a) → ¬ (0 ≤ w ∧ w ≤ 2) → Q 239 h [(9, 0)]) : zW mX10_mixed X dep bc bs 239 0 [(0, xR 0), (1, xI l), (2, xI c), (3, xI a), (4, xI b), (5, xI w)] [] h Q := by
  refine z_aload_n 0 dX10_mixed_0 rfl ?_
  refine z_iload_n 1 dX10_mixed_1 rfl ?_
  refine z_invF (ci := 10) (N := 17) (as := [xI l]) (st := []) (ra := [xI l]) (dep' := dep - 1) (rs := [xI (zb (0 ≤ l ∧ l < h 0 12))]) (h' := h) (f_X10_isLot l (h := h) ) dX10_mixed_2 nX10_isLot zb_782 zb_784 zb_17 zb_82 (zOb.lit (by decide +kernel)) rfl (by omega) zne_I (Nat.le_of_ble_eq_true rfl) (Nat.le_of_ble_eq_true rfl) rfl ?_
  refine z_ifB_eq (C := 0 ≤ l ∧ l < h 0 12) (tgt := 47) dX10_mixed_5 (by decide) (fun c1 => ?_) (fun c1 => ?_)
  ·
    exact z_thr (by decide) dX10_mixed_47 (k1 c1)
  ·
    refine z_iload_n 2 dX10_mixed_8 rfl ?_
    refine z_if_lt (tgt := 47) dX10_mixed_9 (by decide) (fun c2 => ?_) (fun c2 => ?_)
    ·
      exact z_thr (by decide) dX10_mixed_47 (k2 c1 c2)
    ·
      refine z_iload_n 2 dX10_mixed_12 rfl ?_
      refine z_bipush dX10_mixed_13 (zi32_d rfl) (by decide) ?_
      refine z_icmp_gt (tgt := 47) dX10_mixed_15 (by decide) (fun c3 => ?_) (fun c3 => ?_)
      ·
        exact z_thr (by decide) dX10_mixed_47 (k3 c1 c2 c3)
      ·
        refine z_iload_n 3 dX10_mixed_18 rfl ?_
        refine z_invSF (as := [xI a]) (st := []) (ra := [xI a]) (dep' := dep - 1) (rs := [xI (zb (0 ≤ a ∧ a < 52))]) (h' := h) (f_X10_isWeek a (h := h) ) dX10_mixed_19 nX10_isWeek zb_563 zb_564 zb_82 (by omega) zne_I (Nat.le_of_ble_eq_true rfl) (Nat.le_of_ble_eq_true rfl) rfl ?_
        refine z_ifB_eq (C := 0 ≤ a ∧ a < 52) (tgt := 47) dX10_mixed_22 (by decide) (fun c4 => ?_) (fun c4 => ?_)
        ·
          exact z_thr (by decide) dX10_mixed_47 (k4 c1 c2 c3 c4)
        ·
          refine z_iload 4 dX10_mixed_25 rfl ?_
          refine z_invSF (as := [xI b]) (st := []) (ra := [xI b]) (dep' := dep - 1) (rs := [xI (zb (0 ≤ b ∧ b < 52))]) (h' := h) (f_X10_isWeek b (h := h) ) dX10_mixed_27 nX10_isWeek zb_563 zb_564 zb_82 (by omega) zne_I (Nat.le_of_ble_eq_true rfl) (Nat.le_of_ble_eq_true rfl) rfl ?_
          refine z_ifB_eq (C := 0 ≤ b ∧ b < 52) (tgt := 47) dX10_mixed_30 (by decide) (fun c5 => ?_) (fun c5 => ?_)
          ·
            exact z_thr (by decide) dX10_mixed_47 (k5 c1 c2 c3 c4 c5)
          ·
            refine z_iload_n 3 dX10_mixed_33 rfl ?_
            refine z_iload 4 dX10_mixed_34 rfl ?_
            refine z_icmp_gt (tgt := 47) dX10_mixed_36 (by decide) (fun c6 => ?_) (fun c6 => ?_)
            ·
              exact z_thr (by decide) dX10_mixed_47 (k6 c1 c2 c3 c4 c5 c6)
            ·
              refine z_iload 5 dX10_mixed_39 rfl ?_
              refine z_invSF (as := [xI w]) (st := []) (ra := [xI w]) (dep' := dep - 1) (rs := [xI (zb (0 ≤ w ∧ w ≤ 2))]) (h' := h) (f_X10_isWhat w (h := h) ) dX10_mixed_41 nX10_isWhat zb_1034 zb_1035 zb_82 (by omega) zne_I (Nat.le_of_ble_eq_true rfl) (Nat.le_of_ble_eq_true rfl) rfl ?_
              refine z_ifB_ne (C := 0 ≤ w ∧ w ≤ 2) (tgt := 55) dX10_mixed_44 (by decide) (fun c7 => ?_) (fun c7 => ?_)
              ·
                exact k7 c1 c2 c3 c4 c5 c6 c7
              ·
                exact z_thr (by decide) dX10_mixed_47 (k8 c1 c2 c3 c4 c5 c6 c7)

set_option maxRecDepth 20000 in
theorem bX10_mixed_55 {X : zX} {dep bc bs : Nat} (l : Int) (c : Int) (a : Int) (b : Int) (w : Int) {h : zH} {Q : Nat → zH → List zV → Prop} (hl : 0 ≤ l ∧ l < 4)
    (k1 : zW mX10_mixed X dep bc bs 239 68 [(0, xR 0), (1, xI l), (2, xI c), (3, xI a), (4, xI b), (5, xI w)] [xI b, xI a, xI c, xR ((113 + 14 * l) + 1)] h Q) : zW mX10_mixed X dep bc bs 239 55 [(0, xR 0), (1, xI l), (2, xI c), (3, xI a), (4, xI b), (5, xI w)] [] h Q := by
  refine z_aload_n 0 dX10_mixed_55 rfl ?_
  refine z_getS (v := 43) (k := 5) (kz := 5) pk10 dX10_mixed_56 (by decide) zb_462 rfl (zOb.lit (by decide +kernel)) rfl (by decide +kernel) ?_
  refine z_iload_n 1 dX10_mixed_59 rfl ?_
  refine z_aaldSR (v := (113 + 14 * l)) dX10_mixed_60 (zOb.lit (by decide +kernel)) hl.1 hl.2 (zRF_rolls hl.1 hl.2) ?_
  refine z_getS (v := ((113 + 14 * l) + 1)) (k := 1) (kz := 1) pk6 dX10_mixed_61 (by decide) zb_412 rfl (zRollO_rolls hl.1 hl.2).1 rfl (zRollO_rolls hl.1 hl.2).2.2.2.2.2.2.2.2.2.2.2.2.2.2.1 ?_
  refine z_iload_n 2 dX10_mixed_64 rfl ?_
  refine z_iload_n 3 dX10_mixed_65 rfl ?_
  refine z_iload 4 dX10_mixed_66 rfl ?_
  exact k1

set_option maxRecDepth 20000 in
theorem rX10_mixed_68 {X : zX} {dep bc bs : Nat} (l : Int) (c : Int) (a : Int) (b : Int) (w : Int) {h : zH} {Q : Nat → zH → List zV → Prop} {P : Int → zH → Prop} (hl : 0 ≤ l ∧ l < 4)
    (hZ : zW mX3_pickedAhead X (dep - 1) 0 0 239 0 (zar 0 [xR ((113 + 14 * l) + 1), xI c, xI a, xI b]) [] h (zQI P)) (hdep : 1 ≤ dep)
    (k : ∀ (v : Int) (g : zH), P v g → zW mX10_mixed X dep bc bs 239 71 [(0, xR 0), (1, xI l), (2, xI c), (3, xI a), (4, xI b), (5, xI w)] [xI v] g Q) : zW mX10_mixed X dep bc bs 239 68 [(0, xR 0), (1, xI l), (2, xI c), (3, xI a), (4, xI b), (5, xI w)] [xI b, xI a, xI c, xR ((113 + 14 * l) + 1)] h Q :=
  z_invQI (ci := 3) (N := 6) (as := [xI c, xI a, xI b]) (st := []) (ra := [xI b, xI a, xI c]) hZ dX10_mixed_68 nX3_pickedAhead zb_1096 zb_1097 zb_1098 zb_91 (zLotO_rolls hl.1 hl.2).1 rfl (by omega) (Nat.le_of_ble_eq_true rfl) (Nat.le_of_ble_eq_true rfl) rfl (fun v g hg => k v g hg)

set_option maxRecDepth 20000 in
theorem bX10_mixed_71 {X : zX} {dep bc bs : Nat} (l : Int) (c : Int) (a : Int) (b : Int) (w : Int) (f : Int) {h : zH} {Q : Nat → zH → List zV → Prop} (ha : 0 ≤ a ∧ a ≤ b ∧ b < 52)
    (k1 : ¬ w = 2 → zW mX10_mixed X dep bc bs 239 98 [(6, xI f), (0, xR 0), (1, xI l), (2, xI c), (3, xI a), (4, xI b), (5, xI w)] [xI w, xI f, xI c, xI ((b - a) + 1), xI 52] h Q)
    (k2 : w = 2 → Q 239 h [xL f]) : zW mX10_mixed X dep bc bs 239 71 [(0, xR 0), (1, xI l), (2, xI c), (3, xI a), (4, xI b), (5, xI w)] [xI f] h Q := by
  refine z_istore (lv' := [(6, xI f), (0, xR 0), (1, xI l), (2, xI c), (3, xI a), (4, xI b), (5, xI w)]) dX10_mixed_71 (by decide) rfl ?_
  refine z_iload 6 dX10_mixed_73 rfl ?_
  refine z_iconst dX10_mixed_75 (zi32_d rfl) ?_
  refine z_icmp_ne (tgt := 85) dX10_mixed_76 (by decide) (fun c1 => ?_) (fun c1 => ?_)
  ·
    refine z_bipush dX10_mixed_85 (zi32_d rfl) (by decide) ?_
    refine z_iload 5 dX10_mixed_87 rfl ?_
    refine z_iload_n 4 dX10_mixed_89 rfl ?_
    refine z_isubN dX10_mixed_90 (show -2147483648 ≤ b - a ∧ b - a < 2147483648 from ⟨by omega, by omega⟩).1 (show -2147483648 ≤ b - a ∧ b - a < 2147483648 from ⟨by omega, by omega⟩).2 ?_
    refine z_iconst dX10_mixed_91 (zi32_d rfl) ?_
    refine z_iaddN dX10_mixed_92 (show -2147483648 ≤ (b - a) + 1 ∧ (b - a) + 1 < 2147483648 from ⟨by omega, by omega⟩).1 (show -2147483648 ≤ (b - a) + 1 ∧ (b - a) + 1 < 2147483648 from ⟨by omega, by omega⟩).2 ?_
    refine z_iload_n 3 dX10_mixed_93 rfl ?_
    refine z_iload 0 dX10_mixed_94 rfl ?_
    refine z_iload 6 dX10_mixed_96 rfl ?_
    exact k1 c1
  ·
    refine z_iload 0 dX10_mixed_79 rfl ?_
    refine z_i2l dX10_mixed_81 ?_
    refine z_goto (tgt := 101) dX10_mixed_82 (by decide) ?_
    exact z_lret dX10_mixed_101 rfl (k2 c1)

set_option maxRecDepth 20000 in
theorem rX10_mixed_98 {X : zX} {dep bc bs : Nat} (l : Int) (c : Int) (a : Int) (b : Int) (w : Int) (f : Int) {h : zH} {Q : Nat → zH → List zV → Prop} {P : Int → zH → Prop}
    (hZ : zW mX10_chance X (dep - 1) 0 0 239 0 (zar 0 [xI 52, xI (b - a + 1), xI c, xI f, xI w]) [] h (zQL P)) (hdep : 1 ≤ dep)
    (k : ∀ (v : Int) (g : zH), P v g → zW mX10_mixed X dep bc bs 239 101 [(0, xR 0), (1, xI l), (2, xI c), (3, xI a), (4, xI b), (5, xI w), (6, xI f)] [xL v] g Q) : zW mX10_mixed X dep bc bs 239 98 [(0, xR 0), (1, xI l), (2, xI c), (3, xI a), (4, xI b), (5, xI w), (6, xI f)] [xI w, xI f, xI c, xI (b - a + 1), xI 52] h Q :=
  z_invSQL (as := [xI 52, xI (b - a + 1), xI c, xI f, xI w]) (st := []) (ra := [xI w, xI f, xI c, xI (b - a + 1), xI 52]) hZ dX10_mixed_98 nX10_chance zb_1100 zb_1101 zb_82 (by omega) (Nat.le_of_ble_eq_true rfl) (Nat.le_of_ble_eq_true rfl) rfl (fun v g hg => k v g hg)

set_option maxRecDepth 20000 in
theorem bX10_mixed_101 {X : zX} {dep bc bs : Nat} (l : Int) (c : Int) (a : Int) (b : Int) (w : Int) (f : Int) (y : Int) {h : zH} {Q : Nat → zH → List zV → Prop}
    (k1 : Q 239 h [xL y]) : zW mX10_mixed X dep bc bs 239 101 [(0, xR 0), (1, xI l), (2, xI c), (3, xI a), (4, xI b), (5, xI w), (6, xI f)] [xL y] h Q := by
  exact z_lret dX10_mixed_101 rfl (k1)

set_option maxRecDepth 20000 in
theorem bX10_doubt_0 {X : zX} {dep bc bs : Nat} (d : Int) (t : Int) (w : Int) {h : zH} {Q : Nat → zH → List zV → Prop} (he : 0 ≤ h 11 2 ∧ h 11 2 ≤ 60) (hdep : 2 ≤ dep)
    (k1 : ¬ (0 ≤ d ∧ d < 8) → Q 239 h [(9, 0)])
    (k2 : 0 ≤ d ∧ d < 8 → 0 ≤ w ∧ w ≤ 2 → zW mX10_doubt X dep bc bs 239 47 [(0, xR 0), (1, xI d), (3, xI w), (4, xI (zknown h 11 t)), (5, xI 0), (6, xI 0), (7, xI 0), (8, xI 0)] [] h Q)
    (k3 : 0 ≤ d ∧ d < 8 → ¬ (0 ≤ w ∧ w ≤ 2) → Q 239 h [(9, 0)]) : zW mX10_doubt X dep bc bs 239 0 [(0, xR 0), (1, xI d), (2, xI t), (3, xI w)] [] h Q := by
  refine z_iload_n 1 dX10_doubt_0 rfl ?_
  refine z_invSF (as := [xI d]) (st := []) (ra := [xI d]) (dep' := dep - 1) (rs := [xI (zb (0 ≤ d ∧ d < 8))]) (h' := h) (f_X10_isDoctor d (h := h) ) dX10_doubt_1 nX10_isDoctor zb_581 zb_582 zb_82 (by omega) zne_I (Nat.le_of_ble_eq_true rfl) (Nat.le_of_ble_eq_true rfl) rfl ?_
  refine z_ifB_eq (C := 0 ≤ d ∧ d < 8) (tgt := 14) dX10_doubt_4 (by decide) (fun c1 => ?_) (fun c1 => ?_)
  ·
    exact z_thr (by decide) dX10_doubt_14 (k1 c1)
  ·
    refine z_iload_n 3 dX10_doubt_7 rfl ?_
    refine z_invSF (as := [xI w]) (st := []) (ra := [xI w]) (dep' := dep - 1) (rs := [xI (zb (0 ≤ w ∧ w ≤ 2))]) (h' := h) (f_X10_isWhat w (h := h) ) dX10_doubt_8 nX10_isWhat zb_1034 zb_1035 zb_82 (by omega) zne_I (Nat.le_of_ble_eq_true rfl) (Nat.le_of_ble_eq_true rfl) rfl ?_
    refine z_ifB_ne (C := 0 ≤ w ∧ w ≤ 2) (tgt := 22) dX10_doubt_11 (by decide) (fun c2 => ?_) (fun c2 => ?_)
    ·
      refine z_aload_n 0 dX10_doubt_22 rfl ?_
      refine z_getS (v := 3) (k := 1) (kz := 1) pk10 dX10_doubt_23 (by decide) zb_458 rfl (zOb.lit (by decide +kernel)) rfl (by decide +kernel) ?_
      refine z_getS (v := 11) (k := 6) (kz := 6) pk4 dX10_doubt_26 (by decide) zb_168 rfl (zOb.lit (by decide +kernel)) rfl (by decide +kernel) ?_
      refine z_iload_n 2 dX10_doubt_29 rfl ?_
      refine z_invF (ci := 2) (N := 3) (as := [xI t]) (st := []) (ra := [xI t]) (dep' := dep - 1) (rs := [xI (zknown h 11 t)]) (h' := h) (f_X2_knownBy 11 t (h := h) zLedO_11 (show 0 ≤ h 11 2 ∧ h 11 2 ≤ 240 ∧ 6 * h 11 2 ≤ 360 ∧ 360 ≤ 1440 from ⟨by omega, by omega, by omega, by omega⟩) (by omega)) dX10_doubt_30 nX2_knownBy zb_1116 zb_826 zb_827 zb_85 (zOb.lit (by decide +kernel)) rfl (by omega) zne_I (Nat.le_of_ble_eq_true rfl) (Nat.le_of_ble_eq_true rfl) rfl ?_
      refine z_istore (lv' := [(4, xI (zknown h 11 t)), (0, xR 0), (1, xI d), (2, xI t), (3, xI w)]) dX10_doubt_33 (by decide) rfl ?_
      refine z_iconst dX10_doubt_35 (zi32_d rfl) ?_
      refine z_istore (lv' := [(5, xI 0), (4, xI (zknown h 11 t)), (0, xR 0), (1, xI d), (2, xI t), (3, xI w)]) dX10_doubt_36 (by decide) rfl ?_
      refine z_iconst dX10_doubt_38 (zi32_d rfl) ?_
      refine z_istore (lv' := [(6, xI 0), (5, xI 0), (4, xI (zknown h 11 t)), (0, xR 0), (1, xI d), (2, xI t), (3, xI w)]) dX10_doubt_39 (by decide) rfl ?_
      refine z_iconst dX10_doubt_41 (zi32_d rfl) ?_
      refine z_istore (lv' := [(7, xI 0), (6, xI 0), (5, xI 0), (4, xI (zknown h 11 t)), (0, xR 0), (1, xI d), (2, xI t), (3, xI w)]) dX10_doubt_42 (by decide) rfl ?_
      refine z_iconst dX10_doubt_44 (zi32_d rfl) ?_
      refine z_istore (lv' := [(8, xI 0), (7, xI 0), (6, xI 0), (5, xI 0), (4, xI (zknown h 11 t)), (0, xR 0), (1, xI d), (2, xI t), (3, xI w)]) dX10_doubt_45 (by decide) rfl ?_
      refine zW.sub (lv' := [(0, xR 0), (1, xI d), (3, xI w), (4, xI (zknown h 11 t)), (5, xI 0), (6, xI 0), (7, xI 0), (8, xI 0)]) [5, 6, 8, 4, 3, 2, 1, 0] rfl ?_
      exact k2 c1 c2
    ·
      exact z_thr (by decide) dX10_doubt_14 (k3 c1 c2)

set_option maxRecDepth 20000 in
theorem bX10_doubt_47 {X : zX} {dep bc bs : Nat} (d : Int) (w : Int) (n : Int) (m : Int) (c : Int) (x : Int) (r : Int) {h : zH} {Q : Nat → zH → List zV → Prop} (he : 0 ≤ h 11 2 ∧ h 11 2 ≤ 60) (hn : 0 ≤ r ∧ r ≤ 60 ∧ 0 ≤ m ∧ m ≤ 60 ∧ 0 ≤ c ∧ c ≤ 60 ∧ 0 ≤ x ∧ x ≤ 60) (hdep : 1 ≤ dep)
    (k1 : n ≤ r → zW mX10_doubt X dep bc bs 239 158 [(3, xI w), (4, xI n), (5, xI m), (6, xI c), (7, xI x)] [] h Q)
    (k2 : ¬ (n ≤ r) → zW mX10_doubt X dep bc bs 239 102 [(0, xR 0), (1, xI d), (3, xI w), (4, xI n), (5, xI m), (6, xI c), (7, xI x), (8, xI r), (9, xI (if (zget h 11 r 3) ≤ 4 then 0 else 1 : Int)), (10, xI (if (zget h 11 r 2) = d then 1 else 0 : Int))] [] h Q) : zW mX10_doubt X dep bc bs 239 47 [(0, xR 0), (1, xI d), (3, xI w), (4, xI n), (5, xI m), (6, xI c), (7, xI x), (8, xI r)] [] h Q := by
  refine z_iload 7 dX10_doubt_47 rfl ?_
  refine z_iload 3 dX10_doubt_49 rfl ?_
  refine z_icmp_ge (tgt := 158) dX10_doubt_51 (by decide) (fun c1 => ?_) (fun c1 => ?_)
  ·
    refine zW.sub (lv' := [(3, xI w), (4, xI n), (5, xI m), (6, xI c), (7, xI x)]) [2, 3, 4, 5, 6] rfl ?_
    exact k1 c1
  ·
    refine z_aload_n 0 dX10_doubt_54 rfl ?_
    refine z_getS (v := 3) (k := 1) (kz := 1) pk10 dX10_doubt_55 (by decide) zb_458 rfl (zOb.lit (by decide +kernel)) rfl (by decide +kernel) ?_
    refine z_getS (v := 11) (k := 6) (kz := 6) pk4 dX10_doubt_58 (by decide) zb_168 rfl (zOb.lit (by decide +kernel)) rfl (by decide +kernel) ?_
    refine z_iload 7 dX10_doubt_61 rfl ?_
    refine z_iconst dX10_doubt_63 (zi32_d rfl) ?_
    refine z_invF (ci := 2) (N := 3) (as := [xI r, xI 3]) (st := []) (ra := [xI 3, xI r]) (dep' := dep - 1) (rs := [xI (zget h 11 r 3)]) (h' := h) (f_X2_get 11 r 3 (h := h) zLedO_11 (show 0 ≤ h 11 2 ∧ h 11 2 ≤ 240 ∧ 6 * h 11 2 ≤ 360 ∧ 360 ≤ 1440 from ⟨by omega, by omega, by omega, by omega⟩)) dX10_doubt_64 nX2_get zb_1117 zb_830 zb_831 zb_85 (zOb.lit (by decide +kernel)) rfl (by omega) zne_I (Nat.le_of_ble_eq_true rfl) (Nat.le_of_ble_eq_true rfl) rfl ?_
    refine z_iconst dX10_doubt_67 (zi32_d rfl) ?_
    suffices KJ : zW mX10_doubt X dep bc bs 239 76 [(0, xR 0), (1, xI d), (3, xI w), (4, xI n), (5, xI m), (6, xI c), (7, xI x), (8, xI r)] [xI (if (zget h 11 r 3) ≤ 4 then 0 else 1 : Int)] h Q by
      refine z_icmp_le (tgt := 75) dX10_doubt_68 (by decide) (fun j1 => ?_) (fun j1 => ?_)
      ·
        refine z_iconst dX10_doubt_75 (zi32_d rfl) ?_
        rw [if_pos j1] at KJ
        exact KJ
      ·
        refine z_iconst dX10_doubt_71 (zi32_d rfl) ?_
        refine z_goto (tgt := 76) dX10_doubt_72 (by decide) ?_
        rw [if_neg j1] at KJ
        exact KJ
    refine z_istore (lv' := [(9, xI (if (zget h 11 r 3) ≤ 4 then 0 else 1 : Int)), (0, xR 0), (1, xI d), (3, xI w), (4, xI n), (5, xI m), (6, xI c), (7, xI x), (8, xI r)]) dX10_doubt_76 (by decide) rfl ?_
    refine z_aload_n 1 dX10_doubt_78 rfl ?_
    refine z_getS (v := 3) (k := 1) (kz := 1) pk10 dX10_doubt_79 (by decide) zb_458 rfl (zOb.lit (by decide +kernel)) rfl (by decide +kernel) ?_
    refine z_getS (v := 11) (k := 6) (kz := 6) pk4 dX10_doubt_82 (by decide) zb_168 rfl (zOb.lit (by decide +kernel)) rfl (by decide +kernel) ?_
    refine z_iload 8 dX10_doubt_85 rfl ?_
    refine z_iconst dX10_doubt_87 (zi32_d rfl) ?_
    refine z_invF (ci := 2) (N := 3) (as := [xI r, xI 2]) (st := []) (ra := [xI 2, xI r]) (dep' := dep - 1) (rs := [xI (zget h 11 r 2)]) (h' := h) (f_X2_get 11 r 2 (h := h) zLedO_11 (show 0 ≤ h 11 2 ∧ h 11 2 ≤ 240 ∧ 6 * h 11 2 ≤ 360 ∧ 360 ≤ 1440 from ⟨by omega, by omega, by omega, by omega⟩)) dX10_doubt_88 nX2_get zb_1117 zb_830 zb_831 zb_85 (zOb.lit (by decide +kernel)) rfl (by omega) zne_I (Nat.le_of_ble_eq_true rfl) (Nat.le_of_ble_eq_true rfl) rfl ?_
    refine z_iload_n 2 dX10_doubt_91 rfl ?_
    suffices KJ : zW mX10_doubt X dep bc bs 239 100 [(9, xI (if (zget h 11 r 3) ≤ 4 then 0 else 1 : Int)), (0, xR 0), (1, xI d), (3, xI w), (4, xI n), (5, xI m), (6, xI c), (7, xI x), (8, xI r)] [xI (if (zget h 11 r 2) = d then 1 else 0 : Int)] h Q by
      refine z_icmp_ne (tgt := 99) dX10_doubt_92 (by decide) (fun j1 => ?_) (fun j1 => ?_)
      ·
        refine z_iconst dX10_doubt_99 (zi32_d rfl) ?_
        rw [if_neg j1] at KJ
        exact KJ
      ·
        refine z_iconst dX10_doubt_95 (zi32_d rfl) ?_
        refine z_goto (tgt := 100) dX10_doubt_96 (by decide) ?_
        rw [if_pos j1] at KJ
        exact KJ
    refine z_istore (lv' := [(10, xI (if (zget h 11 r 2) = d then 1 else 0 : Int)), (9, xI (if (zget h 11 r 3) ≤ 4 then 0 else 1 : Int)), (0, xR 0), (1, xI d), (3, xI w), (4, xI n), (5, xI m), (6, xI c), (7, xI x), (8, xI r)]) dX10_doubt_100 (by decide) rfl ?_
    refine zW.sub (lv' := [(0, xR 0), (1, xI d), (3, xI w), (4, xI n), (5, xI m), (6, xI c), (7, xI x), (8, xI r), (9, xI (if (zget h 11 r 3) ≤ 4 then 0 else 1 : Int)), (10, xI (if (zget h 11 r 2) = d then 1 else 0 : Int))]) [2, 3, 4, 5, 6, 7, 8, 9, 1, 0] rfl ?_
    exact k2 c1

set_option maxRecDepth 20000 in
theorem bX10_doubt_102 {X : zX} {dep bc bs : Nat} (d : Int) (w : Int) (n : Int) (m : Int) (c : Int) (x : Int) (r : Int) (a : Int) (b : Int) {h : zH} {Q : Nat → zH → List zV → Prop} (hn : 0 ≤ r ∧ r ≤ 60 ∧ 0 ≤ m ∧ m ≤ 60 ∧ 0 ≤ c ∧ c ≤ 60 ∧ 0 ≤ x ∧ x ≤ 60)
    (k1 : zW mX10_doubt X dep bc bs 239 117 [(0, xR 0), (1, xI d), (3, xI w), (4, xI n), (5, xI (m + (if a = 0 then 0 else 1 : Int))), (6, xI c), (7, xI x), (8, xI r), (9, xI a), (10, xI b)] [] h Q) : zW mX10_doubt X dep bc bs 239 102 [(0, xR 0), (1, xI d), (3, xI w), (4, xI n), (5, xI m), (6, xI c), (7, xI x), (8, xI r), (9, xI a), (10, xI b)] [] h Q := by
  refine z_iload 4 dX10_doubt_102 rfl ?_
  refine z_iload 8 dX10_doubt_104 rfl ?_
  suffices KJ : zW mX10_doubt X dep bc bs 239 114 [(0, xR 0), (1, xI d), (3, xI w), (4, xI n), (5, xI m), (6, xI c), (7, xI x), (8, xI r), (9, xI a), (10, xI b)] [xI (if a = 0 then 0 else 1 : Int), xI m] h Q by
    refine z_if_eq (tgt := 113) dX10_doubt_106 (by decide) (fun j1 => ?_) (fun j1 => ?_)
    ·
      refine z_iconst dX10_doubt_113 (zi32_d rfl) ?_
      rw [if_pos j1] at KJ
      exact KJ
    ·
      refine z_iconst dX10_doubt_109 (zi32_d rfl) ?_
      refine z_goto (tgt := 114) dX10_doubt_110 (by decide) ?_
      rw [if_neg j1] at KJ
      exact KJ
  refine z_iaddN dX10_doubt_114 (show -2147483648 ≤ m + (if a = 0 then 0 else 1 : Int) ∧ m + (if a = 0 then 0 else 1 : Int) < 2147483648 from ⟨by omega, by omega⟩).1 (show -2147483648 ≤ m + (if a = 0 then 0 else 1 : Int) ∧ m + (if a = 0 then 0 else 1 : Int) < 2147483648 from ⟨by omega, by omega⟩).2 ?_
  refine z_istore (lv' := [(5, xI (m + (if a = 0 then 0 else 1 : Int))), (0, xR 0), (1, xI d), (3, xI w), (4, xI n), (6, xI c), (7, xI x), (8, xI r), (9, xI a), (10, xI b)]) dX10_doubt_115 (by decide) rfl ?_
  refine zW.sub (lv' := [(0, xR 0), (1, xI d), (3, xI w), (4, xI n), (5, xI (m + (if a = 0 then 0 else 1 : Int))), (6, xI c), (7, xI x), (8, xI r), (9, xI a), (10, xI b)]) [1, 2, 3, 4, 0, 5, 6, 7, 8, 9] rfl ?_
  exact k1

set_option maxRecDepth 20000 in
theorem bX10_doubt_117 {X : zX} {dep bc bs : Nat} (d : Int) (w : Int) (n : Int) (m : Int) (c : Int) (x : Int) (r : Int) (a : Int) (b : Int) {h : zH} {Q : Nat → zH → List zV → Prop} (hn : 0 ≤ r ∧ r ≤ 60 ∧ 0 ≤ m ∧ m ≤ 60 ∧ 0 ≤ c ∧ c ≤ 60 ∧ 0 ≤ x ∧ x ≤ 60)
    (k1 : zW mX10_doubt X dep bc bs 239 132 [(0, xR 0), (1, xI d), (3, xI w), (4, xI n), (5, xI m), (6, xI (c + (if b = 0 then 0 else 1 : Int))), (7, xI x), (8, xI r), (9, xI a), (10, xI b)] [] h Q) : zW mX10_doubt X dep bc bs 239 117 [(0, xR 0), (1, xI d), (3, xI w), (4, xI n), (5, xI m), (6, xI c), (7, xI x), (8, xI r), (9, xI a), (10, xI b)] [] h Q := by
  refine z_iload 5 dX10_doubt_117 rfl ?_
  refine z_iload 9 dX10_doubt_119 rfl ?_
  suffices KJ : zW mX10_doubt X dep bc bs 239 129 [(0, xR 0), (1, xI d), (3, xI w), (4, xI n), (5, xI m), (6, xI c), (7, xI x), (8, xI r), (9, xI a), (10, xI b)] [xI (if b = 0 then 0 else 1 : Int), xI c] h Q by
    refine z_if_eq (tgt := 128) dX10_doubt_121 (by decide) (fun j1 => ?_) (fun j1 => ?_)
    ·
      refine z_iconst dX10_doubt_128 (zi32_d rfl) ?_
      rw [if_pos j1] at KJ
      exact KJ
    ·
      refine z_iconst dX10_doubt_124 (zi32_d rfl) ?_
      refine z_goto (tgt := 129) dX10_doubt_125 (by decide) ?_
      rw [if_neg j1] at KJ
      exact KJ
  refine z_iaddN dX10_doubt_129 (show -2147483648 ≤ c + (if b = 0 then 0 else 1 : Int) ∧ c + (if b = 0 then 0 else 1 : Int) < 2147483648 from ⟨by omega, by omega⟩).1 (show -2147483648 ≤ c + (if b = 0 then 0 else 1 : Int) ∧ c + (if b = 0 then 0 else 1 : Int) < 2147483648 from ⟨by omega, by omega⟩).2 ?_
  refine z_istore (lv' := [(6, xI (c + (if b = 0 then 0 else 1 : Int))), (0, xR 0), (1, xI d), (3, xI w), (4, xI n), (5, xI m), (7, xI x), (8, xI r), (9, xI a), (10, xI b)]) dX10_doubt_130 (by decide) rfl ?_
  refine zW.sub (lv' := [(0, xR 0), (1, xI d), (3, xI w), (4, xI n), (5, xI m), (6, xI (c + (if b = 0 then 0 else 1 : Int))), (7, xI x), (8, xI r), (9, xI a), (10, xI b)]) [1, 2, 3, 4, 5, 0, 6, 7, 8, 9] rfl ?_
  exact k1

set_option maxRecDepth 20000 in
theorem bX10_doubt_132 {X : zX} {dep bc bs : Nat} (d : Int) (w : Int) (n : Int) (m : Int) (c : Int) (x : Int) (r : Int) (a : Int) (b : Int) {h : zH} {Q : Nat → zH → List zV → Prop} (hn : 0 ≤ r ∧ r ≤ 60 ∧ 0 ≤ m ∧ m ≤ 60 ∧ 0 ≤ c ∧ c ≤ 60 ∧ 0 ≤ x ∧ x ≤ 60)
    (k1 : zW mX10_doubt X dep bc bs 239 47 [(0, xR 0), (1, xI d), (3, xI w), (4, xI n), (5, xI m), (6, xI c), (7, xI (x + (if a = 0 then 0 else if b = 0 then 0 else 1 : Int))), (8, xI (r + 1))] [] h Q) : zW mX10_doubt X dep bc bs 239 132 [(0, xR 0), (1, xI d), (3, xI w), (4, xI n), (5, xI m), (6, xI c), (7, xI x), (8, xI r), (9, xI a), (10, xI b)] [] h Q := by
  refine z_iload 6 dX10_doubt_132 rfl ?_
  refine z_iload 8 dX10_doubt_134 rfl ?_
  suffices KJ : zW mX10_doubt X dep bc bs 239 149 [(0, xR 0), (1, xI d), (3, xI w), (4, xI n), (5, xI m), (6, xI c), (7, xI x), (8, xI r), (9, xI a), (10, xI b)] [xI (if a = 0 then 0 else if b = 0 then 0 else 1 : Int), xI x] h Q by
    refine z_if_eq (tgt := 148) dX10_doubt_136 (by decide) (fun j1 => ?_) (fun j1 => ?_)
    ·
      refine z_iconst dX10_doubt_148 (zi32_d rfl) ?_
      rw [if_pos j1] at KJ
      exact KJ
    ·
      refine z_iload 9 dX10_doubt_139 rfl ?_
      refine z_if_eq (tgt := 148) dX10_doubt_141 (by decide) (fun j2 => ?_) (fun j2 => ?_)
      ·
        refine z_iconst dX10_doubt_148 (zi32_d rfl) ?_
        rw [if_neg j1] at KJ
        rw [if_pos j2] at KJ
        exact KJ
      ·
        refine z_iconst dX10_doubt_144 (zi32_d rfl) ?_
        refine z_goto (tgt := 149) dX10_doubt_145 (by decide) ?_
        rw [if_neg j1] at KJ
        rw [if_neg j2] at KJ
        exact KJ
  refine z_iaddN dX10_doubt_149 (show -2147483648 ≤ x + (if a = 0 then 0 else if b = 0 then 0 else 1 : Int) ∧ x + (if a = 0 then 0 else if b = 0 then 0 else 1 : Int) < 2147483648 from ⟨by omega, by omega⟩).1 (show -2147483648 ≤ x + (if a = 0 then 0 else if b = 0 then 0 else 1 : Int) ∧ x + (if a = 0 then 0 else if b = 0 then 0 else 1 : Int) < 2147483648 from ⟨by omega, by omega⟩).2 ?_
  refine z_istore (lv' := [(7, xI (x + (if a = 0 then 0 else if b = 0 then 0 else 1 : Int))), (0, xR 0), (1, xI d), (3, xI w), (4, xI n), (5, xI m), (6, xI c), (8, xI r), (9, xI a), (10, xI b)]) dX10_doubt_150 (by decide) rfl ?_
  refine z_iincN (lv' := [(8, xI (r + 1)), (7, xI (x + (if a = 0 then 0 else if b = 0 then 0 else 1 : Int))), (0, xR 0), (1, xI d), (3, xI w), (4, xI n), (5, xI m), (6, xI c), (9, xI a), (10, xI b)]) 7 dX10_doubt_152 rfl (by decide) rfl (show -2147483648 ≤ r + 1 ∧ r + 1 < 2147483648 from ⟨by omega, by omega⟩).1 (show -2147483648 ≤ r + 1 ∧ r + 1 < 2147483648 from ⟨by omega, by omega⟩).2 ?_
  refine z_goto (tgt := 47) dX10_doubt_155 (by decide) ?_
  refine zW.sub (lv' := [(0, xR 0), (1, xI d), (3, xI w), (4, xI n), (5, xI m), (6, xI c), (7, xI (x + (if a = 0 then 0 else if b = 0 then 0 else 1 : Int))), (8, xI (r + 1))]) [2, 3, 4, 5, 6, 7, 1, 0] rfl ?_
  exact k1

set_option maxRecDepth 20000 in
theorem bX10_doubt_158 {X : zX} {dep bc bs : Nat} (w : Int) (n : Int) (m : Int) (c : Int) (x : Int) {h : zH} {Q : Nat → zH → List zV → Prop}
    (k1 : ¬ w = 2 → zW mX10_doubt X dep bc bs 239 178 [(3, xI w), (4, xI n), (5, xI m), (6, xI c), (7, xI x)] [xI w, xI x, xI c, xI m, xI n] h Q)
    (k2 : w = 2 → Q 239 h [xL x]) : zW mX10_doubt X dep bc bs 239 158 [(3, xI w), (4, xI n), (5, xI m), (6, xI c), (7, xI x)] [] h Q := by
  refine z_iload_n 0 dX10_doubt_158 rfl ?_
  refine z_iconst dX10_doubt_159 (zi32_d rfl) ?_
  refine z_icmp_ne (tgt := 169) dX10_doubt_160 (by decide) (fun c1 => ?_) (fun c1 => ?_)
  ·
    refine z_iload 1 dX10_doubt_169 rfl ?_
    refine z_iload 2 dX10_doubt_171 rfl ?_
    refine z_iload 3 dX10_doubt_173 rfl ?_
    refine z_iload 4 dX10_doubt_175 rfl ?_
    refine z_iload_n 0 dX10_doubt_177 rfl ?_
    exact k1 c1
  ·
    refine z_iload 4 dX10_doubt_163 rfl ?_
    refine z_i2l dX10_doubt_165 ?_
    refine z_goto (tgt := 181) dX10_doubt_166 (by decide) ?_
    exact z_lret dX10_doubt_181 rfl (k2 c1)

set_option maxRecDepth 20000 in
theorem rX10_doubt_178 {X : zX} {dep bc bs : Nat} (w : Int) (n : Int) (m : Int) (c : Int) (x : Int) {h : zH} {Q : Nat → zH → List zV → Prop} {P : Int → zH → Prop}
    (hZ : zW mX10_chance X (dep - 1) 0 0 239 0 (zar 0 [xI n, xI m, xI c, xI x, xI w]) [] h (zQL P)) (hdep : 1 ≤ dep)
    (k : ∀ (v : Int) (g : zH), P v g → zW mX10_doubt X dep bc bs 239 181 [(3, xI w), (4, xI n), (5, xI m), (6, xI c), (7, xI x)] [xL v] g Q) : zW mX10_doubt X dep bc bs 239 178 [(3, xI w), (4, xI n), (5, xI m), (6, xI c), (7, xI x)] [xI w, xI x, xI c, xI m, xI n] h Q :=
  z_invSQL (as := [xI n, xI m, xI c, xI x, xI w]) (st := []) (ra := [xI w, xI x, xI c, xI m, xI n]) hZ dX10_doubt_178 nX10_chance zb_1100 zb_1101 zb_82 (by omega) (Nat.le_of_ble_eq_true rfl) (Nat.le_of_ble_eq_true rfl) rfl (fun v g hg => k v g hg)

set_option maxRecDepth 20000 in
theorem bX10_doubt_181 {X : zX} {dep bc bs : Nat} (w : Int) (n : Int) (m : Int) (c : Int) (x : Int) (y : Int) {h : zH} {Q : Nat → zH → List zV → Prop}
    (k1 : Q 239 h [xL y]) : zW mX10_doubt X dep bc bs 239 181 [(3, xI w), (4, xI n), (5, xI m), (6, xI c), (7, xI x)] [xL y] h Q := by
  exact z_lret dX10_doubt_181 rfl (k1)

theorem zldiv_eq {a b : Int} (h0 : 0 ≤ a) (h1 : a < 9223372036854775808) (h2 : 0 < b) (h3 : b < 9223372036854775808) : zldiv a b = a / b := by
  unfold zldiv
  rw [Int64.toInt_div_of_ne_right _ _ (fun e => by
    have := congrArg Int64.toInt e
    rw [Int64.toInt_ofInt_of_le (by omega) h3] at this
    rw [show Int64.toInt (-1) = -1 from rfl] at this
    omega), Int64.toInt_ofInt_of_le (by omega) h1, Int64.toInt_ofInt_of_le (by omega) h3, Int.tdiv_eq_ediv_of_nonneg h0]
theorem zlrem_eq {a b : Int} (h0 : 0 ≤ a) (h1 : a < 9223372036854775808) (h2 : 0 < b) (h3 : b < 9223372036854775808) : zlrem a b = a % b := by
  have q0 : 0 ≤ a / b := Int.ediv_nonneg h0 (by omega)
  have q1 : a / b ≤ a := Int.ediv_le_self b h0
  have e1 : Int64.ofInt a / Int64.ofInt b = Int64.ofInt (a / b) := by
    rw [← Int64.toInt_inj, Int64.toInt_ofInt_of_le (by omega) (by omega)]
    exact zldiv_eq h0 h1 h2 h3
  have r0 := Int.emod_nonneg a (show b ≠ 0 by omega)
  have r1 := Int.emod_lt_of_pos a h2
  have e2 : a - a / b * b = a % b := by
    have := Int.emod_def a b
    rw [Int.mul_comm] at this
    omega
  unfold zlrem
  rw [e1, ← Int64.ofInt_mul, ← Int64.ofInt_sub, e2, Int64.toInt_ofInt_of_le (by omega) (by omega)]
theorem zcmp_z {y : Int} : (zcmp y 0 = 0 ↔ y = 0) ∧ (0 < zcmp y 0 ↔ 0 < y) := by
  unfold zcmp
  by_cases c : 0 < y
  · rw [if_pos c]
    omega
  · rw [if_neg c]
    by_cases d : y = 0
    · rw [if_pos d]
      omega
    · rw [if_neg d]
      omega
/-- how many ways to take k out of n -/
def zC (n : Nat) : Nat → Nat
  | 0 => 1
  | i + 1 => zC n i * (n - i) / (i + 1)
theorem zC_ok0 : ∀ n : Nat, n < 61 → ∀ i : Nat, i < 61 → (n < i ∨ 0 < zC n i) ∧ zC n i * (n - i) < 9223372036854775808 ∧ zC n i ≤ zC n (n / 2) := by decide +kernel
theorem zC_ok1 : ∀ m : Nat, m < 61 → ∀ p : Nat, p < 61 → 60 < m + p ∨ zC m (m / 2) * zC p (p / 2) * 61 < 9223372036854775808 := by decide +kernel
def zCi (n k : Int) : Int := if k < 0 ∨ n < k then 0 else (zC n.toNat k.toNat : Nat)
theorem zCi_in {n : Int} (h1 : n ≤ 60) (k : Int) : 0 ≤ zCi n k ∧ zCi n k ≤ (zC n.toNat (n.toNat / 2) : Nat) := by
  unfold zCi
  split
  · omega
  · have := (zC_ok0 n.toNat (by omega) k.toNat (by omega)).2.2
    omega
theorem zCi_pos {n k : Int} (h1 : n ≤ 60) (h2 : 0 ≤ k) (h3 : k ≤ n) : 0 < zCi n k := by
  unfold zCi
  rw [if_neg (by omega)]
  have := (zC_ok0 n.toNat (by omega) k.toNat (by omega)).1
  omega
theorem zC_step {n : Int} (h1 : n ≤ 60) {j : Nat} (h3 : (j : Int) < n) : zldiv (w64 ((zC n.toNat j : Nat) * (n - j))) (j + 1) = (zC n.toNat (j + 1) : Nat) := by
  have o := (zC_ok0 n.toNat (by omega) j (by omega)).2.1
  have e : ((zC n.toNat j : Nat) : Int) * (n - j) = ((zC n.toNat j * (n.toNat - j) : Nat) : Int) := by
    rw [Int.natCast_mul, show ((n.toNat - j : Nat) : Int) = n - j by omega]
  rw [e, w64_id (by omega) (by omega), zldiv_eq (by omega) (by omega) (by omega) (by omega)]
  rfl
theorem zC_big {n : Int} (h1 : n ≤ 60) (j : Nat) (h2 : (j : Int) ≤ n) : ((zC n.toNat j : Nat) : Int) < 9223372036854775808 := by
  have a := (zC_ok0 n.toNat (by omega) j (by omega)).2.2
  have b := zC_ok1 n.toNat (by omega) 0 (by omega)
  have c : zC 0 (0 / 2) = 1 := rfl
  rw [c] at b
  omega
theorem l_X10_ways {X : zX} {dep : Nat} (n c : Int) {h : zH} (hn : 0 ≤ n ∧ n ≤ 60) (hc : 0 ≤ c ∧ c ≤ n) : ∀ (k j : Nat), (j : Int) + k = c → zW mX10_ways X dep 0 0 239 16 [(0, xI n), (1, xI c), (2, xL (zC n.toNat j : Nat)), (4, xI j)] [] h (zF h [xL (zC n.toNat c.toNat : Nat)]) := by
  intro k
  induction k with
  | zero =>
    intro j hk
    refine bX10_ways_16 n c _ j hn (by omega) (fun q => ?_) (fun q => absurd (by omega) q)
    rw [show c.toNat = j by omega]
    exact ⟨rfl, rfl, rfl⟩
  | succ k ih =>
    intro j hk
    refine bX10_ways_16 n c _ j hn (by omega) (fun q => absurd q (by omega)) (fun q => ?_)
    rw [zC_step hn.2 (by omega)]
    exact ih (j + 1) (by omega)
theorem f_X10_ways {X : zX} {dep : Nat} (n c : Int) {h : zH} (hn : 0 ≤ n ∧ n ≤ 60) : zW mX10_ways X dep 0 0 239 0 (zar 0 [xI n, xI c]) [] h (zF h [xL (zCi n c)]) := by
  refine bX10_ways_0 n c (fun q => ?_) (fun q q2 => ?_) (fun q q2 => ?_)
  · refine ⟨rfl, rfl, ?_⟩
    unfold zCi
    rw [if_pos (Or.inl q)]
  · have go := l_X10_ways (X := X) (dep := dep) n c (h := h) hn (by omega) c.toNat 0 (by omega)
    unfold zCi
    rw [if_neg (by omega)]
    exact go
  · refine ⟨rfl, rfl, ?_⟩
    unfold zCi
    rw [if_pos (Or.inr (by omega))]
theorem zgcd_s (a b : Nat) : Nat.gcd a b = Nat.gcd b (a % b) := by
  rw [Nat.gcd_comm a b, Nat.gcd_rec b a, Nat.gcd_comm]
theorem l_X10_commonDivisor {X : zX} {dep : Nat} {h : zH} : ∀ (f a b i : Nat), b < 2 ^ f → i + 2 * f + 1 ≤ 1000 → a < 9223372036854775808 → b < 9223372036854775808 →
    zW mX10_commonDivisor X dep 0 0 239 9 [(4, xL (a : Int)), (6, xL (b : Int)), (8, xI (i : Int))] [] h (zF h [xL (Nat.gcd a b : Nat)])
  | 0, a, b, i, hb, hi, a9, b9 => by
    have b0 : b = 0 := by
      have : (2 : Nat) ^ 0 = 1 := rfl
      omega
    subst b0
    refine bX10_commonDivisor_9 a _ i (by omega) (fun _ q => absurd (zcmp_z.1.mpr rfl) q) (fun q => absurd q (by omega)) (fun _ _ => ?_) (fun _ q => absurd (zcmp_z.1.mpr rfl) q)
    rw [Nat.gcd_zero_right]
    exact ⟨rfl, rfl, rfl⟩
  | f + 1, a, b, i, hb, hi, a9, b9 => by
    refine bX10_commonDivisor_9 a b i (by omega) (fun _ q z => q (zcmp_z.1.mpr z)) (fun q => absurd q (by omega)) (fun _ q => ?_) (fun _ q => ?_)
    · have : b = 0 := by have := zcmp_z.1.mp q; omega
      subst this
      rw [Nat.gcd_zero_right]
      exact ⟨rfl, rfl, rfl⟩
    · have b0 : 0 < b := by
        rcases Nat.eq_zero_or_pos b with z | z
        · subst z; exact absurd (zcmp_z.1.mpr rfl) q
        · exact z
      have r1 := Nat.mod_lt a b0
      rw [zlrem_eq (by omega) (by omega) (by omega) (by omega), zgcd_s a b, show (a : Int) % (b : Int) = ((a % b : Nat) : Int) from rfl]
      refine bX10_commonDivisor_9 b _ (i + 1) (by omega) (fun _ q z => q (zcmp_z.1.mpr z)) (fun q => absurd q (by omega)) (fun _ q => ?_) (fun _ q => ?_)
      · have z : a % b = 0 := by have := zcmp_z.1.mp q; omega
        rw [z, Nat.gcd_zero_right]
        exact ⟨rfl, rfl, rfl⟩
      · have r0 : 0 < a % b := by
          rcases Nat.eq_zero_or_pos (a % b) with z | z
          · rw [z] at q; exact absurd (zcmp_z.1.mpr rfl) q
          · exact z
        have r2 := Nat.mod_lt b r0
        have r3 : b % (a % b) + a % b ≤ b := by
          have d := Nat.div_add_mod b (a % b)
          have e : 0 < b / (a % b) := Nat.div_pos (by omega) r0
          have m := Nat.le_mul_of_pos_right (a % b) e
          omega
        have p : (2 : Nat) ^ (f + 1) = 2 * 2 ^ f := by rw [Nat.pow_succ, Nat.mul_comm]
        rw [zlrem_eq (by omega) (by omega) (by omega) (by omega), zgcd_s b (a % b), show (b : Int) % ((a % b : Nat) : Int) = ((b % (a % b) : Nat) : Int) from rfl, show (i : Int) + 1 + 1 = ((i + 2 : Nat) : Int) by omega]
        exact l_X10_commonDivisor f (a % b) (b % (a % b)) (i + 2) (by omega) (by omega) (by omega) (by omega)
theorem f_X10_commonDivisor {X : zX} {dep : Nat} (a b : Nat) {h : zH} (a9 : a < 9223372036854775808) (b9 : b < 9223372036854775808) : zW mX10_commonDivisor X dep 0 0 239 0 (zar 0 [xL a, xL b]) [] h (zF h [xL (Nat.gcd a b : Nat)]) :=
  bX10_commonDivisor_0 a b (l_X10_commonDivisor 64 a b 0 (Nat.lt_trans b9 (by decide)) (by omega) a9 b9)
/-- the upper number, not yet shortened -/
def zus (m p k x : Int) : Nat → Int
  | 0 => 0
  | r + 1 => zus m p k x r + zCi m (x + r) * zCi p (k - (x + r))
theorem zus_in {m p : Int} (hm : 0 ≤ m) (hp : 0 ≤ p) (hs : m + p ≤ 60) (k x : Int) : ∃ B : Nat, B * 61 < 9223372036854775808 ∧ (∀ i j : Int, 0 ≤ zCi m i * zCi p j ∧ zCi m i * zCi p j ≤ B) ∧ ∀ r : Nat, 0 ≤ zus m p k x r ∧ zus m p k x r ≤ r * B := by
  have o := zC_ok1 m.toNat (by omega) p.toNat (by omega)
  refine ⟨zC m.toNat (m.toNat / 2) * zC p.toNat (p.toNat / 2), by omega, ?_⟩
  have key : ∀ i j : Int, 0 ≤ zCi m i * zCi p j ∧ zCi m i * zCi p j ≤ ((zC m.toNat (m.toNat / 2) * zC p.toNat (p.toNat / 2) : Nat) : Int) := by
    intro i j
    have a := zCi_in (n := m) (by omega) i
    have b := zCi_in (n := p) (by omega) j
    refine ⟨Int.mul_nonneg a.1 b.1, ?_⟩
    rw [Int.natCast_mul]
    exact Int.mul_le_mul a.2 b.2 b.1 (by omega)
  refine ⟨key, fun r => ?_⟩
  induction r with
  | zero => exact ⟨Int.le_refl _, by unfold zus; omega⟩
  | succ r ih =>
    have a := key (x + r) (k - (x + r))
    have e : ((r + 1 : Nat) : Int) * ((zC m.toNat (m.toNat / 2) * zC p.toNat (p.toNat / 2) : Nat) : Int) = (r : Int) * ((zC m.toNat (m.toNat / 2) * zC p.toNat (p.toNat / 2) : Nat) : Int) + ((zC m.toNat (m.toNat / 2) * zC p.toNat (p.toNat / 2) : Nat) : Int) := by
      rw [Int.natCast_succ, Int.add_mul, Int.one_mul]
    show 0 ≤ zus m p k x r + zCi m (x + r) * zCi p (k - (x + r)) ∧ zus m p k x r + zCi m (x + r) * zCi p (k - (x + r)) ≤ _
    rw [e]
    omega
theorem zus_more {m p k x : Int} {r : Nat} (hr : m < x + r) : ∀ q : Nat, zus m p k x (r + q) = zus m p k x r
  | 0 => rfl
  | q + 1 => by
    show zus m p k x (r + q) + zCi m (x + ((r + q : Nat) : Int)) * zCi p (k - (x + ((r + q : Nat) : Int))) = zus m p k x r
    rw [zus_more hr q, show zCi m (x + ((r + q : Nat) : Int)) = 0 from if_pos (Or.inr (by omega)), Int.zero_mul, Int.add_zero]
/-- the chance: its upper number (w 0) or its lower one -/
def zchU (n m k x : Int) : Nat := (zus m (n - m) k x (k + 1 - x).toNat).toNat
def zch (n m k x w : Int) : Int := if w = 0 then ((zchU n m k x / Nat.gcd (zchU n m k x) (zCi n k).toNat : Nat) : Int) else (((zCi n k).toNat / Nat.gcd (zchU n m k x) (zCi n k).toNat : Nat) : Int)
theorem zfL {d : zMd} {X : zX} {dep n pc : Nat} {lv : List (Nat × zV)} {st : List zV} {h h' : zH} {v : Int} (a : zW d X dep 0 0 n pc lv st h (zF h' [xL v])) : zW d X dep 0 0 n pc lv st h (zQL (fun f g => f = v ∧ h' = g)) :=
  a.weaken (fun _ _ _ q => ⟨q.1, _, q.2.2, rfl, q.2.1.symm⟩)
theorem zfI {d : zMd} {X : zX} {dep n pc : Nat} {lv : List (Nat × zV)} {st : List zV} {h h' : zH} {v : Int} (a : zW d X dep 0 0 n pc lv st h (zF h' [xI v])) : zW d X dep 0 0 n pc lv st h (zQI (fun f g => f = v ∧ h' = g)) :=
  a.weaken (fun _ _ _ q => ⟨q.1, _, q.2.2, rfl, q.2.1.symm⟩)
theorem l_X10_chance_46 {X : zX} {dep : Nat} (n m c x w : Int) {h : zH} (hn : 0 ≤ m ∧ m ≤ n ∧ n ≤ 60 ∧ 0 ≤ c ∧ c ≤ n) (hx : 0 ≤ x) (hdep : 1 ≤ dep) : zW mX10_chance X dep 0 0 239 46 [(0, xI n), (2, xI c), (4, xI w), (5, xL (zus m (n - m) c x (c + 1 - x).toNat))] [] h (zF h [xL (zch n m c x w)]) := by
  obtain ⟨B, B1, B2, B3⟩ := zus_in (m := m) (p := n - m) (by omega) (by omega) (by omega) c x
  have u := B3 (c + 1 - x).toNat
  have ub : ((c + 1 - x).toNat : Int) * (B : Int) ≤ 61 * B := Int.mul_le_mul_of_nonneg_right (by omega) (by omega)
  have d0 := zCi_pos (n := n) (k := c) (by omega) (by omega) (by omega)
  have d1 : zCi n c < 9223372036854775808 := by
    have := zC_big (n := n) (by omega) c.toNat (by omega)
    unfold zCi
    rw [if_neg (by omega)]
    exact this
  have eU : ((zchU n m c x : Nat) : Int) = zus m (n - m) c x (c + 1 - x).toNat := by unfold zchU; omega
  have eD : (((zCi n c).toNat : Nat) : Int) = zCi n c := by omega
  have gp : 0 < Nat.gcd (zchU n m c x) (zCi n c).toNat := Nat.gcd_pos_of_pos_right _ (by omega)
  have gle := Nat.le_of_dvd (by omega) (Nat.gcd_dvd_right (zchU n m c x) (zCi n c).toNat)
  refine bX10_chance_46 n c w _ ?_
  refine rX10_chance_48 n c w _ (zfL (f_X10_ways n c (by omega))) hdep (fun f g hf => ?_)
  obtain ⟨rfl, rfl⟩ := hf
  refine bX10_chance_51 n c w _ _ ?_
  refine zW.sub (lv' := [(4, xI w), (5, xL (zus m (n - m) c x (c + 1 - x).toNat)), (7, xL (zCi n c))]) [3, 4, 0] rfl ?_
  have cd := f_X10_commonDivisor (X := X) (dep := dep - 1) (zchU n m c x) (zCi n c).toNat (h := h) (by omega) (by omega)
  rw [eU, eD] at cd
  refine rX10_chance_57 w _ _ (zfL cd) hdep (fun f g hf => ?_)
  obtain ⟨rfl, rfl⟩ := hf
  refine bX10_chance_60 w _ _ _ (by omega) (fun _ _ => by omega) (fun _ _ => by omega) (fun _ q2 => ?_) (fun _ q2 => ?_) (fun q => absurd (zcmp_z.2.mpr (by omega)) q)
  · refine ⟨rfl, rfl, ?_⟩
    unfold zch
    rw [if_neg q2, zldiv_eq (by omega) (by omega) (by omega) (by omega), ← eD]
    rfl
  · refine ⟨rfl, rfl, ?_⟩
    unfold zch
    rw [if_pos q2, zldiv_eq (by omega) (by omega) (by omega) (by omega), ← eU]
    rfl
theorem l_X10_chance_6 {X : zX} {dep : Nat} (n m c x w : Int) {h : zH} (hn : 0 ≤ m ∧ m ≤ n ∧ n ≤ 60 ∧ 0 ≤ c ∧ c ≤ n) (hx : 0 ≤ x) (hdep : 1 ≤ dep) :
    ∀ (k j : Nat), j + k = (c + 1 - x).toNat → zW mX10_chance X dep 0 0 239 6 [(0, xI n), (1, xI m), (2, xI c), (4, xI w), (5, xL (zus m (n - m) c x j)), (7, xI (x + j))] [] h (zF h [xL (zch n m c x w)]) := by
  have fin := l_X10_chance_46 (X := X) (dep := dep) n m c x w (h := h) hn hx hdep
  obtain ⟨B, B1, B2, B3⟩ := zus_in (m := m) (p := n - m) (by omega) (by omega) (by omega) c x
  intro k
  induction k with
  | zero =>
    intro j hk
    have ej : j = (c + 1 - x).toNat := by omega
    refine bX10_chance_6 n m c w _ _ (by omega) (by omega) (fun q => ?_) (fun q q2 => ?_) (fun q => absurd (by omega) q)
    · rw [← ej] at fin; exact fin
    · rw [← ej] at fin; exact fin
  | succ k ih =>
    intro j hk
    refine bX10_chance_6 n m c w _ _ (by omega) (by omega) (fun q => absurd q (by omega)) (fun q q2 => ?_) (fun q q2 => ?_)
    · have e := zus_more (m := m) (p := n - m) (k := c) (x := x) (r := j) (by omega) (k + 1)
      rw [hk] at e
      rw [e] at fin
      exact fin
    · refine rX10_chance_23 n m c w _ _ (zfL (f_X10_ways m _ (by omega))) hdep (fun f g hf => ?_)
      obtain ⟨rfl, rfl⟩ := hf
      refine bX10_chance_26 n m c w _ _ _ (by omega) (by omega) ?_
      refine rX10_chance_33 n m c w _ _ _ (zfL (f_X10_ways (n - m) _ (by omega))) hdep (fun f g hf => ?_)
      obtain ⟨rfl, rfl⟩ := hf
      refine bX10_chance_36 n m c w _ _ _ _ (by omega) (by omega) ?_
      have p := B2 (x + j) (c - (x + j))
      have u := B3 (j + 1)
      have ub : ((j + 1 : Nat) : Int) * (B : Int) ≤ 61 * B := Int.mul_le_mul_of_nonneg_right (by omega) (by omega)
      have es : zus m (n - m) c x (j + 1) = zus m (n - m) c x j + zCi m (x + j) * zCi (n - m) (c - (x + j)) := rfl
      rw [w64_id (x := zCi m (x + j) * zCi (n - m) (c - (x + j))) (by omega) (by omega), ← es, w64_id (by omega) (by omega)]
      have go := ih (j + 1) (by omega)
      rw [show x + ((j + 1 : Nat) : Int) = x + (j : Int) + 1 by omega] at go
      exact go
theorem f_X10_chance {X : zX} {dep : Nat} (n m c x w : Int) {h : zH} (hn : 0 ≤ m ∧ m ≤ n ∧ n ≤ 60 ∧ 0 ≤ c ∧ c ≤ n) (hx : 0 ≤ x) (hdep : 1 ≤ dep) : zW mX10_chance X dep 0 0 239 0 (zar 0 [xI n, xI m, xI c, xI x, xI w]) [] h (zF h [xL (zch n m c x w)]) := by
  refine bX10_chance_0 n m c x w ?_
  have go := l_X10_chance_6 (X := X) (dep := dep) n m c x w (h := h) hn hx hdep (c + 1 - x).toNat 0 (by omega)
  rw [show x + ((0 : Nat) : Int) = x by omega] at go
  exact go
abbrev zMxC (h : zH) (l k a b w : Int) : Prop := (0 ≤ l ∧ l < h 0 12) ∧ (0 ≤ k ∧ k ≤ 52) ∧ (0 ≤ a ∧ a < 52) ∧ (a ≤ b ∧ b < 52) ∧ 0 ≤ w ∧ w ≤ 2
def zMxV (h : zH) (l k a b w : Int) : Int := if w = 2 then zpa h (113 + 14 * l + 1) k a (b + 1 - a).toNat else zch 52 (b - a + 1) k (zpa h (113 + 14 * l + 1) k a (b + 1 - a).toNat) w
theorem f_X10_mixed {X : zX} {dep : Nat} (l c a b w : Int) {h : zH} (hn : 0 ≤ h 0 12 ∧ h 0 12 ≤ 4) (hdep : 2 ≤ dep) : zW mX10_mixed X dep 0 0 239 0 (zar 0 [xR 0, xI l, xI c, xI a, xI b, xI w]) [] h
    (fun n1 g rs => n1 = 239 ∧ g = h ∧ (zMxC h l c a b w ∧ rs = [xL (zMxV h l c a b w)] ∨ ¬ zMxC h l c a b w ∧ rs = [(9, 0)])) := by
  refine bX10_mixed_0 l c a b w hn.2 (by omega) (fun q => ?_) (fun q q2 => ?_) (fun q q2 q3 => ?_) (fun q q2 q3 q4 => ?_) (fun q q2 q3 q4 q5 => ?_) (fun q q2 q3 q4 q5 q6 => ?_) (fun q q2 q3 q4 q5 q6 q7 => ?_) (fun q q2 q3 q4 q5 q6 q7 => ?_)
  · exact ⟨rfl, rfl, Or.inr ⟨fun z => q z.1, rfl⟩⟩
  · exact ⟨rfl, rfl, Or.inr ⟨fun z => by omega, rfl⟩⟩
  · exact ⟨rfl, rfl, Or.inr ⟨fun z => by omega, rfl⟩⟩
  · exact ⟨rfl, rfl, Or.inr ⟨fun z => by omega, rfl⟩⟩
  · exact ⟨rfl, rfl, Or.inr ⟨fun z => by omega, rfl⟩⟩
  · exact ⟨rfl, rfl, Or.inr ⟨fun z => by omega, rfl⟩⟩
  · have ok : zMxC h l c a b w := ⟨q, by omega, by omega, by omega, q7⟩
    refine bX10_mixed_55 l c a b w (by omega) ?_
    refine rX10_mixed_68 l c a b w (by omega) (zfI (f_X3_pickedAhead _ c a b (zLotO_rolls (by omega) (by omega)) (by omega) (by omega) (by omega))) (by omega) (fun f g hf => ?_)
    obtain ⟨rfl, rfl⟩ := hf
    refine bX10_mixed_71 l c a b w _ (by omega) (fun q8 => ?_) (fun q8 => ?_)
    · refine zW.sub (lv' := [(0, xR 0), (1, xI l), (2, xI c), (3, xI a), (4, xI b), (5, xI w), (6, xI (zpa h (113 + 14 * l + 1) c a (b + 1 - a).toNat))]) [1, 2, 3, 4, 5, 6, 0] rfl ?_
      refine rX10_mixed_98 l c a b w _ (zfL (f_X10_chance 52 (b - a + 1) c _ w (by omega) (zpa_in _ _ _ _ _).1 (by omega))) (by omega) (fun f g hf => ?_)
      obtain ⟨rfl, rfl⟩ := hf
      refine bX10_mixed_101 l c a b w _ _ ?_
      refine ⟨rfl, rfl, Or.inl ⟨ok, ?_⟩⟩
      unfold zMxV
      rw [if_neg q8]
    · refine ⟨rfl, rfl, Or.inl ⟨ok, ?_⟩⟩
      unfold zMxV
      rw [if_pos q8]
  · exact ⟨rfl, rfl, Or.inr ⟨fun z => by omega, rfl⟩⟩
abbrev zDoC (d w : Int) : Prop := (0 ≤ d ∧ d < 8) ∧ 0 ≤ w ∧ w ≤ 2
noncomputable def zDoV (h : zH) (d t w : Int) : Int := if w = 2 then zcnt (fun r => 4 < zget h 11 r 3 ∧ zget h 11 r 2 = d) (zknown h 11 t).toNat else
  zch (zknown h 11 t) (zcnt (fun r => 4 < zget h 11 r 3) (zknown h 11 t).toNat) (zcnt (fun r => zget h 11 r 2 = d) (zknown h 11 t).toNat) (zcnt (fun r => 4 < zget h 11 r 3 ∧ zget h 11 r 2 = d) (zknown h 11 t).toNat) w
theorem l_X10_doubt {X : zX} {dep : Nat} {Q : Nat → zH → List zV → Prop} (d w n : Int) {h : zH} (he : 0 ≤ h 11 2 ∧ h 11 2 ≤ 60) (hn : 0 ≤ n ∧ n ≤ 60) (hdep : 1 ≤ dep)
    (kx : zW mX10_doubt X dep 0 0 239 158 [(3, xI w), (4, xI n), (5, xI (zcnt (fun r => 4 < zget h 11 r 3) n.toNat)), (6, xI (zcnt (fun r => zget h 11 r 2 = d) n.toNat)), (7, xI (zcnt (fun r => 4 < zget h 11 r 3 ∧ zget h 11 r 2 = d) n.toNat))] [] h Q) :
    ∀ (k j : Nat), (j : Int) + k = n → zW mX10_doubt X dep 0 0 239 47 [(0, xR 0), (1, xI d), (3, xI w), (4, xI n), (5, xI (zcnt (fun r => 4 < zget h 11 r 3) j)), (6, xI (zcnt (fun r => zget h 11 r 2 = d) j)), (7, xI (zcnt (fun r => 4 < zget h 11 r 3 ∧ zget h 11 r 2 = d) j)), (8, xI j)] [] h Q := by
  intro k
  induction k with
  | zero =>
    intro j hk
    have a1 := zcnt_in (fun r => 4 < zget h 11 r 3) j
    have a2 := zcnt_in (fun r => zget h 11 r 2 = d) j
    have a3 := zcnt_in (fun r => 4 < zget h 11 r 3 ∧ zget h 11 r 2 = d) j
    refine bX10_doubt_47 d w n _ _ _ j he (by omega) (by omega) (fun q => ?_) (fun q => absurd (by omega) q)
    rw [show n.toNat = j by omega] at kx
    exact kx
  | succ k ih =>
    intro j hk
    have a1 := zcnt_in (fun r => 4 < zget h 11 r 3) j
    have a2 := zcnt_in (fun r => zget h 11 r 2 = d) j
    have a3 := zcnt_in (fun r => 4 < zget h 11 r 3 ∧ zget h 11 r 2 = d) j
    have b1 := zb01 (4 < zget h 11 j 3)
    have b2 := zb01 (zget h 11 j 2 = d)
    have b3 := zb01 (4 < zget h 11 j 3 ∧ zget h 11 j 2 = d)
    refine bX10_doubt_47 d w n _ _ _ j he (by omega) (by omega) (fun q => absurd q (by omega)) (fun q => ?_)
    have go := ih (j + 1) (by omega)
    rw [zcnt_s, zcnt_s, zcnt_s] at go
    have e1 : (if (zget h 11 j 3) ≤ 4 then 0 else 1 : Int) = zb (4 < zget h 11 j 3) := by
      by_cases c : zget h 11 j 3 ≤ 4
      · rw [if_pos c, zb_f (by omega)]
      · rw [if_neg c, zb_t (by omega)]
    have e2 : (if (zget h 11 j 2) = d then 1 else 0 : Int) = zb (zget h 11 j 2 = d) := by
      by_cases c : zget h 11 j 2 = d
      · rw [if_pos c, zb_t c]
      · rw [if_neg c, zb_f c]
    have e3 : ∀ y : Int, y = 0 ∨ y = 1 → (if y = 0 then 0 else 1 : Int) = y := fun y hy => by
      rcases hy with z | z
      · rw [z]; rfl
      · rw [z]; rfl
    have e4 : (if zb (4 < zget h 11 j 3) = 0 then 0 else if zb (zget h 11 j 2 = d) = 0 then 0 else 1 : Int) = zb (4 < zget h 11 j 3 ∧ zget h 11 j 2 = d) := by
      by_cases c : 4 < zget h 11 j 3
      · rw [zb_t c, if_neg (by decide)]
        by_cases c2 : zget h 11 j 2 = d
        · rw [zb_t c2, if_neg (by decide), zb_t ⟨c, c2⟩]
        · rw [zb_f c2, if_pos rfl, zb_f (fun z => c2 z.2)]
      · rw [zb_f c, if_pos rfl, zb_f (fun z => c z.1)]
    rw [e1, e2]
    refine bX10_doubt_102 d w n _ _ _ j _ _ (by omega) ?_
    rw [e3 _ b1]
    refine bX10_doubt_117 d w n _ _ _ j _ _ (by omega) ?_
    rw [e3 _ b2]
    refine bX10_doubt_132 d w n _ _ _ j _ _ (by omega) ?_
    rw [e4]
    exact go
theorem f_X10_doubt {X : zX} {dep : Nat} (d t w : Int) {h : zH} (he : 0 ≤ h 11 2 ∧ h 11 2 ≤ 60) (hdep : 2 ≤ dep) : zW mX10_doubt X dep 0 0 239 0 (zar 0 [xR 0, xI d, xI t, xI w]) [] h
    (fun n1 g rs => n1 = 239 ∧ g = h ∧ (zDoC d w ∧ rs = [xL (zDoV h d t w)] ∨ ¬ zDoC d w ∧ rs = [(9, 0)])) := by
  have kn := zknown_le (h := h) (o := 11) (t := t) he.1
  refine bX10_doubt_0 d t w he (by omega) (fun q => ?_) (fun q q2 => ?_) (fun q q2 => ?_)
  · exact ⟨rfl, rfl, Or.inr ⟨fun z => q z.1, rfl⟩⟩
  · refine l_X10_doubt d w _ he (by omega) (by omega) ?_ (zknown h 11 t).toNat 0 (by omega)
    have a1 := zcnt_in (fun r => 4 < zget h 11 r 3) (zknown h 11 t).toNat
    have a2 := zcnt_in (fun r => zget h 11 r 2 = d) (zknown h 11 t).toNat
    have a3 := zcnt_in (fun r => 4 < zget h 11 r 3 ∧ zget h 11 r 2 = d) (zknown h 11 t).toNat
    refine bX10_doubt_158 w _ _ _ _ (fun q3 => ?_) (fun q3 => ?_)
    · refine rX10_doubt_178 w _ _ _ _ (zfL (f_X10_chance _ _ _ _ w (by omega) a3.1 (by omega))) (by omega) (fun f g hf => ?_)
      obtain ⟨rfl, rfl⟩ := hf
      refine bX10_doubt_181 w _ _ _ _ _ ?_
      refine ⟨rfl, rfl, Or.inl ⟨⟨q, q2⟩, ?_⟩⟩
      unfold zDoV
      rw [if_neg q3]
    · refine ⟨rfl, rfl, Or.inl ⟨⟨q, q2⟩, ?_⟩⟩
      unfold zDoV
      rw [if_pos q3]
  · exact ⟨rfl, rfl, Or.inr ⟨fun z => q2 z.2, rfl⟩⟩

/-! the words' texts -/
section ZTA
variable {d : zMd} {X : zX} {dep bc bs pc n : Nat} {lv : List (Nat × zV)} {st : List zV} {h : zH} {Q : Nat → zH → List zV → Prop}
theorem z_anull (hdg : decode d.by pc = .ok (.aconst_null, 1)) (kk : zW d X dep bc bs n (pc + 1) lv (xR (-1) :: st) h Q) : zW d X dep bc bs n pc lv st h Q := by
  intro p l e R s m args below meth c H locs cells slots A E ls Z hF a1 a2 hD hE
  exact lv_null hF.1 hF.2.1 hdg (kk p l e R s m args below meth c H locs cells slots A E ls Z hF a1 a2 (hD.stk (xR (-1) :: st) (zok_c1 (show _ ∨ _ from Or.inl rfl) hD.2.2.2.2.2.2)) hE)
theorem z_aastW {N : Nat} {o i x : Int} (hdg : decode d.by pc = .ok (.aastore, 1)) (ho : zOb n o (5, 0, N)) (h0 : 0 ≤ i) (hi : i < N) (hx : zWd x) (kk : zW d X dep bc bs n (pc + 1) lv st (zst h o i x) Q) : zW d X dep bc bs n pc lv (xR x :: xI i :: xR o :: st) h Q := by
  intro p l e R s m args below meth c H locs cells slots A E ls Z hF h1 h2 hD hE
  have hR := hD.2.2.2.1
  have hi9 : i < 2147483648 := (hD.tl _ List.mem_cons_self : zi32 i).2
  have hst : ∀ v ∈ st, zok n v := fun w hw => hD.tl w (List.mem_cons_of_mem _ (List.mem_cons_of_mem _ hw))
  obtain ⟨t0, ht0⟩ := hR.2.2.2.1 o.toNat ho.2.1 (by rw [ho.2.2]; exact Nat.succ_ne_zero _)
  rw [ho.2.2] at ht0
  have ec : ∀ r : Option Nat, zrf E.2.1 x = r → zcell (5, 0, N) E.2.1 (E.2.2.1 o.toNat) (zst h o i x o) = .inl (E.2.2.1 o.toNat, N, .inr (.inr (.inr (.inr (va_up (fun j : Nat => zrf E.2.1 (h o j)) (Int32.ofInt i).toNatClampNeg r))))) := by
    rintro r rfl
    refine congrArg (fun f => (Sum.inl (E.2.2.1 o.toNat, N, .inr (.inr (.inr (.inr f)))) : va_E)) (funext fun j => ?_)
    rw [zclamp h0 hi9]
    unfold va_up zst
    by_cases hj : j = i.toNat
    · rw [if_pos hj, if_pos ⟨rfl, by omega⟩]
    · rw [if_neg hj, if_neg (fun q => hj (by omega))]
  have go : ∀ (r : Option Nat), zrf E.2.1 x = r → ∀ (H1 : Heap) (locs1 : List Loc), va_P E.1 zcls ((zws E n h).set o.toNat (E.2.1 o.toNat, .inl (E.2.2.1 o.toNat, N, .inr (.inr (.inr (.inr (va_up (fun j : Nat => zrf E.2.1 (h o j)) (Int32.ofInt i).toNatClampNeg r))))))) H1 → va_D A ((zws E n h).set o.toNat (E.2.1 o.toNat, .inl (E.2.2.1 o.toNat, N, .inr (.inr (.inr (.inr (va_up (fun j : Nat => zrf E.2.1 (h o j)) (Int32.ofInt i).toNatClampNeg r))))))) → va_S A s.heap H1 locs1 → W p l e R s m args below meth c H1 locs1 cells slots Z (F0 m (pc + 1) ls (st.map (zcv E.2.1))) := by
    intro r hr H1 locs1 hP hDD hS
    exact kk p l e R s m args below meth c H1 locs1 cells slots A E ls Z hF h1 h2 (hD.put st hst ho h0 (show zok n (xR x) from hD.hd) (fun _ => zRF_none (by rw [ho.2.2]; rfl)) (by rw [ec r hr]; exact hP) (by rw [ec r hr]; exact hDD) hS) hE
  rw [List.map_cons, List.map_cons, List.map_cons, zcvR (x := o) (by have := ho.1; omega)]
  by_cases hx0 : x < 0
  · have hr : zrf E.2.1 x = none := if_pos hx0
    rw [zcvN hx0]
    exact va_astqN (C := RX9) hF.1 hF.2.1 hR.2.1 hR.1 hR.2.2.1 hD.1 o.toNat t0 (hR.at ho) ht0 (zin h0 hi9 hi) hdg (go none hr)
  · have hx1 : 1000000 ≤ x ∧ x < 1000022 := by
      rcases hx with q | q
      · omega
      · exact q
    have hr : zrf E.2.1 x = some (E.2.1 x.toNat) := if_neg hx0
    rw [zcvR hx0]
    refine va_astqM (E := RX9) hF.1 hF.2.1 hR.2.1 hR.1 hR.2.2.1 hD.1 o.toNat t0 (hR.at ho) ht0 ?_ (zin h0 hi9 hi) hdg (go _ hr)
    obtain ⟨cell, g1, g2, g3⟩ := va_recvE hD.2.2.1.1 (show x.toNat - 1000000 < 22 by omega) hD.1
    have hcls := (hR.2.1.1 9 _ rfl).2
    obtain ⟨kC, hkC, -⟩ := Vm.findClass_spec g3
    rw [zWad_eq E hx1.1]
    refine ⟨cell, g1, g2, ⟨kC, hkC⟩, fun comp hc => ?_⟩
    have e1 := hcls.1.symm.trans g3
    have e2 := hcls.1.symm.trans hc
    cases e1
    cases e2
    exact va_assign hcls
end ZTA
section ZTX
variable {d d' : zMd} {X : zX} {dep dep' bc bs pc index n : Nat} {lv : List (Nat × zV)} {st as : List zV} {h h' : zH} {Q : Nat → zH → List zV → Prop} {i k : Int}
/-- the words' texts: how long they are, their letters -/
def zTl (i : Int) : Int := (zTlen.getD i.toNat 0 : Nat)
def zTb (i k : Int) : Int := ((zTbyt.getD i.toNat []).getD k.toNat 0).toInt
theorem zokC {x : Int} (hx : 1000000 ≤ x) : zok n (xR x) := show _ ∨ _ ∨ _ from Or.inr (Or.inr hx)
theorem z_getWt (h0 : 0 ≤ i) (h1 : i < 22) (hdg : decode d.by pc = .ok (.getfield index, 3)) (hl : Cond.fieldLink d.1.cls index RX9 "text" "Ljava/lang/String;" ∈ zBIG) (kk : zW d X dep bc bs n (pc + 3) lv (xR (1000100 + i) :: st) h Q) : zW d X dep bc bs n pc lv (xR (1000000 + i) :: st) h Q := by
  intro p l e R s m args below meth c H locs cells slots A E ls Z hF a1 a2 hD hE
  have kk1 := kk p l e R s m args below meth c H locs cells slots A E ls Z hF a1 a2 (hD.stk (xR (1000100 + i) :: st) (zok_c1 (zokC (by omega)) hD.tl)) hE
  rw [List.map_cons, zcvR (by omega), show (1000100 + i).toNat = 1000100 + i.toNat by omega] at kk1
  rw [List.map_cons, zcvR (by omega), show (1000000 + i).toNat = 1000000 + i.toNat by omega]
  exact vk_getf hF.1 hF.2.1 (hD.2.2.1.2.2.2.1 i.toNat (by omega)) hD.1 hF.2.2.2.1 (hF.2.2.2.2.1 _ hl) (fun _ h9 => h9) hdg kk1
theorem z_getALL (hdg : decode d.by pc = .ok (.getstatic index, 3)) (hl : Cond.fieldLink d.1.cls index RX9 "ALL" "[LLotOffice$Word;" ∈ zBIG) (kk : zW d X dep bc bs n (pc + 3) lv (xR 1000200 :: st) h Q) : zW d X dep bc bs n pc lv st h Q := by
  intro p l e R s m args below meth c H locs cells slots A E ls Z hF a1 a2 hD hE
  have kk1 := kk p l e R s m args below meth c H locs cells slots A E ls Z hF a1 a2 (hD.stk (xR 1000200 :: st) (zok_c1 (zokC (by omega)) hD.2.2.2.2.2.2)) hE
  rw [List.map_cons, zcvR (by omega)] at kk1
  exact va_gets hF.1 hF.2.1 hD.2.2.1.2.2.2.2.1 hD.1 hF.2.2.2.1 (hF.2.2.2.2.1 _ hl) (fun _ h9 => h9) hdg kk1
theorem z_alenALL (hdg : decode d.by pc = .ok (.arraylength, 1)) (kk : zW d X dep bc bs n (pc + 1) lv (xI 22 :: st) h Q) : zW d X dep bc bs n pc lv (xR 1000200 :: st) h Q := by
  intro p l e R s m args below meth c H locs cells slots A E ls Z hF a1 a2 hD hE
  have kk1 := kk p l e R s m args below meth c H locs cells slots A E ls Z hF a1 a2 (hD.stk (xI 22 :: st) (zok_c1 (zi32_d rfl) hD.tl)) hE
  rw [List.map_cons, zcvR (by omega)]
  exact va_tlen hF.1 hF.2.1 hD.2.2.1.2.2.2.2.2.1 hD.1 (v := Int32.ofInt 22) (by decide) hdg kk1
theorem z_aaldALL (h0 : 0 ≤ i) (h1 : i < 22) (hdg : decode d.by pc = .ok (.aaload, 1)) (kk : zW d X dep bc bs n (pc + 1) lv (xR (1000000 + i) :: st) h Q) : zW d X dep bc bs n pc lv (xI i :: xR 1000200 :: st) h Q := by
  intro p l e R s m args below meth c H locs cells slots A E ls Z hF a1 a2 hD hE
  have kk1 := kk p l e R s m args below meth c H locs cells slots A E ls Z hF a1 a2 (hD.stk (xR (1000000 + i) :: st) (zok_c1 (zokC (by omega)) (fun w hw => hD.tl w (List.mem_cons_of_mem _ hw)))) hE
  rw [List.map_cons, zcvR (by omega), show (1000000 + i).toNat = 1000000 + i.toNat by omega] at kk1
  rw [List.map_cons, List.map_cons, zcvR (x := 1000200) (by omega)]
  exact vb_tq hF.1 hF.2.1 hD.2.2.1.2.2.2.2.2.1 hD.1 (zin h0 (by omega) (by omega)) (by rw [zclamp h0 (by omega)]) hdg kk1
theorem z_getSv (h0 : 0 ≤ i) (h1 : i < 22) (hdg : decode d.by pc = .ok (.getfield index, 3)) (hl : Cond.fieldLink d.1.cls index "java/lang/String" "value" "[B" ∈ zBIG) (kk : zW d X dep bc bs n (pc + 3) lv (xR (1000300 + i) :: st) h Q) : zW d X dep bc bs n pc lv (xR (1000100 + i) :: st) h Q := by
  intro p l e R s m args below meth c H locs cells slots A E ls Z hF a1 a2 hD hE
  have kk1 := kk p l e R s m args below meth c H locs cells slots A E ls Z hF a1 a2 (hD.stk (xR (1000300 + i) :: st) (zok_c1 (zokC (by omega)) hD.tl)) hE
  rw [List.map_cons, zcvR (by omega), show (1000300 + i).toNat = 1000300 + i.toNat by omega] at kk1
  rw [List.map_cons, zcvR (by omega), show (1000100 + i).toNat = 1000100 + i.toNat by omega]
  exact vk_getf hF.1 hF.2.1 (hD.2.2.1.2.2.1.1 i.toNat (by omega)).2.2.1 hD.1 hF.2.2.2.1 (hF.2.2.2.2.1 _ hl) (fun _ h9 => h9) hdg kk1
theorem z_getSc (h0 : 0 ≤ i) (h1 : i < 22) (hdg : decode d.by pc = .ok (.getfield index, 3)) (hl : Cond.fieldLink d.1.cls index "java/lang/String" "coder" "B" ∈ zBIG) (kk : zW d X dep bc bs n (pc + 3) lv (xI 0 :: st) h Q) : zW d X dep bc bs n pc lv (xR (1000100 + i) :: st) h Q := by
  intro p l e R s m args below meth c H locs cells slots A E ls Z hF a1 a2 hD hE
  have kk1 := kk p l e R s m args below meth c H locs cells slots A E ls Z hF a1 a2 (hD.stk (xI 0 :: st) (zok_c1 zi32_0 hD.tl)) hE
  rw [List.map_cons, zcvR (by omega), show (1000100 + i).toNat = 1000100 + i.toNat by omega]
  exact vk_getf hF.1 hF.2.1 (v := .int 0) (hD.2.2.1.2.2.1.1 i.toNat (by omega)).2.1 hD.1 hF.2.2.2.1 (hF.2.2.2.2.1 _ hl) (fun _ h9 => h9) hdg kk1
theorem zTlen_in : ∀ q : Nat, q < 22 → zTlen.getD q 0 ≤ 8 ∧ 2 ≤ zTlen.getD q 0 := by decide +kernel
theorem z_alenS (h0 : 0 ≤ i) (h1 : i < 22) (hdg : decode d.by pc = .ok (.arraylength, 1)) (kk : zW d X dep bc bs n (pc + 1) lv (xI (zTl i) :: st) h Q) : zW d X dep bc bs n pc lv (xR (1000300 + i) :: st) h Q := by
  intro p l e R s m args below meth c H locs cells slots A E ls Z hF a1 a2 hD hE
  have tl := zTlen_in i.toNat (by omega)
  have kk1 := kk p l e R s m args below meth c H locs cells slots A E ls Z hF a1 a2 (hD.stk (xI (zTl i) :: st) (zok_c1 (show zi32 (zTl i) from ⟨by unfold zTl; omega, by unfold zTl; omega⟩) hD.tl)) hE
  rw [List.map_cons, zcvR (by omega), show (1000300 + i).toNat = 1000300 + i.toNat by omega]
  exact va_tlen hF.1 hF.2.1 (hD.2.2.1.2.2.1.1 i.toNat (by omega)).2.2.2 hD.1 (v := Int32.ofInt (zTl i)) (Int32.ofInt_eq_ofNat (n := zTlen.getD i.toNat 0)).symm hdg kk1
theorem z_baldS (h0 : 0 ≤ i) (h1 : i < 22) (k0 : 0 ≤ k) (k1 : k < zTl i) (hdg : decode d.by pc = .ok (.baload, 1)) (kk : zW d X dep bc bs n (pc + 1) lv (xI (zTb i k) :: st) h Q) : zW d X dep bc bs n pc lv (xI k :: xR (1000300 + i) :: st) h Q := by
  intro p l e R s m args below meth c H locs cells slots A E ls Z hF a1 a2 hD hE
  have tl := zTlen_in i.toNat (by omega)
  have tk : k < 2147483648 := by unfold zTl at k1; omega
  have kk1 := kk p l e R s m args below meth c H locs cells slots A E ls Z hF a1 a2 (hD.stk (xI (zTb i k) :: st) (zok_c1 (zi32_i _) (fun w hw => hD.tl w (List.mem_cons_of_mem _ hw)))) hE
  rw [List.map_cons, show zcv E.2.1 (xI (zTb i k)) = .int ((zTbyt.getD i.toNat []).getD k.toNat 0) from congrArg Value.int (Int32.ofInt_toInt _)] at kk1
  rw [List.map_cons, List.map_cons, zcvR (x := 1000300 + i) (by omega), show (1000300 + i).toNat = 1000300 + i.toNat by omega]
  exact va_tb hF.1 hF.2.1 (hD.2.2.1.2.2.1.1 i.toNat (by omega)).2.2.2 hD.1 (zin k0 tk (by unfold zTl at k1; omega)) (by rw [zclamp k0 tk]) hdg kk1
theorem z_getCS (hdg : decode d.by pc = .ok (.getstatic index, 3)) (hl : Cond.fieldLink d.1.cls index "java/lang/String" "COMPACT_STRINGS" "Z" ∈ zBIG) (kk : zW d X dep bc bs n (pc + 3) lv (xI 1 :: st) h Q) : zW d X dep bc bs n pc lv st h Q := by
  intro p l e R s m args below meth c H locs cells slots A E ls Z hF a1 a2 hD hE
  have kk1 := kk p l e R s m args below meth c H locs cells slots A E ls Z hF a1 a2 (hD.stk (xI 1 :: st) (zok_c1 (zi32_d rfl) hD.2.2.2.2.2.2)) hE
  exact va_gets hF.1 hF.2.1 (v := .int 1) hD.2.2.1.2.2.2.2.2.2.1 hD.1 hF.2.2.2.1 (hF.2.2.2.2.1 _ hl) (fun _ h9 => h9) hdg kk1
theorem z_getSIO (hdg : decode d.by pc = .ok (.getstatic index, 3)) (hl : Cond.fieldLink d.1.cls index "jdk/internal/util/Preconditions" "SIOOBE_FORMATTER" "Ljava/util/function/BiFunction;" ∈ zBIG) (kk : ∀ x : Int, zW d X dep bc bs n (pc + 3) lv (xR x :: st) h Q) : zW d X dep bc bs n pc lv st h Q := by
  intro p l e R s m args below meth c H locs cells slots A E ls Z hF a1 a2 hD hE
  obtain ⟨x, hx, hz⟩ := hD.2.2.1.2.2.2.2.2.2.2
  have kk1 := kk x p l e R s m args below meth c H locs cells slots A E ls Z hF a1 a2 (hD.stk (xR x :: st) (zok_c1 (show x = -1 ∨ (0 ≤ x ∧ x < n) ∨ 1000000 ≤ x by omega) hD.2.2.2.2.2.2)) hE
  exact va_gets hF.1 hF.2.1 hz hD.1 hF.2.2.2.1 (hF.2.2.2.2.1 _ hl) (fun _ h9 => h9) hdg kk1
/-- a call of a text's method -/
theorem z_invT {rs : List zV} (hZ : zW d' X dep' 0 0 239 0 (zar 0 (xR (1000100 + i) :: as)) [] h (zF h' rs)) (hdg : decode d.by pc = .ok (.invokevirtual index, 3)) (hm : zNm d' as.length) (l1 : Cond.methodLink d.1.cls index d'.1 ∈ zBIG) (l2 : Cond.instanceMethod d'.1 ∈ zBIG) (l3 : Cond.selects "java/lang/String" d'.1 d'.1 ∈ zBIG) (l4 : Cond.initialized "java/lang/String" ∈ zBIG) (h0 : 0 ≤ i) (h1 : i < 22)
    (hd : dep' + 1 ≤ dep) (hnt : rs ≠ [(9, 0)]) (hsz : zsz (xR (1000100 + i) :: as) ≤ d'.nl) (hst : zsz st ≤ 8) {ra : List zV} (hra : ra = as.reverse) (k : zW d X dep bc bs 239 (pc + 3) lv (rs ++ st) h' Q) : zW d X dep bc bs 239 pc lv (ra ++ xR (1000100 + i) :: st) h Q := by
  subst hra
  intro p l e R s m args below meth c H locs cells slots A E ls Z hF a1 a2 hD hE
  have hall := hD.2.2.2.2.2.2
  have hstk : ∀ v ∈ st, zok 239 v := fun w hw => hall w (List.mem_append_right _ (List.mem_cons_of_mem _ hw))
  have hok : ∀ v ∈ xR (1000100 + i) :: as, zok 239 v := fun w hw => by
    rcases List.mem_cons.mp hw with rfl | hw
    · exact hall _ (List.mem_append_right _ List.mem_cons_self)
    · exact hall _ (List.mem_append_left _ (List.mem_reverse.mpr hw))
  obtain ⟨hm1, hm2, hm3, hm4, hm5, hm6⟩ := hm
  have hw := hF.2.2.2.2.1
  have ho1 : zcv E.2.1 (xR (1000100 + i)) = .ref (E.2.1 (1000100 + i.toNat)) := by
    rw [zcvR (by omega), show (1000100 + i).toNat = 1000100 + i.toNat by omega]
  have e0 : (as.reverse ++ xR (1000100 + i) :: st).map (zcv E.2.1) = (as.map (zcv E.2.1)).reverse ++ .ref (E.2.1 (1000100 + i.toNat)) :: st.map (zcv E.2.1) := by rw [List.map_append, List.map_cons, List.map_reverse, ho1]
  have hM := zMet hZ (zF_nt hnt) hm1 hsz hok l E H.size
  have hPc := zPc_of (as := xR (1000100 + i) :: as) hD
  rw [e0]
  refine zrun (bc' := 0) (bs' := 0) (a := (Value.ref (E.2.1 (1000100 + i.toNat)) :: as.map (zcv E.2.1)).toArray) hF a1 a2 (Nat.zero_le _) (Nat.zero_le _) hstk hD hE ?_ (by rintro n1 g1 r1 ⟨rfl, rfl, rfl⟩ -; exact k)
  refine va_runV (own := d.1.cls) (C := "java/lang/String") (nL := d.nl) (cc := d.by) (Ts := zBIG) (ws := zwd d') (b := E.2.1 (1000100 + i.toNat)) (As := as.map (zcv E.2.1)) ⟨hF.1, hF.2.1, hF.2.2.1, hF.2.2.2.1, hw⟩ hM (cwV as.length hw (zgoodV hm6 l1 l2 l3 l4) rfl rfl rfl ⟨rfl, hm2, hm3, hm4⟩ (zroom hd hm5 hF.2.2.2.2.2.1 hF.2.2.2.2.2.2.1)) ⟨zPc_blind, ?_, fun U hU hW => ?_⟩ rfl (by simp) hD.2.2.2.2.1.1 rfl (lv_room (ls := ls) (zcsum hst)) hdg ⟨by show cells + 0 ≤ _; omega, by show slots + 0 ≤ _; omega⟩
  · exact vk_recv hD.2.2.1.2.2.1 (show i.toNat < 22 by omega) hD.1
  · have h9 := hPc U hU hW
    rw [List.map_cons, ho1] at h9
    exact h9
end ZTX
theorem dJ0_length_8abf5_0 : decode cJ0_length_8abf5 0 = .ok (.aload_n 0, 1) := by decide +kernel
theorem dJ0_length_8abf5_1 : decode cJ0_length_8abf5 1 = .ok (.getfield 9, 3) := by decide +kernel
theorem dJ0_length_8abf5_4 : decode cJ0_length_8abf5 4 = .ok (.arraylength, 1) := by decide +kernel
theorem dJ0_length_8abf5_5 : decode cJ0_length_8abf5 5 = .ok (.aload_n 0, 1) := by decide +kernel
theorem dJ0_length_8abf5_6 : decode cJ0_length_8abf5 6 = .ok (.invokevirtual 335, 3) := by decide +kernel
theorem dJ0_length_8abf5_9 : decode cJ0_length_8abf5 9 = .ok (.ishr, 1) := by decide +kernel
theorem dJ0_length_8abf5_10 : decode cJ0_length_8abf5 10 = .ok (.ireturn, 1) := by decide +kernel
abbrev mJ0_length_8abf5 : zMd := (yJ0_length_8abf5, cJ0_length_8abf5, 1, (some .int))
theorem nJ0_length_8abf5 : zNm mJ0_length_8abf5 0 := ⟨by decide +kernel, by decide, by decide, by decide +kernel, by decide, zb_633⟩
theorem dJ0_charAt_5068e_0 : decode cJ0_charAt_5068e 0 = .ok (.aload_n 0, 1) := by decide +kernel
theorem dJ0_charAt_5068e_1 : decode cJ0_charAt_5068e 1 = .ok (.invokevirtual 492, 3) := by decide +kernel
theorem dJ0_charAt_5068e_4 : decode cJ0_charAt_5068e 4 = .ok (.ifCond .eq 12, 3) := by decide +kernel
theorem dJ0_charAt_5068e_7 : decode cJ0_charAt_5068e 7 = .ok (.aload_n 0, 1) := by decide +kernel
theorem dJ0_charAt_5068e_8 : decode cJ0_charAt_5068e 8 = .ok (.getfield 9, 3) := by decide +kernel
theorem dJ0_charAt_5068e_11 : decode cJ0_charAt_5068e 11 = .ok (.iload_n 1, 1) := by decide +kernel
theorem dJ0_charAt_5068e_12 : decode cJ0_charAt_5068e 12 = .ok (.invokestatic 495, 3) := by decide +kernel
theorem dJ0_charAt_5068e_15 : decode cJ0_charAt_5068e 15 = .ok (.ireturn, 1) := by decide +kernel
theorem dJ0_charAt_5068e_16 : decode cJ0_charAt_5068e 16 = .ok (.aload_n 0, 1) := by decide +kernel
theorem dJ0_charAt_5068e_17 : decode cJ0_charAt_5068e 17 = .ok (.getfield 9, 3) := by decide +kernel
theorem dJ0_charAt_5068e_20 : decode cJ0_charAt_5068e 20 = .ok (.iload_n 1, 1) := by decide +kernel
theorem dJ0_charAt_5068e_21 : decode cJ0_charAt_5068e 21 = .ok (.invokestatic 498, 3) := by decide +kernel
theorem dJ0_charAt_5068e_24 : decode cJ0_charAt_5068e 24 = .ok (.ireturn, 1) := by decide +kernel
abbrev mJ0_charAt_5068e : zMd := (yJ0_charAt_5068e, cJ0_charAt_5068e, 2, (some .char))
theorem nJ0_charAt_5068e : zNm mJ0_charAt_5068e 1 := ⟨by decide +kernel, by decide, by decide, by decide +kernel, by decide, zb_643⟩
theorem dJ0_coder_7d493_0 : decode cJ0_coder_7d493 0 = .ok (.getstatic 38, 3) := by decide +kernel
theorem dJ0_coder_7d493_3 : decode cJ0_coder_7d493 3 = .ok (.ifCond .eq 10, 3) := by decide +kernel
theorem dJ0_coder_7d493_6 : decode cJ0_coder_7d493 6 = .ok (.aload_n 0, 1) := by decide +kernel
theorem dJ0_coder_7d493_7 : decode cJ0_coder_7d493 7 = .ok (.getfield 15, 3) := by decide +kernel
theorem dJ0_coder_7d493_10 : decode cJ0_coder_7d493 10 = .ok (.goto 4, 3) := by decide +kernel
theorem dJ0_coder_7d493_13 : decode cJ0_coder_7d493 13 = .ok (.iconst 1, 1) := by decide +kernel
theorem dJ0_coder_7d493_14 : decode cJ0_coder_7d493 14 = .ok (.ireturn, 1) := by decide +kernel
abbrev mJ0_coder_7d493 : zMd := (yJ0_coder_7d493, cJ0_coder_7d493, 1, (some .byte))
theorem nJ0_coder_7d493 : zNm mJ0_coder_7d493 0 := ⟨by decide +kernel, by decide, by decide, by decide +kernel, by decide, zb_637⟩
theorem dJ0_isLatin1_aae02_0 : decode cJ0_isLatin1_aae02 0 = .ok (.getstatic 38, 3) := by decide +kernel
theorem dJ0_isLatin1_aae02_3 : decode cJ0_isLatin1_aae02 3 = .ok (.ifCond .eq 14, 3) := by decide +kernel
theorem dJ0_isLatin1_aae02_6 : decode cJ0_isLatin1_aae02 6 = .ok (.aload_n 0, 1) := by decide +kernel
theorem dJ0_isLatin1_aae02_7 : decode cJ0_isLatin1_aae02 7 = .ok (.getfield 15, 3) := by decide +kernel
theorem dJ0_isLatin1_aae02_10 : decode cJ0_isLatin1_aae02 10 = .ok (.ifCond .ne 7, 3) := by decide +kernel
theorem dJ0_isLatin1_aae02_13 : decode cJ0_isLatin1_aae02 13 = .ok (.iconst 1, 1) := by decide +kernel
theorem dJ0_isLatin1_aae02_14 : decode cJ0_isLatin1_aae02 14 = .ok (.goto 4, 3) := by decide +kernel
theorem dJ0_isLatin1_aae02_17 : decode cJ0_isLatin1_aae02 17 = .ok (.iconst 0, 1) := by decide +kernel
theorem dJ0_isLatin1_aae02_18 : decode cJ0_isLatin1_aae02 18 = .ok (.ireturn, 1) := by decide +kernel
abbrev mJ0_isLatin1_aae02 : zMd := (yJ0_isLatin1_aae02, cJ0_isLatin1_aae02, 1, (some .boolean))
theorem nJ0_isLatin1_aae02 : zNm mJ0_isLatin1_aae02 0 := ⟨by decide +kernel, by decide, by decide, by decide +kernel, by decide, zb_647⟩
theorem dJ0_checkIndex_df160_0 : decode cJ0_checkIndex_df160 0 = .ok (.iload_n 0, 1) := by decide +kernel
theorem dJ0_checkIndex_df160_1 : decode cJ0_checkIndex_df160 1 = .ok (.iload_n 1, 1) := by decide +kernel
theorem dJ0_checkIndex_df160_2 : decode cJ0_checkIndex_df160 2 = .ok (.getstatic 1053, 3) := by decide +kernel
theorem dJ0_checkIndex_df160_5 : decode cJ0_checkIndex_df160 5 = .ok (.invokestatic 1059, 3) := by decide +kernel
theorem dJ0_checkIndex_df160_8 : decode cJ0_checkIndex_df160 8 = .ok (.pop, 1) := by decide +kernel
theorem dJ0_checkIndex_df160_9 : decode cJ0_checkIndex_df160 9 = .ok (.return_, 1) := by decide +kernel
abbrev mJ0_checkIndex_df160 : zMd := (yJ0_checkIndex_df160, cJ0_checkIndex_df160, 2, none)
theorem nJ0_checkIndex_df160 : zNm mJ0_checkIndex_df160 2 := ⟨by decide +kernel, by decide, by decide, by decide +kernel, by decide, zb_653⟩
theorem dJ1_charAt_3b067_0 : decode cJ1_charAt_3b067 0 = .ok (.iload_n 1, 1) := by decide +kernel
theorem dJ1_charAt_3b067_1 : decode cJ1_charAt_3b067 1 = .ok (.aload_n 0, 1) := by decide +kernel
theorem dJ1_charAt_3b067_2 : decode cJ1_charAt_3b067 2 = .ok (.arraylength, 1) := by decide +kernel
theorem dJ1_charAt_3b067_3 : decode cJ1_charAt_3b067 3 = .ok (.invokestatic 9, 3) := by decide +kernel
theorem dJ1_charAt_3b067_6 : decode cJ1_charAt_3b067 6 = .ok (.aload_n 0, 1) := by decide +kernel
theorem dJ1_charAt_3b067_7 : decode cJ1_charAt_3b067 7 = .ok (.iload_n 1, 1) := by decide +kernel
theorem dJ1_charAt_3b067_8 : decode cJ1_charAt_3b067 8 = .ok (.baload, 1) := by decide +kernel
theorem dJ1_charAt_3b067_9 : decode cJ1_charAt_3b067 9 = .ok (.sipush 255, 3) := by decide +kernel
theorem dJ1_charAt_3b067_12 : decode cJ1_charAt_3b067 12 = .ok (.iand, 1) := by decide +kernel
theorem dJ1_charAt_3b067_13 : decode cJ1_charAt_3b067 13 = .ok (.i2c, 1) := by decide +kernel
theorem dJ1_charAt_3b067_14 : decode cJ1_charAt_3b067 14 = .ok (.ireturn, 1) := by decide +kernel
abbrev mJ1_charAt_3b067 : zMd := (yJ1_charAt_3b067, cJ1_charAt_3b067, 2, (some .char))
theorem nJ1_charAt_3b067 : zNm mJ1_charAt_3b067 2 := ⟨by decide +kernel, by decide, by decide, by decide +kernel, by decide, zb_650⟩
theorem dJ3_checkIndex_8e157_0 : decode cJ3_checkIndex_8e157 0 = .ok (.iload_n 0, 1) := by decide +kernel
theorem dJ3_checkIndex_8e157_1 : decode cJ3_checkIndex_8e157 1 = .ok (.ifCond .lt 8, 3) := by decide +kernel
theorem dJ3_checkIndex_8e157_4 : decode cJ3_checkIndex_8e157 4 = .ok (.iload_n 0, 1) := by decide +kernel
theorem dJ3_checkIndex_8e157_5 : decode cJ3_checkIndex_8e157 5 = .ok (.iload_n 1, 1) := by decide +kernel
theorem dJ3_checkIndex_8e157_6 : decode cJ3_checkIndex_8e157 6 = .ok (.if_icmp .lt 10, 3) := by decide +kernel
theorem dJ3_checkIndex_8e157_9 : decode cJ3_checkIndex_8e157 9 = .ok (.aload_n 2, 1) := by decide +kernel
theorem dJ3_checkIndex_8e157_10 : decode cJ3_checkIndex_8e157 10 = .ok (.iload_n 0, 1) := by decide +kernel
theorem dJ3_checkIndex_8e157_11 : decode cJ3_checkIndex_8e157 11 = .ok (.iload_n 1, 1) := by decide +kernel
theorem dJ3_checkIndex_8e157_12 : decode cJ3_checkIndex_8e157 12 = .ok (.invokestatic 95, 3) := by decide +kernel
theorem dJ3_checkIndex_8e157_15 : decode cJ3_checkIndex_8e157 15 = .ok (.athrow, 1) := by decide +kernel
theorem dJ3_checkIndex_8e157_16 : decode cJ3_checkIndex_8e157 16 = .ok (.iload_n 0, 1) := by decide +kernel
theorem dJ3_checkIndex_8e157_17 : decode cJ3_checkIndex_8e157 17 = .ok (.ireturn, 1) := by decide +kernel
abbrev mJ3_checkIndex_8e157 : zMd := (yJ3_checkIndex_8e157, cJ3_checkIndex_8e157, 3, (some .int))
theorem nJ3_checkIndex_8e157 : zNm mJ3_checkIndex_8e157 3 := ⟨by decide +kernel, by decide, by decide, by decide +kernel, by decide, zb_658⟩
theorem f_J0_coder_7d493 {X : zX} {dep : Nat} (i : Int) {h : zH} (h0 : 0 ≤ i) (h1 : i < 22) : zW mJ0_coder_7d493 X dep 0 0 239 0 (zar 0 [xR (1000100 + i)]) [] h (zF h [xI 0]) := by
  refine z_getCS dJ0_coder_7d493_0 zb_638 ?_
  refine z_if_eq (tgt := 13) dJ0_coder_7d493_3 (by decide) (fun c => absurd c (by decide)) (fun _ => ?_)
  refine z_aload_n 0 dJ0_coder_7d493_6 rfl ?_
  refine z_getSc h0 h1 dJ0_coder_7d493_7 zb_1787 ?_
  refine z_goto (tgt := 14) dJ0_coder_7d493_10 (by decide) ?_
  exact z_nret (ty := .byte) dJ0_coder_7d493_14 rfl (by decide) ⟨rfl, rfl, rfl⟩
theorem f_J0_isLatin1_aae02 {X : zX} {dep : Nat} (i : Int) {h : zH} (h0 : 0 ≤ i) (h1 : i < 22) : zW mJ0_isLatin1_aae02 X dep 0 0 239 0 (zar 0 [xR (1000100 + i)]) [] h (zF h [xI 1]) := by
  refine z_getCS dJ0_isLatin1_aae02_0 zb_638 ?_
  refine z_if_eq (tgt := 17) dJ0_isLatin1_aae02_3 (by decide) (fun c => absurd c (by decide)) (fun _ => ?_)
  refine z_aload_n 0 dJ0_isLatin1_aae02_6 rfl ?_
  refine z_getSc h0 h1 dJ0_isLatin1_aae02_7 zb_1787 ?_
  refine z_if_ne (tgt := 17) dJ0_isLatin1_aae02_10 (by decide) (fun c => absurd rfl c) (fun _ => ?_)
  refine z_iconst dJ0_isLatin1_aae02_13 (zi32_d rfl) ?_
  refine z_goto (tgt := 18) dJ0_isLatin1_aae02_14 (by decide) ?_
  exact z_zret dJ0_isLatin1_aae02_18 rfl (Or.inr rfl) ⟨rfl, rfl, rfl⟩
theorem zshr_len : ∀ q : Nat, q < 22 → zshr ((zTlen.getD q 0 : Nat) : Int) 0 = ((zTlen.getD q 0 : Nat) : Int) := by decide +kernel
theorem f_J0_length_8abf5 {X : zX} {dep : Nat} (i : Int) {h : zH} (h0 : 0 ≤ i) (h1 : i < 22) (hdep : 1 ≤ dep) : zW mJ0_length_8abf5 X dep 0 0 239 0 (zar 0 [xR (1000100 + i)]) [] h (zF h [xI (zTl i)]) := by
  refine z_aload_n 0 dJ0_length_8abf5_0 rfl ?_
  refine z_getSv h0 h1 dJ0_length_8abf5_1 zb_1786 ?_
  refine z_alenS h0 h1 dJ0_length_8abf5_4 ?_
  refine z_aload_n 0 dJ0_length_8abf5_5 rfl ?_
  refine z_invT (i := i) (as := []) (st := [xI (zTl i)]) (ra := []) (dep' := dep - 1) (rs := [xI 0]) (h' := h) (f_J0_coder_7d493 i h0 h1) dJ0_length_8abf5_6 nJ0_coder_7d493 zb_634 zb_635 zb_636 zb_96 h0 h1 (by omega) zne_I (Nat.le_of_ble_eq_true rfl) (Nat.le_of_ble_eq_true rfl) rfl ?_
  refine z_ishr dJ0_length_8abf5_9 ?_
  refine z_iret dJ0_length_8abf5_10 rfl ⟨rfl, rfl, ?_⟩
  have := zshr_len i.toNat (by omega)
  exact congrArg (fun x => [xI x]) this
theorem f_J3_checkIndex_8e157 {X : zX} {dep : Nat} (a b x : Int) {h : zH} (h0 : 0 ≤ a) (h1 : a < b) : zW mJ3_checkIndex_8e157 X dep 0 0 239 0 (zar 0 [xI a, xI b, xR x]) [] h (zF h [xI a]) := by
  refine z_iload_n 0 dJ3_checkIndex_8e157_0 rfl ?_
  refine z_if_lt (tgt := 9) dJ3_checkIndex_8e157_1 (by decide) (fun c => absurd c (by omega)) (fun _ => ?_)
  refine z_iload_n 0 dJ3_checkIndex_8e157_4 rfl ?_
  refine z_iload_n 1 dJ3_checkIndex_8e157_5 rfl ?_
  refine z_icmp_lt (tgt := 16) dJ3_checkIndex_8e157_6 (by decide) (fun _ => ?_) (fun c => absurd h1 c)
  refine z_iload_n 0 dJ3_checkIndex_8e157_16 rfl ?_
  exact z_iret dJ3_checkIndex_8e157_17 rfl ⟨rfl, rfl, rfl⟩
theorem f_J0_checkIndex_df160 {X : zX} {dep : Nat} (a b : Int) {h : zH} (h0 : 0 ≤ a) (h1 : a < b) (hdep : 1 ≤ dep) : zW mJ0_checkIndex_df160 X dep 0 0 239 0 (zar 0 [xI a, xI b]) [] h (zF h []) := by
  refine z_iload_n 0 dJ0_checkIndex_df160_0 rfl ?_
  refine z_iload_n 1 dJ0_checkIndex_df160_1 rfl ?_
  refine z_getSIO dJ0_checkIndex_df160_2 zb_654 (fun x => ?_)
  refine z_invSF (as := [xI a, xI b, xR x]) (st := []) (ra := [xR x, xI b, xI a]) (dep' := dep - 1) (rs := [xI a]) (h' := h) (f_J3_checkIndex_8e157 a b x h0 h1) dJ0_checkIndex_df160_5 nJ3_checkIndex_8e157 zb_656 zb_657 zb_98 (by omega) zne_I (Nat.le_of_ble_eq_true rfl) (Nat.le_of_ble_eq_true rfl) rfl ?_
  refine z_pop dJ0_checkIndex_df160_8 zt0 ?_
  exact z_ret dJ0_checkIndex_df160_9 rfl ⟨rfl, rfl, rfl⟩
theorem zTb_in0 : ∀ q : Nat, q < 22 → ∀ k : Nat, k < zTlen.getD q 0 → 97 ≤ ((zTbyt.getD q []).getD k 0).toInt ∧ ((zTbyt.getD q []).getD k 0).toInt ≤ 122 := by decide +kernel
theorem zTb_in {i k : Int} (h0 : 0 ≤ i) (h1 : i < 22) (k0 : 0 ≤ k) (k1 : k < zTl i) : 97 ≤ zTb i k ∧ zTb i k ≤ 122 := zTb_in0 i.toNat (by omega) k.toNat (by unfold zTl at k1; omega)
theorem zch_all : ∀ q : Nat, q < 128 → zi2c (zand (q : Int) 255) = q ∧ narrow .char (.int (Int32.ofInt (q : Int))) = .int (Int32.ofInt (q : Int)) := by decide +kernel
theorem f_J1_charAt_3b067 {X : zX} {dep : Nat} (i k : Int) {h : zH} (h0 : 0 ≤ i) (h1 : i < 22) (k0 : 0 ≤ k) (k1 : k < zTl i) (hdep : 2 ≤ dep) : zW mJ1_charAt_3b067 X dep 0 0 239 0 (zar 0 [xR (1000300 + i), xI k]) [] h (zF h [xI (zTb i k)]) := by
  have tb := zTb_in h0 h1 k0 k1
  have tc := zch_all (zTb i k).toNat (by omega)
  rw [show (((zTb i k).toNat : Nat) : Int) = zTb i k by omega] at tc
  refine z_iload_n 1 dJ1_charAt_3b067_0 rfl ?_
  refine z_aload_n 0 dJ1_charAt_3b067_1 rfl ?_
  refine z_alenS h0 h1 dJ1_charAt_3b067_2 ?_
  refine z_invSF (as := [xI k, xI (zTl i)]) (st := []) (ra := [xI (zTl i), xI k]) (dep' := dep - 1) (rs := []) (h' := h) (f_J0_checkIndex_df160 k (zTl i) k0 k1 (by omega)) dJ1_charAt_3b067_3 nJ0_checkIndex_df160 zb_651 zb_652 zb_96 (by omega) zne_0 (Nat.le_of_ble_eq_true rfl) (Nat.le_of_ble_eq_true rfl) rfl ?_
  refine z_aload_n 0 dJ1_charAt_3b067_6 rfl ?_
  refine z_iload_n 1 dJ1_charAt_3b067_7 rfl ?_
  refine z_baldS h0 h1 k0 k1 dJ1_charAt_3b067_8 ?_
  refine z_sipush dJ1_charAt_3b067_9 (zi32_d rfl) (by decide) ?_
  refine z_iand dJ1_charAt_3b067_12 ?_
  refine z_i2c dJ1_charAt_3b067_13 ?_
  rw [tc.1]
  exact z_nret (ty := .char) dJ1_charAt_3b067_14 rfl tc.2 ⟨rfl, rfl, rfl⟩
theorem f_J0_charAt_5068e {X : zX} {dep : Nat} (i k : Int) {h : zH} (h0 : 0 ≤ i) (h1 : i < 22) (k0 : 0 ≤ k) (k1 : k < zTl i) (hdep : 3 ≤ dep) : zW mJ0_charAt_5068e X dep 0 0 239 0 (zar 0 [xR (1000100 + i), xI k]) [] h (zF h [xI (zTb i k)]) := by
  have tb := zTb_in h0 h1 k0 k1
  have tc := zch_all (zTb i k).toNat (by omega)
  rw [show (((zTb i k).toNat : Nat) : Int) = zTb i k by omega] at tc
  refine z_aload_n 0 dJ0_charAt_5068e_0 rfl ?_
  refine z_invT (i := i) (as := []) (st := []) (ra := []) (dep' := dep - 1) (rs := [xI 1]) (h' := h) (f_J0_isLatin1_aae02 i h0 h1) dJ0_charAt_5068e_1 nJ0_isLatin1_aae02 zb_644 zb_645 zb_646 zb_96 h0 h1 (by omega) zne_I (Nat.le_of_ble_eq_true rfl) (Nat.le_of_ble_eq_true rfl) rfl ?_
  refine z_if_eq (tgt := 16) dJ0_charAt_5068e_4 (by decide) (fun c => absurd c (by decide)) (fun _ => ?_)
  refine z_aload_n 0 dJ0_charAt_5068e_7 rfl ?_
  refine z_getSv h0 h1 dJ0_charAt_5068e_8 zb_1786 ?_
  refine z_iload_n 1 dJ0_charAt_5068e_11 rfl ?_
  refine z_invSF (as := [xR (1000300 + i), xI k]) (st := []) (ra := [xI k, xR (1000300 + i)]) (dep' := dep - 1) (rs := [xI (zTb i k)]) (h' := h) (f_J1_charAt_3b067 i k h0 h1 k0 k1 (by omega)) dJ0_charAt_5068e_12 nJ1_charAt_3b067 zb_648 zb_649 zb_97 (by omega) zne_I (Nat.le_of_ble_eq_true rfl) (Nat.le_of_ble_eq_true rfl) rfl ?_
  exact z_nret (ty := .char) dJ0_charAt_5068e_15 rfl tc.2 ⟨rfl, rfl, rfl⟩

/-! laws: small ones -/
set_option maxRecDepth 20000 in
theorem bX1_empty_0 {X : zX} {dep bc bs : Nat} (L : Int) {h : zH} {Q : Nat → zH → List zV → Prop} (hL : zLawO L)
    (k1 : Q 239 (zst (zst (zst (zst (zst (zst h L 2 20) L 3 25) L 4 30) L 5 0) L 6 0) L 12 0) []) : zW mX1_empty X dep bc bs 239 0 [(0, xR L)] [] h Q := by
  refine z_aload_n 0 dX1_empty_0 rfl ?_
  refine z_bipush dX1_empty_1 (zi32_d rfl) (by decide) ?_
  refine z_putI (k := 2) (kz := 2) pk1 dX1_empty_3 (by decide) zb_275 rfl (zFit_int _) hL.1 rfl ?_
  refine z_aload_n 0 dX1_empty_6 rfl ?_
  refine z_bipush dX1_empty_7 (zi32_d rfl) (by decide) ?_
  refine z_putI (k := 3) (kz := 3) pk1 dX1_empty_9 (by decide) zb_278 rfl (zFit_int _) hL.1 rfl ?_
  refine z_aload_n 0 dX1_empty_12 rfl ?_
  refine z_bipush dX1_empty_13 (zi32_d rfl) (by decide) ?_
  refine z_putI (k := 4) (kz := 4) pk1 dX1_empty_15 (by decide) zb_281 rfl (zFit_int _) hL.1 rfl ?_
  refine z_aload_n 0 dX1_empty_18 rfl ?_
  refine z_iconst dX1_empty_19 (zi32_d rfl) ?_
  refine z_putI (k := 5) (kz := 5) pk1 dX1_empty_20 (by decide) zb_284 rfl (zFit_bool (Or.inl rfl)) hL.1 rfl ?_
  refine z_aload_n 0 dX1_empty_23 rfl ?_
  refine z_iconst dX1_empty_24 (zi32_d rfl) ?_
  refine z_putI (k := 6) (kz := 6) pk1 dX1_empty_25 (by decide) zb_287 rfl (zFit_int _) hL.1 rfl ?_
  refine z_aload_n 0 dX1_empty_28 rfl ?_
  refine z_iconst dX1_empty_29 (zi32_d rfl) ?_
  refine z_putI (k := 12) (kz := 12) pk1 dX1_empty_30 (by decide) zb_295 rfl (zFit_int _) hL.1 rfl ?_
  exact z_ret dX1_empty_33 rfl (k1)
theorem f_X1_empty {X : zX} {dep : Nat} (L : Int) {h : zH} (hL : zLawO L) : zW mX1_empty X dep 0 0 239 0 (zar 0 [xR L]) [] h (zF (zst (zst (zst (zst (zst (zst h L 2 20) L 3 25) L 4 30) L 5 0) L 6 0) L 12 0) []) := by
  refine bX1_empty_0 L hL ?_
  all_goals intros
  all_goals exact ⟨rfl, rfl, rfl⟩

set_option maxRecDepth 20000 in
theorem bX1_addLine_0 {X : zX} {dep bc bs : Nat} (L : Int) (k : Int) {h : zH} {Q : Nat → zH → List zV → Prop} (hL : zLawO L) (hb : 0 ≤ h L 6 ∧ h L 6 < 20)
    (k1 : 20 ≤ (h L 6) → Q 239 h [])
    (k2 : ¬ (20 ≤ (h L 6)) → Q 239 (zst (zst (zst (zst (zst h (L + 1) (h L 6) k) (L + 2) (h L 6) 0) (L + 3) (h L 6) (h L 12)) (L + 4) (h L 6) (h L 12)) L 6 ((h L 6) + 1)) []) : zW mX1_addLine X dep bc bs 239 0 [(0, xR L), (1, xI k)] [] h Q := by
  refine z_aload_n 0 dX1_addLine_0 rfl ?_
  refine z_getI (k := 6) (kz := 6) pk1 dX1_addLine_1 (by decide) zb_287 rfl hL.1 rfl ?_
  refine z_bipush dX1_addLine_4 (zi32_d rfl) (by decide) ?_
  refine z_icmp_ge (tgt := 65) dX1_addLine_6 (by decide) (fun c1 => ?_) (fun c1 => ?_)
  ·
    exact z_ret dX1_addLine_65 rfl (k1 c1)
  ·
    refine z_aload_n 0 dX1_addLine_9 rfl ?_
    refine z_getS (v := (L + 1)) (k := 7) (kz := 7) pk1 dX1_addLine_10 (by decide) zb_290 rfl hL.1 rfl hL.2.2.2.2.2.2.1 ?_
    refine z_aload_n 0 dX1_addLine_13 rfl ?_
    refine z_getI (k := 6) (kz := 6) pk1 dX1_addLine_14 (by decide) zb_287 rfl hL.1 rfl ?_
    refine z_iload_n 1 dX1_addLine_17 rfl ?_
    refine z_iast dX1_addLine_18 hL.2.1 (show 0 ≤ (h L 6) ∧ (h L 6) < 20 from ⟨by omega, by omega⟩).1 (show 0 ≤ (h L 6) ∧ (h L 6) < 20 from ⟨by omega, by omega⟩).2 ?_
    refine z_aload_n 0 dX1_addLine_19 rfl ?_
    refine z_getS (v := (L + 2)) (k := 8) (kz := 8) pk1 dX1_addLine_20 (by decide) zb_291 rfl hL.1 rfl hL.2.2.2.2.2.2.2.1 ?_
    refine z_aload_n 0 dX1_addLine_23 rfl ?_
    refine z_getIV (v := (h L 6)) (k := 6) (kz := 6) pk1 dX1_addLine_24 (by decide) zb_287 rfl hL.1 rfl (zst_ne (Or.inl (by omega))) ?_
    refine z_iconst dX1_addLine_27 (zi32_d rfl) ?_
    refine z_iast dX1_addLine_28 hL.2.2.1 (show 0 ≤ (h L 6) ∧ (h L 6) < 20 from ⟨by omega, by omega⟩).1 (show 0 ≤ (h L 6) ∧ (h L 6) < 20 from ⟨by omega, by omega⟩).2 ?_
    refine z_aload_n 0 dX1_addLine_29 rfl ?_
    refine z_getS (v := (L + 3)) (k := 9) (kz := 9) pk1 dX1_addLine_30 (by decide) zb_292 rfl hL.1 rfl hL.2.2.2.2.2.2.2.2.1 ?_
    refine z_aload_n 0 dX1_addLine_33 rfl ?_
    refine z_getIV (v := (h L 6)) (k := 6) (kz := 6) pk1 dX1_addLine_34 (by decide) zb_287 rfl hL.1 rfl ((zst_ne (Or.inl (by omega))).trans (zst_ne (Or.inl (by omega)))) ?_
    refine z_aload_n 0 dX1_addLine_37 rfl ?_
    refine z_getIV (v := (h L 12)) (k := 12) (kz := 12) pk1 dX1_addLine_38 (by decide) zb_295 rfl hL.1 rfl ((zst_ne (Or.inl (by omega))).trans (zst_ne (Or.inl (by omega)))) ?_
    refine z_iast dX1_addLine_41 hL.2.2.2.1 (show 0 ≤ (h L 6) ∧ (h L 6) < 20 from ⟨by omega, by omega⟩).1 (show 0 ≤ (h L 6) ∧ (h L 6) < 20 from ⟨by omega, by omega⟩).2 ?_
    refine z_aload_n 0 dX1_addLine_42 rfl ?_
    refine z_getS (v := (L + 4)) (k := 10) (kz := 10) pk1 dX1_addLine_43 (by decide) zb_293 rfl hL.1 rfl hL.2.2.2.2.2.2.2.2.2.1 ?_
    refine z_aload_n 0 dX1_addLine_46 rfl ?_
    refine z_getIV (v := (h L 6)) (k := 6) (kz := 6) pk1 dX1_addLine_47 (by decide) zb_287 rfl hL.1 rfl ((zst_ne (Or.inl (by omega))).trans ((zst_ne (Or.inl (by omega))).trans (zst_ne (Or.inl (by omega))))) ?_
    refine z_aload_n 0 dX1_addLine_50 rfl ?_
    refine z_getIV (v := (h L 12)) (k := 12) (kz := 12) pk1 dX1_addLine_51 (by decide) zb_295 rfl hL.1 rfl ((zst_ne (Or.inl (by omega))).trans ((zst_ne (Or.inl (by omega))).trans (zst_ne (Or.inl (by omega))))) ?_
    refine z_iast dX1_addLine_54 hL.2.2.2.2.1 (show 0 ≤ (h L 6) ∧ (h L 6) < 20 from ⟨by omega, by omega⟩).1 (show 0 ≤ (h L 6) ∧ (h L 6) < 20 from ⟨by omega, by omega⟩).2 ?_
    refine z_aload_n 0 dX1_addLine_55 rfl ?_
    refine z_dup dX1_addLine_56 zt2 ?_
    refine z_getIV (v := (h L 6)) (k := 6) (kz := 6) pk1 dX1_addLine_57 (by decide) zb_287 rfl hL.1 rfl ((zst_ne (Or.inl (by omega))).trans ((zst_ne (Or.inl (by omega))).trans ((zst_ne (Or.inl (by omega))).trans (zst_ne (Or.inl (by omega)))))) ?_
    refine z_iconst dX1_addLine_60 (zi32_d rfl) ?_
    refine z_iaddN dX1_addLine_61 (show -2147483648 ≤ (h L 6) + 1 ∧ (h L 6) + 1 < 2147483648 from ⟨by omega, by omega⟩).1 (show -2147483648 ≤ (h L 6) + 1 ∧ (h L 6) + 1 < 2147483648 from ⟨by omega, by omega⟩).2 ?_
    refine z_putI (k := 6) (kz := 6) pk1 dX1_addLine_62 (by decide) zb_287 rfl (zFit_int _) hL.1 rfl ?_
    exact z_ret dX1_addLine_65 rfl (k2 c1)
theorem f_X1_addLine {X : zX} {dep : Nat} (L : Int) (k : Int) {h : zH} (hL : zLawO L) (hb : 0 ≤ h L 6 ∧ h L 6 < 20) : zW mX1_addLine X dep 0 0 239 0 (zar 0 [xR L, xI k]) [] h (zF (zst (zst (zst (zst (zst h (L + 1) (h L 6) k) (L + 2) (h L 6) 0) (L + 3) (h L 6) (h L 12)) (L + 4) (h L 6) (h L 12)) L 6 (h L 6 + 1)) []) := by
  refine bX1_addLine_0 L k hL hb ?_ ?_
  all_goals intros
  · exact ⟨rfl, rfl, rfl⟩
  · exfalso; omega

set_option maxRecDepth 20000 in
theorem bX1_setNumber_0 {X : zX} {dep bc bs : Nat} (L : Int) (v : Int) {h : zH} {Q : Nat → zH → List zV → Prop} (hL : zLawO L) (hb : 0 < h L 6 ∧ h L 6 ≤ 20)
    (k1 : (h L 6) ≤ 0 → Q 239 h [])
    (k2 : ¬ ((h L 6) ≤ 0) → Q 239 (zst h (L + 2) ((h L 6) - 1) v) []) : zW mX1_setNumber X dep bc bs 239 0 [(0, xR L), (1, xI v)] [] h Q := by
  refine z_aload_n 0 dX1_setNumber_0 rfl ?_
  refine z_getI (k := 6) (kz := 6) pk1 dX1_setNumber_1 (by decide) zb_287 rfl hL.1 rfl ?_
  refine z_if_le (tgt := 19) dX1_setNumber_4 (by decide) (fun c1 => ?_) (fun c1 => ?_)
  ·
    exact z_ret dX1_setNumber_19 rfl (k1 c1)
  ·
    refine z_aload_n 0 dX1_setNumber_7 rfl ?_
    refine z_getS (v := (L + 2)) (k := 8) (kz := 8) pk1 dX1_setNumber_8 (by decide) zb_291 rfl hL.1 rfl hL.2.2.2.2.2.2.2.1 ?_
    refine z_aload_n 0 dX1_setNumber_11 rfl ?_
    refine z_getI (k := 6) (kz := 6) pk1 dX1_setNumber_12 (by decide) zb_287 rfl hL.1 rfl ?_
    refine z_iconst dX1_setNumber_15 (zi32_d rfl) ?_
    refine z_isubN dX1_setNumber_16 (show -2147483648 ≤ (h L 6) - 1 ∧ (h L 6) - 1 < 2147483648 from ⟨by omega, by omega⟩).1 (show -2147483648 ≤ (h L 6) - 1 ∧ (h L 6) - 1 < 2147483648 from ⟨by omega, by omega⟩).2 ?_
    refine z_iload_n 1 dX1_setNumber_17 rfl ?_
    refine z_iast dX1_setNumber_18 hL.2.2.1 (show 0 ≤ ((h L 6) - 1) ∧ ((h L 6) - 1) < 20 from ⟨by omega, by omega⟩).1 (show 0 ≤ ((h L 6) - 1) ∧ ((h L 6) - 1) < 20 from ⟨by omega, by omega⟩).2 ?_
    exact z_ret dX1_setNumber_19 rfl (k2 c1)
theorem f_X1_setNumber {X : zX} {dep : Nat} (L : Int) (v : Int) {h : zH} (hL : zLawO L) (hb : 0 < h L 6 ∧ h L 6 ≤ 20) : zW mX1_setNumber X dep 0 0 239 0 (zar 0 [xR L, xI v]) [] h (zF (zst h (L + 2) (h L 6 - 1) v) []) := by
  refine bX1_setNumber_0 L v hL hb ?_ ?_
  all_goals intros
  all_goals first
    | exact ⟨rfl, rfl, rfl⟩
    | (exfalso; omega)

set_option maxRecDepth 20000 in
theorem bX1_addStep_0 {X : zX} {dep bc bs : Nat} (L : Int) (x : Int) {h : zH} {Q : Nat → zH → List zV → Prop} (hL : zLawO L) (hb : 0 ≤ h L 12 ∧ h L 12 < 120) (hl : 0 < h L 6 ∧ h L 6 ≤ 20)
    (k1 : 120 ≤ (h L 12) → Q 239 h [])
    (k2 : ¬ (120 ≤ (h L 12)) → (h L 6) ≤ 0 → Q 239 h [])
    (k3 : ¬ (120 ≤ (h L 12)) → ¬ ((h L 6) ≤ 0) → ¬ (h L 5) = 0 → Q 239 (zst (zst (zst (zst h (L + 5) (h L 12) x) L 12 ((h L 12) + 1)) (L + 4) ((h L 6) - 1) ((h L 12) + 1)) L 5 1) [])
    (k4 : ¬ (120 ≤ (h L 12)) → ¬ ((h L 6) ≤ 0) → (h L 5) = 0 → x < 0 → Q 239 (zst (zst (zst (zst h (L + 5) (h L 12) x) L 12 ((h L 12) + 1)) (L + 4) ((h L 6) - 1) ((h L 12) + 1)) L 5 0) [])
    (k5 : ¬ (120 ≤ (h L 12)) → ¬ ((h L 6) ≤ 0) → (h L 5) = 0 → ¬ (x < 0) → Q 239 (zst (zst (zst (zst h (L + 5) (h L 12) x) L 12 ((h L 12) + 1)) (L + 4) ((h L 6) - 1) ((h L 12) + 1)) L 5 (if (zand x 15) = 9 then 1 else 0 : Int)) []) : zW mX1_addStep X dep bc bs 239 0 [(0, xR L), (1, xI x)] [] h Q := by
  refine z_aload_n 0 dX1_addStep_0 rfl ?_
  refine z_getI (k := 12) (kz := 12) pk1 dX1_addStep_1 (by decide) zb_295 rfl hL.1 rfl ?_
  refine z_aload_n 0 dX1_addStep_4 rfl ?_
  refine z_getS (v := (L + 5)) (k := 11) (kz := 11) pk1 dX1_addStep_5 (by decide) zb_294 rfl hL.1 rfl hL.2.2.2.2.2.2.2.2.2.2 ?_
  refine z_alen (kd := 0) dX1_addStep_8 hL.2.2.2.2.2.1 (by decide) ?_
  show zW mX1_addStep X dep bc bs 239 9 [(0, xR L), (1, xI x)] [xI 120, xI (h L 12)] h Q
  refine z_icmp_ge (tgt := 83) dX1_addStep_9 (by decide) (fun c1 => ?_) (fun c1 => ?_)
  ·
    exact z_ret dX1_addStep_83 rfl (k1 c1)
  ·
    refine z_aload_n 0 dX1_addStep_12 rfl ?_
    refine z_getI (k := 6) (kz := 6) pk1 dX1_addStep_13 (by decide) zb_287 rfl hL.1 rfl ?_
    refine z_if_le (tgt := 83) dX1_addStep_16 (by decide) (fun c2 => ?_) (fun c2 => ?_)
    ·
      exact z_ret dX1_addStep_83 rfl (k2 c1 c2)
    ·
      refine z_aload_n 0 dX1_addStep_19 rfl ?_
      refine z_getS (v := (L + 5)) (k := 11) (kz := 11) pk1 dX1_addStep_20 (by decide) zb_294 rfl hL.1 rfl hL.2.2.2.2.2.2.2.2.2.2 ?_
      refine z_aload_n 0 dX1_addStep_23 rfl ?_
      refine z_getI (k := 12) (kz := 12) pk1 dX1_addStep_24 (by decide) zb_295 rfl hL.1 rfl ?_
      refine z_iload_n 1 dX1_addStep_27 rfl ?_
      refine z_iast dX1_addStep_28 hL.2.2.2.2.2.1 (show 0 ≤ (h L 12) ∧ (h L 12) < 120 from ⟨by omega, by omega⟩).1 (show 0 ≤ (h L 12) ∧ (h L 12) < 120 from ⟨by omega, by omega⟩).2 ?_
      refine z_aload_n 0 dX1_addStep_29 rfl ?_
      refine z_dup dX1_addStep_30 zt2 ?_
      refine z_getIV (v := (h L 12)) (k := 12) (kz := 12) pk1 dX1_addStep_31 (by decide) zb_295 rfl hL.1 rfl (zst_ne (Or.inl (by omega))) ?_
      refine z_iconst dX1_addStep_34 (zi32_d rfl) ?_
      refine z_iaddN dX1_addStep_35 (show -2147483648 ≤ (h L 12) + 1 ∧ (h L 12) + 1 < 2147483648 from ⟨by omega, by omega⟩).1 (show -2147483648 ≤ (h L 12) + 1 ∧ (h L 12) + 1 < 2147483648 from ⟨by omega, by omega⟩).2 ?_
      refine z_putI (k := 12) (kz := 12) pk1 dX1_addStep_36 (by decide) zb_295 rfl (zFit_int _) hL.1 rfl ?_
      refine z_aload_n 0 dX1_addStep_39 rfl ?_
      refine z_getS (v := (L + 4)) (k := 10) (kz := 10) pk1 dX1_addStep_40 (by decide) zb_293 rfl hL.1 rfl hL.2.2.2.2.2.2.2.2.2.1 ?_
      refine z_aload_n 0 dX1_addStep_43 rfl ?_
      refine z_getIV (v := (h L 6)) (k := 6) (kz := 6) pk1 dX1_addStep_44 (by decide) zb_287 rfl hL.1 rfl ((zst_ne (Or.inr (by decide))).trans (zst_ne (Or.inl (by omega)))) ?_
      refine z_iconst dX1_addStep_47 (zi32_d rfl) ?_
      refine z_isubN dX1_addStep_48 (show -2147483648 ≤ (h L 6) - 1 ∧ (h L 6) - 1 < 2147483648 from ⟨by omega, by omega⟩).1 (show -2147483648 ≤ (h L 6) - 1 ∧ (h L 6) - 1 < 2147483648 from ⟨by omega, by omega⟩).2 ?_
      refine z_aload_n 0 dX1_addStep_49 rfl ?_
      refine z_getIV (v := ((h L 12) + 1)) (k := 12) (kz := 12) pk1 dX1_addStep_50 (by decide) zb_295 rfl hL.1 rfl (zst_self _ _ _ _) ?_
      refine z_iast dX1_addStep_53 hL.2.2.2.2.1 (show 0 ≤ ((h L 6) - 1) ∧ ((h L 6) - 1) < 20 from ⟨by omega, by omega⟩).1 (show 0 ≤ ((h L 6) - 1) ∧ ((h L 6) - 1) < 20 from ⟨by omega, by omega⟩).2 ?_
      refine z_aload_n 0 dX1_addStep_54 rfl ?_
      refine z_aload_n 0 dX1_addStep_55 rfl ?_
      refine z_getIV (v := (h L 5)) (k := 5) (kz := 5) pk1 dX1_addStep_56 (by decide) zb_284 rfl hL.1 rfl ((zst_ne (Or.inl (by omega))).trans ((zst_ne (Or.inr (by decide))).trans (zst_ne (Or.inl (by omega))))) ?_
      refine z_if_ne (tgt := 75) dX1_addStep_59 (by decide) (fun c3 => ?_) (fun c3 => ?_)
      ·
        refine z_iconst dX1_addStep_75 (zi32_d rfl) ?_
        refine z_goto (tgt := 80) dX1_addStep_76 (by decide) ?_
        refine z_putI (k := 5) (kz := 5) pk1 dX1_addStep_80 (by decide) zb_284 rfl (zFit_bool (Or.inr rfl)) hL.1 rfl ?_
        exact z_ret dX1_addStep_83 rfl (k3 c1 c2 c3)
      ·
        refine z_iload_n 1 dX1_addStep_62 rfl ?_
        refine z_if_lt (tgt := 79) dX1_addStep_63 (by decide) (fun c4 => ?_) (fun c4 => ?_)
        ·
          refine z_iconst dX1_addStep_79 (zi32_d rfl) ?_
          refine z_putI (k := 5) (kz := 5) pk1 dX1_addStep_80 (by decide) zb_284 rfl (zFit_bool (Or.inl rfl)) hL.1 rfl ?_
          exact z_ret dX1_addStep_83 rfl (k4 c1 c2 c3 c4)
        ·
          refine z_iload_n 1 dX1_addStep_66 rfl ?_
          refine z_bipush dX1_addStep_67 (zi32_d rfl) (by decide) ?_
          refine z_iand dX1_addStep_69 ?_
          refine z_bipush dX1_addStep_70 (zi32_d rfl) (by decide) ?_
          suffices KJ : zW mX1_addStep X dep bc bs 239 80 [(0, xR L), (1, xI x)] [xI (if (zand x 15) = 9 then 1 else 0 : Int), xR L] (zst (zst (zst h (L + 5) (h L 12) x) L 12 ((h L 12) + 1)) (L + 4) ((h L 6) - 1) ((h L 12) + 1)) Q by
            refine z_icmp_ne (tgt := 79) dX1_addStep_72 (by decide) (fun j1 => ?_) (fun j1 => ?_)
            ·
              refine z_iconst dX1_addStep_79 (zi32_d rfl) ?_
              rw [if_neg j1] at KJ
              exact KJ
            ·
              refine z_iconst dX1_addStep_75 (zi32_d rfl) ?_
              refine z_goto (tgt := 80) dX1_addStep_76 (by decide) ?_
              rw [if_pos j1] at KJ
              exact KJ
          refine z_putI (k := 5) (kz := 5) pk1 dX1_addStep_80 (by decide) zb_284 rfl (zFit_bool (by repeat (first | (left; rfl) | (right; rfl) | split))) hL.1 rfl ?_
          exact z_ret dX1_addStep_83 rfl (k5 c1 c2 c3 c4)

set_option maxRecDepth 20000 in
theorem bX1_question_0 {X : zX} {dep bc bs : Nat} (a : Int) (s : Int) (t : Int) {h : zH} {Q : Nat → zH → List zV → Prop}
    (k1 : Q 239 h [xI (zor (zor (zshl t 12) (zshl s 4)) a)]) : zW mX1_question X dep bc bs 239 0 [(0, xI a), (1, xI s), (2, xI t)] [] h Q := by
  refine z_iload_n 2 dX1_question_0 rfl ?_
  refine z_bipush dX1_question_1 (zi32_d rfl) (by decide) ?_
  refine z_ishl dX1_question_3 ?_
  refine z_iload_n 1 dX1_question_4 rfl ?_
  refine z_iconst dX1_question_5 (zi32_d rfl) ?_
  refine z_ishl dX1_question_6 ?_
  refine z_ior dX1_question_7 ?_
  refine z_iload_n 0 dX1_question_8 rfl ?_
  refine z_ior dX1_question_9 ?_
  exact z_iret dX1_question_10 rfl (k1)

set_option maxRecDepth 20000 in
theorem bX1_hasLine_0 {X : zX} {dep bc bs : Nat} (L : Int) (k : Int) {h : zH} {Q : Nat → zH → List zV → Prop} (hL : zLawO L)
    (k1 : zW mX1_hasLine X dep bc bs 239 2 [(0, xR L), (1, xI k), (2, xI 0)] [] h Q) : zW mX1_hasLine X dep bc bs 239 0 [(0, xR L), (1, xI k)] [] h Q := by
  refine z_iconst dX1_hasLine_0 (zi32_d rfl) ?_
  refine z_istore_n (lv' := [(2, xI 0), (0, xR L), (1, xI k)]) dX1_hasLine_1 (by decide) rfl ?_
  refine zW.sub (lv' := [(0, xR L), (1, xI k), (2, xI 0)]) [1, 2, 0] rfl ?_
  exact k1

set_option maxRecDepth 20000 in
theorem bX1_hasLine_2 {X : zX} {dep bc bs : Nat} (L : Int) (k : Int) (i : Int) {h : zH} {Q : Nat → zH → List zV → Prop} (hL : zLawO L) (hl : 0 ≤ h L 6 ∧ h L 6 ≤ 20) (hi : 0 ≤ i)
    (k1 : (h L 6) ≤ i → Q 239 h [xI 0])
    (k2 : ¬ ((h L 6) ≤ i) → ¬ (h (L + 1) i) = k → zW mX1_hasLine X dep bc bs 239 2 [(0, xR L), (1, xI k), (2, xI (i + 1))] [] h Q)
    (k3 : ¬ ((h L 6) ≤ i) → (h (L + 1) i) = k → Q 239 h [xI 1]) : zW mX1_hasLine X dep bc bs 239 2 [(0, xR L), (1, xI k), (2, xI i)] [] h Q := by
  refine z_iload_n 2 dX1_hasLine_2 rfl ?_
  refine z_aload_n 0 dX1_hasLine_3 rfl ?_
  refine z_getI (k := 6) (kz := 6) pk1 dX1_hasLine_4 (by decide) zb_287 rfl hL.1 rfl ?_
  refine z_icmp_ge (tgt := 28) dX1_hasLine_7 (by decide) (fun c1 => ?_) (fun c1 => ?_)
  ·
    refine z_iconst dX1_hasLine_28 (zi32_d rfl) ?_
    exact z_zret dX1_hasLine_29 rfl (Or.inl rfl) (k1 c1)
  ·
    refine z_aload_n 0 dX1_hasLine_10 rfl ?_
    refine z_getS (v := (L + 1)) (k := 7) (kz := 7) pk1 dX1_hasLine_11 (by decide) zb_290 rfl hL.1 rfl hL.2.2.2.2.2.2.1 ?_
    refine z_iload_n 2 dX1_hasLine_14 rfl ?_
    refine z_iald dX1_hasLine_15 hL.2.1 (show 0 ≤ i ∧ i < 20 from ⟨by omega, by omega⟩).1 (show 0 ≤ i ∧ i < 20 from ⟨by omega, by omega⟩).2 ?_
    refine z_iload_n 1 dX1_hasLine_16 rfl ?_
    refine z_icmp_ne (tgt := 22) dX1_hasLine_17 (by decide) (fun c2 => ?_) (fun c2 => ?_)
    ·
      refine z_iincN (lv' := [(2, xI (i + 1)), (0, xR L), (1, xI k)]) 2 dX1_hasLine_22 rfl (by decide) rfl (show -2147483648 ≤ i + 1 ∧ i + 1 < 2147483648 from ⟨by omega, by omega⟩).1 (show -2147483648 ≤ i + 1 ∧ i + 1 < 2147483648 from ⟨by omega, by omega⟩).2 ?_
      refine z_goto (tgt := 2) dX1_hasLine_25 (by decide) ?_
      refine zW.sub (lv' := [(0, xR L), (1, xI k), (2, xI (i + 1))]) [1, 2, 0] rfl ?_
      exact k2 c1 c2
    ·
      refine z_iconst dX1_hasLine_20 (zi32_d rfl) ?_
      exact z_zret dX1_hasLine_21 rfl (Or.inr rfl) (k3 c1 c2)

set_option maxRecDepth 20000 in
theorem bX8_isSign_0 {X : zX} {dep bc bs : Nat} (c : Int) {h : zH} {Q : Nat → zH → List zV → Prop}
    (k1 : Q 239 h [xI (if c = 59 then 1 else if c = 40 then 1 else if c = 41 then 1 else if c = 60 then 1 else if c = 61 then 1 else if c = 62 then 1 else 0 : Int)]) : zW mX8_isSign X dep bc bs 239 0 [(0, xI c)] [] h Q := by
  refine z_iload_n 0 dX8_isSign_0 rfl ?_
  refine z_bipush dX8_isSign_1 (zi32_d rfl) (by decide) ?_
  suffices KJ : zW mX8_isSign X dep bc bs 239 41 [(0, xI c)] [xI (if c = 59 then 1 else if c = 40 then 1 else if c = 41 then 1 else if c = 60 then 1 else if c = 61 then 1 else if c = 62 then 1 else 0 : Int)] h Q by
    refine z_icmp_eq (tgt := 36) dX8_isSign_3 (by decide) (fun j1 => ?_) (fun j1 => ?_)
    ·
      refine z_iconst dX8_isSign_36 (zi32_d rfl) ?_
      refine z_goto (tgt := 41) dX8_isSign_37 (by decide) ?_
      rw [if_pos j1] at KJ
      exact KJ
    ·
      refine z_iload_n 0 dX8_isSign_6 rfl ?_
      refine z_bipush dX8_isSign_7 (zi32_d rfl) (by decide) ?_
      refine z_icmp_eq (tgt := 36) dX8_isSign_9 (by decide) (fun j2 => ?_) (fun j2 => ?_)
      ·
        refine z_iconst dX8_isSign_36 (zi32_d rfl) ?_
        refine z_goto (tgt := 41) dX8_isSign_37 (by decide) ?_
        rw [if_neg j1] at KJ
        rw [if_pos j2] at KJ
        exact KJ
      ·
        refine z_iload_n 0 dX8_isSign_12 rfl ?_
        refine z_bipush dX8_isSign_13 (zi32_d rfl) (by decide) ?_
        refine z_icmp_eq (tgt := 36) dX8_isSign_15 (by decide) (fun j3 => ?_) (fun j3 => ?_)
        ·
          refine z_iconst dX8_isSign_36 (zi32_d rfl) ?_
          refine z_goto (tgt := 41) dX8_isSign_37 (by decide) ?_
          rw [if_neg j1] at KJ
          rw [if_neg j2] at KJ
          rw [if_pos j3] at KJ
          exact KJ
        ·
          refine z_iload_n 0 dX8_isSign_18 rfl ?_
          refine z_bipush dX8_isSign_19 (zi32_d rfl) (by decide) ?_
          refine z_icmp_eq (tgt := 36) dX8_isSign_21 (by decide) (fun j4 => ?_) (fun j4 => ?_)
          ·
            refine z_iconst dX8_isSign_36 (zi32_d rfl) ?_
            refine z_goto (tgt := 41) dX8_isSign_37 (by decide) ?_
            rw [if_neg j1] at KJ
            rw [if_neg j2] at KJ
            rw [if_neg j3] at KJ
            rw [if_pos j4] at KJ
            exact KJ
          ·
            refine z_iload_n 0 dX8_isSign_24 rfl ?_
            refine z_bipush dX8_isSign_25 (zi32_d rfl) (by decide) ?_
            refine z_icmp_eq (tgt := 36) dX8_isSign_27 (by decide) (fun j5 => ?_) (fun j5 => ?_)
            ·
              refine z_iconst dX8_isSign_36 (zi32_d rfl) ?_
              refine z_goto (tgt := 41) dX8_isSign_37 (by decide) ?_
              rw [if_neg j1] at KJ
              rw [if_neg j2] at KJ
              rw [if_neg j3] at KJ
              rw [if_neg j4] at KJ
              rw [if_pos j5] at KJ
              exact KJ
            ·
              refine z_iload_n 0 dX8_isSign_30 rfl ?_
              refine z_bipush dX8_isSign_31 (zi32_d rfl) (by decide) ?_
              refine z_icmp_ne (tgt := 40) dX8_isSign_33 (by decide) (fun j6 => ?_) (fun j6 => ?_)
              ·
                refine z_iconst dX8_isSign_40 (zi32_d rfl) ?_
                rw [if_neg j1] at KJ
                rw [if_neg j2] at KJ
                rw [if_neg j3] at KJ
                rw [if_neg j4] at KJ
                rw [if_neg j5] at KJ
                rw [if_neg j6] at KJ
                exact KJ
              ·
                refine z_iconst dX8_isSign_36 (zi32_d rfl) ?_
                refine z_goto (tgt := 41) dX8_isSign_37 (by decide) ?_
                rw [if_neg j1] at KJ
                rw [if_neg j2] at KJ
                rw [if_neg j3] at KJ
                rw [if_neg j4] at KJ
                rw [if_neg j5] at KJ
                rw [if_pos j6] at KJ
                exact KJ
  exact z_zret dX8_isSign_41 rfl (by repeat (first | (left; rfl) | (right; rfl) | split)) (k1)
theorem f_X8_isSign {X : zX} {dep : Nat} (c : Int) {h : zH} : zW mX8_isSign X dep 0 0 239 0 (zar 0 [xI c]) [] h (zF h [xI (zb (c = 59 ∨ c = 40 ∨ c = 41 ∨ c = 60 ∨ c = 61 ∨ c = 62))]) := by
  refine bX8_isSign_0 c ?_
  all_goals intros
  all_goals refine ⟨rfl, ?_, ?_⟩
  all_goals first
    | (rw [if_pos (by omega)])
    | (rw [if_neg (by omega)])
    | (first | rfl | (refine congrArg (fun x => [xI x]) ?_; unfold zb; (repeat' split) <;> first | rfl | omega))

set_option maxRecDepth 20000 in
theorem bX8_add_0 {X : zX} {dep bc bs : Nat} (k : Int) (s : Int) (v : Int) (w : Int) {h : zH} {Q : Nat → zH → List zV → Prop} (hc : 0 ≤ h 25 4 ∧ h 25 4 < 301) (hw : zWd w)
    (k1 : 301 ≤ (h 25 4) → Q 239 h [])
    (k2 : ¬ (301 ≤ (h 25 4)) → Q 239 (zst (zst (zst (zst (zst h 26 (h 25 4) k) 27 (h 25 4) s) 28 (h 25 4) v) 29 (h 25 4) w) 25 4 ((h 25 4) + 1)) []) : zW mX8_add X dep bc bs 239 0 [(0, xR 25), (1, xI k), (2, xI s), (3, xI v), (4, xR w)] [] h Q := by
  refine z_aload_n 0 dX8_add_0 rfl ?_
  refine z_getI (k := 4) (kz := 4) pk8 dX8_add_1 (by decide) zb_249 rfl (zOb.lit (by decide +kernel)) rfl ?_
  refine z_aload_n 0 dX8_add_4 rfl ?_
  refine z_getS (v := 26) (k := 0) (kz := 0) pk8 dX8_add_5 (by decide) zb_241 rfl (zOb.lit (by decide +kernel)) rfl (by decide +kernel) ?_
  refine z_alen (kd := 0) dX8_add_8 (zOb.lit (by decide +kernel)) (by decide) ?_
  show zW mX8_add X dep bc bs 239 9 [(0, xR 25), (1, xI k), (2, xI s), (3, xI v), (4, xR w)] [xI 301, xI (h 25 4)] h Q
  refine z_icmp_ge (tgt := 63) dX8_add_9 (by decide) (fun c1 => ?_) (fun c1 => ?_)
  ·
    exact z_ret dX8_add_63 rfl (k1 c1)
  ·
    refine z_aload_n 0 dX8_add_12 rfl ?_
    refine z_getS (v := 26) (k := 0) (kz := 0) pk8 dX8_add_13 (by decide) zb_241 rfl (zOb.lit (by decide +kernel)) rfl (by decide +kernel) ?_
    refine z_aload_n 0 dX8_add_16 rfl ?_
    refine z_getI (k := 4) (kz := 4) pk8 dX8_add_17 (by decide) zb_249 rfl (zOb.lit (by decide +kernel)) rfl ?_
    refine z_iload_n 1 dX8_add_20 rfl ?_
    refine z_iast dX8_add_21 (zOb.lit (by decide +kernel)) (show 0 ≤ (h 25 4) ∧ (h 25 4) < 301 from ⟨by omega, by omega⟩).1 (show 0 ≤ (h 25 4) ∧ (h 25 4) < 301 from ⟨by omega, by omega⟩).2 ?_
    refine z_aload_n 0 dX8_add_22 rfl ?_
    refine z_getS (v := 27) (k := 1) (kz := 1) pk8 dX8_add_23 (by decide) zb_243 rfl (zOb.lit (by decide +kernel)) rfl (by decide +kernel) ?_
    refine z_aload_n 0 dX8_add_26 rfl ?_
    refine z_getIV (v := (h 25 4)) (k := 4) (kz := 4) pk8 dX8_add_27 (by decide) zb_249 rfl (zOb.lit (by decide +kernel)) rfl (zst_ne (Or.inl (by decide))) ?_
    refine z_iload_n 2 dX8_add_30 rfl ?_
    refine z_iast dX8_add_31 (zOb.lit (by decide +kernel)) (show 0 ≤ (h 25 4) ∧ (h 25 4) < 301 from ⟨by omega, by omega⟩).1 (show 0 ≤ (h 25 4) ∧ (h 25 4) < 301 from ⟨by omega, by omega⟩).2 ?_
    refine z_aload_n 0 dX8_add_32 rfl ?_
    refine z_getS (v := 28) (k := 2) (kz := 2) pk8 dX8_add_33 (by decide) zb_245 rfl (zOb.lit (by decide +kernel)) rfl (by decide +kernel) ?_
    refine z_aload_n 0 dX8_add_36 rfl ?_
    refine z_getIV (v := (h 25 4)) (k := 4) (kz := 4) pk8 dX8_add_37 (by decide) zb_249 rfl (zOb.lit (by decide +kernel)) rfl ((zst_ne (Or.inl (by decide))).trans (zst_ne (Or.inl (by decide)))) ?_
    refine z_iload_n 3 dX8_add_40 rfl ?_
    refine z_iast dX8_add_41 (zOb.lit (by decide +kernel)) (show 0 ≤ (h 25 4) ∧ (h 25 4) < 301 from ⟨by omega, by omega⟩).1 (show 0 ≤ (h 25 4) ∧ (h 25 4) < 301 from ⟨by omega, by omega⟩).2 ?_
    refine z_aload_n 0 dX8_add_42 rfl ?_
    refine z_getS (v := 29) (k := 3) (kz := 3) pk8 dX8_add_43 (by decide) zb_247 rfl (zOb.lit (by decide +kernel)) rfl (by decide +kernel) ?_
    refine z_aload_n 0 dX8_add_46 rfl ?_
    refine z_getIV (v := (h 25 4)) (k := 4) (kz := 4) pk8 dX8_add_47 (by decide) zb_249 rfl (zOb.lit (by decide +kernel)) rfl ((zst_ne (Or.inl (by decide))).trans ((zst_ne (Or.inl (by decide))).trans (zst_ne (Or.inl (by decide))))) ?_
    refine z_aload 4 dX8_add_50 rfl ?_
    refine z_aastW dX8_add_52 (zOb.lit (by decide +kernel)) (show 0 ≤ (h 25 4) ∧ (h 25 4) < 301 from ⟨by omega, by omega⟩).1 (show 0 ≤ (h 25 4) ∧ (h 25 4) < 301 from ⟨by omega, by omega⟩).2 hw ?_
    refine z_aload_n 0 dX8_add_53 rfl ?_
    refine z_dup dX8_add_54 zt2 ?_
    refine z_getIV (v := (h 25 4)) (k := 4) (kz := 4) pk8 dX8_add_55 (by decide) zb_249 rfl (zOb.lit (by decide +kernel)) rfl ((zst_ne (Or.inl (by decide))).trans ((zst_ne (Or.inl (by decide))).trans ((zst_ne (Or.inl (by decide))).trans (zst_ne (Or.inl (by decide)))))) ?_
    refine z_iconst dX8_add_58 (zi32_d rfl) ?_
    refine z_iaddN dX8_add_59 (show -2147483648 ≤ (h 25 4) + 1 ∧ (h 25 4) + 1 < 2147483648 from ⟨by omega, by omega⟩).1 (show -2147483648 ≤ (h 25 4) + 1 ∧ (h 25 4) + 1 < 2147483648 from ⟨by omega, by omega⟩).2 ?_
    refine z_putI (k := 4) (kz := 4) pk8 dX8_add_60 (by decide) zb_249 rfl (zFit_int _) (zOb.lit (by decide +kernel)) rfl ?_
    exact z_ret dX8_add_63 rfl (k2 c1)

/-- a step more -/
def zstp (h : zH) (L x : Int) : zH := zst (zst (zst (zst h (L + 5) (h L 12) x) L 12 ((h L 12) + 1)) (L + 4) ((h L 6) - 1) ((h L 12) + 1)) L 5 (if h L 5 = 0 ∧ ¬ (0 ≤ x ∧ zand x 15 = 9) then 0 else 1)
theorem f_X1_addStep {X : zX} {dep : Nat} (L x : Int) {h : zH} (hL : zLawO L) (hb : 0 ≤ h L 12 ∧ h L 12 < 120) (hl : 0 < h L 6 ∧ h L 6 ≤ 20) : zW mX1_addStep X dep 0 0 239 0 (zar 0 [xR L, xI x]) [] h (zF (zstp h L x) []) := by
  refine bX1_addStep_0 L x hL hb hl (fun c => absurd c (by omega)) (fun _ c => absurd c (by omega)) (fun _ _ c => ?_) (fun _ _ c c2 => ?_) (fun _ _ c c2 => ?_)
  · refine ⟨rfl, ?_, rfl⟩
    unfold zstp
    rw [if_neg (fun z => c z.1)]
  · refine ⟨rfl, ?_, rfl⟩
    unfold zstp
    rw [if_pos ⟨c, fun z => by omega⟩]
  · refine ⟨rfl, ?_, rfl⟩
    unfold zstp
    by_cases c3 : zand x 15 = 9
    · rw [if_pos c3, if_neg (fun z => z.2 ⟨by omega, c3⟩)]
    · rw [if_neg c3, if_pos ⟨c, fun z => c3 z.2⟩]
/-- a question's number -/
def zqs (a s t : Int) : Int := zor (zor (zshl t 12) (zshl s 4)) a
theorem f_X1_question {X : zX} {dep : Nat} (a s t : Int) {h : zH} : zW mX1_question X dep 0 0 239 0 (zar 0 [xI a, xI s, xI t]) [] h (zF h [xI (zqs a s t)]) := bX1_question_0 a s t ⟨rfl, rfl, rfl⟩
theorem l_X1_hasLine {X : zX} {dep : Nat} (L k : Int) {h : zH} (hL : zLawO L) (hl : 0 ≤ h L 6 ∧ h L 6 ≤ 20) : ∀ (r j : Nat), (j : Int) + r = h L 6 → (∀ i : Int, 0 ≤ i → i < j → h (L + 1) i ≠ k) → zW mX1_hasLine X dep 0 0 239 2 [(0, xR L), (1, xI k), (2, xI j)] [] h (zF h [xI (zb (∃ i : Int, 0 ≤ i ∧ i < h L 6 ∧ h (L + 1) i = k))]) := by
  intro r
  induction r with
  | zero =>
    intro j hj a
    refine bX1_hasLine_2 L k j hL hl (by omega) (fun _ => ?_) (fun c => absurd (by omega) c) (fun c => absurd (by omega) c)
    refine ⟨rfl, rfl, ?_⟩
    rw [zb_f]
    rintro ⟨i, i0, i1, i2⟩
    exact a i i0 (by omega) i2
  | succ r ih =>
    intro j hj a
    refine bX1_hasLine_2 L k j hL hl (by omega) (fun c => absurd c (by omega)) (fun _ c => ?_) (fun _ c => ?_)
    · refine ih (j + 1) (by omega) (fun i i0 i1 => ?_)
      by_cases e : i = j
      · rw [e]; exact c
      · exact a i i0 (by omega)
    · refine ⟨rfl, rfl, ?_⟩
      rw [zb_t ⟨j, by omega, by omega, c⟩]
theorem f_X1_hasLine {X : zX} {dep : Nat} (L k : Int) {h : zH} (hL : zLawO L) (hl : 0 ≤ h L 6 ∧ h L 6 ≤ 20) : zW mX1_hasLine X dep 0 0 239 0 (zar 0 [xR L, xI k]) [] h (zF h [xI (zb (∃ i : Int, 0 ≤ i ∧ i < h L 6 ∧ h (L + 1) i = k))]) :=
  bX1_hasLine_0 L k hL (l_X1_hasLine L k hL hl (h L 6).toNat 0 (by omega) (fun i i0 i1 => by omega))
/-! the tokens of a text: b tells its bytes -/
abbrev zsm1 (c : Int) : Prop := 97 ≤ c ∧ c ≤ 122
abbrev zdg1 (c : Int) : Prop := 48 ≤ c ∧ c ≤ 57
abbrev zrc (c : Int) : Prop := zsm1 c ∨ zdg1 c
abbrev zsg (c : Int) : Prop := c = 59 ∨ c = 40 ∨ c = 41 ∨ c = 60 ∨ c = 61 ∨ c = 62
def zsk (b : Int → Int) : Nat → Int → Int
  | 0, p => p
  | k + 1, p => if b p = 32 ∨ b p = 10 then zsk b k (p + 1) else p
def zre (b : Int → Int) : Nat → Int → Int
  | 0, p => p
  | k + 1, p => if zrc (b p) then zre b k (p + 1) else p
def znx (b : Int → Int) (p : Int) : Int := if zrc (b p) then zre b 400 p else p + 1
def zps (b : Int → Int) : Nat → Int
  | 0 => zsk b 400 0
  | j + 1 => zsk b 400 (znx b (zps b j))
/-- digits, and the number that they make -/
def zvl (b : Int → Int) (p : Int) : Nat → Int × Int
  | 0 => (0, 0)
  | n + 1 => if zsm1 (b (p + n)) then zvl b p n else ((zvl b p n).1 + 1, if 4 < (zvl b p n).1 + 1 then 0 else (zvl b p n).2 * 10 + b (p + n) - 48)
def zrn (b : Int → Int) (p : Int) : Nat := (zre b 400 p - p).toNat
def zkd (b : Int → Int) (p : Int) : Int := if zrc (b p) then (if (zvl b p (zrn b p)).1 = 0 ∧ zrn b p ≤ 8 then 1 else if (zvl b p (zrn b p)).1 = (zrn b p : Nat) ∧ (zvl b p (zrn b p)).1 ≤ 4 then 2 else 3) else if zsg (b p) then b p else 3
/-- word i stands from p to e -/
def zhw (b : Int → Int) (i p e : Int) : Prop := e - p = zTl i ∧ ∀ k : Int, 0 ≤ k → k < zTl i → b (p + k) = zTb i k
noncomputable def zfw (b : Int → Int) (p e : Int) : Nat → Int → Int
  | 0, _ => -1
  | k + 1, i => @ite Int (zhw b i p e) (Classical.propDecidable _) (1000000 + i) (zfw b p e k (i + 1))
noncomputable def zww (b : Int → Int) (p : Int) : Int := if zrc (b p) ∧ zkd b p = 1 then zfw b p (zre b 400 p) 22 0 else -1
def zvv (b : Int → Int) (p : Int) : Int := if zrc (b p) ∧ zkd b p = 2 then (zvl b p (zrn b p)).2 else 0
theorem zsk_f {b : Int → Int} (hb : ∀ q : Int, 340 ≤ q → b q = -1) : ∀ (k : Nat) (p : Int), 341 ≤ p + k → zsk b k p = zsk b (k + 1) p
  | 0, p, hp => by
    show p = if b p = 32 ∨ b p = 10 then _ else p
    rw [hb p (by omega), if_neg (by omega)]
  | k + 1, p, hp => by
    show (if b p = 32 ∨ b p = 10 then zsk b k (p + 1) else p) = if b p = 32 ∨ b p = 10 then zsk b (k + 1) (p + 1) else p
    rw [zsk_f hb k (p + 1) (by omega)]
theorem zsk_s {b : Int → Int} (hb : ∀ q : Int, 340 ≤ q → b q = -1) {p : Int} (h0 : 0 ≤ p) : zsk b 400 p = if b p = 32 ∨ b p = 10 then zsk b 400 (p + 1) else p := by
  rw [← zsk_f hb 399 (p + 1) (by omega)]
  rfl
theorem zre_f {b : Int → Int} (hb : ∀ q : Int, 340 ≤ q → b q = -1) : ∀ (k : Nat) (p : Int), 341 ≤ p + k → zre b k p = zre b (k + 1) p
  | 0, p, hp => by
    show p = if zrc (b p) then _ else p
    rw [hb p (by omega), if_neg (by simp only [zrc, zsm1, zdg1]; omega)]
  | k + 1, p, hp => by
    show (if zrc (b p) then zre b k (p + 1) else p) = if zrc (b p) then zre b (k + 1) (p + 1) else p
    rw [zre_f hb k (p + 1) (by omega)]
theorem zre_s {b : Int → Int} (hb : ∀ q : Int, 340 ≤ q → b q = -1) {p : Int} (h0 : 0 ≤ p) : zre b 400 p = if zrc (b p) then zre b 400 (p + 1) else p := by
  rw [← zre_f hb 399 (p + 1) (by omega)]
  rfl
theorem zsk_in {b : Int → Int} : ∀ (k : Nat) (p : Int), p ≤ zsk b k p
  | 0, p => Int.le_refl _
  | k + 1, p => by
    unfold zsk
    split
    · have := zsk_in (b := b) k (p + 1)
      omega
    · omega
theorem zre_in {b : Int → Int} : ∀ (k : Nat) (p : Int), p ≤ zre b k p
  | 0, p => Int.le_refl _
  | k + 1, p => by
    unfold zre
    split
    · have := zre_in (b := b) k (p + 1)
      omega
    · omega
theorem zsk_le {b : Int → Int} (hb : ∀ q : Int, 340 ≤ q → b q = -1) : ∀ (k : Nat) (p : Int), p ≤ 340 → zsk b k p ≤ 340
  | 0, p, hp => hp
  | k + 1, p, hp => by
    unfold zsk
    split
    · rename_i c
      refine zsk_le hb k (p + 1) ?_
      by_cases e : p = 340
      · rw [e, hb 340 (by omega)] at c
        omega
      · omega
    · exact hp
theorem zre_le {b : Int → Int} (hb : ∀ q : Int, 340 ≤ q → b q = -1) : ∀ (k : Nat) (p : Int), p ≤ 340 → zre b k p ≤ 340
  | 0, p, hp => hp
  | k + 1, p, hp => by
    unfold zre
    split
    · rename_i c
      refine zre_le hb k (p + 1) ?_
      by_cases e : p = 340
      · rw [e, hb 340 (by omega)] at c
        simp only [zrc, zsm1, zdg1] at c
        omega
      · omega
    · exact hp
theorem znx_in {b : Int → Int} (hb : ∀ q : Int, 340 ≤ q → b q = -1) {p : Int} (h0 : 0 ≤ p) (h1 : p < 340) : p < znx b p ∧ znx b p ≤ 340 := by
  unfold znx
  split
  · rename_i c
    rw [zre_s hb h0, if_pos c]
    have := zre_in (b := b) 400 (p + 1)
    have := zre_le hb 400 (p + 1) (by omega)
    omega
  · omega
theorem zre_run {b : Int → Int} : ∀ (n k : Nat) (p : Int), n ≤ k → (∀ i : Int, 0 ≤ i → i < n → zrc (b (p + i))) → ¬ zrc (b (p + n)) → zre b k p = p + n
  | 0, 0, p, _, _, _ => by unfold zre; omega
  | 0, k + 1, p, _, _, h2 => by
    unfold zre
    rw [if_neg (by rw [show p + ((0 : Nat) : Int) = p by omega] at h2; exact h2)]
    omega
  | n + 1, 0, p, hk, _, _ => by omega
  | n + 1, k + 1, p, hk, h1, h2 => by
    have a := h1 0 (by omega) (by omega)
    rw [Int.add_zero] at a
    unfold zre
    rw [if_pos a, zre_run n k (p + 1) (by omega) (fun i i0 i1 => by have := h1 (i + 1) (by omega) (by omega); rw [show p + (i + 1) = p + 1 + i by omega] at this; exact this) (by rw [show p + 1 + (n : Int) = p + ((n + 1 : Nat) : Int) by omega]; exact h2)]
    omega
theorem zvl_in {b : Int → Int} {p : Int} : ∀ n : Nat, (∀ i : Int, 0 ≤ i → i < n → zrc (b (p + i))) → (0 ≤ (zvl b p n).1 ∧ (zvl b p n).1 ≤ n) ∧ 0 ≤ (zvl b p n).2 ∧ ((zvl b p n).1 = 0 → (zvl b p n).2 = 0) ∧ ((zvl b p n).1 = 1 → (zvl b p n).2 ≤ 9) ∧ ((zvl b p n).1 = 2 → (zvl b p n).2 ≤ 99) ∧ ((zvl b p n).1 = 3 → (zvl b p n).2 ≤ 999) ∧ ((zvl b p n).1 = 4 → (zvl b p n).2 ≤ 9999) ∧ (4 < (zvl b p n).1 → (zvl b p n).2 = 0)
  | 0, _ => by unfold zvl; omega
  | n + 1, h => by
    have i1 := zvl_in n (fun i i0 i1 => h i i0 (by omega))
    have c := h n (by omega) (by omega)
    simp only [zrc, zsm1, zdg1] at c
    unfold zvl
    by_cases s : zsm1 (b (p + n))
    · rw [if_pos s]
      omega
    · rw [if_neg s]
      simp only [zsm1] at s
      by_cases t : 4 < (zvl b p n).1 + 1
      · simp only [if_pos t]
        omega
      · simp only [if_neg t]
        omega
theorem zat_out {h : zH} (ht : 0 ≤ h 1 1 ∧ h 1 1 ≤ 340) (q : Int) (hq : h 1 1 ≤ q) : zat h q = -1 := by
  unfold zat
  rw [if_neg (by omega)]
theorem zat_bd {h : zH} (ht : 0 ≤ h 1 1 ∧ h 1 1 ≤ 340) (q : Int) : -1 ≤ zat h q ∧ zat h q ≤ 255 := by
  by_cases c : 0 ≤ q ∧ q < h 1 1
  · have := zat_in (h := h) (i := q) c.1 c.2
    omega
  · unfold zat
    rw [if_neg c]
    omega

set_option maxRecDepth 20000 in
theorem bX7_holdsWord_0 {X : zX} {dep bc bs : Nat} (i : Int) (p : Int) (e : Int) {h : zH} {Q : Nat → zH → List zV → Prop} (hi : 0 ≤ i ∧ i < 22) (hp : 0 ≤ p ∧ p ≤ 340 ∧ 0 ≤ e ∧ e ≤ 340) (hdep : 2 ≤ dep)
    (k1 : (e - p) = (zTl i) → zW mX7_holdsWord X dep bc bs 239 15 [(0, xR 1), (1, xR (1000100 + i)), (2, xI p), (4, xI 0)] [] h Q)
    (k2 : ¬ ((e - p) = (zTl i)) → Q 239 h [xI 0]) : zW mX7_holdsWord X dep bc bs 239 0 [(0, xR 1), (1, xR (1000100 + i)), (2, xI p), (3, xI e)] [] h Q := by
  refine z_iload_n 3 dX7_holdsWord_0 rfl ?_
  refine z_iload_n 2 dX7_holdsWord_1 rfl ?_
  refine z_isubN dX7_holdsWord_2 (show -2147483648 ≤ e - p ∧ e - p < 2147483648 from ⟨by omega, by omega⟩).1 (show -2147483648 ≤ e - p ∧ e - p < 2147483648 from ⟨by omega, by omega⟩).2 ?_
  refine z_aload_n 1 dX7_holdsWord_3 rfl ?_
  refine z_invT (i := i) (as := []) (st := [xI (e - p)]) (ra := []) (dep' := dep - 1) (rs := [xI (zTl i)]) (h' := h) (f_J0_length_8abf5 (X := X) (dep := dep - 1) i (h := h) hi.1 hi.2 (by omega)) dX7_holdsWord_4 nJ0_length_8abf5 zb_630 zb_631 zb_632 zb_96 hi.1 hi.2 (by omega) zne_I (Nat.le_of_ble_eq_true rfl) (Nat.le_of_ble_eq_true rfl) rfl ?_
  refine z_icmp_eq (tgt := 12) dX7_holdsWord_7 (by decide) (fun c1 => ?_) (fun c1 => ?_)
  ·
    refine z_iconst dX7_holdsWord_12 (zi32_d rfl) ?_
    refine z_istore (lv' := [(4, xI 0), (0, xR 1), (1, xR (1000100 + i)), (2, xI p), (3, xI e)]) dX7_holdsWord_13 (by decide) rfl ?_
    refine zW.sub (lv' := [(0, xR 1), (1, xR (1000100 + i)), (2, xI p), (4, xI 0)]) [1, 2, 3, 0] rfl ?_
    exact k1 c1
  ·
    refine z_iconst dX7_holdsWord_10 (zi32_d rfl) ?_
    exact z_zret dX7_holdsWord_11 rfl (Or.inl rfl) (k2 c1)

set_option maxRecDepth 20000 in
theorem bX7_holdsWord_15 {X : zX} {dep bc bs : Nat} (i : Int) (p : Int) (k : Int) {h : zH} {Q : Nat → zH → List zV → Prop} (ht : 0 ≤ h 1 1 ∧ h 1 1 ≤ 340) (hi : 0 ≤ i ∧ i < 22) (hp : 0 ≤ p ∧ p ≤ 340) (hk : 0 ≤ k ∧ k ≤ 100) (hdep : 4 ≤ dep)
    (k1 : (zTl i) ≤ k → Q 239 h [xI 1])
    (k2 : ¬ ((zTl i) ≤ k) → (zat h (p + k)) = (zTb i k) → zW mX7_holdsWord X dep bc bs 239 15 [(0, xR 1), (1, xR (1000100 + i)), (2, xI p), (4, xI (k + 1))] [] h Q)
    (k3 : ¬ ((zTl i) ≤ k) → ¬ ((zat h (p + k)) = (zTb i k)) → Q 239 h [xI 0]) : zW mX7_holdsWord X dep bc bs 239 15 [(0, xR 1), (1, xR (1000100 + i)), (2, xI p), (4, xI k)] [] h Q := by
  refine z_iload 3 dX7_holdsWord_15 rfl ?_
  refine z_aload_n 1 dX7_holdsWord_17 rfl ?_
  refine z_invT (i := i) (as := []) (st := [xI k]) (ra := []) (dep' := dep - 1) (rs := [xI (zTl i)]) (h' := h) (f_J0_length_8abf5 (X := X) (dep := dep - 1) i (h := h) hi.1 hi.2 (by omega)) dX7_holdsWord_18 nJ0_length_8abf5 zb_630 zb_631 zb_632 zb_96 hi.1 hi.2 (by omega) zne_I (Nat.le_of_ble_eq_true rfl) (Nat.le_of_ble_eq_true rfl) rfl ?_
  refine z_icmp_ge (tgt := 49) dX7_holdsWord_21 (by decide) (fun c1 => ?_) (fun c1 => ?_)
  ·
    refine z_iconst dX7_holdsWord_49 (zi32_d rfl) ?_
    exact z_zret dX7_holdsWord_50 rfl (Or.inr rfl) (k1 c1)
  ·
    refine z_aload_n 0 dX7_holdsWord_24 rfl ?_
    refine z_iload_n 2 dX7_holdsWord_25 rfl ?_
    refine z_iload 3 dX7_holdsWord_26 rfl ?_
    refine z_iaddN dX7_holdsWord_28 (show -2147483648 ≤ p + k ∧ p + k < 2147483648 from ⟨by omega, by omega⟩).1 (show -2147483648 ≤ p + k ∧ p + k < 2147483648 from ⟨by omega, by omega⟩).2 ?_
    refine z_invF (ci := 7) (N := 2) (as := [xI (p + k)]) (st := []) (ra := [xI (p + k)]) (dep' := dep - 1) (rs := [xI (zat h (p + k))]) (h' := h) (f_X7_at (p + k) (h := h) ht) dX7_holdsWord_29 nX7_at zb_540 zb_541 zb_542 zb_83 (zOb.lit (by decide +kernel)) rfl (by omega) zne_I (Nat.le_of_ble_eq_true rfl) (Nat.le_of_ble_eq_true rfl) rfl ?_
    refine z_aload_n 1 dX7_holdsWord_32 rfl ?_
    refine z_iload 3 dX7_holdsWord_33 rfl ?_
    refine z_invT (i := i) (as := [xI k]) (st := [xI (zat h (p + k))]) (ra := [xI k]) (dep' := dep - 1) (rs := [xI (zTb i k)]) (h' := h) (f_J0_charAt_5068e (X := X) (dep := dep - 1) i k (h := h) hi.1 hi.2 (by omega) (by omega) (by omega)) dX7_holdsWord_35 nJ0_charAt_5068e zb_640 zb_641 zb_642 zb_96 hi.1 hi.2 (by omega) zne_I (Nat.le_of_ble_eq_true rfl) (Nat.le_of_ble_eq_true rfl) rfl ?_
    refine z_icmp_eq (tgt := 43) dX7_holdsWord_38 (by decide) (fun c2 => ?_) (fun c2 => ?_)
    ·
      refine z_iincN (lv' := [(4, xI (k + 1)), (0, xR 1), (1, xR (1000100 + i)), (2, xI p)]) 3 dX7_holdsWord_43 rfl (by decide) rfl (show -2147483648 ≤ k + 1 ∧ k + 1 < 2147483648 from ⟨by omega, by omega⟩).1 (show -2147483648 ≤ k + 1 ∧ k + 1 < 2147483648 from ⟨by omega, by omega⟩).2 ?_
      refine z_goto (tgt := 15) dX7_holdsWord_46 (by decide) ?_
      refine zW.sub (lv' := [(0, xR 1), (1, xR (1000100 + i)), (2, xI p), (4, xI (k + 1))]) [1, 2, 3, 0] rfl ?_
      exact k2 c1 c2
    ·
      refine z_iconst dX7_holdsWord_41 (zi32_d rfl) ?_
      exact z_zret dX7_holdsWord_42 rfl (Or.inl rfl) (k3 c1 c2)

theorem l_X7_holdsWord {X : zX} {dep : Nat} (i p e : Int) {h : zH} (ht : 0 ≤ h 1 1 ∧ h 1 1 ≤ 340) (hi : 0 ≤ i ∧ i < 22) (hp : 0 ≤ p ∧ p ≤ 340) (he : e - p = zTl i) (hdep : 4 ≤ dep) : ∀ (r j : Nat), (j : Int) + r = zTl i → (∀ k : Int, 0 ≤ k → k < j → zat h (p + k) = zTb i k) → zW mX7_holdsWord X dep 0 0 239 15 [(0, xR 1), (1, xR (1000100 + i)), (2, xI p), (4, xI j)] [] h (zF h [xI (zb (zhw (zat h) i p e))]) := by
  have tl := zTlen_in i.toNat (by omega)
  intro r
  induction r with
  | zero =>
    intro j hj a
    refine bX7_holdsWord_15 i p j ht hi hp (by unfold zTl at hj; omega) hdep (fun _ => ?_) (fun c => absurd (by omega) c) (fun c => absurd (by omega) c)
    refine ⟨rfl, rfl, ?_⟩
    rw [zb_t ⟨he, fun k k0 k1 => a k k0 (by omega)⟩]
  | succ r ih =>
    intro j hj a
    refine bX7_holdsWord_15 i p j ht hi hp (by unfold zTl at hj; omega) hdep (fun c => absurd c (by omega)) (fun _ c => ?_) (fun _ c => ?_)
    · refine ih (j + 1) (by omega) (fun k k0 k1 => ?_)
      by_cases e : k = j
      · rw [e]; exact c
      · exact a k k0 (by omega)
    · refine ⟨rfl, rfl, ?_⟩
      rw [zb_f (fun z => c (z.2 j (by omega) (by omega)))]
theorem f_X7_holdsWord {X : zX} {dep : Nat} (i p e : Int) {h : zH} (ht : 0 ≤ h 1 1 ∧ h 1 1 ≤ 340) (hi : 0 ≤ i ∧ i < 22) (hp : 0 ≤ p ∧ p ≤ 340 ∧ 0 ≤ e ∧ e ≤ 340) (hdep : 4 ≤ dep) : zW mX7_holdsWord X dep 0 0 239 0 (zar 0 [xR 1, xR (1000100 + i), xI p, xI e]) [] h (zF h [xI (zb (zhw (zat h) i p e))]) := by
  have tl := zTlen_in i.toNat (by omega)
  refine bX7_holdsWord_0 i p e hi hp (by omega) (fun c => ?_) (fun c => ?_)
  · exact l_X7_holdsWord i p e ht hi (by omega) c hdep (zTl i).toNat 0 (by unfold zTl; omega) (fun k k0 k1 => by omega)
  · refine ⟨rfl, rfl, ?_⟩
    rw [zb_f (fun z => c z.1)]

set_option maxRecDepth 20000 in
theorem bX9_find_0 {X : zX} {dep bc bs : Nat} (p : Int) (e : Int) {h : zH} {Q : Nat → zH → List zV → Prop}
    (k1 : zW mX9_find X dep bc bs 239 11 [(0, xR 1), (1, xI p), (2, xI e), (3, xR 1000200), (4, xI 22), (5, xI 0)] [] h Q) : zW mX9_find X dep bc bs 239 0 [(0, xR 1), (1, xI p), (2, xI e)] [] h Q := by
  refine z_getALL dX9_find_0 zb_624 ?_
  refine z_astore_n (lv' := [(3, xR 1000200), (0, xR 1), (1, xI p), (2, xI e)]) dX9_find_3 (by decide) rfl ?_
  refine z_aload_n 0 dX9_find_4 rfl ?_
  refine z_alenALL dX9_find_5 ?_
  refine z_istore (lv' := [(4, xI 22), (3, xR 1000200), (0, xR 1), (1, xI p), (2, xI e)]) dX9_find_6 (by decide) rfl ?_
  refine z_iconst dX9_find_8 (zi32_d rfl) ?_
  refine z_istore (lv' := [(5, xI 0), (4, xI 22), (3, xR 1000200), (0, xR 1), (1, xI p), (2, xI e)]) dX9_find_9 (by decide) rfl ?_
  refine zW.sub (lv' := [(0, xR 1), (1, xI p), (2, xI e), (3, xR 1000200), (4, xI 22), (5, xI 0)]) [3, 4, 5, 2, 1, 0] rfl ?_
  exact k1

set_option maxRecDepth 20000 in
theorem bX9_find_11 {X : zX} {dep bc bs : Nat} (p : Int) (e : Int) (i : Int) {h : zH} {Q : Nat → zH → List zV → Prop} (ht : 0 ≤ h 1 1 ∧ h 1 1 ≤ 340) (hp : 0 ≤ p ∧ p ≤ 340 ∧ 0 ≤ e ∧ e ≤ 340) (hi : 0 ≤ i ∧ i ≤ 22) (hdep : 5 ≤ dep)
    (k1 : 22 ≤ i → Q 239 h [xR (-1)])
    (k2 : ¬ (22 ≤ i) → ¬ (zhw (zat h) i p e) → zW mX9_find X dep bc bs 239 11 [(0, xR 1), (1, xI p), (2, xI e), (3, xR 1000200), (4, xI 22), (5, xI (i + 1))] [] h Q)
    (k3 : ¬ (22 ≤ i) → zhw (zat h) i p e → Q 239 h [xR (1000000 + i)]) : zW mX9_find X dep bc bs 239 11 [(0, xR 1), (1, xI p), (2, xI e), (3, xR 1000200), (4, xI 22), (5, xI i)] [] h Q := by
  refine z_iload 5 dX9_find_11 rfl ?_
  refine z_iload 4 dX9_find_13 rfl ?_
  refine z_icmp_ge (tgt := 47) dX9_find_15 (by decide) (fun c1 => ?_) (fun c1 => ?_)
  ·
    refine z_anull dX9_find_47 ?_
    exact z_aret dX9_find_48 rfl (k1 c1)
  ·
    refine z_aload_n 3 dX9_find_18 rfl ?_
    refine z_iload 5 dX9_find_19 rfl ?_
    refine z_aaldALL (show 0 ≤ i ∧ i < 22 from ⟨by omega, by omega⟩).1 (show 0 ≤ i ∧ i < 22 from ⟨by omega, by omega⟩).2 dX9_find_21 ?_
    refine z_astore (lv' := [(6, xR (1000000 + i)), (0, xR 1), (1, xI p), (2, xI e), (3, xR 1000200), (4, xI 22), (5, xI i)]) dX9_find_22 (by decide) rfl ?_
    refine z_aload_n 1 dX9_find_24 rfl ?_
    refine z_aload 0 dX9_find_25 rfl ?_
    refine z_getWt (show 0 ≤ i ∧ i < 22 from ⟨by omega, by omega⟩).1 (show 0 ≤ i ∧ i < 22 from ⟨by omega, by omega⟩).2 dX9_find_27 zb_1785 ?_
    refine z_iload_n 2 dX9_find_30 rfl ?_
    refine z_iload_n 3 dX9_find_31 rfl ?_
    refine z_invF (ci := 7) (N := 2) (as := [xR (1000100 + i), xI p, xI e]) (st := []) (ra := [xI e, xI p, xR (1000100 + i)]) (dep' := dep - 1) (rs := [xI (zb (zhw (zat h) i p e))]) (h' := h) (f_X7_holdsWord (X := X) (dep := dep - 1) i p e (h := h) ht (by omega) hp (by omega)) dX9_find_32 nX7_holdsWord zb_626 zb_627 zb_628 zb_83 (zOb.lit (by decide +kernel)) rfl (by omega) zne_I (Nat.le_of_ble_eq_true rfl) (Nat.le_of_ble_eq_true rfl) rfl ?_
    refine z_ifB_eq (C := zhw (zat h) i p e) (tgt := 41) dX9_find_35 (by decide) (fun c2 => ?_) (fun c2 => ?_)
    ·
      refine z_iincN (lv' := [(5, xI (i + 1)), (6, xR (1000000 + i)), (0, xR 1), (1, xI p), (2, xI e), (3, xR 1000200), (4, xI 22)]) 6 dX9_find_41 rfl (by decide) rfl (show -2147483648 ≤ i + 1 ∧ i + 1 < 2147483648 from ⟨by omega, by omega⟩).1 (show -2147483648 ≤ i + 1 ∧ i + 1 < 2147483648 from ⟨by omega, by omega⟩).2 ?_
      refine z_goto (tgt := 11) dX9_find_44 (by decide) ?_
      refine zW.sub (lv' := [(0, xR 1), (1, xI p), (2, xI e), (3, xR 1000200), (4, xI 22), (5, xI (i + 1))]) [2, 3, 4, 5, 6, 0] rfl ?_
      exact k2 c1 c2
    ·
      refine z_aload 0 dX9_find_38 rfl ?_
      exact z_aret dX9_find_40 rfl (k3 c1 c2)

theorem l_X9_find {X : zX} {dep : Nat} (p e : Int) {h : zH} (ht : 0 ≤ h 1 1 ∧ h 1 1 ≤ 340) (hp : 0 ≤ p ∧ p ≤ 340 ∧ 0 ≤ e ∧ e ≤ 340) (hdep : 5 ≤ dep) : ∀ (r j : Nat), j + r = 22 → zW mX9_find X dep 0 0 239 11 [(0, xR 1), (1, xI p), (2, xI e), (3, xR 1000200), (4, xI 22), (5, xI j)] [] h (zF h [xR (zfw (zat h) p e r j)]) := by
  intro r
  induction r with
  | zero =>
    intro j hj
    refine bX9_find_11 p e j ht hp (by omega) hdep (fun _ => ⟨rfl, rfl, rfl⟩) (fun c => absurd (by omega) c) (fun c => absurd (by omega) c)
  | succ r ih =>
    intro j hj
    refine bX9_find_11 p e j ht hp (by omega) hdep (fun c => absurd c (by omega)) (fun _ c => ?_) (fun _ c => ?_)
    · have go := ih (j + 1) (by omega)
      unfold zfw
      rw [if_neg c]
      exact go
    · refine ⟨rfl, rfl, ?_⟩
      unfold zfw
      rw [if_pos c]
theorem f_X9_find {X : zX} {dep : Nat} (p e : Int) {h : zH} (ht : 0 ≤ h 1 1 ∧ h 1 1 ≤ 340) (hp : 0 ≤ p ∧ p ≤ 340 ∧ 0 ≤ e ∧ e ≤ 340) (hdep : 5 ≤ dep) : zW mX9_find X dep 0 0 239 0 (zar 0 [xR 1, xI p, xI e]) [] h (zF h [xR (zfw (zat h) p e 22 0)]) :=
  bX9_find_0 p e (l_X9_find p e ht hp hdep 22 0 rfl)
theorem zfw_in (b : Int → Int) (p e : Int) : ∀ (k : Nat) (i : Int), 0 ≤ i → i + k ≤ 22 → zWd (zfw b p e k i)
  | 0, i, _, _ => Or.inl rfl
  | k + 1, i, h0, h1 => by
    unfold zfw
    split
    · exact Or.inr (by omega)
    · exact zfw_in b p e k (i + 1) (by omega) (by omega)
theorem zww_in (b : Int → Int) (p : Int) : zWd (zww b p) := by
  unfold zww
  split
  · exact zfw_in _ _ _ 22 0 (by omega) (by omega)
  · exact Or.inl rfl

set_option maxRecDepth 20000 in
theorem bX8_readRun_0 {X : zX} {dep bc bs : Nat} (p : Int) {h : zH} {Q : Nat → zH → List zV → Prop}
    (k1 : zW mX8_readRun X dep bc bs 239 11 [(0, xR 25), (1, xR 1), (2, xI p), (3, xI 0), (4, xI 0), (5, xI 0), (6, xI p)] [] h Q) : zW mX8_readRun X dep bc bs 239 0 [(0, xR 25), (1, xR 1), (2, xI p)] [] h Q := by
  refine z_iconst dX8_readRun_0 (zi32_d rfl) ?_
  refine z_istore_n (lv' := [(3, xI 0), (0, xR 25), (1, xR 1), (2, xI p)]) dX8_readRun_1 (by decide) rfl ?_
  refine z_iconst dX8_readRun_2 (zi32_d rfl) ?_
  refine z_istore (lv' := [(4, xI 0), (3, xI 0), (0, xR 25), (1, xR 1), (2, xI p)]) dX8_readRun_3 (by decide) rfl ?_
  refine z_iconst dX8_readRun_5 (zi32_d rfl) ?_
  refine z_istore (lv' := [(5, xI 0), (4, xI 0), (3, xI 0), (0, xR 25), (1, xR 1), (2, xI p)]) dX8_readRun_6 (by decide) rfl ?_
  refine z_iload_n 5 dX8_readRun_8 rfl ?_
  refine z_istore (lv' := [(6, xI p), (5, xI 0), (4, xI 0), (3, xI 0), (0, xR 25), (1, xR 1), (2, xI p)]) dX8_readRun_9 (by decide) rfl ?_
  refine zW.sub (lv' := [(0, xR 25), (1, xR 1), (2, xI p), (3, xI 0), (4, xI 0), (5, xI 0), (6, xI p)]) [4, 5, 6, 3, 2, 1, 0] rfl ?_
  exact k1

set_option maxRecDepth 20000 in
theorem bX8_readRun_11 {X : zX} {dep bc bs : Nat} (p : Int) (l : Int) (d : Int) (n : Int) (e : Int) {h : zH} {Q : Nat → zH → List zV → Prop} (ht : 0 ≤ h 1 1 ∧ h 1 1 ≤ 340) (he : 0 ≤ e ∧ e ≤ 340 ∧ 0 ≤ l ∧ l ≤ 340 ∧ 0 ≤ d ∧ d ≤ 340) (hn : 0 ≤ n ∧ n ≤ 99999) (hz : -1 ≤ zat h e ∧ zat h e ≤ 255) (hdep : 2 ≤ dep)
    (k1 : (h 1 1) ≤ e → zW mX8_readRun X dep bc bs 239 89 [(0, xR 25), (1, xR 1), (2, xI p), (3, xI l), (4, xI d), (5, xI n), (6, xI e)] [] h Q)
    (k2 : ¬ ((h 1 1) ≤ e) → 97 ≤ zat h e ∧ zat h e ≤ 122 → ¬ (97 ≤ zat h e ∧ zat h e ≤ 122) → (d + 1) ≤ 4 → zW mX8_readRun X dep bc bs 239 11 [(0, xR 25), (1, xR 1), (2, xI p), (3, xI l), (4, xI (d + 1)), (5, xI (((n * 10) + (zat h e)) - 48)), (6, xI (e + 1))] [] h Q)
    (k3 : ¬ ((h 1 1) ≤ e) → 97 ≤ zat h e ∧ zat h e ≤ 122 → ¬ (97 ≤ zat h e ∧ zat h e ≤ 122) → ¬ ((d + 1) ≤ 4) → zW mX8_readRun X dep bc bs 239 11 [(0, xR 25), (1, xR 1), (2, xI p), (3, xI l), (4, xI (d + 1)), (5, xI 0), (6, xI (e + 1))] [] h Q)
    (k4 : ¬ ((h 1 1) ≤ e) → 97 ≤ zat h e ∧ zat h e ≤ 122 → 97 ≤ zat h e ∧ zat h e ≤ 122 → zW mX8_readRun X dep bc bs 239 11 [(0, xR 25), (1, xR 1), (2, xI p), (3, xI (l + 1)), (4, xI d), (5, xI n), (6, xI (e + 1))] [] h Q)
    (k5 : ¬ ((h 1 1) ≤ e) → ¬ (97 ≤ zat h e ∧ zat h e ≤ 122) → ¬ (48 ≤ zat h e ∧ zat h e ≤ 57) → zW mX8_readRun X dep bc bs 239 89 [(0, xR 25), (1, xR 1), (2, xI p), (3, xI l), (4, xI d), (5, xI n), (6, xI e)] [] h Q)
    (k6 : ¬ ((h 1 1) ≤ e) → ¬ (97 ≤ zat h e ∧ zat h e ≤ 122) → 48 ≤ zat h e ∧ zat h e ≤ 57 → ¬ (97 ≤ zat h e ∧ zat h e ≤ 122) → (d + 1) ≤ 4 → zW mX8_readRun X dep bc bs 239 11 [(0, xR 25), (1, xR 1), (2, xI p), (3, xI l), (4, xI (d + 1)), (5, xI (((n * 10) + (zat h e)) - 48)), (6, xI (e + 1))] [] h Q)
    (k7 : ¬ ((h 1 1) ≤ e) → ¬ (97 ≤ zat h e ∧ zat h e ≤ 122) → 48 ≤ zat h e ∧ zat h e ≤ 57 → ¬ (97 ≤ zat h e ∧ zat h e ≤ 122) → ¬ ((d + 1) ≤ 4) → zW mX8_readRun X dep bc bs 239 11 [(0, xR 25), (1, xR 1), (2, xI p), (3, xI l), (4, xI (d + 1)), (5, xI 0), (6, xI (e + 1))] [] h Q)
    (k8 : ¬ ((h 1 1) ≤ e) → ¬ (97 ≤ zat h e ∧ zat h e ≤ 122) → 48 ≤ zat h e ∧ zat h e ≤ 57 → 97 ≤ zat h e ∧ zat h e ≤ 122 → zW mX8_readRun X dep bc bs 239 11 [(0, xR 25), (1, xR 1), (2, xI p), (3, xI (l + 1)), (4, xI d), (5, xI n), (6, xI (e + 1))] [] h Q) : zW mX8_readRun X dep bc bs 239 11 [(0, xR 25), (1, xR 1), (2, xI p), (3, xI l), (4, xI d), (5, xI n), (6, xI e)] [] h Q := by
  refine z_iload 6 dX8_readRun_11 rfl ?_
  refine z_aload_n 1 dX8_readRun_13 rfl ?_
  refine z_getI (k := 1) (kz := 1) pk7 dX8_readRun_14 (by decide) zb_120 rfl (zOb.lit (by decide +kernel)) rfl ?_
  refine z_icmp_ge (tgt := 89) dX8_readRun_17 (by decide) (fun c1 => ?_) (fun c1 => ?_)
  ·
    exact k1 c1
  ·
    refine z_aload_n 1 dX8_readRun_20 rfl ?_
    refine z_iload 6 dX8_readRun_21 rfl ?_
    refine z_invF (ci := 7) (N := 2) (as := [xI e]) (st := []) (ra := [xI e]) (dep' := dep - 1) (rs := [xI (zb (97 ≤ zat h e ∧ zat h e ≤ 122))]) (h' := h) (f_X7_isLetter e (h := h) ht (by omega)) dX8_readRun_23 nX7_isLetter zb_611 zb_537 zb_538 zb_83 (zOb.lit (by decide +kernel)) rfl (by omega) zne_I (Nat.le_of_ble_eq_true rfl) (Nat.le_of_ble_eq_true rfl) rfl ?_
    refine z_ifB_ne (C := 97 ≤ zat h e ∧ zat h e ≤ 122) (tgt := 38) dX8_readRun_26 (by decide) (fun c2 => ?_) (fun c2 => ?_)
    ·
      refine z_aload_n 1 dX8_readRun_38 rfl ?_
      refine z_iload 6 dX8_readRun_39 rfl ?_
      refine z_invF (ci := 7) (N := 2) (as := [xI e]) (st := []) (ra := [xI e]) (dep' := dep - 1) (rs := [xI (zb (97 ≤ zat h e ∧ zat h e ≤ 122))]) (h' := h) (f_X7_isLetter e (h := h) ht (by omega)) dX8_readRun_41 nX7_isLetter zb_611 zb_537 zb_538 zb_83 (zOb.lit (by decide +kernel)) rfl (by omega) zne_I (Nat.le_of_ble_eq_true rfl) (Nat.le_of_ble_eq_true rfl) rfl ?_
      refine z_ifB_eq (C := 97 ≤ zat h e ∧ zat h e ≤ 122) (tgt := 53) dX8_readRun_44 (by decide) (fun c3 => ?_) (fun c3 => ?_)
      ·
        refine z_iincN (lv' := [(4, xI (d + 1)), (0, xR 25), (1, xR 1), (2, xI p), (3, xI l), (5, xI n), (6, xI e)]) 4 dX8_readRun_53 rfl (by decide) rfl (show -2147483648 ≤ d + 1 ∧ d + 1 < 2147483648 from ⟨by omega, by omega⟩).1 (show -2147483648 ≤ d + 1 ∧ d + 1 < 2147483648 from ⟨by omega, by omega⟩).2 ?_
        refine z_iload 0 dX8_readRun_56 rfl ?_
        refine z_iconst dX8_readRun_58 (zi32_d rfl) ?_
        refine z_icmp_le (tgt := 66) dX8_readRun_59 (by decide) (fun c4 => ?_) (fun c4 => ?_)
        ·
          refine z_iload 5 dX8_readRun_66 rfl ?_
          refine z_bipush dX8_readRun_68 (zi32_d rfl) (by decide) ?_
          refine z_imulN dX8_readRun_70 (show -2147483648 ≤ n * 10 ∧ n * 10 < 2147483648 from ⟨by omega, by omega⟩).1 (show -2147483648 ≤ n * 10 ∧ n * 10 < 2147483648 from ⟨by omega, by omega⟩).2 ?_
          refine z_aload_n 2 dX8_readRun_71 rfl ?_
          refine z_iload 6 dX8_readRun_72 rfl ?_
          refine z_invF (ci := 7) (N := 2) (as := [xI e]) (st := [xI (n * 10)]) (ra := [xI e]) (dep' := dep - 1) (rs := [xI (zat h e)]) (h' := h) (f_X7_at e (h := h) ht) dX8_readRun_74 nX7_at zb_620 zb_541 zb_542 zb_83 (zOb.lit (by decide +kernel)) rfl (by omega) zne_I (Nat.le_of_ble_eq_true rfl) (Nat.le_of_ble_eq_true rfl) rfl ?_
          refine z_iaddN dX8_readRun_77 (show -2147483648 ≤ (n * 10) + (zat h e) ∧ (n * 10) + (zat h e) < 2147483648 from ⟨by omega, by omega⟩).1 (show -2147483648 ≤ (n * 10) + (zat h e) ∧ (n * 10) + (zat h e) < 2147483648 from ⟨by omega, by omega⟩).2 ?_
          refine z_bipush dX8_readRun_78 (zi32_d rfl) (by decide) ?_
          refine z_isubN dX8_readRun_80 (show -2147483648 ≤ ((n * 10) + (zat h e)) - 48 ∧ ((n * 10) + (zat h e)) - 48 < 2147483648 from ⟨by omega, by omega⟩).1 (show -2147483648 ≤ ((n * 10) + (zat h e)) - 48 ∧ ((n * 10) + (zat h e)) - 48 < 2147483648 from ⟨by omega, by omega⟩).2 ?_
          refine z_istore (lv' := [(5, xI (((n * 10) + (zat h e)) - 48)), (4, xI (d + 1)), (0, xR 25), (1, xR 1), (2, xI p), (3, xI l), (6, xI e)]) dX8_readRun_81 (by decide) rfl ?_
          refine z_iincN (lv' := [(6, xI (e + 1)), (5, xI (((n * 10) + (zat h e)) - 48)), (4, xI (d + 1)), (0, xR 25), (1, xR 1), (2, xI p), (3, xI l)]) 6 dX8_readRun_83 rfl (by decide) rfl (show -2147483648 ≤ e + 1 ∧ e + 1 < 2147483648 from ⟨by omega, by omega⟩).1 (show -2147483648 ≤ e + 1 ∧ e + 1 < 2147483648 from ⟨by omega, by omega⟩).2 ?_
          refine z_goto (tgt := 11) dX8_readRun_86 (by decide) ?_
          refine zW.sub (lv' := [(0, xR 25), (1, xR 1), (2, xI p), (3, xI l), (4, xI (d + 1)), (5, xI (((n * 10) + (zat h e)) - 48)), (6, xI (e + 1))]) [3, 4, 5, 6, 2, 1, 0] rfl ?_
          exact k2 c1 c2 c3 c4
        ·
          refine z_iconst dX8_readRun_62 (zi32_d rfl) ?_
          refine z_goto (tgt := 81) dX8_readRun_63 (by decide) ?_
          refine z_istore (lv' := [(5, xI 0), (4, xI (d + 1)), (0, xR 25), (1, xR 1), (2, xI p), (3, xI l), (6, xI e)]) dX8_readRun_81 (by decide) rfl ?_
          refine z_iincN (lv' := [(6, xI (e + 1)), (5, xI 0), (4, xI (d + 1)), (0, xR 25), (1, xR 1), (2, xI p), (3, xI l)]) 6 dX8_readRun_83 rfl (by decide) rfl (show -2147483648 ≤ e + 1 ∧ e + 1 < 2147483648 from ⟨by omega, by omega⟩).1 (show -2147483648 ≤ e + 1 ∧ e + 1 < 2147483648 from ⟨by omega, by omega⟩).2 ?_
          refine z_goto (tgt := 11) dX8_readRun_86 (by decide) ?_
          refine zW.sub (lv' := [(0, xR 25), (1, xR 1), (2, xI p), (3, xI l), (4, xI (d + 1)), (5, xI 0), (6, xI (e + 1))]) [3, 4, 5, 6, 2, 1, 0] rfl ?_
          exact k3 c1 c2 c3 c4
      ·
        refine z_iincN (lv' := [(3, xI (l + 1)), (0, xR 25), (1, xR 1), (2, xI p), (4, xI d), (5, xI n), (6, xI e)]) 3 dX8_readRun_47 rfl (by decide) rfl (show -2147483648 ≤ l + 1 ∧ l + 1 < 2147483648 from ⟨by omega, by omega⟩).1 (show -2147483648 ≤ l + 1 ∧ l + 1 < 2147483648 from ⟨by omega, by omega⟩).2 ?_
        refine z_goto (tgt := 83) dX8_readRun_50 (by decide) ?_
        refine z_iincN (lv' := [(6, xI (e + 1)), (3, xI (l + 1)), (0, xR 25), (1, xR 1), (2, xI p), (4, xI d), (5, xI n)]) 6 dX8_readRun_83 rfl (by decide) rfl (show -2147483648 ≤ e + 1 ∧ e + 1 < 2147483648 from ⟨by omega, by omega⟩).1 (show -2147483648 ≤ e + 1 ∧ e + 1 < 2147483648 from ⟨by omega, by omega⟩).2 ?_
        refine z_goto (tgt := 11) dX8_readRun_86 (by decide) ?_
        refine zW.sub (lv' := [(0, xR 25), (1, xR 1), (2, xI p), (3, xI (l + 1)), (4, xI d), (5, xI n), (6, xI (e + 1))]) [2, 3, 4, 1, 5, 6, 0] rfl ?_
        exact k4 c1 c2 c3
    ·
      refine z_aload_n 1 dX8_readRun_29 rfl ?_
      refine z_iload 6 dX8_readRun_30 rfl ?_
      refine z_invF (ci := 7) (N := 2) (as := [xI e]) (st := []) (ra := [xI e]) (dep' := dep - 1) (rs := [xI (zb (48 ≤ zat h e ∧ zat h e ≤ 57))]) (h' := h) (f_X7_isDigit e (h := h) ht (by omega)) dX8_readRun_32 nX7_isDigit zb_612 zb_613 zb_614 zb_83 (zOb.lit (by decide +kernel)) rfl (by omega) zne_I (Nat.le_of_ble_eq_true rfl) (Nat.le_of_ble_eq_true rfl) rfl ?_
      refine z_ifB_eq (C := 48 ≤ zat h e ∧ zat h e ≤ 57) (tgt := 89) dX8_readRun_35 (by decide) (fun c3 => ?_) (fun c3 => ?_)
      ·
        exact k5 c1 c2 c3
      ·
        refine z_aload_n 1 dX8_readRun_38 rfl ?_
        refine z_iload 6 dX8_readRun_39 rfl ?_
        refine z_invF (ci := 7) (N := 2) (as := [xI e]) (st := []) (ra := [xI e]) (dep' := dep - 1) (rs := [xI (zb (97 ≤ zat h e ∧ zat h e ≤ 122))]) (h' := h) (f_X7_isLetter e (h := h) ht (by omega)) dX8_readRun_41 nX7_isLetter zb_611 zb_537 zb_538 zb_83 (zOb.lit (by decide +kernel)) rfl (by omega) zne_I (Nat.le_of_ble_eq_true rfl) (Nat.le_of_ble_eq_true rfl) rfl ?_
        refine z_ifB_eq (C := 97 ≤ zat h e ∧ zat h e ≤ 122) (tgt := 53) dX8_readRun_44 (by decide) (fun c4 => ?_) (fun c4 => ?_)
        ·
          refine z_iincN (lv' := [(4, xI (d + 1)), (0, xR 25), (1, xR 1), (2, xI p), (3, xI l), (5, xI n), (6, xI e)]) 4 dX8_readRun_53 rfl (by decide) rfl (show -2147483648 ≤ d + 1 ∧ d + 1 < 2147483648 from ⟨by omega, by omega⟩).1 (show -2147483648 ≤ d + 1 ∧ d + 1 < 2147483648 from ⟨by omega, by omega⟩).2 ?_
          refine z_iload 0 dX8_readRun_56 rfl ?_
          refine z_iconst dX8_readRun_58 (zi32_d rfl) ?_
          refine z_icmp_le (tgt := 66) dX8_readRun_59 (by decide) (fun c5 => ?_) (fun c5 => ?_)
          ·
            refine z_iload 5 dX8_readRun_66 rfl ?_
            refine z_bipush dX8_readRun_68 (zi32_d rfl) (by decide) ?_
            refine z_imulN dX8_readRun_70 (show -2147483648 ≤ n * 10 ∧ n * 10 < 2147483648 from ⟨by omega, by omega⟩).1 (show -2147483648 ≤ n * 10 ∧ n * 10 < 2147483648 from ⟨by omega, by omega⟩).2 ?_
            refine z_aload_n 2 dX8_readRun_71 rfl ?_
            refine z_iload 6 dX8_readRun_72 rfl ?_
            refine z_invF (ci := 7) (N := 2) (as := [xI e]) (st := [xI (n * 10)]) (ra := [xI e]) (dep' := dep - 1) (rs := [xI (zat h e)]) (h' := h) (f_X7_at e (h := h) ht) dX8_readRun_74 nX7_at zb_620 zb_541 zb_542 zb_83 (zOb.lit (by decide +kernel)) rfl (by omega) zne_I (Nat.le_of_ble_eq_true rfl) (Nat.le_of_ble_eq_true rfl) rfl ?_
            refine z_iaddN dX8_readRun_77 (show -2147483648 ≤ (n * 10) + (zat h e) ∧ (n * 10) + (zat h e) < 2147483648 from ⟨by omega, by omega⟩).1 (show -2147483648 ≤ (n * 10) + (zat h e) ∧ (n * 10) + (zat h e) < 2147483648 from ⟨by omega, by omega⟩).2 ?_
            refine z_bipush dX8_readRun_78 (zi32_d rfl) (by decide) ?_
            refine z_isubN dX8_readRun_80 (show -2147483648 ≤ ((n * 10) + (zat h e)) - 48 ∧ ((n * 10) + (zat h e)) - 48 < 2147483648 from ⟨by omega, by omega⟩).1 (show -2147483648 ≤ ((n * 10) + (zat h e)) - 48 ∧ ((n * 10) + (zat h e)) - 48 < 2147483648 from ⟨by omega, by omega⟩).2 ?_
            refine z_istore (lv' := [(5, xI (((n * 10) + (zat h e)) - 48)), (4, xI (d + 1)), (0, xR 25), (1, xR 1), (2, xI p), (3, xI l), (6, xI e)]) dX8_readRun_81 (by decide) rfl ?_
            refine z_iincN (lv' := [(6, xI (e + 1)), (5, xI (((n * 10) + (zat h e)) - 48)), (4, xI (d + 1)), (0, xR 25), (1, xR 1), (2, xI p), (3, xI l)]) 6 dX8_readRun_83 rfl (by decide) rfl (show -2147483648 ≤ e + 1 ∧ e + 1 < 2147483648 from ⟨by omega, by omega⟩).1 (show -2147483648 ≤ e + 1 ∧ e + 1 < 2147483648 from ⟨by omega, by omega⟩).2 ?_
            refine z_goto (tgt := 11) dX8_readRun_86 (by decide) ?_
            refine zW.sub (lv' := [(0, xR 25), (1, xR 1), (2, xI p), (3, xI l), (4, xI (d + 1)), (5, xI (((n * 10) + (zat h e)) - 48)), (6, xI (e + 1))]) [3, 4, 5, 6, 2, 1, 0] rfl ?_
            exact k6 c1 c2 c3 c4 c5
          ·
            refine z_iconst dX8_readRun_62 (zi32_d rfl) ?_
            refine z_goto (tgt := 81) dX8_readRun_63 (by decide) ?_
            refine z_istore (lv' := [(5, xI 0), (4, xI (d + 1)), (0, xR 25), (1, xR 1), (2, xI p), (3, xI l), (6, xI e)]) dX8_readRun_81 (by decide) rfl ?_
            refine z_iincN (lv' := [(6, xI (e + 1)), (5, xI 0), (4, xI (d + 1)), (0, xR 25), (1, xR 1), (2, xI p), (3, xI l)]) 6 dX8_readRun_83 rfl (by decide) rfl (show -2147483648 ≤ e + 1 ∧ e + 1 < 2147483648 from ⟨by omega, by omega⟩).1 (show -2147483648 ≤ e + 1 ∧ e + 1 < 2147483648 from ⟨by omega, by omega⟩).2 ?_
            refine z_goto (tgt := 11) dX8_readRun_86 (by decide) ?_
            refine zW.sub (lv' := [(0, xR 25), (1, xR 1), (2, xI p), (3, xI l), (4, xI (d + 1)), (5, xI 0), (6, xI (e + 1))]) [3, 4, 5, 6, 2, 1, 0] rfl ?_
            exact k7 c1 c2 c3 c4 c5
        ·
          refine z_iincN (lv' := [(3, xI (l + 1)), (0, xR 25), (1, xR 1), (2, xI p), (4, xI d), (5, xI n), (6, xI e)]) 3 dX8_readRun_47 rfl (by decide) rfl (show -2147483648 ≤ l + 1 ∧ l + 1 < 2147483648 from ⟨by omega, by omega⟩).1 (show -2147483648 ≤ l + 1 ∧ l + 1 < 2147483648 from ⟨by omega, by omega⟩).2 ?_
          refine z_goto (tgt := 83) dX8_readRun_50 (by decide) ?_
          refine z_iincN (lv' := [(6, xI (e + 1)), (3, xI (l + 1)), (0, xR 25), (1, xR 1), (2, xI p), (4, xI d), (5, xI n)]) 6 dX8_readRun_83 rfl (by decide) rfl (show -2147483648 ≤ e + 1 ∧ e + 1 < 2147483648 from ⟨by omega, by omega⟩).1 (show -2147483648 ≤ e + 1 ∧ e + 1 < 2147483648 from ⟨by omega, by omega⟩).2 ?_
          refine z_goto (tgt := 11) dX8_readRun_86 (by decide) ?_
          refine zW.sub (lv' := [(0, xR 25), (1, xR 1), (2, xI p), (3, xI (l + 1)), (4, xI d), (5, xI n), (6, xI (e + 1))]) [2, 3, 4, 1, 5, 6, 0] rfl ?_
          exact k8 c1 c2 c3 c4

set_option maxRecDepth 20000 in
theorem bX8_readRun_89 {X : zX} {dep bc bs : Nat} (p : Int) (l : Int) (d : Int) (n : Int) (e : Int) {h : zH} {Q : Nat → zH → List zV → Prop}
    (k1 : ¬ d = 0 → ¬ l = 0 → zW mX8_readRun X dep bc bs 239 144 [(0, xR 25), (1, xR 1), (2, xI p), (3, xI l), (4, xI d), (5, xI n), (6, xI e)] [xR (-1), xI 0, xI p, xI 3, xR 25] h Q)
    (k2 : ¬ d = 0 → l = 0 → 4 < d → zW mX8_readRun X dep bc bs 239 144 [(0, xR 25), (1, xR 1), (2, xI p), (3, xI l), (4, xI d), (5, xI n), (6, xI e)] [xR (-1), xI 0, xI p, xI 3, xR 25] h Q)
    (k3 : ¬ d = 0 → l = 0 → ¬ (4 < d) → zW mX8_readRun X dep bc bs 239 133 [(0, xR 25), (1, xR 1), (2, xI p), (3, xI l), (4, xI d), (5, xI n), (6, xI e)] [xR (-1), xI n, xI p, xI 2, xR 25] h Q)
    (k4 : d = 0 → 8 < l → ¬ l = 0 → zW mX8_readRun X dep bc bs 239 144 [(0, xR 25), (1, xR 1), (2, xI p), (3, xI l), (4, xI d), (5, xI n), (6, xI e)] [xR (-1), xI 0, xI p, xI 3, xR 25] h Q)
    (k5 : d = 0 → 8 < l → l = 0 → 4 < d → zW mX8_readRun X dep bc bs 239 144 [(0, xR 25), (1, xR 1), (2, xI p), (3, xI l), (4, xI d), (5, xI n), (6, xI e)] [xR (-1), xI 0, xI p, xI 3, xR 25] h Q)
    (k6 : d = 0 → 8 < l → l = 0 → ¬ (4 < d) → zW mX8_readRun X dep bc bs 239 133 [(0, xR 25), (1, xR 1), (2, xI p), (3, xI l), (4, xI d), (5, xI n), (6, xI e)] [xR (-1), xI n, xI p, xI 2, xR 25] h Q)
    (k7 : d = 0 → ¬ (8 < l) → zW mX8_readRun X dep bc bs 239 108 [(0, xR 25), (1, xR 1), (2, xI p), (3, xI l), (4, xI d), (5, xI n), (6, xI e)] [xI e, xI p, xR 1, xI 0, xI p, xI 1, xR 25] h Q) : zW mX8_readRun X dep bc bs 239 89 [(0, xR 25), (1, xR 1), (2, xI p), (3, xI l), (4, xI d), (5, xI n), (6, xI e)] [] h Q := by
  refine z_iload 4 dX8_readRun_89 rfl ?_
  refine z_if_ne (tgt := 117) dX8_readRun_91 (by decide) (fun c1 => ?_) (fun c1 => ?_)
  ·
    refine z_iload_n 3 dX8_readRun_117 rfl ?_
    refine z_if_ne (tgt := 139) dX8_readRun_118 (by decide) (fun c2 => ?_) (fun c2 => ?_)
    ·
      refine z_aload_n 0 dX8_readRun_139 rfl ?_
      refine z_iconst dX8_readRun_140 (zi32_d rfl) ?_
      refine z_iload_n 2 dX8_readRun_141 rfl ?_
      refine z_iconst dX8_readRun_142 (zi32_d rfl) ?_
      refine z_anull dX8_readRun_143 ?_
      exact k1 c1 c2
    ·
      refine z_iload 4 dX8_readRun_121 rfl ?_
      refine z_iconst dX8_readRun_123 (zi32_d rfl) ?_
      refine z_icmp_gt (tgt := 139) dX8_readRun_124 (by decide) (fun c3 => ?_) (fun c3 => ?_)
      ·
        refine z_aload_n 0 dX8_readRun_139 rfl ?_
        refine z_iconst dX8_readRun_140 (zi32_d rfl) ?_
        refine z_iload_n 2 dX8_readRun_141 rfl ?_
        refine z_iconst dX8_readRun_142 (zi32_d rfl) ?_
        refine z_anull dX8_readRun_143 ?_
        exact k2 c1 c2 c3
      ·
        refine z_aload_n 0 dX8_readRun_127 rfl ?_
        refine z_iconst dX8_readRun_128 (zi32_d rfl) ?_
        refine z_iload_n 2 dX8_readRun_129 rfl ?_
        refine z_iload 5 dX8_readRun_130 rfl ?_
        refine z_anull dX8_readRun_132 ?_
        exact k3 c1 c2 c3
  ·
    refine z_iload_n 3 dX8_readRun_94 rfl ?_
    refine z_bipush dX8_readRun_95 (zi32_d rfl) (by decide) ?_
    refine z_icmp_gt (tgt := 117) dX8_readRun_97 (by decide) (fun c2 => ?_) (fun c2 => ?_)
    ·
      refine z_iload_n 3 dX8_readRun_117 rfl ?_
      refine z_if_ne (tgt := 139) dX8_readRun_118 (by decide) (fun c3 => ?_) (fun c3 => ?_)
      ·
        refine z_aload_n 0 dX8_readRun_139 rfl ?_
        refine z_iconst dX8_readRun_140 (zi32_d rfl) ?_
        refine z_iload_n 2 dX8_readRun_141 rfl ?_
        refine z_iconst dX8_readRun_142 (zi32_d rfl) ?_
        refine z_anull dX8_readRun_143 ?_
        exact k4 c1 c2 c3
      ·
        refine z_iload 4 dX8_readRun_121 rfl ?_
        refine z_iconst dX8_readRun_123 (zi32_d rfl) ?_
        refine z_icmp_gt (tgt := 139) dX8_readRun_124 (by decide) (fun c4 => ?_) (fun c4 => ?_)
        ·
          refine z_aload_n 0 dX8_readRun_139 rfl ?_
          refine z_iconst dX8_readRun_140 (zi32_d rfl) ?_
          refine z_iload_n 2 dX8_readRun_141 rfl ?_
          refine z_iconst dX8_readRun_142 (zi32_d rfl) ?_
          refine z_anull dX8_readRun_143 ?_
          exact k5 c1 c2 c3 c4
        ·
          refine z_aload_n 0 dX8_readRun_127 rfl ?_
          refine z_iconst dX8_readRun_128 (zi32_d rfl) ?_
          refine z_iload_n 2 dX8_readRun_129 rfl ?_
          refine z_iload 5 dX8_readRun_130 rfl ?_
          refine z_anull dX8_readRun_132 ?_
          exact k6 c1 c2 c3 c4
    ·
      refine z_aload_n 0 dX8_readRun_100 rfl ?_
      refine z_iconst dX8_readRun_101 (zi32_d rfl) ?_
      refine z_iload_n 2 dX8_readRun_102 rfl ?_
      refine z_iconst dX8_readRun_103 (zi32_d rfl) ?_
      refine z_aload_n 1 dX8_readRun_104 rfl ?_
      refine z_iload_n 2 dX8_readRun_105 rfl ?_
      refine z_iload 6 dX8_readRun_106 rfl ?_
      exact k7 c1 c2

set_option maxRecDepth 20000 in
theorem rX8_readRun_108 {X : zX} {dep bc bs : Nat} (p : Int) (l : Int) (d : Int) (n : Int) (e : Int) {h : zH} {Q : Nat → zH → List zV → Prop} {P : Int → zH → Prop}
    (hZ : zW mX9_find X (dep - 1) 0 0 239 0 (zar 0 [xR 1, xI p, xI e]) [] h (zQR P)) (hdep : 1 ≤ dep)
    (k : ∀ (v : Int) (g : zH), P v g → zW mX8_readRun X dep bc bs 239 111 [(0, xR 25), (1, xR 1), (2, xI p), (3, xI l), (4, xI d), (5, xI n), (6, xI e)] [xR v, xI 0, xI p, xI 1, xR 25] g Q) : zW mX8_readRun X dep bc bs 239 108 [(0, xR 25), (1, xR 1), (2, xI p), (3, xI l), (4, xI d), (5, xI n), (6, xI e)] [xI e, xI p, xR 1, xI 0, xI p, xI 1, xR 25] h Q :=
  z_invSQR (as := [xR 1, xI p, xI e]) (st := [xI 0, xI p, xI 1, xR 25]) (ra := [xI e, xI p, xR 1]) hZ dX8_readRun_108 nX9_find zb_621 zb_622 zb_95 (by omega) (Nat.le_of_ble_eq_true rfl) (Nat.le_of_ble_eq_true rfl) rfl (fun v g hg => k v g hg)

set_option maxRecDepth 20000 in
theorem rX8_readRun_111 {X : zX} {dep bc bs : Nat} (p : Int) (l : Int) (d : Int) (n : Int) (e : Int) (w : Int) {h : zH} {Q : Nat → zH → List zV → Prop} {P : zH → Prop}
    (hZ : zW mX8_add X (dep - 1) 0 0 239 0 (zar 0 [xR 25, xI 1, xI p, xI 0, xR w]) [] h (zQ0 P)) (hdep : 1 ≤ dep)
    (k : ∀ g : zH, P g → zW mX8_readRun X dep bc bs 239 114 [(0, xR 25), (1, xR 1), (2, xI p), (3, xI l), (4, xI d), (5, xI n), (6, xI e)] [] g Q) : zW mX8_readRun X dep bc bs 239 111 [(0, xR 25), (1, xR 1), (2, xI p), (3, xI l), (4, xI d), (5, xI n), (6, xI e)] [xR w, xI 0, xI p, xI 1, xR 25] h Q :=
  z_invQ0 (ci := 8) (N := 6) (as := [xI 1, xI p, xI 0, xR w]) (st := []) (ra := [xR w, xI 0, xI p, xI 1]) hZ dX8_readRun_111 nX8_add zb_678 zb_680 zb_2 zb_87 (zOb.lit (by decide +kernel)) rfl (by omega) (Nat.le_of_ble_eq_true rfl) (Nat.le_of_ble_eq_true rfl) rfl (fun g hg => k g hg)

set_option maxRecDepth 20000 in
theorem bX8_readRun_114 {X : zX} {dep bc bs : Nat} (p : Int) (l : Int) (d : Int) (n : Int) (e : Int) {h : zH} {Q : Nat → zH → List zV → Prop}
    (k1 : Q 239 h [xI e]) : zW mX8_readRun X dep bc bs 239 114 [(0, xR 25), (1, xR 1), (2, xI p), (3, xI l), (4, xI d), (5, xI n), (6, xI e)] [] h Q := by
  refine z_goto (tgt := 147) dX8_readRun_114 (by decide) ?_
  refine z_iload 6 dX8_readRun_147 rfl ?_
  exact z_iret dX8_readRun_149 rfl (k1)

set_option maxRecDepth 20000 in
theorem rX8_readRun_133 {X : zX} {dep bc bs : Nat} (p : Int) (l : Int) (d : Int) (n : Int) (e : Int) {h : zH} {Q : Nat → zH → List zV → Prop} {P : zH → Prop}
    (hZ : zW mX8_add X (dep - 1) 0 0 239 0 (zar 0 [xR 25, xI 2, xI p, xI n, xR (-1)]) [] h (zQ0 P)) (hdep : 1 ≤ dep)
    (k : ∀ g : zH, P g → zW mX8_readRun X dep bc bs 239 136 [(0, xR 25), (1, xR 1), (2, xI p), (3, xI l), (4, xI d), (5, xI n), (6, xI e)] [] g Q) : zW mX8_readRun X dep bc bs 239 133 [(0, xR 25), (1, xR 1), (2, xI p), (3, xI l), (4, xI d), (5, xI n), (6, xI e)] [xR (-1), xI n, xI p, xI 2, xR 25] h Q :=
  z_invQ0 (ci := 8) (N := 6) (as := [xI 2, xI p, xI n, xR (-1)]) (st := []) (ra := [xR (-1), xI n, xI p, xI 2]) hZ dX8_readRun_133 nX8_add zb_678 zb_680 zb_2 zb_87 (zOb.lit (by decide +kernel)) rfl (by omega) (Nat.le_of_ble_eq_true rfl) (Nat.le_of_ble_eq_true rfl) rfl (fun g hg => k g hg)

set_option maxRecDepth 20000 in
theorem bX8_readRun_136 {X : zX} {dep bc bs : Nat} (p : Int) (l : Int) (d : Int) (n : Int) (e : Int) {h : zH} {Q : Nat → zH → List zV → Prop}
    (k1 : Q 239 h [xI e]) : zW mX8_readRun X dep bc bs 239 136 [(0, xR 25), (1, xR 1), (2, xI p), (3, xI l), (4, xI d), (5, xI n), (6, xI e)] [] h Q := by
  refine z_goto (tgt := 147) dX8_readRun_136 (by decide) ?_
  refine z_iload 6 dX8_readRun_147 rfl ?_
  exact z_iret dX8_readRun_149 rfl (k1)

set_option maxRecDepth 20000 in
theorem rX8_readRun_144 {X : zX} {dep bc bs : Nat} (p : Int) (l : Int) (d : Int) (n : Int) (e : Int) {h : zH} {Q : Nat → zH → List zV → Prop} {P : zH → Prop}
    (hZ : zW mX8_add X (dep - 1) 0 0 239 0 (zar 0 [xR 25, xI 3, xI p, xI 0, xR (-1)]) [] h (zQ0 P)) (hdep : 1 ≤ dep)
    (k : ∀ g : zH, P g → zW mX8_readRun X dep bc bs 239 147 [(0, xR 25), (1, xR 1), (2, xI p), (3, xI l), (4, xI d), (5, xI n), (6, xI e)] [] g Q) : zW mX8_readRun X dep bc bs 239 144 [(0, xR 25), (1, xR 1), (2, xI p), (3, xI l), (4, xI d), (5, xI n), (6, xI e)] [xR (-1), xI 0, xI p, xI 3, xR 25] h Q :=
  z_invQ0 (ci := 8) (N := 6) (as := [xI 3, xI p, xI 0, xR (-1)]) (st := []) (ra := [xR (-1), xI 0, xI p, xI 3]) hZ dX8_readRun_144 nX8_add zb_678 zb_680 zb_2 zb_87 (zOb.lit (by decide +kernel)) rfl (by omega) (Nat.le_of_ble_eq_true rfl) (Nat.le_of_ble_eq_true rfl) rfl (fun g hg => k g hg)

set_option maxRecDepth 20000 in
theorem bX8_readRun_147 {X : zX} {dep bc bs : Nat} (p : Int) (l : Int) (d : Int) (n : Int) (e : Int) {h : zH} {Q : Nat → zH → List zV → Prop}
    (k1 : Q 239 h [xI e]) : zW mX8_readRun X dep bc bs 239 147 [(0, xR 25), (1, xR 1), (2, xI p), (3, xI l), (4, xI d), (5, xI n), (6, xI e)] [] h Q := by
  refine z_iload 6 dX8_readRun_147 rfl ?_
  exact z_iret dX8_readRun_149 rfl (k1)

set_option maxRecDepth 20000 in
theorem bX8_read_0 {X : zX} {dep bc bs : Nat} {h : zH} {Q : Nat → zH → List zV → Prop} (ht : 0 ≤ h 1 1 ∧ h 1 1 ≤ 340) (hdep : 1 ≤ dep)
    (k1 : zW mX8_read X dep bc bs 239 40 [(0, xR 25), (1, xR 1), (2, xI (min (h 1 1) 300)), (3, xI 0), (4, xI 0)] [] (zst (zst h 25 5 (if (h 1 1) ≤ 300 then 0 else 1 : Int)) 25 4 0) Q) : zW mX8_read X dep bc bs 239 0 [(0, xR 25), (1, xR 1)] [] h Q := by
  refine z_aload_n 1 dX8_read_0 rfl ?_
  refine z_getI (k := 1) (kz := 1) pk7 dX8_read_1 (by decide) zb_120 rfl (zOb.lit (by decide +kernel)) rfl ?_
  refine z_sipush dX8_read_4 (zi32_d rfl) (by decide) ?_
  refine z_invSF (as := [xI (h 1 1), xI 300]) (st := []) (ra := [xI 300, xI (h 1 1)]) (dep' := dep - 1) (rs := [xI (min (h 1 1) 300)]) (h' := h) (f_J9_min_7cf53 (h 1 1) 300 (h := h) ) dX8_read_7 nJ9_min_7cf53 zb_604 zb_605 zb_93 (by omega) zne_I (Nat.le_of_ble_eq_true rfl) (Nat.le_of_ble_eq_true rfl) rfl ?_
  refine z_istore_n (lv' := [(2, xI (min (h 1 1) 300)), (0, xR 25), (1, xR 1)]) dX8_read_10 (by decide) rfl ?_
  refine z_aload_n 1 dX8_read_11 rfl ?_
  refine z_aload_n 2 dX8_read_12 rfl ?_
  refine z_getI (k := 1) (kz := 1) pk7 dX8_read_13 (by decide) zb_120 rfl (zOb.lit (by decide +kernel)) rfl ?_
  refine z_sipush dX8_read_16 (zi32_d rfl) (by decide) ?_
  suffices KJ : zW mX8_read X dep bc bs 239 27 [(2, xI (min (h 1 1) 300)), (0, xR 25), (1, xR 1)] [xI (if (h 1 1) ≤ 300 then 0 else 1 : Int), xR 25] h Q by
    refine z_icmp_le (tgt := 26) dX8_read_19 (by decide) (fun j1 => ?_) (fun j1 => ?_)
    ·
      refine z_iconst dX8_read_26 (zi32_d rfl) ?_
      rw [if_pos j1] at KJ
      exact KJ
    ·
      refine z_iconst dX8_read_22 (zi32_d rfl) ?_
      refine z_goto (tgt := 27) dX8_read_23 (by decide) ?_
      rw [if_neg j1] at KJ
      exact KJ
  refine z_putI (k := 5) (kz := 5) pk8 dX8_read_27 (by decide) zb_251 rfl (zFit_bool (by repeat (first | (left; rfl) | (right; rfl) | split))) (zOb.lit (by decide +kernel)) rfl ?_
  refine z_aload_n 1 dX8_read_30 rfl ?_
  refine z_iconst dX8_read_31 (zi32_d rfl) ?_
  refine z_putI (k := 4) (kz := 4) pk8 dX8_read_32 (by decide) zb_249 rfl (zFit_int _) (zOb.lit (by decide +kernel)) rfl ?_
  refine z_iconst dX8_read_35 (zi32_d rfl) ?_
  refine z_istore_n (lv' := [(3, xI 0), (2, xI (min (h 1 1) 300)), (0, xR 25), (1, xR 1)]) dX8_read_36 (by decide) rfl ?_
  refine z_iconst dX8_read_37 (zi32_d rfl) ?_
  refine z_istore (lv' := [(4, xI 0), (3, xI 0), (2, xI (min (h 1 1) 300)), (0, xR 25), (1, xR 1)]) dX8_read_38 (by decide) rfl ?_
  refine zW.sub (lv' := [(0, xR 25), (1, xR 1), (2, xI (min (h 1 1) 300)), (3, xI 0), (4, xI 0)]) [3, 4, 2, 1, 0] rfl ?_
  exact k1

set_option maxRecDepth 20000 in
theorem bX8_read_40 {X : zX} {dep bc bs : Nat} (x : Int) (a : Int) (n : Int) {h : zH} {Q : Nat → zH → List zV → Prop} (ht : 0 ≤ h 1 1 ∧ h 1 1 ≤ 340) (ha : 0 ≤ a ∧ a ≤ 340 ∧ 0 ≤ n ∧ n ≤ 300) (hdep : 2 ≤ dep)
    (k1 : 300 ≤ n → zW mX8_read X dep bc bs 239 134 [(0, xR 25), (1, xR 1), (2, xI x), (3, xI a), (4, xI n)] [xR (-1), xI 0, xI x, xI 0, xR 25] h Q)
    (k2 : ¬ (300 ≤ n) → x ≤ a → zW mX8_read X dep bc bs 239 134 [(0, xR 25), (1, xR 1), (2, xI x), (3, xI a), (4, xI n)] [xR (-1), xI 0, xI x, xI 0, xR 25] h Q)
    (k3 : ¬ (300 ≤ n) → ¬ (x ≤ a) → ¬ (zat h a = 32 ∨ zat h a = 10) → 97 ≤ zat h a ∧ zat h a ≤ 122 → zW mX8_read X dep bc bs 239 86 [(0, xR 25), (1, xR 1), (2, xI x), (3, xI a), (4, xI n)] [xI a, xR 1, xR 25] h Q)
    (k4 : ¬ (300 ≤ n) → ¬ (x ≤ a) → ¬ (zat h a = 32 ∨ zat h a = 10) → ¬ (97 ≤ zat h a ∧ zat h a ≤ 122) → ¬ (48 ≤ zat h a ∧ zat h a ≤ 57) → ¬ ((zat h a) = 59 ∨ (zat h a) = 40 ∨ (zat h a) = 41 ∨ (zat h a) = 60 ∨ (zat h a) = 61 ∨ (zat h a) = 62) → zW mX8_read X dep bc bs 239 117 [(0, xR 25), (1, xR 1), (2, xI x), (3, xI a), (4, xI n)] [xR (-1), xI 0, xI a, xI 3, xR 25] h Q)
    (k5 : ¬ (300 ≤ n) → ¬ (x ≤ a) → ¬ (zat h a = 32 ∨ zat h a = 10) → ¬ (97 ≤ zat h a ∧ zat h a ≤ 122) → ¬ (48 ≤ zat h a ∧ zat h a ≤ 57) → (zat h a) = 59 ∨ (zat h a) = 40 ∨ (zat h a) = 41 ∨ (zat h a) = 60 ∨ (zat h a) = 61 ∨ (zat h a) = 62 → zW mX8_read X dep bc bs 239 117 [(0, xR 25), (1, xR 1), (2, xI x), (3, xI a), (4, xI n)] [xR (-1), xI 0, xI a, xI (zat h a), xR 25] h Q)
    (k6 : ¬ (300 ≤ n) → ¬ (x ≤ a) → ¬ (zat h a = 32 ∨ zat h a = 10) → ¬ (97 ≤ zat h a ∧ zat h a ≤ 122) → 48 ≤ zat h a ∧ zat h a ≤ 57 → zW mX8_read X dep bc bs 239 86 [(0, xR 25), (1, xR 1), (2, xI x), (3, xI a), (4, xI n)] [xI a, xR 1, xR 25] h Q)
    (k7 : ¬ (300 ≤ n) → ¬ (x ≤ a) → zat h a = 32 ∨ zat h a = 10 → zW mX8_read X dep bc bs 239 40 [(0, xR 25), (1, xR 1), (2, xI x), (3, xI (a + 1)), (4, xI (n + 1))] [] h Q) : zW mX8_read X dep bc bs 239 40 [(0, xR 25), (1, xR 1), (2, xI x), (3, xI a), (4, xI n)] [] h Q := by
  refine z_iload 4 dX8_read_40 rfl ?_
  refine z_sipush dX8_read_42 (zi32_d rfl) (by decide) ?_
  refine z_icmp_ge (tgt := 129) dX8_read_45 (by decide) (fun c1 => ?_) (fun c1 => ?_)
  ·
    refine z_aload_n 0 dX8_read_129 rfl ?_
    refine z_iconst dX8_read_130 (zi32_d rfl) ?_
    refine z_iload_n 2 dX8_read_131 rfl ?_
    refine z_iconst dX8_read_132 (zi32_d rfl) ?_
    refine z_anull dX8_read_133 ?_
    exact k1 c1
  ·
    refine z_iload_n 3 dX8_read_48 rfl ?_
    refine z_iload_n 2 dX8_read_49 rfl ?_
    refine z_icmp_ge (tgt := 129) dX8_read_50 (by decide) (fun c2 => ?_) (fun c2 => ?_)
    ·
      refine z_aload_n 0 dX8_read_129 rfl ?_
      refine z_iconst dX8_read_130 (zi32_d rfl) ?_
      refine z_iload_n 2 dX8_read_131 rfl ?_
      refine z_iconst dX8_read_132 (zi32_d rfl) ?_
      refine z_anull dX8_read_133 ?_
      exact k2 c1 c2
    ·
      refine z_aload_n 1 dX8_read_53 rfl ?_
      refine z_iload_n 3 dX8_read_54 rfl ?_
      refine z_invF (ci := 7) (N := 2) (as := [xI a]) (st := []) (ra := [xI a]) (dep' := dep - 1) (rs := [xI (zb (zat h a = 32 ∨ zat h a = 10))]) (h' := h) (f_X7_isBlank a (h := h) ht (by omega)) dX8_read_55 nX7_isBlank zb_607 zb_608 zb_609 zb_83 (zOb.lit (by decide +kernel)) rfl (by omega) zne_I (Nat.le_of_ble_eq_true rfl) (Nat.le_of_ble_eq_true rfl) rfl ?_
      refine z_ifB_eq (C := zat h a = 32 ∨ zat h a = 10) (tgt := 67) dX8_read_58 (by decide) (fun c3 => ?_) (fun c3 => ?_)
      ·
        refine z_aload_n 1 dX8_read_67 rfl ?_
        refine z_iload_n 3 dX8_read_68 rfl ?_
        refine z_invF (ci := 7) (N := 2) (as := [xI a]) (st := []) (ra := [xI a]) (dep' := dep - 1) (rs := [xI (zb (97 ≤ zat h a ∧ zat h a ≤ 122))]) (h' := h) (f_X7_isLetter a (h := h) ht (by omega)) dX8_read_69 nX7_isLetter zb_611 zb_537 zb_538 zb_83 (zOb.lit (by decide +kernel)) rfl (by omega) zne_I (Nat.le_of_ble_eq_true rfl) (Nat.le_of_ble_eq_true rfl) rfl ?_
        refine z_ifB_ne (C := 97 ≤ zat h a ∧ zat h a ≤ 122) (tgt := 83) dX8_read_72 (by decide) (fun c4 => ?_) (fun c4 => ?_)
        ·
          refine z_aload_n 0 dX8_read_83 rfl ?_
          refine z_aload_n 1 dX8_read_84 rfl ?_
          refine z_iload_n 3 dX8_read_85 rfl ?_
          exact k3 c1 c2 c3 c4
        ·
          refine z_aload_n 1 dX8_read_75 rfl ?_
          refine z_iload_n 3 dX8_read_76 rfl ?_
          refine z_invF (ci := 7) (N := 2) (as := [xI a]) (st := []) (ra := [xI a]) (dep' := dep - 1) (rs := [xI (zb (48 ≤ zat h a ∧ zat h a ≤ 57))]) (h' := h) (f_X7_isDigit a (h := h) ht (by omega)) dX8_read_77 nX7_isDigit zb_612 zb_613 zb_614 zb_83 (zOb.lit (by decide +kernel)) rfl (by omega) zne_I (Nat.le_of_ble_eq_true rfl) (Nat.le_of_ble_eq_true rfl) rfl ?_
          refine z_ifB_eq (C := 48 ≤ zat h a ∧ zat h a ≤ 57) (tgt := 93) dX8_read_80 (by decide) (fun c5 => ?_) (fun c5 => ?_)
          ·
            refine z_aload_n 0 dX8_read_93 rfl ?_
            refine z_aload_n 1 dX8_read_94 rfl ?_
            refine z_iload_n 3 dX8_read_95 rfl ?_
            refine z_invF (ci := 7) (N := 2) (as := [xI a]) (st := [xR 25]) (ra := [xI a]) (dep' := dep - 1) (rs := [xI (zat h a)]) (h' := h) (f_X7_at a (h := h) ht) dX8_read_96 nX7_at zb_620 zb_541 zb_542 zb_83 (zOb.lit (by decide +kernel)) rfl (by omega) zne_I (Nat.le_of_ble_eq_true rfl) (Nat.le_of_ble_eq_true rfl) rfl ?_
            refine z_invSF (as := [xI (zat h a)]) (st := [xR 25]) (ra := [xI (zat h a)]) (dep' := dep - 1) (rs := [xI (zb ((zat h a) = 59 ∨ (zat h a) = 40 ∨ (zat h a) = 41 ∨ (zat h a) = 60 ∨ (zat h a) = 61 ∨ (zat h a) = 62))]) (h' := h) (f_X8_isSign (zat h a) (h := h) ) dX8_read_99 nX8_isSign zb_682 zb_683 zb_87 (by omega) zne_I (Nat.le_of_ble_eq_true rfl) (Nat.le_of_ble_eq_true rfl) rfl ?_
            refine z_ifB_eq (C := (zat h a) = 59 ∨ (zat h a) = 40 ∨ (zat h a) = 41 ∨ (zat h a) = 60 ∨ (zat h a) = 61 ∨ (zat h a) = 62) (tgt := 113) dX8_read_102 (by decide) (fun c6 => ?_) (fun c6 => ?_)
            ·
              refine z_iconst dX8_read_113 (zi32_d rfl) ?_
              refine z_iload_n 3 dX8_read_114 rfl ?_
              refine z_iconst dX8_read_115 (zi32_d rfl) ?_
              refine z_anull dX8_read_116 ?_
              exact k4 c1 c2 c3 c4 c5 c6
            ·
              refine z_aload_n 1 dX8_read_105 rfl ?_
              refine z_iload_n 3 dX8_read_106 rfl ?_
              refine z_invF (ci := 7) (N := 2) (as := [xI a]) (st := [xR 25]) (ra := [xI a]) (dep' := dep - 1) (rs := [xI (zat h a)]) (h' := h) (f_X7_at a (h := h) ht) dX8_read_107 nX7_at zb_620 zb_541 zb_542 zb_83 (zOb.lit (by decide +kernel)) rfl (by omega) zne_I (Nat.le_of_ble_eq_true rfl) (Nat.le_of_ble_eq_true rfl) rfl ?_
              refine z_goto (tgt := 114) dX8_read_110 (by decide) ?_
              refine z_iload_n 3 dX8_read_114 rfl ?_
              refine z_iconst dX8_read_115 (zi32_d rfl) ?_
              refine z_anull dX8_read_116 ?_
              exact k5 c1 c2 c3 c4 c5 c6
          ·
            refine z_aload_n 0 dX8_read_83 rfl ?_
            refine z_aload_n 1 dX8_read_84 rfl ?_
            refine z_iload_n 3 dX8_read_85 rfl ?_
            exact k6 c1 c2 c3 c4 c5
      ·
        refine z_iincN (lv' := [(3, xI (a + 1)), (0, xR 25), (1, xR 1), (2, xI x), (4, xI n)]) 3 dX8_read_61 rfl (by decide) rfl (show -2147483648 ≤ a + 1 ∧ a + 1 < 2147483648 from ⟨by omega, by omega⟩).1 (show -2147483648 ≤ a + 1 ∧ a + 1 < 2147483648 from ⟨by omega, by omega⟩).2 ?_
        refine z_goto (tgt := 123) dX8_read_64 (by decide) ?_
        refine z_iincN (lv' := [(4, xI (n + 1)), (3, xI (a + 1)), (0, xR 25), (1, xR 1), (2, xI x)]) 4 dX8_read_123 rfl (by decide) rfl (show -2147483648 ≤ n + 1 ∧ n + 1 < 2147483648 from ⟨by omega, by omega⟩).1 (show -2147483648 ≤ n + 1 ∧ n + 1 < 2147483648 from ⟨by omega, by omega⟩).2 ?_
        refine z_goto (tgt := 40) dX8_read_126 (by decide) ?_
        refine zW.sub (lv' := [(0, xR 25), (1, xR 1), (2, xI x), (3, xI (a + 1)), (4, xI (n + 1))]) [2, 3, 4, 1, 0] rfl ?_
        exact k7 c1 c2 c3

set_option maxRecDepth 20000 in
theorem rX8_read_86 {X : zX} {dep bc bs : Nat} (x : Int) (a : Int) (n : Int) {h : zH} {Q : Nat → zH → List zV → Prop} {P : Int → zH → Prop}
    (hZ : zW mX8_readRun X (dep - 1) 0 0 239 0 (zar 0 [xR 25, xR 1, xI a]) [] h (zQI P)) (hdep : 1 ≤ dep)
    (k : ∀ (v : Int) (g : zH), P v g → zW mX8_read X dep bc bs 239 89 [(0, xR 25), (1, xR 1), (2, xI x), (3, xI a), (4, xI n)] [xI v] g Q) : zW mX8_read X dep bc bs 239 86 [(0, xR 25), (1, xR 1), (2, xI x), (3, xI a), (4, xI n)] [xI a, xR 1, xR 25] h Q :=
  z_invQI (ci := 8) (N := 6) (as := [xR 1, xI a]) (st := []) (ra := [xI a, xR 1]) hZ dX8_read_86 nX8_readRun zb_616 zb_618 zb_1 zb_87 (zOb.lit (by decide +kernel)) rfl (by omega) (Nat.le_of_ble_eq_true rfl) (Nat.le_of_ble_eq_true rfl) rfl (fun v g hg => k v g hg)

set_option maxRecDepth 20000 in
theorem bX8_read_89 {X : zX} {dep bc bs : Nat} (x : Int) (a : Int) (n : Int) (y : Int) {h : zH} {Q : Nat → zH → List zV → Prop} (hn : 0 ≤ n ∧ n ≤ 300)
    (k1 : zW mX8_read X dep bc bs 239 40 [(0, xR 25), (1, xR 1), (2, xI x), (3, xI y), (4, xI (n + 1))] [] h Q) : zW mX8_read X dep bc bs 239 89 [(0, xR 25), (1, xR 1), (2, xI x), (3, xI a), (4, xI n)] [xI y] h Q := by
  refine z_istore_n (lv' := [(3, xI y), (0, xR 25), (1, xR 1), (2, xI x), (4, xI n)]) dX8_read_89 (by decide) rfl ?_
  refine z_goto (tgt := 123) dX8_read_90 (by decide) ?_
  refine z_iincN (lv' := [(4, xI (n + 1)), (3, xI y), (0, xR 25), (1, xR 1), (2, xI x)]) 4 dX8_read_123 rfl (by decide) rfl (show -2147483648 ≤ n + 1 ∧ n + 1 < 2147483648 from ⟨by omega, by omega⟩).1 (show -2147483648 ≤ n + 1 ∧ n + 1 < 2147483648 from ⟨by omega, by omega⟩).2 ?_
  refine z_goto (tgt := 40) dX8_read_126 (by decide) ?_
  refine zW.sub (lv' := [(0, xR 25), (1, xR 1), (2, xI x), (3, xI y), (4, xI (n + 1))]) [2, 3, 4, 1, 0] rfl ?_
  exact k1

set_option maxRecDepth 20000 in
theorem rX8_read_117 {X : zX} {dep bc bs : Nat} (x : Int) (a : Int) (n : Int) (y : Int) {h : zH} {Q : Nat → zH → List zV → Prop} {P : zH → Prop}
    (hZ : zW mX8_add X (dep - 1) 0 0 239 0 (zar 0 [xR 25, xI y, xI a, xI 0, xR (-1)]) [] h (zQ0 P)) (hdep : 1 ≤ dep)
    (k : ∀ g : zH, P g → zW mX8_read X dep bc bs 239 120 [(0, xR 25), (1, xR 1), (2, xI x), (3, xI a), (4, xI n)] [] g Q) : zW mX8_read X dep bc bs 239 117 [(0, xR 25), (1, xR 1), (2, xI x), (3, xI a), (4, xI n)] [xR (-1), xI 0, xI a, xI y, xR 25] h Q :=
  z_invQ0 (ci := 8) (N := 6) (as := [xI y, xI a, xI 0, xR (-1)]) (st := []) (ra := [xR (-1), xI 0, xI a, xI y]) hZ dX8_read_117 nX8_add zb_678 zb_680 zb_2 zb_87 (zOb.lit (by decide +kernel)) rfl (by omega) (Nat.le_of_ble_eq_true rfl) (Nat.le_of_ble_eq_true rfl) rfl (fun g hg => k g hg)

set_option maxRecDepth 20000 in
theorem bX8_read_120 {X : zX} {dep bc bs : Nat} (x : Int) (a : Int) (n : Int) {h : zH} {Q : Nat → zH → List zV → Prop} (ha : 0 ≤ a ∧ a ≤ 340 ∧ 0 ≤ n ∧ n ≤ 300)
    (k1 : zW mX8_read X dep bc bs 239 40 [(0, xR 25), (1, xR 1), (2, xI x), (3, xI (a + 1)), (4, xI (n + 1))] [] h Q) : zW mX8_read X dep bc bs 239 120 [(0, xR 25), (1, xR 1), (2, xI x), (3, xI a), (4, xI n)] [] h Q := by
  refine z_iincN (lv' := [(3, xI (a + 1)), (0, xR 25), (1, xR 1), (2, xI x), (4, xI n)]) 3 dX8_read_120 rfl (by decide) rfl (show -2147483648 ≤ a + 1 ∧ a + 1 < 2147483648 from ⟨by omega, by omega⟩).1 (show -2147483648 ≤ a + 1 ∧ a + 1 < 2147483648 from ⟨by omega, by omega⟩).2 ?_
  refine z_iincN (lv' := [(4, xI (n + 1)), (3, xI (a + 1)), (0, xR 25), (1, xR 1), (2, xI x)]) 4 dX8_read_123 rfl (by decide) rfl (show -2147483648 ≤ n + 1 ∧ n + 1 < 2147483648 from ⟨by omega, by omega⟩).1 (show -2147483648 ≤ n + 1 ∧ n + 1 < 2147483648 from ⟨by omega, by omega⟩).2 ?_
  refine z_goto (tgt := 40) dX8_read_126 (by decide) ?_
  refine zW.sub (lv' := [(0, xR 25), (1, xR 1), (2, xI x), (3, xI (a + 1)), (4, xI (n + 1))]) [2, 3, 4, 1, 0] rfl ?_
  exact k1

set_option maxRecDepth 20000 in
theorem bX8_read_129 {X : zX} {dep bc bs : Nat} (x : Int) (a : Int) (n : Int) {h : zH} {Q : Nat → zH → List zV → Prop}
    (k1 : zW mX8_read X dep bc bs 239 134 [(0, xR 25), (1, xR 1), (2, xI x), (3, xI a), (4, xI n)] [xR (-1), xI 0, xI x, xI 0, xR 25] h Q) : zW mX8_read X dep bc bs 239 129 [(0, xR 25), (1, xR 1), (2, xI x), (3, xI a), (4, xI n)] [] h Q := by
  refine z_aload_n 0 dX8_read_129 rfl ?_
  refine z_iconst dX8_read_130 (zi32_d rfl) ?_
  refine z_iload_n 2 dX8_read_131 rfl ?_
  refine z_iconst dX8_read_132 (zi32_d rfl) ?_
  refine z_anull dX8_read_133 ?_
  exact k1

set_option maxRecDepth 20000 in
theorem rX8_read_134 {X : zX} {dep bc bs : Nat} (x : Int) (a : Int) (n : Int) {h : zH} {Q : Nat → zH → List zV → Prop} {P : zH → Prop}
    (hZ : zW mX8_add X (dep - 1) 0 0 239 0 (zar 0 [xR 25, xI 0, xI x, xI 0, xR (-1)]) [] h (zQ0 P)) (hdep : 1 ≤ dep)
    (k : ∀ g : zH, P g → zW mX8_read X dep bc bs 239 137 [(0, xR 25), (1, xR 1), (2, xI x), (3, xI a), (4, xI n)] [] g Q) : zW mX8_read X dep bc bs 239 134 [(0, xR 25), (1, xR 1), (2, xI x), (3, xI a), (4, xI n)] [xR (-1), xI 0, xI x, xI 0, xR 25] h Q :=
  z_invQ0 (ci := 8) (N := 6) (as := [xI 0, xI x, xI 0, xR (-1)]) (st := []) (ra := [xR (-1), xI 0, xI x, xI 0]) hZ dX8_read_134 nX8_add zb_678 zb_680 zb_2 zb_87 (zOb.lit (by decide +kernel)) rfl (by omega) (Nat.le_of_ble_eq_true rfl) (Nat.le_of_ble_eq_true rfl) rfl (fun g hg => k g hg)

set_option maxRecDepth 20000 in
theorem bX8_read_137 {X : zX} {dep bc bs : Nat} (x : Int) (a : Int) (n : Int) {h : zH} {Q : Nat → zH → List zV → Prop}
    (k1 : Q 239 h []) : zW mX8_read X dep bc bs 239 137 [(0, xR 25), (1, xR 1), (2, xI x), (3, xI a), (4, xI n)] [] h Q := by
  exact z_ret dX8_read_137 rfl (k1)

/-- a token more -/
def zad (h : zH) (k s v w : Int) : zH := zst (zst (zst (zst (zst h 26 (h 25 4) k) 27 (h 25 4) s) 28 (h 25 4) v) 29 (h 25 4) w) 25 4 (h 25 4 + 1)
theorem f_X8_add {X : zX} {dep : Nat} (k s v w : Int) {h : zH} (hc : 0 ≤ h 25 4 ∧ h 25 4 < 301) (hw : zWd w) : zW mX8_add X dep 0 0 239 0 (zar 0 [xR 25, xI k, xI s, xI v, xR w]) [] h (zQ0 (fun g => g = zad h k s v w)) :=
  bX8_add_0 k s v w hc hw (fun c => absurd c (by omega)) (fun _ => ⟨rfl, rfl, rfl⟩)
theorem l_X8_readRun_89 {X : zX} {dep : Nat} (p : Int) (n : Nat) {h : zH} (ht : 0 ≤ h 1 1 ∧ h 1 1 ≤ 340) (hc : 0 ≤ h 25 4 ∧ h 25 4 < 301) (hp : 0 ≤ p ∧ p + n ≤ 340) (hn : 1 ≤ n) (hr : ∀ i : Int, 0 ≤ i → i < n → zrc (zat h (p + i))) (he : ¬ zrc (zat h (p + n))) (hdep : 6 ≤ dep) :
    zW mX8_readRun X dep 0 0 239 89 [(0, xR 25), (1, xR 1), (2, xI p), (3, xI (n - (zvl (zat h) p n).1)), (4, xI (zvl (zat h) p n).1), (5, xI (zvl (zat h) p n).2), (6, xI (p + n))] [] h
      (zQI (fun v g => v = zre (zat h) 400 p ∧ g = zad h (zkd (zat h) p) p (zvv (zat h) p) (zww (zat h) p))) := by
  have e1 : zre (zat h) 400 p = p + n := zre_run n 400 p (by omega) hr he
  have e2 : zrn (zat h) p = n := by unfold zrn; rw [e1]; omega
  have r0 : zrc (zat h p) := by have := hr 0 (by omega) (by omega); rw [Int.add_zero] at this; exact this
  have vi := zvl_in n hr
  have k3 : ¬ ((zvl (zat h) p n).1 = 0 ∧ n ≤ 8) → ¬ ((zvl (zat h) p n).1 = (n : Nat) ∧ (zvl (zat h) p n).1 ≤ 4) → zW mX8_readRun X dep 0 0 239 144 [(0, xR 25), (1, xR 1), (2, xI p), (3, xI (n - (zvl (zat h) p n).1)), (4, xI (zvl (zat h) p n).1), (5, xI (zvl (zat h) p n).2), (6, xI (p + n))] [xR (-1), xI 0, xI p, xI 3, xR 25] h
      (zQI (fun v g => v = zre (zat h) 400 p ∧ g = zad h (zkd (zat h) p) p (zvv (zat h) p) (zww (zat h) p))) := by
    intro c1 c2
    have ek : zkd (zat h) p = 3 := by unfold zkd; rw [if_pos r0, e2, if_neg c1, if_neg c2]
    refine rX8_readRun_144 p _ _ _ _ (f_X8_add 3 p 0 (-1) hc (Or.inl rfl)) (by omega) (fun g hg => ?_)
    refine bX8_readRun_147 p _ _ _ _ ?_
    refine ⟨rfl, _, rfl, e1.symm, ?_⟩
    rw [hg, ek, show zvv (zat h) p = 0 from if_neg (fun z => by rw [ek] at z; exact absurd z.2 (by decide)), show zww (zat h) p = -1 from if_neg (fun z => by rw [ek] at z; exact absurd z.2 (by decide))]
  have k2 : ¬ ((zvl (zat h) p n).1 = 0 ∧ n ≤ 8) → ((zvl (zat h) p n).1 = (n : Nat) ∧ (zvl (zat h) p n).1 ≤ 4) → zW mX8_readRun X dep 0 0 239 133 [(0, xR 25), (1, xR 1), (2, xI p), (3, xI (n - (zvl (zat h) p n).1)), (4, xI (zvl (zat h) p n).1), (5, xI (zvl (zat h) p n).2), (6, xI (p + n))] [xR (-1), xI (zvl (zat h) p n).2, xI p, xI 2, xR 25] h
      (zQI (fun v g => v = zre (zat h) 400 p ∧ g = zad h (zkd (zat h) p) p (zvv (zat h) p) (zww (zat h) p))) := by
    intro c1 c2
    have ek : zkd (zat h) p = 2 := by unfold zkd; rw [if_pos r0, e2, if_neg c1, if_pos c2]
    refine rX8_readRun_133 p _ _ _ _ (f_X8_add 2 p _ (-1) hc (Or.inl rfl)) (by omega) (fun g hg => ?_)
    refine bX8_readRun_136 p _ _ _ _ ?_
    refine ⟨rfl, _, rfl, e1.symm, ?_⟩
    rw [hg, ek, show zvv (zat h) p = (zvl (zat h) p n).2 by unfold zvv; rw [if_pos ⟨r0, ek⟩, e2], show zww (zat h) p = -1 from if_neg (fun z => by rw [ek] at z; exact absurd z.2 (by decide))]
  refine bX8_readRun_89 p _ _ _ _ (fun c1 c2 => k3 (by omega) (by omega)) (fun c1 c2 c3 => k3 (by omega) (by omega)) (fun c1 c2 c3 => k2 (by omega) (by omega)) (fun c1 c2 c3 => k3 (by omega) (by omega)) (fun c1 c2 c3 c4 => k3 (by omega) (by omega)) (fun c1 c2 c3 c4 => k2 (by omega) (by omega)) (fun c1 c2 => ?_)
  have ek : zkd (zat h) p = 1 := by unfold zkd; rw [if_pos r0, e2, if_pos ⟨c1, by omega⟩]
  refine rX8_readRun_108 p _ _ _ _ (P := fun v g => v = zfw (zat h) p (p + n) 22 0 ∧ g = h) ((f_X9_find p (p + n) ht (by omega) (by omega)).weaken (fun _ _ _ q => ⟨q.1, _, q.2.2, rfl, q.2.1⟩)) (by omega) (fun v g hg => ?_)
  obtain ⟨rfl, rfl⟩ := hg
  refine rX8_readRun_111 p _ _ _ _ _ (f_X8_add 1 p 0 _ hc (zfw_in _ _ _ 22 0 (by omega) (by omega))) (by omega) (fun g hg => ?_)
  refine bX8_readRun_114 p _ _ _ _ ?_
  refine ⟨rfl, _, rfl, e1.symm, ?_⟩
  rw [hg, ek, show zvv (zat h) p = 0 from if_neg (fun z => by rw [ek] at z; exact absurd z.2 (by decide)), show zww (zat h) p = zfw (zat h) p (p + n) 22 0 by unfold zww; rw [if_pos ⟨r0, ek⟩, e1]]
theorem l_X8_readRun_11 {X : zX} {dep : Nat} (p : Int) {h : zH} (ht : 0 ≤ h 1 1 ∧ h 1 1 ≤ 340) (hc : 0 ≤ h 25 4 ∧ h 25 4 < 301) (hp : 0 ≤ p ∧ p < h 1 1) (hp1 : zrc (zat h p)) (hdep : 6 ≤ dep) : ∀ (k n : Nat), p + n + k = h 1 1 → (∀ i : Int, 0 ≤ i → i < n → zrc (zat h (p + i))) →
    zW mX8_readRun X dep 0 0 239 11 [(0, xR 25), (1, xR 1), (2, xI p), (3, xI (n - (zvl (zat h) p n).1)), (4, xI (zvl (zat h) p n).1), (5, xI (zvl (zat h) p n).2), (6, xI (p + n))] [] h
      (zQI (fun v g => v = zre (zat h) 400 p ∧ g = zad h (zkd (zat h) p) p (zvv (zat h) p) (zww (zat h) p))) := by
  intro k
  induction k with
  | zero =>
    intro n hn hr
    have vi := zvl_in n hr
    have zb1 := zat_bd ht (p + n)
    have ne : ¬ zrc (zat h (p + n)) := by rw [zat_out ht _ (by omega)]; simp only [zrc, zsm1, zdg1]; omega
    have n0 : 1 ≤ n := by omega
    refine bX8_readRun_11 p _ _ _ _ ht (by omega) (by omega) zb1 (by omega) (fun _ => ?_) (fun c => absurd (by omega) c) (fun c => absurd (by omega) c) (fun c => absurd (by omega) c) (fun c => absurd (by omega) c) (fun c => absurd (by omega) c) (fun c => absurd (by omega) c) (fun c => absurd (by omega) c)
    exact l_X8_readRun_89 p n ht hc (by omega) n0 hr ne hdep
  | succ k ih =>
    intro n hn hr
    have vi := zvl_in n hr
    have zb1 := zat_bd ht (p + n)
    have stp : zrc (zat h (p + n)) → ∀ i : Int, 0 ≤ i → i < (n + 1 : Nat) → zrc (zat h (p + i)) := fun c i i0 i1 => by
      by_cases e : i = n
      · rw [e]; exact c
      · exact hr i i0 (by omega)
    have dg : ∀ (x : Int), ¬ zsm1 (zat h (p + n)) → zdg1 (zat h (p + n)) → x = (if 4 < (zvl (zat h) p n).1 + 1 then 0 else (zvl (zat h) p n).2 * 10 + zat h (p + n) - 48) → zW mX8_readRun X dep 0 0 239 11 [(0, xR 25), (1, xR 1), (2, xI p), (3, xI (n - (zvl (zat h) p n).1)), (4, xI ((zvl (zat h) p n).1 + 1)), (5, xI x), (6, xI (p + n + 1))] [] h
      (zQI (fun v g => v = zre (zat h) 400 p ∧ g = zad h (zkd (zat h) p) p (zvv (zat h) p) (zww (zat h) p))) := by
      intro x c1 c2 hx
      have go := ih (n + 1) (by omega) (stp (Or.inr c2))
      have e : zvl (zat h) p (n + 1) = ((zvl (zat h) p n).1 + 1, x) := by rw [hx]; exact if_neg c1
      rw [e, show ((n + 1 : Nat) : Int) - ((zvl (zat h) p n).1 + 1) = n - (zvl (zat h) p n).1 by omega, show p + ((n + 1 : Nat) : Int) = p + n + 1 by omega] at go
      exact go
    refine bX8_readRun_11 p _ _ _ _ ht (by omega) (by omega) zb1 (by omega) (fun c => absurd c (by omega)) (fun _ c c2 => absurd c c2) (fun _ c c2 => absurd c c2) (fun _ c _ => ?_) (fun _ c c2 => ?_) (fun _ c c2 _ c4 => ?_) (fun _ c c2 _ c4 => ?_) (fun _ c _ c2 => absurd c2 c)
    · have go := ih (n + 1) (by omega) (stp (Or.inl c))
      have e : zvl (zat h) p (n + 1) = zvl (zat h) p n := if_pos c
      rw [e, show ((n + 1 : Nat) : Int) - (zvl (zat h) p n).1 = n - (zvl (zat h) p n).1 + 1 by omega, show p + ((n + 1 : Nat) : Int) = p + n + 1 by omega] at go
      exact go
    · have ne : ¬ zrc (zat h (p + n)) := by simp only [zrc, zsm1, zdg1]; omega
      have n0 : 1 ≤ n := by
        rcases Nat.eq_zero_or_pos n with z | z
        · subst z
          rw [show p + ((0 : Nat) : Int) = p by omega] at ne
          exact absurd hp1 ne
        · exact z
      exact l_X8_readRun_89 p n ht hc (by omega) n0 hr ne hdep
    · exact dg _ c c2 (by rw [if_neg (by omega)])
    · exact dg _ c c2 (by rw [if_pos (by omega)])
theorem f_X8_readRun {X : zX} {dep : Nat} (p : Int) {h : zH} (ht : 0 ≤ h 1 1 ∧ h 1 1 ≤ 340) (hc : 0 ≤ h 25 4 ∧ h 25 4 < 301) (hp : 0 ≤ p ∧ p < h 1 1) (hp1 : zrc (zat h p)) (hdep : 6 ≤ dep) :
    zW mX8_readRun X dep 0 0 239 0 (zar 0 [xR 25, xR 1, xI p]) [] h (zQI (fun v g => v = zre (zat h) 400 p ∧ g = zad h (zkd (zat h) p) p (zvv (zat h) p) (zww (zat h) p))) := by
  refine bX8_readRun_0 p ?_
  have go := l_X8_readRun_11 (X := X) (dep := dep) p ht hc hp hp1 hdep (h 1 1 - p).toNat 0 (by omega) (fun i i0 i1 => by omega)
  rw [show p + ((0 : Nat) : Int) = p by omega] at go
  exact go
/-- the tokens told of a text whose first x bytes count -/
def zTK (b : Int → Int) (x j : Int) : Int := if zps b j.toNat < x then zkd b (zps b j.toNat) else 0
def zTS (b : Int → Int) (x j : Int) : Int := if zps b j.toNat < x then zps b j.toNat else x
def zTV (b : Int → Int) (x j : Int) : Int := if zps b j.toNat < x then zvv b (zps b j.toNat) else 0
noncomputable def zTW (b : Int → Int) (x j : Int) : Int := if zps b j.toNat < x then zww b (zps b j.toNat) else -1
abbrev zT5 : Int → Prop := fun q => 25 ≤ q ∧ q ≤ 29
/-- the first n tokens stand in the rows -/
def zTr (h : zH) (x n : Int) (g : zH) : Prop := zap zT5 h g ∧ g 25 4 = n ∧ g 25 5 = (if h 1 1 ≤ 300 then 0 else 1) ∧ ∀ j : Int, 0 ≤ j → j < n → g 26 j = zTK (zat h) x j ∧ g 27 j = zTS (zat h) x j ∧ g 28 j = zTV (zat h) x j ∧ g 29 j = zTW (zat h) x j
theorem zTr.at {h g : zH} {x n : Int} (a : zTr h x n g) : zat g = zat h := funext fun i => by
  unfold zat
  rw [a.1 1 1 (by simp only [zT5]; omega), a.1 2 i (by simp only [zT5]; omega)]
theorem zTr.add {h g : zH} {x n : Int} (a : zTr h x n g) {k s v w : Int} (h1 : k = zTK (zat h) x n) (h2 : s = zTS (zat h) x n) (h3 : v = zTV (zat h) x n) (h4 : w = zTW (zat h) x n) : zTr h x (n + 1) (zad g k s v w) := by
  have e4 := a.2.1
  unfold zad
  refine ⟨((((a.1.st (by simp only [zT5]; omega) _ _).st (by simp only [zT5]; omega) _ _).st (by simp only [zT5]; omega) _ _).st (by simp only [zT5]; omega) _ _).st (by simp only [zT5]; omega) _ _, ?_, ?_, fun j j0 j1 => ?_⟩
  · rw [zst_self, e4]
  · rw [zst_ne (Or.inr (by omega)), zst_ne (Or.inl (by omega)), zst_ne (Or.inl (by omega)), zst_ne (Or.inl (by omega)), zst_ne (Or.inl (by omega))]
    exact a.2.2.1
  · by_cases e : j = n
    · subst e
      refine ⟨?_, ?_, ?_, ?_⟩
      · rw [zst_ne (Or.inl (by omega)), zst_ne (Or.inl (by omega)), zst_ne (Or.inl (by omega)), zst_ne (Or.inl (by omega)), e4, zst_self, h1]
      · rw [zst_ne (Or.inl (by omega)), zst_ne (Or.inl (by omega)), zst_ne (Or.inl (by omega)), e4, zst_self, h2]
      · rw [zst_ne (Or.inl (by omega)), zst_ne (Or.inl (by omega)), e4, zst_self, h3]
      · rw [zst_ne (Or.inl (by omega)), e4, zst_self, h4]
    · have b := a.2.2.2 j j0 (by omega)
      refine ⟨?_, ?_, ?_, ?_⟩
      · rw [zst_ne (Or.inl (by omega)), zst_ne (Or.inl (by omega)), zst_ne (Or.inl (by omega)), zst_ne (Or.inl (by omega)), zst_ne (Or.inr (by omega))]; exact b.1
      · rw [zst_ne (Or.inl (by omega)), zst_ne (Or.inl (by omega)), zst_ne (Or.inl (by omega)), zst_ne (Or.inr (by omega)), zst_ne (Or.inl (by omega))]; exact b.2.1
      · rw [zst_ne (Or.inl (by omega)), zst_ne (Or.inl (by omega)), zst_ne (Or.inr (by omega)), zst_ne (Or.inl (by omega)), zst_ne (Or.inl (by omega))]; exact b.2.2.1
      · rw [zst_ne (Or.inl (by omega)), zst_ne (Or.inr (by omega)), zst_ne (Or.inl (by omega)), zst_ne (Or.inl (by omega)), zst_ne (Or.inl (by omega))]; exact b.2.2.2
/-- all tokens and their end stand in the rows -/
def zTks (h : zH) (g : zH) : Prop := ∃ n : Nat, n ≤ 300 ∧ (∀ j : Nat, j < n → zps (zat h) j < min (h 1 1) 300) ∧ min (h 1 1) 300 ≤ zps (zat h) n ∧ zTr h (min (h 1 1) 300) (n + 1) g
theorem l_X8_read_134 {X : zX} {dep : Nat} (a n : Int) (c : Nat) {h g : zH} (ht : 0 ≤ h 1 1 ∧ h 1 1 ≤ 340) (t : zTr h (min (h 1 1) 300) c g) (hc : c ≤ 300) (hl : ∀ j : Nat, j < c → zps (zat h) j < min (h 1 1) 300) (he : min (h 1 1) 300 ≤ zps (zat h) c) (hdep : 1 ≤ dep) :
    zW mX8_read X dep 0 0 239 134 [(0, xR 25), (1, xR 1), (2, xI (min (h 1 1) 300)), (3, xI a), (4, xI n)] [xR (-1), xI 0, xI (min (h 1 1) 300), xI 0, xR 25] g (zQ0 (zTks h)) := by
  refine rX8_read_134 _ a n (f_X8_add 0 _ 0 (-1) (by rw [t.2.1]; omega) (Or.inl rfl)) hdep (fun f hf => ?_)
  refine bX8_read_137 _ a n ⟨rfl, rfl, c, hc, hl, he, ?_⟩
  rw [hf]
  refine t.add ?_ ?_ ?_ ?_
  · unfold zTK; rw [Int.toNat_natCast, if_neg (by omega)]
  · unfold zTS; rw [Int.toNat_natCast, if_neg (by omega)]
  · unfold zTV; rw [Int.toNat_natCast, if_neg (by omega)]
  · unfold zTW; rw [Int.toNat_natCast, if_neg (by omega)]
theorem l_X8_read_40 {X : zX} {dep : Nat} {h : zH} (ht : 0 ≤ h 1 1 ∧ h 1 1 ≤ 340) (hdep : 7 ≤ dep) : ∀ (k n c : Nat) (a : Int) (g : zH), n + k = 300 → c ≤ n → n ≤ a → a ≤ 340 → zsk (zat h) 400 a = zps (zat h) c → (∀ j : Nat, j < c → zps (zat h) j < min (h 1 1) 300) → zTr h (min (h 1 1) 300) c g →
    zW mX8_read X dep 0 0 239 40 [(0, xR 25), (1, xR 1), (2, xI (min (h 1 1) 300)), (3, xI a), (4, xI n)] [] g (zQ0 (zTks h)) := by
  have hb : ∀ q : Int, 340 ≤ q → zat h q = -1 := fun q hq => zat_out ht q (by omega)
  intro k
  induction k with
  | zero =>
    intro n c a g hk hcn hna ha hs hl t
    have s1 := zsk_in (b := zat h) 400 a
    have e11 : g 1 1 = h 1 1 := t.1 1 1 (by simp only [zT5]; omega)
    have fin := l_X8_read_134 (X := X) (dep := dep) a n c ht t (by omega) hl (by omega) (by omega)
    refine bX8_read_40 _ a n (by omega) (by omega) (by omega) (fun _ => fin) (fun c => absurd (by omega) c) (fun c => absurd (by omega) c) (fun c => absurd (by omega) c) (fun c => absurd (by omega) c) (fun c => absurd (by omega) c) (fun c => absurd (by omega) c)
  | succ k ih =>
    intro n c a g hk hcn hna ha hs hl t
    have s1 := zsk_in (b := zat h) 400 a
    have e11 : g 1 1 = h 1 1 := t.1 1 1 (by simp only [zT5]; omega)
    have ez := t.at
    have c4 := t.2.1
    have run : ¬ min (h 1 1) 300 ≤ a → ¬ (zat h a = 32 ∨ zat h a = 10) → zrc (zat h a) → zW mX8_read X dep 0 0 239 86 [(0, xR 25), (1, xR 1), (2, xI (min (h 1 1) 300)), (3, xI a), (4, xI n)] [xI a, xR 1, xR 25] g (zQ0 (zTks h)) := by
      intro q1 q2 q3
      have ea : zps (zat h) c = a := by rw [← hs, zsk_s hb (by omega), if_neg q2]
      refine rX8_read_86 _ a n (f_X8_readRun a (by omega) (by omega) (by omega) (by rw [ez]; exact q3) (by omega)) (by omega) (fun v f hf => ?_)
      obtain ⟨rfl, rfl⟩ := hf
      rw [ez]
      refine bX8_read_89 _ a n _ (by omega) ?_
      have nx : znx (zat h) a = zre (zat h) 400 a := if_pos q3
      have ni := znx_in hb (p := a) (by omega) (by omega)
      have go := ih (n + 1) (c + 1) (zre (zat h) 400 a) (zad g (zkd (zat h) a) a (zvv (zat h) a) (zww (zat h) a)) (by omega) (by omega) (by omega) (by omega) (by rw [← nx, ← ea]; rfl) (fun j hj => ?_) ?_
      · exact go
      · by_cases e : j = c
        · rw [e, ea]; omega
        · exact hl j (by omega)
      · refine t.add ?_ ?_ ?_ ?_
        · unfold zTK; rw [Int.toNat_natCast, ea, if_pos (by omega)]
        · unfold zTS; rw [Int.toNat_natCast, ea, if_pos (by omega)]
        · unfold zTV; rw [Int.toNat_natCast, ea, if_pos (by omega)]
        · unfold zTW; rw [Int.toNat_natCast, ea, if_pos (by omega)]
    have sgn : ∀ y : Int, ¬ min (h 1 1) 300 ≤ a → ¬ (zat h a = 32 ∨ zat h a = 10) → ¬ zrc (zat h a) → y = (if zsg (zat h a) then zat h a else 3) → zW mX8_read X dep 0 0 239 117 [(0, xR 25), (1, xR 1), (2, xI (min (h 1 1) 300)), (3, xI a), (4, xI n)] [xR (-1), xI 0, xI a, xI y, xR 25] g (zQ0 (zTks h)) := by
      intro y q1 q2 q3 hy
      have ea : zps (zat h) c = a := by rw [← hs, zsk_s hb (by omega), if_neg q2]
      refine rX8_read_117 _ a n y (f_X8_add y a 0 (-1) (by omega) (Or.inl rfl)) (by omega) (fun f hf => ?_)
      subst hf
      refine bX8_read_120 _ a n (by omega) ?_
      have nx : znx (zat h) a = a + 1 := if_neg q3
      have go := ih (n + 1) (c + 1) (a + 1) (zad g y a 0 (-1)) (by omega) (by omega) (by omega) (by omega) (by rw [← nx, ← ea]; rfl) (fun j hj => ?_) ?_
      · exact go
      · by_cases e : j = c
        · rw [e, ea]; omega
        · exact hl j (by omega)
      · refine t.add ?_ ?_ ?_ ?_
        · unfold zTK; rw [Int.toNat_natCast, ea, if_pos (by omega)]; unfold zkd; rw [if_neg q3]; exact hy
        · unfold zTS; rw [Int.toNat_natCast, ea, if_pos (by omega)]
        · unfold zTV; rw [Int.toNat_natCast, ea, if_pos (by omega)]; unfold zvv; rw [if_neg (fun z => q3 z.1)]
        · unfold zTW; rw [Int.toNat_natCast, ea, if_pos (by omega)]; unfold zww; rw [if_neg (fun z => q3 z.1)]
    refine bX8_read_40 _ a n (by omega) (by omega) (by omega) (fun c => absurd c (by omega)) (fun _ q => ?_) (fun _ q q2 q3 => ?_) (fun _ q q2 q3 q4 q5 => ?_) (fun _ q q2 q3 q4 q5 => ?_) (fun _ q q2 q3 q4 => ?_) (fun _ q q2 => ?_)
    · exact l_X8_read_134 (X := X) (dep := dep) a n c ht t (by omega) hl (by omega) (by omega)
    · rw [ez] at q2 q3
      exact run q q2 (Or.inl q3)
    · rw [ez] at q2 q3 q4 q5
      exact sgn 3 q q2 (fun z => z.elim q3 q4) (if_neg q5).symm
    · rw [ez] at q2 q3 q4 q5 ⊢
      exact sgn _ q q2 (fun z => z.elim q3 q4) (if_pos q5).symm
    · rw [ez] at q2 q3 q4
      exact run q q2 (Or.inr q4)
    · rw [ez] at q2
      have go := ih (n + 1) c (a + 1) g (by omega) (by omega) (by omega) (by omega) (by rw [← hs, zsk_s hb (p := a) (by omega), if_pos q2]) hl t
      exact go
theorem f_X8_read {X : zX} {dep : Nat} {h : zH} (ht : 0 ≤ h 1 1 ∧ h 1 1 ≤ 340) (hdep : 7 ≤ dep) : zW mX8_read X dep 0 0 239 0 (zar 0 [xR 25, xR 1]) [] h (zQ0 (zTks h)) := by
  refine bX8_read_0 ht (by omega) ?_
  refine l_X8_read_40 ht hdep 300 0 0 0 _ rfl (by omega) (by omega) (by omega) rfl (fun j hj => by omega) ⟨((zap.rf _ h).st (by simp only [zT5]; omega) _ _).st (by simp only [zT5]; omega) _ _, zst_self _ _ _ _, ?_, fun j j0 j1 => by omega⟩
  rw [zst_ne (Or.inr (by omega)), zst_self]

