/-! drawing a roll -/
set_option maxHeartbeats 4000000 in
set_option maxRecDepth 20000 in
theorem bX6_maySend_0 {X : zX} {dep bc bs : Nat} (o : Int) (L : Int) (m : Int) {h : zH} {Q : Nat → zH → List zV → Prop} (ho : zRollO o) (hb : 113 ≤ o ∧ o ≤ 155) (hL : zLawO L) (hbl : 30 ≤ L ∧ L ≤ 107) (hm : 0 ≤ m ∧ m < 60) (hw : zLawOK h L) (hln : 0 ≤ h L 6 ∧ h L 6 ≤ 20) (hdep : 3 ≤ dep)
    (k1 : (if (h (o + 5) m) = 5 then 1 else if (h (o + 13) m) = 0 then 0 else if (h (o + 5) m) = 0 then 0 else 1 : Int) = 0 → Q 239 h [xI 0])
    (k2 : ¬ ((if (h (o + 5) m) = 5 then 1 else if (h (o + 13) m) = 0 then 0 else if (h (o + 5) m) = 0 then 0 else 1 : Int) = 0) → ¬ (h (o + 12) m) = (-1) → Q 239 h [xI 0])
    (k3 : ¬ ((if (h (o + 5) m) = 5 then 1 else if (h (o + 13) m) = 0 then 0 else if (h (o + 5) m) = 0 then 0 else 1 : Int) = 0) → (h (o + 12) m) = (-1) → Q 239 h [xI (if (if (zline h L (o + 4) (m * 11) 4) < 0 ∨ h L 6 ≤ (zline h L (o + 4) (m * 11) 4) then 1 else h (L + 2) (zline h L (o + 4) (m * 11) 4)) = 1 then 1 else 0 : Int)]) : zW mX6_maySend X dep bc bs 239 0 [(0, xR o), (1, xI m), (2, xR L)] [] h Q := by
  refine z_aload_n 0 dX6_maySend_0 rfl ?_
  refine z_getS (v := (o + 5)) (k := 3) (kz := 3) pk6 dX6_maySend_1 (by decide) zb_414 rfl ho.1 rfl ho.2.2.2.2.2.2.2.2.2.2.2.2.2.2.2.2.1 ?_
  refine z_iload_n 1 dX6_maySend_4 rfl ?_
  refine z_iald dX6_maySend_5 ho.2.2.2.2.2.1 hm.1 hm.2 ?_
  refine z_iconst dX6_maySend_6 (zi32_d rfl) ?_
  suffices KJ : zW mX6_maySend X dep bc bs 239 33 [(0, xR o), (1, xI m), (2, xR L)] [xI (if (h (o + 5) m) = 5 then 1 else if (h (o + 13) m) = 0 then 0 else if (h (o + 5) m) = 0 then 0 else 1 : Int)] h Q by
    refine z_icmp_eq (tgt := 28) dX6_maySend_7 (by decide) (fun j1 => ?_) (fun j1 => ?_)
    ·
      refine z_iconst dX6_maySend_28 (zi32_d rfl) ?_
      refine z_goto (tgt := 33) dX6_maySend_29 (by decide) ?_
      rw [if_pos j1] at KJ
      exact KJ
    ·
      refine z_aload_n 0 dX6_maySend_10 rfl ?_
      refine z_getS (v := (o + 13)) (k := 12) (kz := 12) pk6 dX6_maySend_11 (by decide) zb_429 rfl ho.1 rfl ho.2.2.2.2.2.2.2.2.2.2.2.2.2.2.2.2.2.2.2.2.2.2.2.2.1 ?_
      refine z_iload_n 1 dX6_maySend_14 rfl ?_
      refine z_zald dX6_maySend_15 ho.2.2.2.2.2.2.2.2.2.2.2.2.2.1 (show 0 ≤ m ∧ m < 60 from ⟨by omega, by omega⟩).1 (show 0 ≤ m ∧ m < 60 from ⟨by omega, by omega⟩).2 ?_
      refine z_if_eq (tgt := 32) dX6_maySend_16 (by decide) (fun j2 => ?_) (fun j2 => ?_)
      ·
        refine z_iconst dX6_maySend_32 (zi32_d rfl) ?_
        rw [if_neg j1] at KJ
        rw [if_pos j2] at KJ
        exact KJ
      ·
        refine z_aload_n 0 dX6_maySend_19 rfl ?_
        refine z_getS (v := (o + 5)) (k := 3) (kz := 3) pk6 dX6_maySend_20 (by decide) zb_414 rfl ho.1 rfl ho.2.2.2.2.2.2.2.2.2.2.2.2.2.2.2.2.1 ?_
        refine z_iload_n 1 dX6_maySend_23 rfl ?_
        refine z_iald dX6_maySend_24 ho.2.2.2.2.2.1 (show 0 ≤ m ∧ m < 60 from ⟨by omega, by omega⟩).1 (show 0 ≤ m ∧ m < 60 from ⟨by omega, by omega⟩).2 ?_
        refine z_if_eq (tgt := 32) dX6_maySend_25 (by decide) (fun j3 => ?_) (fun j3 => ?_)
        ·
          refine z_iconst dX6_maySend_32 (zi32_d rfl) ?_
          rw [if_neg j1] at KJ
          rw [if_neg j2] at KJ
          rw [if_pos j3] at KJ
          exact KJ
        ·
          refine z_iconst dX6_maySend_28 (zi32_d rfl) ?_
          refine z_goto (tgt := 33) dX6_maySend_29 (by decide) ?_
          rw [if_neg j1] at KJ
          rw [if_neg j2] at KJ
          rw [if_neg j3] at KJ
          exact KJ
  refine z_istore_n (lv' := [(3, xI (if (h (o + 5) m) = 5 then 1 else if (h (o + 13) m) = 0 then 0 else if (h (o + 5) m) = 0 then 0 else 1 : Int)), (0, xR o), (1, xI m), (2, xR L)]) dX6_maySend_33 (by decide) rfl ?_
  refine z_iload_n 0 dX6_maySend_34 rfl ?_
  refine z_if_eq (tgt := 74) dX6_maySend_35 (by decide) (fun c1 => ?_) (fun c1 => ?_)
  ·
    refine z_iconst dX6_maySend_74 (zi32_d rfl) ?_
    exact z_zret dX6_maySend_75 rfl (Or.inl rfl) (k1 c1)
  ·
    refine z_aload_n 1 dX6_maySend_38 rfl ?_
    refine z_getS (v := (o + 12)) (k := 11) (kz := 11) pk6 dX6_maySend_39 (by decide) zb_428 rfl ho.1 rfl ho.2.2.2.2.2.2.2.2.2.2.2.2.2.2.2.2.2.2.2.2.2.2.2.1 ?_
    refine z_iload_n 2 dX6_maySend_42 rfl ?_
    refine z_iald dX6_maySend_43 ho.2.2.2.2.2.2.2.2.2.2.2.2.1 hm.1 hm.2 ?_
    refine z_iconst dX6_maySend_44 (zi32_d rfl) ?_
    refine z_icmp_ne (tgt := 74) dX6_maySend_45 (by decide) (fun c2 => ?_) (fun c2 => ?_)
    ·
      refine z_iconst dX6_maySend_74 (zi32_d rfl) ?_
      exact z_zret dX6_maySend_75 rfl (Or.inl rfl) (k2 c1 c2)
    ·
      refine z_aload_n 3 dX6_maySend_48 rfl ?_
      refine z_aload_n 3 dX6_maySend_49 rfl ?_
      refine z_iconst dX6_maySend_50 (zi32_d rfl) ?_
      refine z_aload_n 1 dX6_maySend_51 rfl ?_
      refine z_getS (v := (o + 4)) (k := 2) (kz := 2) pk6 dX6_maySend_52 (by decide) zb_413 rfl ho.1 rfl ho.2.2.2.2.2.2.2.2.2.2.2.2.2.2.2.1 ?_
      refine z_iload_n 2 dX6_maySend_55 rfl ?_
      refine z_bipush dX6_maySend_56 (zi32_d rfl) (by decide) ?_
      refine z_imulN dX6_maySend_58 (show -2147483648 ≤ m * 11 ∧ m * 11 < 2147483648 from ⟨by omega, by omega⟩).1 (show -2147483648 ≤ m * 11 ∧ m * 11 < 2147483648 from ⟨by omega, by omega⟩).2 ?_
      refine z_invF (ci := 1) (N := 13) (as := [xI 4, xR (o + 4), xI (m * 11)]) (st := [xR L]) (ra := [xI (m * 11), xR (o + 4), xI 4]) (dep' := dep - 1) (rs := [xI (zline h L (o + 4) (m * 11) 4)]) (h' := h) (f_X1_lineFor (X := X) (dep := dep - 1) L 4 (o + 4) (m * 11) (h := h) hL ho.2.2.2.2.1 (show 0 ≤ (m * 11) ∧ (m * 11) ≤ 660 by omega) hw (by omega)) dX6_maySend_59 nX1_lineFor zb_903 zb_904 zb_905 zb_88 hL.1 rfl (by omega) zne_I (Nat.le_of_ble_eq_true rfl) (Nat.le_of_ble_eq_true rfl) rfl ?_
      refine z_iconst dX6_maySend_62 (zi32_d rfl) ?_
      refine z_invF (ci := 1) (N := 13) (as := [xI (zline h L (o + 4) (m * 11) 4), xI 1]) (st := []) (ra := [xI 1, xI (zline h L (o + 4) (m * 11) 4)]) (dep' := dep - 1) (rs := [xI (if (zline h L (o + 4) (m * 11) 4) < 0 ∨ h L 6 ≤ (zline h L (o + 4) (m * 11) 4) then 1 else h (L + 2) (zline h L (o + 4) (m * 11) 4))]) (h' := h) (f_X1_numberOf L (zline h L (o + 4) (m * 11) 4) 1 (h := h) hL hln) dX6_maySend_63 nX1_numberOf zb_915 zb_916 zb_917 zb_88 hL.1 rfl (by omega) zne_I (Nat.le_of_ble_eq_true rfl) (Nat.le_of_ble_eq_true rfl) rfl ?_
      refine z_iconst dX6_maySend_66 (zi32_d rfl) ?_
      suffices KJ : zW mX6_maySend X dep bc bs 239 75 [(3, xI (if (h (o + 5) m) = 5 then 1 else if (h (o + 13) m) = 0 then 0 else if (h (o + 5) m) = 0 then 0 else 1 : Int)), (0, xR o), (1, xI m), (2, xR L)] [xI (if (if (zline h L (o + 4) (m * 11) 4) < 0 ∨ h L 6 ≤ (zline h L (o + 4) (m * 11) 4) then 1 else h (L + 2) (zline h L (o + 4) (m * 11) 4)) = 1 then 1 else 0 : Int)] h Q by
        refine z_icmp_ne (tgt := 74) dX6_maySend_67 (by decide) (fun j1 => ?_) (fun j1 => ?_)
        ·
          refine z_iconst dX6_maySend_74 (zi32_d rfl) ?_
          rw [if_neg j1] at KJ
          exact KJ
        ·
          refine z_iconst dX6_maySend_70 (zi32_d rfl) ?_
          refine z_goto (tgt := 75) dX6_maySend_71 (by decide) ?_
          rw [if_pos j1] at KJ
          exact KJ
      exact z_zret dX6_maySend_75 rfl (by repeat (first | (left; rfl) | (right; rfl) | split)) (k3 c1 c2)

set_option maxRecDepth 20000 in
theorem bX6_draw_0 {X : zX} {dep bc bs : Nat} (o : Int) (L : Int) {h : zH} {Q : Nat → zH → List zV → Prop}
    (k1 : zW mX6_draw X dep bc bs 239 3 [(0, xR o), (1, xR 3), (2, xR L)] [xR L, xR 3, xR o] h Q) : zW mX6_draw X dep bc bs 239 0 [(0, xR o), (1, xR 3), (2, xR L)] [] h Q := by
  refine z_aload_n 0 dX6_draw_0 rfl ?_
  refine z_aload_n 1 dX6_draw_1 rfl ?_
  refine z_aload_n 2 dX6_draw_2 rfl ?_
  exact k1

set_option maxRecDepth 20000 in
theorem rX6_draw_3 {X : zX} {dep bc bs : Nat} (o : Int) (L : Int) {h : zH} {Q : Nat → zH → List zV → Prop} {P : zH → Prop} (ho : zRollO o)
    (hZ : zW mX6_ask X (dep - 1) 0 0 239 0 (zar 0 [xR o, xR 3, xR L]) [] h (zQ0 P)) (hdep : 1 ≤ dep)
    (k : ∀ g : zH, P g → zW mX6_draw X dep bc bs 239 6 [(0, xR o), (1, xR 3), (2, xR L)] [] g Q) : zW mX6_draw X dep bc bs 239 3 [(0, xR o), (1, xR 3), (2, xR L)] [xR L, xR 3, xR o] h Q :=
  z_invQ0 (ci := 6) (N := 13) (as := [xR 3, xR L]) (st := []) (ra := [xR L, xR 3]) hZ dX6_draw_3 nX6_ask zb_877 zb_879 zb_22 zb_90 ho.1 rfl (by omega) (Nat.le_of_ble_eq_true rfl) (Nat.le_of_ble_eq_true rfl) rfl (fun g hg => k g hg)

set_option maxRecDepth 20000 in
theorem bX6_draw_6 {X : zX} {dep bc bs : Nat} (o : Int) (L : Int) {h : zH} {Q : Nat → zH → List zV → Prop}
    (k1 : zW mX6_draw X dep bc bs 239 8 [(0, xR o), (1, xR 3), (2, xR L), (3, xI 0)] [] h Q) : zW mX6_draw X dep bc bs 239 6 [(0, xR o), (1, xR 3), (2, xR L)] [] h Q := by
  refine z_iconst dX6_draw_6 (zi32_d rfl) ?_
  refine z_istore_n (lv' := [(3, xI 0), (0, xR o), (1, xR 3), (2, xR L)]) dX6_draw_7 (by decide) rfl ?_
  refine zW.sub (lv' := [(0, xR o), (1, xR 3), (2, xR L), (3, xI 0)]) [1, 2, 3, 0] rfl ?_
  exact k1

set_option maxRecDepth 20000 in
theorem bX6_draw_8 {X : zX} {dep bc bs : Nat} (o : Int) (L : Int) (i : Int) {h : zH} {Q : Nat → zH → List zV → Prop}
    (k1 : (h 3 0) ≤ i → zW mX6_draw X dep bc bs 239 29 [(0, xR o), (1, xR 3)] [] h Q)
    (k2 : ¬ ((h 3 0) ≤ i) → zW mX6_draw X dep bc bs 239 20 [(0, xR o), (1, xR 3), (2, xR L), (3, xI i)] [xI i, xR L, xR 3, xR o] h Q) : zW mX6_draw X dep bc bs 239 8 [(0, xR o), (1, xR 3), (2, xR L), (3, xI i)] [] h Q := by
  refine z_iload_n 3 dX6_draw_8 rfl ?_
  refine z_aload_n 1 dX6_draw_9 rfl ?_
  refine z_getI (k := 0) (kz := 0) pk4 dX6_draw_10 (by decide) zb_155 rfl (zOb.lit (by decide +kernel)) rfl ?_
  refine z_icmp_ge (tgt := 29) dX6_draw_13 (by decide) (fun c1 => ?_) (fun c1 => ?_)
  ·
    refine zW.sub (lv' := [(0, xR o), (1, xR 3)]) [0, 1] rfl ?_
    exact k1 c1
  ·
    refine z_aload_n 0 dX6_draw_16 rfl ?_
    refine z_aload_n 1 dX6_draw_17 rfl ?_
    refine z_aload_n 2 dX6_draw_18 rfl ?_
    refine z_iload_n 3 dX6_draw_19 rfl ?_
    exact k2 c1

set_option maxRecDepth 20000 in
theorem rX6_draw_20 {X : zX} {dep bc bs : Nat} (o : Int) (L : Int) (i : Int) {h : zH} {Q : Nat → zH → List zV → Prop} {P : zH → Prop} (ho : zRollO o)
    (hZ : zW mX6_judge X (dep - 1) 0 0 239 0 (zar 0 [xR o, xR 3, xR L, xI i]) [] h (zQ0 P)) (hdep : 1 ≤ dep)
    (k : ∀ g : zH, P g → zW mX6_draw X dep bc bs 239 23 [(0, xR o), (1, xR 3), (2, xR L), (3, xI i)] [] g Q) : zW mX6_draw X dep bc bs 239 20 [(0, xR o), (1, xR 3), (2, xR L), (3, xI i)] [xI i, xR L, xR 3, xR o] h Q :=
  z_invQ0 (ci := 6) (N := 13) (as := [xR 3, xR L, xI i]) (st := []) (ra := [xI i, xR L, xR 3]) hZ dX6_draw_20 nX6_judge zb_899 zb_901 zb_25 zb_90 ho.1 rfl (by omega) (Nat.le_of_ble_eq_true rfl) (Nat.le_of_ble_eq_true rfl) rfl (fun g hg => k g hg)

set_option maxRecDepth 20000 in
theorem bX6_draw_23 {X : zX} {dep bc bs : Nat} (o : Int) (L : Int) (i : Int) {h : zH} {Q : Nat → zH → List zV → Prop} (hi : 0 ≤ i ∧ i < 60)
    (k1 : zW mX6_draw X dep bc bs 239 8 [(0, xR o), (1, xR 3), (2, xR L), (3, xI (i + 1))] [] h Q) : zW mX6_draw X dep bc bs 239 23 [(0, xR o), (1, xR 3), (2, xR L), (3, xI i)] [] h Q := by
  refine z_iincN (lv' := [(3, xI (i + 1)), (0, xR o), (1, xR 3), (2, xR L)]) 3 dX6_draw_23 rfl (by decide) rfl (show -2147483648 ≤ i + 1 ∧ i + 1 < 2147483648 from ⟨by omega, by omega⟩).1 (show -2147483648 ≤ i + 1 ∧ i + 1 < 2147483648 from ⟨by omega, by omega⟩).2 ?_
  refine z_goto (tgt := 8) dX6_draw_26 (by decide) ?_
  refine zW.sub (lv' := [(0, xR o), (1, xR 3), (2, xR L), (3, xI (i + 1))]) [1, 2, 3, 0] rfl ?_
  exact k1

set_option maxRecDepth 20000 in
theorem bX6_draw_29 {X : zX} {dep bc bs : Nat} (o : Int) {h : zH} {Q : Nat → zH → List zV → Prop}
    (k1 : zW mX6_draw X dep bc bs 239 31 [(0, xR o), (1, xR 3)] [xR 3, xR o] h Q) : zW mX6_draw X dep bc bs 239 29 [(0, xR o), (1, xR 3)] [] h Q := by
  refine z_aload_n 0 dX6_draw_29 rfl ?_
  refine z_aload_n 1 dX6_draw_30 rfl ?_
  exact k1

set_option maxRecDepth 20000 in
theorem rX6_draw_31 {X : zX} {dep bc bs : Nat} (o : Int) {h : zH} {Q : Nat → zH → List zV → Prop} {P : zH → Prop} (ho : zRollO o)
    (hZ : zW mX6_share X (dep - 1) 0 0 239 0 (zar 0 [xR o, xR 3]) [] h (zQ0 P)) (hdep : 1 ≤ dep)
    (k : ∀ g : zH, P g → zW mX6_draw X dep bc bs 239 34 [(0, xR o), (1, xR 3)] [] g Q) : zW mX6_draw X dep bc bs 239 31 [(0, xR o), (1, xR 3)] [xR 3, xR o] h Q :=
  z_invQ0 (ci := 6) (N := 13) (as := [xR 3]) (st := []) (ra := [xR 3]) hZ dX6_draw_31 nX6_share zb_926 zb_928 zb_28 zb_90 ho.1 rfl (by omega) (Nat.le_of_ble_eq_true rfl) (Nat.le_of_ble_eq_true rfl) rfl (fun g hg => k g hg)

set_option maxRecDepth 20000 in
theorem bX6_draw_34 {X : zX} {dep bc bs : Nat} (o : Int) {h : zH} {Q : Nat → zH → List zV → Prop}
    (k1 : zW mX6_draw X dep bc bs 239 36 [(0, xR o), (1, xR 3)] [xR 3, xR o] h Q) : zW mX6_draw X dep bc bs 239 34 [(0, xR o), (1, xR 3)] [] h Q := by
  refine z_aload_n 0 dX6_draw_34 rfl ?_
  refine z_aload_n 1 dX6_draw_35 rfl ?_
  exact k1

set_option maxRecDepth 20000 in
theorem rX6_draw_36 {X : zX} {dep bc bs : Nat} (o : Int) {h : zH} {Q : Nat → zH → List zV → Prop} {P : zH → Prop} (ho : zRollO o)
    (hZ : zW mX6_callUp X (dep - 1) 0 0 239 0 (zar 0 [xR o, xR 3]) [] h (zQ0 P)) (hdep : 1 ≤ dep)
    (k : ∀ g : zH, P g → zW mX6_draw X dep bc bs 239 39 [(0, xR o), (1, xR 3)] [] g Q) : zW mX6_draw X dep bc bs 239 36 [(0, xR o), (1, xR 3)] [xR 3, xR o] h Q :=
  z_invQ0 (ci := 6) (N := 13) (as := [xR 3]) (st := []) (ra := [xR 3]) hZ dX6_draw_36 nX6_callUp zb_938 zb_940 zb_30 zb_90 ho.1 rfl (by omega) (Nat.le_of_ble_eq_true rfl) (Nat.le_of_ble_eq_true rfl) rfl (fun g hg => k g hg)

set_option maxRecDepth 20000 in
theorem bX6_draw_39 {X : zX} {dep bc bs : Nat} (o : Int) {h : zH} {Q : Nat → zH → List zV → Prop}
    (k1 : zW mX6_draw X dep bc bs 239 41 [(0, xR o), (1, xR 3)] [xR 3, xR o] h Q) : zW mX6_draw X dep bc bs 239 39 [(0, xR o), (1, xR 3)] [] h Q := by
  refine z_aload_n 0 dX6_draw_39 rfl ?_
  refine z_aload_n 1 dX6_draw_40 rfl ?_
  exact k1

set_option maxRecDepth 20000 in
theorem rX6_draw_41 {X : zX} {dep bc bs : Nat} (o : Int) {h : zH} {Q : Nat → zH → List zV → Prop} {P : zH → Prop} (ho : zRollO o)
    (hZ : zW mX6_followChains X (dep - 1) 0 0 239 0 (zar 0 [xR o, xR 3]) [] h (zQ0 P)) (hdep : 1 ≤ dep)
    (k : ∀ g : zH, P g → zW mX6_draw X dep bc bs 239 44 [(0, xR o), (1, xR 3)] [] g Q) : zW mX6_draw X dep bc bs 239 41 [(0, xR o), (1, xR 3)] [xR 3, xR o] h Q :=
  z_invQ0 (ci := 6) (N := 13) (as := [xR 3]) (st := []) (ra := [xR 3]) hZ dX6_draw_41 nX6_followChains zb_946 zb_948 zb_32 zb_90 ho.1 rfl (by omega) (Nat.le_of_ble_eq_true rfl) (Nat.le_of_ble_eq_true rfl) rfl (fun g hg => k g hg)

set_option maxRecDepth 20000 in
theorem bX6_draw_44 {X : zX} {dep bc bs : Nat} (o : Int) {h : zH} {Q : Nat → zH → List zV → Prop}
    (k1 : Q 239 h []) : zW mX6_draw X dep bc bs 239 44 [(0, xR o), (1, xR 3)] [] h Q := by
  exact z_ret dX6_draw_44 rfl (k1)

/-- whether a man may send another -/
def zmay (h : zH) (o L m : Int) : Prop := (h (o + 5) m = 5 ∨ h (o + 13) m ≠ 0 ∧ h (o + 5) m ≠ 0) ∧ h (o + 12) m = -1 ∧ (if zline h L (o + 4) (m * 11) 4 < 0 ∨ h L 6 ≤ zline h L (o + 4) (m * 11) 4 then 1 else h (L + 2) (zline h L (o + 4) (m * 11) 4)) = 1
theorem f_X6_maySend {X : zX} {dep : Nat} (o m L : Int) {h : zH} (ho : zRollO o) (hb : 113 ≤ o ∧ o ≤ 155) (hL : zLawO L) (hbl : 30 ≤ L ∧ L ≤ 107) (hm : 0 ≤ m ∧ m < 60) (hw : zLawOK h L) (hdep : 3 ≤ dep) : zW mX6_maySend X dep 0 0 239 0 (zar 0 [xR o, xI m, xR L]) [] h (zF h [xI (zb (zmay h o L m))]) := by
  refine bX6_maySend_0 o L m ho hb hL hbl hm hw hw.1 hdep ?_ ?_ ?_
  all_goals intros
  all_goals refine ⟨rfl, rfl, ?_⟩
  · rename_i c
    rw [zb_f]
    intro z
    have z1 := z.1
    (repeat' split at c) <;> omega
  · rename_i c c1
    rw [zb_f (fun z => c1 z.2.1)]
  · rename_i c c1
    by_cases d : (if zline h L (o + 4) (m * 11) 4 < 0 ∨ h L 6 ≤ zline h L (o + 4) (m * 11) 4 then 1 else h (L + 2) (zline h L (o + 4) (m * 11) 4)) = 1
    · rw [if_pos d, zb_t]
      refine ⟨?_, c1, d⟩
      by_cases q1 : h (o + 5) m = 5
      · exact Or.inl q1
      · rw [if_neg q1] at c
        by_cases q2 : h (o + 13) m = 0
        · rw [if_pos q2] at c; exact absurd rfl c
        · rw [if_neg q2] at c
          by_cases q3 : h (o + 5) m = 0
          · rw [if_pos q3] at c; exact absurd rfl c
          · exact Or.inr ⟨q2, q3⟩
    · rw [if_neg d, zb_f (fun z => d z.2.2)]
/-- what drawing writes -/
abbrev zDS (o : Int) : Int → Prop := fun q => q = o ∨ q = o + 4 ∨ q = o + 5 ∨ q = o + 6 ∨ q = o + 7 ∨ q = o + 8 ∨ q = o + 9 ∨ q = o + 10 ∨ q = o + 11 ∨ q = o + 12 ∨ q = o + 13 ∨ q = 23
/-- what a roll and a law must keep to, to be drawn -/
def zRollOK (h : zH) (o : Int) : Prop := zPick h o ∧ (0 ≤ h (o + 1) 0 ∧ h (o + 1) 0 ≤ 3639) ∧ 0 ≤ h (o + 1) 1 ∧ ∀ q : Int, 0 ≤ q → q < 60 → -1 ≤ h (o + 12) q ∧ h (o + 12) q < 60
def zLedsOK (h : zH) : Prop := zFactOK h ∧ zExamOK h ∧ zSendOK h
/-- a man in a roll that is drawn -/
def zDm (g : zH) (o L m : Int) : Prop := (zli g o m ↔ zjs g o L m = 4) ∧ g (o + 6) m = zjl g o L m ∧ (zjs g o L m = 4 → g (o + 7) m = zjo g o L m) ∧ g (o + 5) m = (if zjs g o L m = 4 then (if g (o + 10) (g 4 m) ≤ zcnt (zahead g o m) (g 3 0).toNat then 4 else 5) else zjs g o L m) ∧ g (o + 8) m = if zjs g o L m = 4 then zcnt (zahead g o m) (g 3 0).toNat else -1
def zDrawn (h : zH) (o L : Int) (g : zH) : Prop :=
  (zap (zDS o) h g ∧ ∀ k : Int, k ≠ 10 → g o k = h o k) ∧
  (∀ m c : Int, 0 ≤ m → m < 60 → 0 ≤ c → c < 11 → g (o + 4) (m * 11 + c) = zask h o L m c) ∧
  (∀ m : Int, 0 ≤ m → m < h 3 0 → zDm g o L m) ∧ g o 10 = zcl g o ∧ (∀ p : Int, 0 ≤ p → p < 8 → g (o + 10) p = zquo g o p) ∧
  (∀ m : Int, 0 ≤ m → m < h 3 0 → g (o + 12) m = zse h (h o 0) (zknown h 15 (h 3 9)).toNat m ∧ g (o + 13) m = zwse h (h o 0) (zknown h 15 (h 3 9)).toNat m) ∧
  (∀ q : Int, 0 ≤ q → q < 60 → -1 ≤ g (o + 12) q ∧ g (o + 12) q < 60) ∧ ∀ k : Int, g 23 k = zsv g o (h 23) (h 3 0).toNat k
theorem zjs_ap {S : Int → Prop} {h g : zH} (a : zap S h g) {o L : Int} (h20 : ¬ S 20) (hA : ¬ S (o + 4)) (h0 : ¬ S L) (h1 : ¬ S (L + 1)) (h3 : ¬ S (L + 3)) (h4 : ¬ S (L + 4)) (h5 : ¬ S (L + 5)) (m : Int) : zjs g o L m = zjs h o L m := by
  unfold zjs
  simp only [a 20 m h20, a (o + 4) _ hA, a L _ h0, zline_ap a hA h0 h1 h3 h4 h5]
theorem zjl_ap {S : Int → Prop} {h g : zH} (a : zap S h g) {o L : Int} (h20 : ¬ S 20) (hA : ¬ S (o + 4)) (h0 : ¬ S L) (h1 : ¬ S (L + 1)) (h3 : ¬ S (L + 3)) (h4 : ¬ S (L + 4)) (h5 : ¬ S (L + 5)) (m : Int) : zjl g o L m = zjl h o L m := by
  unfold zjl
  simp only [zjs_ap a h20 hA h0 h1 h3 h4 h5, zline_ap a hA h0 h1 h3 h4 h5]
theorem zjo_ap {S : Int → Prop} {h g : zH} (a : zap S h g) {o L : Int} (h19 : ¬ S 19) (h6 : ¬ S 6) (ho2 : ¬ S (o + 2)) (ho3 : ¬ S (o + 3)) (h2 : ¬ S (L + 2)) (hA : ¬ S (o + 4)) (h0 : ¬ S L) (h1 : ¬ S (L + 1)) (h3 : ¬ S (L + 3)) (h4 : ¬ S (L + 4)) (h5 : ¬ S (L + 5)) (m : Int) : zjo g o L m = zjo h o L m := by
  unfold zjo zjc
  simp only [a 19 _ h19, a 6 _ h6, a (o + 2) _ ho2, a (o + 3) _ ho3, a (L + 2) _ h2, a L _ h0, zline_ap a hA h0 h1 h3 h4 h5]
theorem zLawOK_ap {S : Int → Prop} {h g : zH} (a : zap S h g) {L : Int} (h0 : ¬ S L) (h3 : ¬ S (L + 3)) (h4 : ¬ S (L + 4)) (w : zLawOK h L) : zLawOK g L := by
  unfold zLawOK
  simp only [a L _ h0, a (L + 3) _ h3, a (L + 4) _ h4]
  exact w
theorem zClsOK_ap {S : Int → Prop} {h g : zH} (a : zap S h g) {L : Int} (h0 : ¬ S L) (h1 : ¬ S (L + 1)) (h2 : ¬ S (L + 2)) (w : zClsOK h L) : zClsOK g L := by
  unfold zClsOK
  simp only [a L _ h0, a (L + 1) _ h1, a (L + 2) _ h2]
  exact w
theorem zPick_ap {S : Int → Prop} {h g : zH} (a : zap S h g) {o : Int} (h2 : ¬ S (o + 2)) (h3 : ¬ S (o + 3)) (w : zPick h o) : zPick g o := by
  unfold zPick
  simp only [a (o + 2) _ h2, a (o + 3) _ h3]
  exact w
theorem zSendOK_ap {S : Int → Prop} {h g : zH} (a : zap S h g) (h1 : ¬ S 15) (h2 : ¬ S (15 + 1)) (h3 : ¬ S 3) (w : zSendOK h) : zSendOK g := by
  unfold zSendOK
  simp only [a 15 _ h1, a 3 _ h3, zget_ap a h1 h2]
  exact w
theorem zse_ap {S : Int → Prop} {h g : zH} (a : zap S h g) (h1 : ¬ S 15) (h2 : ¬ S (15 + 1)) (num : Int) : ∀ (n : Nat) (m : Int), zse g num n m = zse h num n m
  | 0, _ => rfl
  | r + 1, m => by
    have e : ∀ q x : Int, zget g 15 q x = zget h 15 q x := fun q x => zget_ap a h1 h2
    unfold zse
    simp only [e, zse_ap a h1 h2 num r m]
theorem zwse_ap {S : Int → Prop} {h g : zH} (a : zap S h g) (h1 : ¬ S 15) (h2 : ¬ S (15 + 1)) (num : Int) : ∀ (n : Nat) (m : Int), zwse g num n m = zwse h num n m
  | 0, _ => rfl
  | r + 1, m => by
    have e : ∀ q x : Int, zget g 15 q x = zget h 15 q x := fun q x => zget_ap a h1 h2
    unfold zwse
    simp only [e, zwse_ap a h1 h2 num r m]
/-- sharing looks at who is listed, at parishes, at what is wanted and how many men there are -/
theorem zshare_eq {h g : zH} {o : Int} (h5 : ∀ k : Int, zli g o k ↔ zli h o k) (h4 : ∀ k : Int, g 4 k = h 4 k) (h3 : g 3 0 = h 3 0) (h1 : g (o + 1) 1 = h (o + 1) 1) : zcl g o = zcl h o ∧ ∀ p : Int, zquo g o p = zquo h o p := by
  have la : ∀ n, zla g o n = zla h o n := fun n => zcnt_ag h5 n
  have lp : ∀ p n, zlp g o p n = zlp h o p n := fun p n => zcnt_ag (fun k => by rw [h5 k, h4 k]) n
  have c : zcl g o = zcl h o := by unfold zcl; rw [h1, h3, la]
  have q0 : zq0 g o = zq0 h o := funext fun p => by unfold zq0; rw [h3, la, lp, c]
  have r0 : zr0 g o = zr0 h o := funext fun p => by unfold zr0; rw [h3, la, lp, c]
  refine ⟨c, fun p => ?_⟩
  unfold zquo zleft
  rw [q0, r0, c]
/-- judged, the first j men -/
def zJn (h : zH) (o L : Int) (j : Int) (g : zH) : Prop := zap (fun q => q = o + 5 ∨ q = o + 6 ∨ q = o + 7) h g ∧ ∀ m : Int, 0 ≤ m → m < j → g (o + 5) m = zjs h o L m ∧ g (o + 6) m = zjl h o L m ∧ (zjs h o L m = 4 → g (o + 7) m = zjo h o L m)
theorem l_X6_draw_8 {X : zX} {dep : Nat} {Q : Nat → zH → List zV → Prop} (o L : Int) {h : zH} (ho : zRollO o) (hb : 113 ≤ o ∧ o ≤ 155) (hL : zLawO L) (hbl : 30 ≤ L ∧ L ≤ 107) (hw : zLawOK h L) (hc : zClsOK h L) (hP : zPeo h) (hp : zPick h o) (hdep : 4 ≤ dep)
    (K : ∀ g : zH, zJn h o L (h 3 0) g → zW mX6_draw X dep 0 0 239 29 [(0, xR o), (1, xR 3)] [] g Q) :
    ∀ (k j : Nat) (g : zH), (j : Int) + k = h 3 0 → zJn h o L j g → zW mX6_draw X dep 0 0 239 8 [(0, xR o), (1, xR 3), (2, xR L), (3, xI j)] [] g Q := by
  have h3 := hP.1.1
  intro k
  induction k with
  | zero =>
    intro j g hk a
    have e3 := a.1 3 0 (by omega)
    refine bX6_draw_8 o L j ?_ ?_
    · intro c
      rw [show h 3 0 = (j : Int) by omega] at K
      exact K g a
    · intros; exfalso; omega
  | succ k ih =>
    intro j g hk a
    have e3 := a.1 3 0 (by omega)
    refine bX6_draw_8 o L j (fun c => by exfalso; omega) (fun _ => ?_)
    have q1 := (hP.2 j (by omega) (by omega)).1
    have q2 := (hP.1.2 j (by omega) (by omega)).2.2
    refine rX6_draw_20 o L j ho (f_X6_judge o L j ho hb hL hbl (by omega) (zLawOK_ap a.1 (by omega) (by omega) (by omega) hw) (zClsOK_ap a.1 (by omega) (by omega) (by omega) hc) (by rw [a.1 19 j (by omega)]; exact q1) (by rw [a.1 6 j (by omega)]; exact q2) (zPick_ap a.1 (by omega) (by omega) hp) (by omega)) (by omega) (fun f hf => ?_)
    obtain ⟨⟨b1, b2⟩, b3, b4, b5⟩ := hf
    rw [zjs_ap a.1 (by omega) (by omega) (by omega) (by omega) (by omega) (by omega) (by omega)] at b3 b5
    rw [zjl_ap a.1 (by omega) (by omega) (by omega) (by omega) (by omega) (by omega) (by omega)] at b4
    rw [zjo_ap a.1 (by omega) (by omega) (by omega) (by omega) (by omega) (by omega) (by omega) (by omega) (by omega) (by omega) (by omega)] at b5
    refine bX6_draw_23 o L j (by omega) ?_
    have ih1 := ih (j + 1) f (by omega) ⟨a.1.tr b1, fun m m0 m1 => by
      by_cases d : m = j
      · rw [d]; exact ⟨b3, b4, b5⟩
      · have := b2 m d
        rw [this.1, this.2.1, this.2.2]
        exact a.2 m m0 (by omega)⟩
    rw [show ((j + 1 : Nat) : Int) = (j : Int) + 1 by omega] at ih1
    exact ih1
theorem f_X6_draw {X : zX} {dep : Nat} (o L : Int) {h : zH} (ho : zRollO o) (hb : 113 ≤ o ∧ o ≤ 155) (hL : zLawO L) (hbl : 30 ≤ L ∧ L ≤ 107) (hsep : L + 5 < o) (hw : zLawOK h L) (hc : zClsOK h L) (hP : zPeo h) (hR : zRollOK h o) (hE : zLedsOK h) (hdep : 4 ≤ dep) :
    zW mX6_draw X dep 0 0 239 0 (zar 0 [xR o, xR 3, xR L]) [] h (zQ0 (zDrawn h o L)) := by
  have h3 := hP.1.1
  refine bX6_draw_0 o L ?_
  refine rX6_draw_3 o L ho (f_X6_ask o L ho hb hL hbl hP hR.2.1 hE.1 hE.2.1 (by omega)) (by omega) (fun g1 hg1 => ?_)
  obtain ⟨a1, v1⟩ := hg1
  refine bX6_draw_6 o L ?_
  have hP1 : zPeo g1 := by
    unfold zPeo zMenOK
    simp only [a1 3 _ (by omega), a1 4 _ (by omega), a1 5 _ (by omega), a1 6 _ (by omega), a1 19 _ (by omega), a1 21 _ (by omega)]
    exact hP
  refine l_X6_draw_8 o L ho hb hL hbl (zLawOK_ap a1 (by omega) (by omega) (by omega) hw) (zClsOK_ap a1 (by omega) (by omega) (by omega) hc) hP1 (zPick_ap a1 (by omega) (by omega) hR.1) hdep (fun g2 hg2 => ?_) (g1 3 0).toNat 0 g1 (by have := hP1.1.1; omega) ⟨zap.rf _ g1, fun m m0 m1 => by omega⟩
  obtain ⟨a2, v2⟩ := hg2
  have e23 : g2 3 0 = h 3 0 := (a2 3 0 (by omega)).trans (a1 3 0 (by omega))
  have e24 : ∀ k, g2 4 k = h 4 k := fun k => (a2 4 k (by omega)).trans (a1 4 k (by omega))
  have hp4 : ∀ i : Int, 0 ≤ i → i < h 3 0 → 0 ≤ h 4 i ∧ h 4 i < 8 := fun i i0 i1 => (hP.1.2 i i0 i1).2.1
  refine bX6_draw_29 o ?_
  refine rX6_draw_31 o ho (f_X6_share o ho hb (by rw [e23]; exact h3) (fun i i0 i1 => by rw [e24]; rw [e23] at i1; exact hp4 i i0 i1) (by rw [a2 (o + 1) 1 (by omega), a1 (o + 1) 1 (by omega)]; exact hR.2.2.1) (by omega)) (by omega) (fun g3 hg3 => ?_)
  obtain ⟨⟨a3, a3o⟩, v3, w3⟩ := hg3
  have e33 : g3 3 0 = h 3 0 := (a3 3 0 (by omega)).trans e23
  have e34 : ∀ k, g3 4 k = h 4 k := fun k => (a3 4 k (by omega)).trans (e24 k)
  refine bX6_draw_34 o ?_
  refine rX6_draw_36 o ho (f_X6_callUp o ho hb (by rw [e33]; exact h3) (fun i i0 i1 => by rw [e34]; rw [e33] at i1; exact hp4 i i0 i1) (by omega)) (by omega) (fun g4 a4 => ?_)
  have b4 := a4.1
  have l43 := fun k => a4.li k
  have v4 := a4.2.1
  have e43 : g4 3 0 = h 3 0 := (b4 3 0 (by omega)).trans e33
  refine bX6_draw_39 o ?_
  have c4 : zap (zDS o) h g4 := ((a1.mono (fun q z => by simp only [zDS]; omega)).tr (a2.mono (fun q z => by simp only [zDS]; omega))).tr ((a3.mono (fun q z => by simp only [zDS]; omega)).tr (b4.mono (fun q z => by simp only [zDS]; omega)))
  have e12 : ∀ k, g4 (o + 12) k = h (o + 12) k := fun k => (((b4 (o + 12) k (by omega)).trans (a3 (o + 12) k (by omega))).trans (a2 (o + 12) k (by omega))).trans (a1 (o + 12) k (by omega))
  have e23v : ∀ k, g4 23 k = h 23 k := fun k => (((b4 23 k (by omega)).trans (a3 23 k (by omega))).trans (a2 23 k (by omega))).trans (a1 23 k (by omega))
  have eo0 : ∀ k, k ≠ 10 → g4 o k = h o k := fun k hk => (((b4 o k (by omega)).trans (a3o k hk)).trans (a2 o k (by omega))).trans (a1 o k (by omega))
  refine rX6_draw_41 o ho (f_X6_followChains o ho hb (by rw [e43]; exact h3) (zSendOK_ap c4 (by simp only [zDS]; omega) (by simp only [zDS]; omega) (by simp only [zDS]; omega) hE.2.2) (fun q q0 q1 => by rw [e12]; exact hR.2.2.2 q q0 q1) (by omega)) (by omega) (fun g5 hg5 => ?_)
  obtain ⟨a5, v5, w5, x5⟩ := hg5
  rw [eo0 0 (by omega), c4 3 9 (by simp only [zDS]; omega), zknown_ap c4 (by simp only [zDS]; omega) (by simp only [zDS]; omega)] at v5
  refine bX6_draw_44 o ⟨rfl, rfl, ⟨c4.tr (a5.mono (fun q z => by simp only [zDS, zFS] at *; omega)), fun k hk => (a5 o k (by simp only [zFS]; omega)).trans (eo0 k hk)⟩, fun m c m0 m1 c0 c1 => ?_, fun m m0 m1 => ?_, ?_, fun p p0 p1 => ?_, fun m m0 m1 => ?_, fun q q0 q1 => ?_, fun k => ?_⟩
  · rw [a5 (o + 4) _ (by simp only [zFS]; omega), b4 (o + 4) _ (by omega), a3 (o + 4) _ (by omega), a2 (o + 4) _ (by omega)]
    exact v1 m c m0 m1 c0 c1
  all_goals have d52 : zap (fun q => q = o ∨ q = o + 5 ∨ q = o + 6 ∨ q = o + 7 ∨ q = o + 8 ∨ q = o + 9 ∨ q = o + 10 ∨ q = o + 11 ∨ q = o + 12 ∨ q = o + 13 ∨ q = 23) g1 g5 := ((a2.mono (fun q z => by omega)).tr (a3.mono (fun q z => by omega))).tr ((b4.mono (fun q z => by omega)).tr (a5.mono (fun q z => by simp only [zFS] at z; omega)))
  all_goals have l53 : ∀ k, zli g5 o k ↔ zli g3 o k := fun k => by rw [← l43 k]; unfold zli; rw [a5 (o + 5) k (by simp only [zFS]; omega)]
  all_goals have l32 : ∀ k, zli g3 o k ↔ zli g2 o k := fun k => by unfold zli; rw [a3 (o + 5) k (by omega)]
  · have s1 := zjs_ap d52 (o := o) (L := L) (by omega) (by omega) (by omega) (by omega) (by omega) (by omega) (by omega) m
    have s2 := zjl_ap d52 (o := o) (L := L) (by omega) (by omega) (by omega) (by omega) (by omega) (by omega) (by omega) m
    have s3 := zjo_ap d52 (o := o) (L := L) (by omega) (by omega) (by omega) (by omega) (by omega) (by omega) (by omega) (by omega) (by omega) (by omega) (by omega) m
    have u2 := v2 m m0 (by rw [a1 3 0 (by omega)]; exact m1)
    have u4 := v4 m m0 (by rw [e33]; exact m1)
    have hjs : zli g3 o m ↔ zjs g1 o L m = 4 := by
      rw [l32 m]
      unfold zli
      rw [u2.1]
      have : zjs g1 o L m ≠ 5 := by
        unfold zjs
        (repeat' split) <;> omega
      omega
    have eah : zahead g5 o m = zahead g3 o m := zahead_eq l53 (fun k => (a5 4 k (by simp only [zFS]; omega)).trans (b4 4 k (by omega))) (fun k => (a5 (o + 7) k (by simp only [zFS]; omega)).trans (b4 (o + 7) k (by omega))) m
    unfold zDm
    rw [s1, s2, s3, eah, l53 m, a5 (o + 6) m (by simp only [zFS]; omega), b4 (o + 6) m (by omega), a3 (o + 6) m (by omega), a5 (o + 7) m (by simp only [zFS]; omega), b4 (o + 7) m (by omega), a3 (o + 7) m (by omega), a5 (o + 5) m (by simp only [zFS]; omega), a5 (o + 8) m (by simp only [zFS]; omega), a5 (o + 10) _ (by simp only [zFS]; omega), b4 (o + 10) _ (by omega), a5 4 m (by simp only [zFS]; omega), b4 4 m (by omega), a5 3 0 (by simp only [zFS]; omega), b4 3 0 (by omega), u4.1, u4.2]
    refine ⟨hjs, u2.2.1, u2.2.2, ?_, ?_⟩
    · unfold zsta
      by_cases c : zli g3 o m
      · rw [if_pos c, if_pos (hjs.mp c)]
      · rw [if_neg c, if_neg (fun z => c (hjs.mpr z)), a3 (o + 5) m (by omega)]
        exact u2.1
    · unfold zplc
      by_cases c : zli g3 o m
      · rw [if_pos c, if_pos (hjs.mp c)]
      · rw [if_neg c, if_neg (fun z => c (hjs.mpr z))]
  all_goals have sh := zshare_eq (h := g2) (g := g5) (o := o) (fun k => (l53 k).trans (l32 k)) (fun k => ((a5 4 k (by simp only [zFS]; omega)).trans (b4 4 k (by omega))).trans (a3 4 k (by omega))) (((a5 3 0 (by simp only [zFS]; omega)).trans (b4 3 0 (by omega))).trans (a3 3 0 (by omega))) (((a5 (o + 1) 1 (by simp only [zFS]; omega)).trans (b4 (o + 1) 1 (by omega))).trans (a3 (o + 1) 1 (by omega)))
  · rw [sh.1, a5 o 10 (by simp only [zFS]; omega), b4 o 10 (by omega)]
    exact v3
  · rw [sh.2, a5 (o + 10) p (by simp only [zFS]; omega), b4 (o + 10) p (by omega)]
    exact w3 p p0 p1
  · have := v5 m m0 (by rw [e43]; exact m1)
    rw [this.1, this.2, zse_ap c4 (by simp only [zDS]; omega) (by simp only [zDS]; omega), zwse_ap c4 (by simp only [zDS]; omega) (by simp only [zDS]; omega)]
    exact ⟨rfl, rfl⟩
  · by_cases d : q < h 3 0
    · have kin := zknown_le (h := h) (o := 15) (t := h 3 9) hE.2.2.1.1
      rw [(v5 q q0 (by rw [e43]; exact d)).1, zse_ap c4 (by simp only [zDS]; omega) (by simp only [zDS]; omega)]
      exact zse_in hE.2.2 h3.2 _ (by omega) q
    · rw [(w5 q (by rw [e43]; omega)).1, e12]
      exact hR.2.2.2 q q0 q1
  · rw [x5 k, e43, show g4 23 = h 23 from funext e23v]
