/-! the model: tape, lots -/
set_option maxRecDepth 20000 in
theorem bX11_feed_0 {X : zX} {dep bc bs : Nat} (a : Int) (b : Int) (c : Int) (d : Int) (e : Int) {h : zH} {Q : Nat → zH → List zV → Prop} (ht : 0 ≤ h 169 2 ∧ h 169 2 ≤ 340)
    (k1 : ((h 169 2) + 20) ≤ 340 → zW mX11_feed X dep bc bs 239 22 [(0, xR 169), (1, xI a), (2, xI b), (3, xI c), (4, xI d), (5, xI e)] [xI a, xR 169] (zst h 169 0 0) Q)
    (k2 : ¬ (((h 169 2) + 20) ≤ 340) → Q 239 (zst h 169 0 0) [xI (-1)]) : zW mX11_feed X dep bc bs 239 0 [(0, xR 169), (1, xI a), (2, xI b), (3, xI c), (4, xI d), (5, xI e)] [] h Q := by
  refine z_aload_n 0 dX11_feed_0 rfl ?_
  refine z_iconst dX11_feed_1 (zi32_d rfl) ?_
  refine z_putI (k := 0) (kz := 0) pk11 dX11_feed_2 (by decide) zb_1124 rfl (zFit_int _) (zOb.lit (by decide +kernel)) rfl ?_
  refine z_aload_n 0 dX11_feed_5 rfl ?_
  refine z_getIV (v := (h 169 2)) (k := 2) (kz := 2) pk11 dX11_feed_6 (by decide) zb_1126 rfl (zOb.lit (by decide +kernel)) rfl (zst_ne (Or.inr (by decide))) ?_
  refine z_bipush dX11_feed_9 (zi32_d rfl) (by decide) ?_
  refine z_iaddN dX11_feed_11 (show -2147483648 ≤ (h 169 2) + 20 ∧ (h 169 2) + 20 < 2147483648 from ⟨by omega, by omega⟩).1 (show -2147483648 ≤ (h 169 2) + 20 ∧ (h 169 2) + 20 < 2147483648 from ⟨by omega, by omega⟩).2 ?_
  refine z_sipush dX11_feed_12 (zi32_d rfl) (by decide) ?_
  refine z_icmp_le (tgt := 20) dX11_feed_15 (by decide) (fun c1 => ?_) (fun c1 => ?_)
  ·
    refine z_aload_n 0 dX11_feed_20 rfl ?_
    refine z_iload_n 1 dX11_feed_21 rfl ?_
    exact k1 c1
  ·
    refine z_iconst dX11_feed_18 (zi32_d rfl) ?_
    exact z_iret dX11_feed_19 rfl (k2 c1)

set_option maxRecDepth 20000 in
theorem rX11_feed_22 {X : zX} {dep bc bs : Nat} (a : Int) (b : Int) (c : Int) (d : Int) (e : Int) {h : zH} {Q : Nat → zH → List zV → Prop} {P : zH → Prop}
    (hZ : zW mX11_four X (dep - 1) 0 0 239 0 (zar 0 [xR 169, xI a]) [] h (zQ0 P)) (hdep : 1 ≤ dep)
    (k : ∀ g : zH, P g → zW mX11_feed X dep bc bs 239 25 [(0, xR 169), (1, xI a), (2, xI b), (3, xI c), (4, xI d), (5, xI e)] [] g Q) : zW mX11_feed X dep bc bs 239 22 [(0, xR 169), (1, xI a), (2, xI b), (3, xI c), (4, xI d), (5, xI e)] [xI a, xR 169] h Q :=
  z_invQ0 (ci := 11) (N := 97) (as := [xI a]) (st := []) (ra := [xI a]) hZ dX11_feed_22 nX11_four zb_1425 zb_1427 zb_35 zb_92 (zOb.lit (by decide +kernel)) rfl (by omega) (Nat.le_of_ble_eq_true rfl) (Nat.le_of_ble_eq_true rfl) rfl (fun g hg => k g hg)

set_option maxRecDepth 20000 in
theorem bX11_feed_25 {X : zX} {dep bc bs : Nat} (a : Int) (b : Int) (c : Int) (d : Int) (e : Int) {h : zH} {Q : Nat → zH → List zV → Prop}
    (k1 : zW mX11_feed X dep bc bs 239 27 [(0, xR 169), (1, xI a), (2, xI b), (3, xI c), (4, xI d), (5, xI e)] [xI b, xR 169] h Q) : zW mX11_feed X dep bc bs 239 25 [(0, xR 169), (1, xI a), (2, xI b), (3, xI c), (4, xI d), (5, xI e)] [] h Q := by
  refine z_aload_n 0 dX11_feed_25 rfl ?_
  refine z_iload_n 2 dX11_feed_26 rfl ?_
  exact k1

set_option maxRecDepth 20000 in
theorem rX11_feed_27 {X : zX} {dep bc bs : Nat} (a : Int) (b : Int) (c : Int) (d : Int) (e : Int) {h : zH} {Q : Nat → zH → List zV → Prop} {P : zH → Prop}
    (hZ : zW mX11_four X (dep - 1) 0 0 239 0 (zar 0 [xR 169, xI b]) [] h (zQ0 P)) (hdep : 1 ≤ dep)
    (k : ∀ g : zH, P g → zW mX11_feed X dep bc bs 239 30 [(0, xR 169), (1, xI a), (2, xI b), (3, xI c), (4, xI d), (5, xI e)] [] g Q) : zW mX11_feed X dep bc bs 239 27 [(0, xR 169), (1, xI a), (2, xI b), (3, xI c), (4, xI d), (5, xI e)] [xI b, xR 169] h Q :=
  z_invQ0 (ci := 11) (N := 97) (as := [xI b]) (st := []) (ra := [xI b]) hZ dX11_feed_27 nX11_four zb_1425 zb_1427 zb_35 zb_92 (zOb.lit (by decide +kernel)) rfl (by omega) (Nat.le_of_ble_eq_true rfl) (Nat.le_of_ble_eq_true rfl) rfl (fun g hg => k g hg)

set_option maxRecDepth 20000 in
theorem bX11_feed_30 {X : zX} {dep bc bs : Nat} (a : Int) (b : Int) (c : Int) (d : Int) (e : Int) {h : zH} {Q : Nat → zH → List zV → Prop}
    (k1 : zW mX11_feed X dep bc bs 239 32 [(0, xR 169), (1, xI a), (2, xI b), (3, xI c), (4, xI d), (5, xI e)] [xI c, xR 169] h Q) : zW mX11_feed X dep bc bs 239 30 [(0, xR 169), (1, xI a), (2, xI b), (3, xI c), (4, xI d), (5, xI e)] [] h Q := by
  refine z_aload_n 0 dX11_feed_30 rfl ?_
  refine z_iload_n 3 dX11_feed_31 rfl ?_
  exact k1

set_option maxRecDepth 20000 in
theorem rX11_feed_32 {X : zX} {dep bc bs : Nat} (a : Int) (b : Int) (c : Int) (d : Int) (e : Int) {h : zH} {Q : Nat → zH → List zV → Prop} {P : zH → Prop}
    (hZ : zW mX11_four X (dep - 1) 0 0 239 0 (zar 0 [xR 169, xI c]) [] h (zQ0 P)) (hdep : 1 ≤ dep)
    (k : ∀ g : zH, P g → zW mX11_feed X dep bc bs 239 35 [(0, xR 169), (1, xI a), (2, xI b), (3, xI c), (4, xI d), (5, xI e)] [] g Q) : zW mX11_feed X dep bc bs 239 32 [(0, xR 169), (1, xI a), (2, xI b), (3, xI c), (4, xI d), (5, xI e)] [xI c, xR 169] h Q :=
  z_invQ0 (ci := 11) (N := 97) (as := [xI c]) (st := []) (ra := [xI c]) hZ dX11_feed_32 nX11_four zb_1425 zb_1427 zb_35 zb_92 (zOb.lit (by decide +kernel)) rfl (by omega) (Nat.le_of_ble_eq_true rfl) (Nat.le_of_ble_eq_true rfl) rfl (fun g hg => k g hg)

set_option maxRecDepth 20000 in
theorem bX11_feed_35 {X : zX} {dep bc bs : Nat} (a : Int) (b : Int) (c : Int) (d : Int) (e : Int) {h : zH} {Q : Nat → zH → List zV → Prop}
    (k1 : zW mX11_feed X dep bc bs 239 38 [(0, xR 169), (1, xI a), (2, xI b), (3, xI c), (4, xI d), (5, xI e)] [xI d, xR 169] h Q) : zW mX11_feed X dep bc bs 239 35 [(0, xR 169), (1, xI a), (2, xI b), (3, xI c), (4, xI d), (5, xI e)] [] h Q := by
  refine z_aload_n 0 dX11_feed_35 rfl ?_
  refine z_iload 4 dX11_feed_36 rfl ?_
  exact k1

set_option maxRecDepth 20000 in
theorem rX11_feed_38 {X : zX} {dep bc bs : Nat} (a : Int) (b : Int) (c : Int) (d : Int) (e : Int) {h : zH} {Q : Nat → zH → List zV → Prop} {P : zH → Prop}
    (hZ : zW mX11_four X (dep - 1) 0 0 239 0 (zar 0 [xR 169, xI d]) [] h (zQ0 P)) (hdep : 1 ≤ dep)
    (k : ∀ g : zH, P g → zW mX11_feed X dep bc bs 239 41 [(0, xR 169), (1, xI a), (2, xI b), (3, xI c), (4, xI d), (5, xI e)] [] g Q) : zW mX11_feed X dep bc bs 239 38 [(0, xR 169), (1, xI a), (2, xI b), (3, xI c), (4, xI d), (5, xI e)] [xI d, xR 169] h Q :=
  z_invQ0 (ci := 11) (N := 97) (as := [xI d]) (st := []) (ra := [xI d]) hZ dX11_feed_38 nX11_four zb_1425 zb_1427 zb_35 zb_92 (zOb.lit (by decide +kernel)) rfl (by omega) (Nat.le_of_ble_eq_true rfl) (Nat.le_of_ble_eq_true rfl) rfl (fun g hg => k g hg)

set_option maxRecDepth 20000 in
theorem bX11_feed_41 {X : zX} {dep bc bs : Nat} (a : Int) (b : Int) (c : Int) (d : Int) (e : Int) {h : zH} {Q : Nat → zH → List zV → Prop}
    (k1 : zW mX11_feed X dep bc bs 239 44 [(0, xR 169), (1, xI a), (2, xI b), (3, xI c), (4, xI d), (5, xI e)] [xI e, xR 169] h Q) : zW mX11_feed X dep bc bs 239 41 [(0, xR 169), (1, xI a), (2, xI b), (3, xI c), (4, xI d), (5, xI e)] [] h Q := by
  refine z_aload_n 0 dX11_feed_41 rfl ?_
  refine z_iload 5 dX11_feed_42 rfl ?_
  exact k1

set_option maxRecDepth 20000 in
theorem rX11_feed_44 {X : zX} {dep bc bs : Nat} (a : Int) (b : Int) (c : Int) (d : Int) (e : Int) {h : zH} {Q : Nat → zH → List zV → Prop} {P : zH → Prop}
    (hZ : zW mX11_four X (dep - 1) 0 0 239 0 (zar 0 [xR 169, xI e]) [] h (zQ0 P)) (hdep : 1 ≤ dep)
    (k : ∀ g : zH, P g → zW mX11_feed X dep bc bs 239 47 [(0, xR 169), (1, xI a), (2, xI b), (3, xI c), (4, xI d), (5, xI e)] [] g Q) : zW mX11_feed X dep bc bs 239 44 [(0, xR 169), (1, xI a), (2, xI b), (3, xI c), (4, xI d), (5, xI e)] [xI e, xR 169] h Q :=
  z_invQ0 (ci := 11) (N := 97) (as := [xI e]) (st := []) (ra := [xI e]) hZ dX11_feed_44 nX11_four zb_1425 zb_1427 zb_35 zb_92 (zOb.lit (by decide +kernel)) rfl (by omega) (Nat.le_of_ble_eq_true rfl) (Nat.le_of_ble_eq_true rfl) rfl (fun g hg => k g hg)

set_option maxRecDepth 20000 in
theorem bX11_feed_47 {X : zX} {dep bc bs : Nat} (a : Int) (b : Int) (c : Int) (d : Int) (e : Int) {h : zH} {Q : Nat → zH → List zV → Prop}
    (k1 : Q 239 h [xI (h 169 2)]) : zW mX11_feed X dep bc bs 239 47 [(0, xR 169), (1, xI a), (2, xI b), (3, xI c), (4, xI d), (5, xI e)] [] h Q := by
  refine z_aload_n 0 dX11_feed_47 rfl ?_
  refine z_getI (k := 2) (kz := 2) pk11 dX11_feed_48 (by decide) zb_1126 rfl (zOb.lit (by decide +kernel)) rfl ?_
  exact z_iret dX11_feed_51 rfl (k1)

set_option maxRecDepth 20000 in
theorem bX11_man_0 {X : zX} {dep bc bs : Nat} (p : Int) (f : Int) {h : zH} {Q : Nat → zH → List zV → Prop} (hm : 0 ≤ h 169 25 ∧ h 169 25 ≤ 60) (ht : 0 ≤ h 169 2 ∧ h 169 2 ≤ 340) (hdep : 1 ≤ dep)
    (k1 : (h 169 25) = 60 → Q 239 (zst (zst (zst (zst h 169 0 0) 169 3 ((h 169 2))) 169 2 0) 169 4 0) [xI (-1)])
    (k2 : ¬ ((h 169 25) = 60) → ¬ (0 ≤ p ∧ p ≤ 7) → Q 239 (zst (zst (zst (zst h 169 0 0) 169 3 ((h 169 2))) 169 2 0) 169 4 0) [xI (-1)])
    (k3 : ¬ ((h 169 25) = 60) → 0 ≤ p ∧ p ≤ 7 → ¬ (0 ≤ f ∧ f ≤ 59) → Q 239 (zst (zst (zst (zst h 169 0 0) 169 3 ((h 169 2))) 169 2 0) 169 4 0) [xI (-1)])
    (k4 : ¬ ((h 169 25) = 60) → 0 ≤ p ∧ p ≤ 7 → 0 ≤ f ∧ f ≤ 59 → 1 ≤ ((h 169 2)) ∧ ((h 169 2)) ≤ 8 → zW mX11_man X dep bc bs 239 55 [(0, xR 169), (1, xI p), (2, xI f), (3, xI 0)] [] (zst (zst (zst (zst h 169 0 0) 169 3 ((h 169 2))) 169 2 0) 169 4 0) Q)
    (k5 : ¬ ((h 169 25) = 60) → 0 ≤ p ∧ p ≤ 7 → 0 ≤ f ∧ f ≤ 59 → ¬ (1 ≤ ((h 169 2)) ∧ ((h 169 2)) ≤ 8) → Q 239 (zst (zst (zst (zst h 169 0 0) 169 3 ((h 169 2))) 169 2 0) 169 4 0) [xI (-1)]) : zW mX11_man X dep bc bs 239 0 [(0, xR 169), (1, xI p), (2, xI f)] [] h Q := by
  refine z_aload_n 0 dX11_man_0 rfl ?_
  refine z_iconst dX11_man_1 (zi32_d rfl) ?_
  refine z_putI (k := 0) (kz := 0) pk11 dX11_man_2 (by decide) zb_1124 rfl (zFit_int _) (zOb.lit (by decide +kernel)) rfl ?_
  refine z_aload_n 0 dX11_man_5 rfl ?_
  refine z_invF (ci := 11) (N := 97) (as := []) (st := []) (ra := []) (dep' := dep - 1) (rs := []) (h' := (zst (zst (zst (zst h 169 0 0) 169 3 ((h 169 2))) 169 2 0) 169 4 0)) (by have e1 : (zst h 169 0 0) 169 2 = (h 169 2) := (zst_ne (Or.inr (by decide))); have z9 := f_X11_taken (X := X) (dep := dep - 1)  (h := (zst h 169 0 0)) ; rw [e1] at z9; exact z9) dX11_man_6 nX11_taken zb_1444 zb_1446 zb_36 zb_92 (zOb.lit (by decide +kernel)) rfl (by omega) zne_0 (Nat.le_of_ble_eq_true rfl) (Nat.le_of_ble_eq_true rfl) rfl ?_
  refine z_aload_n 0 dX11_man_9 rfl ?_
  refine z_getIV (v := (h 169 25)) (k := 25) (kz := 25) pk11 dX11_man_10 (by decide) zb_1149 rfl (zOb.lit (by decide +kernel)) rfl ((zst_ne (Or.inr (by decide))).trans ((zst_ne (Or.inr (by decide))).trans ((zst_ne (Or.inr (by decide))).trans (zst_ne (Or.inr (by decide)))))) ?_
  refine z_bipush dX11_man_13 (zi32_d rfl) (by decide) ?_
  refine z_icmp_eq (tgt := 51) dX11_man_15 (by decide) (fun c1 => ?_) (fun c1 => ?_)
  ·
    refine z_iconst dX11_man_51 (zi32_d rfl) ?_
    exact z_iret dX11_man_52 rfl (k1 c1)
  ·
    refine z_iload_n 1 dX11_man_18 rfl ?_
    refine z_iconst dX11_man_19 (zi32_d rfl) ?_
    refine z_bipush dX11_man_20 (zi32_d rfl) (by decide) ?_
    refine z_invSF (as := [xI p, xI 0, xI 7]) (st := []) (ra := [xI 7, xI 0, xI p]) (dep' := dep - 1) (rs := [xI (zb (0 ≤ p ∧ p ≤ 7))]) (h' := (zst (zst (zst (zst h 169 0 0) 169 3 ((h 169 2))) 169 2 0) 169 4 0)) (f_X11_isIn p 0 7 (h := (zst (zst (zst (zst h 169 0 0) 169 3 ((h 169 2))) 169 2 0) 169 4 0)) ) dX11_man_22 nX11_isIn zb_1437 zb_1438 zb_92 (by omega) zne_I (Nat.le_of_ble_eq_true rfl) (Nat.le_of_ble_eq_true rfl) rfl ?_
    refine z_ifB_eq (C := 0 ≤ p ∧ p ≤ 7) (tgt := 51) dX11_man_25 (by decide) (fun c2 => ?_) (fun c2 => ?_)
    ·
      refine z_iconst dX11_man_51 (zi32_d rfl) ?_
      exact z_iret dX11_man_52 rfl (k2 c1 c2)
    ·
      refine z_iload_n 2 dX11_man_28 rfl ?_
      refine z_iconst dX11_man_29 (zi32_d rfl) ?_
      refine z_bipush dX11_man_30 (zi32_d rfl) (by decide) ?_
      refine z_invSF (as := [xI f, xI 0, xI 59]) (st := []) (ra := [xI 59, xI 0, xI f]) (dep' := dep - 1) (rs := [xI (zb (0 ≤ f ∧ f ≤ 59))]) (h' := (zst (zst (zst (zst h 169 0 0) 169 3 ((h 169 2))) 169 2 0) 169 4 0)) (f_X11_isIn f 0 59 (h := (zst (zst (zst (zst h 169 0 0) 169 3 ((h 169 2))) 169 2 0) 169 4 0)) ) dX11_man_32 nX11_isIn zb_1437 zb_1438 zb_92 (by omega) zne_I (Nat.le_of_ble_eq_true rfl) (Nat.le_of_ble_eq_true rfl) rfl ?_
      refine z_ifB_eq (C := 0 ≤ f ∧ f ≤ 59) (tgt := 51) dX11_man_35 (by decide) (fun c3 => ?_) (fun c3 => ?_)
      ·
        refine z_iconst dX11_man_51 (zi32_d rfl) ?_
        exact z_iret dX11_man_52 rfl (k3 c1 c2 c3)
      ·
        refine z_aload_n 0 dX11_man_38 rfl ?_
        refine z_getIV (v := ((h 169 2))) (k := 3) (kz := 3) pk11 dX11_man_39 (by decide) zb_1127 rfl (zOb.lit (by decide +kernel)) rfl ((zst_ne (Or.inr (by decide))).trans ((zst_ne (Or.inr (by decide))).trans (zst_self _ _ _ _))) ?_
        refine z_iconst dX11_man_42 (zi32_d rfl) ?_
        refine z_bipush dX11_man_43 (zi32_d rfl) (by decide) ?_
        refine z_invSF (as := [xI ((h 169 2)), xI 1, xI 8]) (st := []) (ra := [xI 8, xI 1, xI ((h 169 2))]) (dep' := dep - 1) (rs := [xI (zb (1 ≤ ((h 169 2)) ∧ ((h 169 2)) ≤ 8))]) (h' := (zst (zst (zst (zst h 169 0 0) 169 3 ((h 169 2))) 169 2 0) 169 4 0)) (f_X11_isIn ((h 169 2)) 1 8 (h := (zst (zst (zst (zst h 169 0 0) 169 3 ((h 169 2))) 169 2 0) 169 4 0)) ) dX11_man_45 nX11_isIn zb_1437 zb_1438 zb_92 (by omega) zne_I (Nat.le_of_ble_eq_true rfl) (Nat.le_of_ble_eq_true rfl) rfl ?_
        refine z_ifB_ne (C := 1 ≤ ((h 169 2)) ∧ ((h 169 2)) ≤ 8) (tgt := 53) dX11_man_48 (by decide) (fun c4 => ?_) (fun c4 => ?_)
        ·
          refine z_iconst dX11_man_53 (zi32_d rfl) ?_
          refine z_istore_n (lv' := [(3, xI 0), (0, xR 169), (1, xI p), (2, xI f)]) dX11_man_54 (by decide) rfl ?_
          refine zW.sub (lv' := [(0, xR 169), (1, xI p), (2, xI f), (3, xI 0)]) [1, 2, 3, 0] rfl ?_
          exact k4 c1 c2 c3 c4
        ·
          refine z_iconst dX11_man_51 (zi32_d rfl) ?_
          exact z_iret dX11_man_52 rfl (k5 c1 c2 c3 c4)

set_option maxRecDepth 20000 in
theorem bX11_man_55 {X : zX} {dep bc bs : Nat} (p : Int) (f : Int) (i : Int) {g : zH} {Q : Nat → zH → List zV → Prop} (hs : 0 ≤ g 169 3 ∧ g 169 3 ≤ 8) (hi : 0 ≤ i) (hdep : 1 ≤ dep)
    (k1 : (g 169 3) ≤ i → zW mX11_man X dep bc bs 239 83 [(0, xR 169), (1, xI p), (2, xI f)] [] g Q)
    (k2 : ¬ ((g 169 3) ≤ i) → 97 ≤ (g 170 i) ∧ (g 170 i) ≤ 122 → zW mX11_man X dep bc bs 239 55 [(0, xR 169), (1, xI p), (2, xI f), (3, xI (i + 1))] [] g Q)
    (k3 : ¬ ((g 169 3) ≤ i) → ¬ (97 ≤ (g 170 i) ∧ (g 170 i) ≤ 122) → Q 239 g [xI (-1)]) : zW mX11_man X dep bc bs 239 55 [(0, xR 169), (1, xI p), (2, xI f), (3, xI i)] [] g Q := by
  refine z_iload_n 3 dX11_man_55 rfl ?_
  refine z_aload_n 0 dX11_man_56 rfl ?_
  refine z_getI (k := 3) (kz := 3) pk11 dX11_man_57 (by decide) zb_1127 rfl (zOb.lit (by decide +kernel)) rfl ?_
  refine z_icmp_ge (tgt := 83) dX11_man_60 (by decide) (fun c1 => ?_) (fun c1 => ?_)
  ·
    refine zW.sub (lv' := [(0, xR 169), (1, xI p), (2, xI f)]) [0, 1, 2] rfl ?_
    exact k1 c1
  ·
    refine z_aload_n 0 dX11_man_63 rfl ?_
    refine z_getS (v := 170) (k := 1) (kz := 1) pk11 dX11_man_64 (by decide) zb_1125 rfl (zOb.lit (by decide +kernel)) rfl (by decide +kernel) ?_
    refine z_iload_n 3 dX11_man_67 rfl ?_
    refine z_bald dX11_man_68 (zOb.lit (by decide +kernel)) (show 0 ≤ i ∧ i < 340 from ⟨by omega, by omega⟩).1 (show 0 ≤ i ∧ i < 340 from ⟨by omega, by omega⟩).2 ?_
    refine z_invSF (as := [xI (g 170 i)]) (st := []) (ra := [xI (g 170 i)]) (dep' := dep - 1) (rs := [xI (zb (97 ≤ (g 170 i) ∧ (g 170 i) ≤ 122))]) (h' := g) (f_X11_isSmall (g 170 i) (h := g) ) dX11_man_69 nX11_isSmall zb_1448 zb_1449 zb_92 (by omega) zne_I (Nat.le_of_ble_eq_true rfl) (Nat.le_of_ble_eq_true rfl) rfl ?_
    refine z_ifB_ne (C := 97 ≤ (g 170 i) ∧ (g 170 i) ≤ 122) (tgt := 77) dX11_man_72 (by decide) (fun c2 => ?_) (fun c2 => ?_)
    ·
      refine z_iincN (lv' := [(3, xI (i + 1)), (0, xR 169), (1, xI p), (2, xI f)]) 3 dX11_man_77 rfl (by decide) rfl (show -2147483648 ≤ i + 1 ∧ i + 1 < 2147483648 from ⟨by omega, by omega⟩).1 (show -2147483648 ≤ i + 1 ∧ i + 1 < 2147483648 from ⟨by omega, by omega⟩).2 ?_
      refine z_goto (tgt := 55) dX11_man_80 (by decide) ?_
      refine zW.sub (lv' := [(0, xR 169), (1, xI p), (2, xI f), (3, xI (i + 1))]) [1, 2, 3, 0] rfl ?_
      exact k2 c1 c2
    ·
      refine z_iconst dX11_man_75 (zi32_d rfl) ?_
      exact z_iret dX11_man_76 rfl (k3 c1 c2)

set_option maxRecDepth 20000 in
theorem bX11_man_83 {X : zX} {dep bc bs : Nat} (p : Int) (f : Int) {g : zH} {Q : Nat → zH → List zV → Prop} (hm : 0 ≤ g 169 25 ∧ g 169 25 < 60) (hb : -128 ≤ g 170 0 ∧ g 170 0 ≤ 127)
    (k1 : Q 239 (zst (zst (zst (zst g 171 (g 169 25) ((g 170 0) - 97)) 172 (g 169 25) p) 173 (g 169 25) f) 169 25 ((g 169 25) + 1)) [xI (g 169 25)]) : zW mX11_man X dep bc bs 239 83 [(0, xR 169), (1, xI p), (2, xI f)] [] g Q := by
  refine z_aload_n 0 dX11_man_83 rfl ?_
  refine z_getS (v := 171) (k := 6) (kz := 6) pk11 dX11_man_84 (by decide) zb_1130 rfl (zOb.lit (by decide +kernel)) rfl (by decide +kernel) ?_
  refine z_aload_n 0 dX11_man_87 rfl ?_
  refine z_getI (k := 25) (kz := 25) pk11 dX11_man_88 (by decide) zb_1149 rfl (zOb.lit (by decide +kernel)) rfl ?_
  refine z_aload_n 0 dX11_man_91 rfl ?_
  refine z_getS (v := 170) (k := 1) (kz := 1) pk11 dX11_man_92 (by decide) zb_1125 rfl (zOb.lit (by decide +kernel)) rfl (by decide +kernel) ?_
  refine z_iconst dX11_man_95 (zi32_d rfl) ?_
  refine z_bald (N := 340) dX11_man_96 (zOb.lit (by decide +kernel)) (by decide) (by decide) ?_
  refine z_bipush dX11_man_97 (zi32_d rfl) (by decide) ?_
  refine z_isubN dX11_man_99 (show -2147483648 ≤ (g 170 0) - 97 ∧ (g 170 0) - 97 < 2147483648 from ⟨by omega, by omega⟩).1 (show -2147483648 ≤ (g 170 0) - 97 ∧ (g 170 0) - 97 < 2147483648 from ⟨by omega, by omega⟩).2 ?_
  refine z_iast dX11_man_100 (zOb.lit (by decide +kernel)) (show 0 ≤ (g 169 25) ∧ (g 169 25) < 60 from ⟨by omega, by omega⟩).1 (show 0 ≤ (g 169 25) ∧ (g 169 25) < 60 from ⟨by omega, by omega⟩).2 ?_
  refine z_aload_n 0 dX11_man_101 rfl ?_
  refine z_getS (v := 172) (k := 7) (kz := 7) pk11 dX11_man_102 (by decide) zb_1131 rfl (zOb.lit (by decide +kernel)) rfl (by decide +kernel) ?_
  refine z_aload_n 0 dX11_man_105 rfl ?_
  refine z_getIV (v := (g 169 25)) (k := 25) (kz := 25) pk11 dX11_man_106 (by decide) zb_1149 rfl (zOb.lit (by decide +kernel)) rfl (zst_ne (Or.inl (by decide))) ?_
  refine z_iload_n 1 dX11_man_109 rfl ?_
  refine z_iast dX11_man_110 (zOb.lit (by decide +kernel)) (show 0 ≤ (g 169 25) ∧ (g 169 25) < 60 from ⟨by omega, by omega⟩).1 (show 0 ≤ (g 169 25) ∧ (g 169 25) < 60 from ⟨by omega, by omega⟩).2 ?_
  refine z_aload_n 0 dX11_man_111 rfl ?_
  refine z_getS (v := 173) (k := 8) (kz := 8) pk11 dX11_man_112 (by decide) zb_1132 rfl (zOb.lit (by decide +kernel)) rfl (by decide +kernel) ?_
  refine z_aload_n 0 dX11_man_115 rfl ?_
  refine z_getIV (v := (g 169 25)) (k := 25) (kz := 25) pk11 dX11_man_116 (by decide) zb_1149 rfl (zOb.lit (by decide +kernel)) rfl ((zst_ne (Or.inl (by decide))).trans (zst_ne (Or.inl (by decide)))) ?_
  refine z_iload_n 2 dX11_man_119 rfl ?_
  refine z_iast dX11_man_120 (zOb.lit (by decide +kernel)) (show 0 ≤ (g 169 25) ∧ (g 169 25) < 60 from ⟨by omega, by omega⟩).1 (show 0 ≤ (g 169 25) ∧ (g 169 25) < 60 from ⟨by omega, by omega⟩).2 ?_
  refine z_aload_n 0 dX11_man_121 rfl ?_
  refine z_dup dX11_man_122 zt2 ?_
  refine z_getIV (v := (g 169 25)) (k := 25) (kz := 25) pk11 dX11_man_123 (by decide) zb_1149 rfl (zOb.lit (by decide +kernel)) rfl ((zst_ne (Or.inl (by decide))).trans ((zst_ne (Or.inl (by decide))).trans (zst_ne (Or.inl (by decide))))) ?_
  refine z_iconst dX11_man_126 (zi32_d rfl) ?_
  refine z_iaddN dX11_man_127 (show -2147483648 ≤ (g 169 25) + 1 ∧ (g 169 25) + 1 < 2147483648 from ⟨by omega, by omega⟩).1 (show -2147483648 ≤ (g 169 25) + 1 ∧ (g 169 25) + 1 < 2147483648 from ⟨by omega, by omega⟩).2 ?_
  refine z_putI (k := 25) (kz := 25) pk11 dX11_man_128 (by decide) zb_1149 rfl (zFit_int _) (zOb.lit (by decide +kernel)) rfl ?_
  refine z_aload_n 0 dX11_man_131 rfl ?_
  refine z_getIV (v := ((g 169 25) + 1)) (k := 25) (kz := 25) pk11 dX11_man_132 (by decide) zb_1149 rfl (zOb.lit (by decide +kernel)) rfl (zst_self _ _ _ _) ?_
  refine z_iconst dX11_man_135 (zi32_d rfl) ?_
  refine z_isubV (v := (g 169 25)) dX11_man_136 (by omega) (show -2147483648 ≤ (g 169 25) ∧ (g 169 25) < 2147483648 from ⟨by omega, by omega⟩).1 (show -2147483648 ≤ (g 169 25) ∧ (g 169 25) < 2147483648 from ⟨by omega, by omega⟩).2 ?_
  exact z_iret dX11_man_137 rfl (k1)

set_option maxRecDepth 20000 in
theorem bX11_lot_0 {X : zX} {dep bc bs : Nat} (d : Int) (w : Int) {h : zH} {Q : Nat → zH → List zV → Prop} (hl : 0 ≤ h 169 65 ∧ h 169 65 ≤ 4) (hdep : 1 ≤ dep)
    (k1 : (h 169 65) = 4 → Q 239 (zst h 169 0 0) [xI (-1)])
    (k2 : ¬ ((h 169 65) = 4) → ¬ ((h 169 5) ≤ d ∧ d ≤ 3639) → Q 239 (zst h 169 0 0) [xI (-1)])
    (k3 : ¬ ((h 169 65) = 4) → (h 169 5) ≤ d ∧ d ≤ 3639 → (h 169 65) ≤ 0 → 0 ≤ w ∧ w ≤ 60 → zW mX11_lot X dep bc bs 239 61 [(0, xR 169), (1, xI d), (2, xI w)] [] (zst h 169 0 0) Q)
    (k4 : ¬ ((h 169 65) = 4) → (h 169 5) ≤ d ∧ d ≤ 3639 → (h 169 65) ≤ 0 → ¬ (0 ≤ w ∧ w ≤ 60) → Q 239 (zst h 169 0 0) [xI (-1)])
    (k5 : ¬ ((h 169 65) = 4) → (h 169 5) ≤ d ∧ d ≤ 3639 → ¬ ((h 169 65) ≤ 0) → d < (h 205 ((h 169 65) - 1)) → Q 239 (zst h 169 0 0) [xI (-1)])
    (k6 : ¬ ((h 169 65) = 4) → (h 169 5) ≤ d ∧ d ≤ 3639 → ¬ ((h 169 65) ≤ 0) → ¬ (d < (h 205 ((h 169 65) - 1))) → 0 ≤ w ∧ w ≤ 60 → zW mX11_lot X dep bc bs 239 61 [(0, xR 169), (1, xI d), (2, xI w)] [] (zst h 169 0 0) Q)
    (k7 : ¬ ((h 169 65) = 4) → (h 169 5) ≤ d ∧ d ≤ 3639 → ¬ ((h 169 65) ≤ 0) → ¬ (d < (h 205 ((h 169 65) - 1))) → ¬ (0 ≤ w ∧ w ≤ 60) → Q 239 (zst h 169 0 0) [xI (-1)]) : zW mX11_lot X dep bc bs 239 0 [(0, xR 169), (1, xI d), (2, xI w)] [] h Q := by
  refine z_aload_n 0 dX11_lot_0 rfl ?_
  refine z_iconst dX11_lot_1 (zi32_d rfl) ?_
  refine z_putI (k := 0) (kz := 0) pk11 dX11_lot_2 (by decide) zb_1124 rfl (zFit_int _) (zOb.lit (by decide +kernel)) rfl ?_
  refine z_aload_n 0 dX11_lot_5 rfl ?_
  refine z_getIV (v := (h 169 65)) (k := 65) (kz := 65) pk11 dX11_lot_6 (by decide) zb_1189 rfl (zOb.lit (by decide +kernel)) rfl (zst_ne (Or.inr (by decide))) ?_
  refine z_iconst dX11_lot_9 (zi32_d rfl) ?_
  refine z_icmp_eq (tgt := 59) dX11_lot_10 (by decide) (fun c1 => ?_) (fun c1 => ?_)
  ·
    refine z_iconst dX11_lot_59 (zi32_d rfl) ?_
    exact z_iret dX11_lot_60 rfl (k1 c1)
  ·
    refine z_iload_n 1 dX11_lot_13 rfl ?_
    refine z_aload_n 0 dX11_lot_14 rfl ?_
    refine z_getIV (v := (h 169 5)) (k := 5) (kz := 5) pk11 dX11_lot_15 (by decide) zb_1129 rfl (zOb.lit (by decide +kernel)) rfl (zst_ne (Or.inr (by decide))) ?_
    refine z_sipush dX11_lot_18 (zi32_d rfl) (by decide) ?_
    refine z_invSF (as := [xI d, xI (h 169 5), xI 3639]) (st := []) (ra := [xI 3639, xI (h 169 5), xI d]) (dep' := dep - 1) (rs := [xI (zb ((h 169 5) ≤ d ∧ d ≤ 3639))]) (h' := (zst h 169 0 0)) (f_X11_isIn d (h 169 5) 3639 (h := (zst h 169 0 0)) ) dX11_lot_21 nX11_isIn zb_1437 zb_1438 zb_92 (by omega) zne_I (Nat.le_of_ble_eq_true rfl) (Nat.le_of_ble_eq_true rfl) rfl ?_
    refine z_ifB_eq (C := (h 169 5) ≤ d ∧ d ≤ 3639) (tgt := 59) dX11_lot_24 (by decide) (fun c2 => ?_) (fun c2 => ?_)
    ·
      refine z_iconst dX11_lot_59 (zi32_d rfl) ?_
      exact z_iret dX11_lot_60 rfl (k2 c1 c2)
    ·
      refine z_aload_n 0 dX11_lot_27 rfl ?_
      refine z_getIV (v := (h 169 65)) (k := 65) (kz := 65) pk11 dX11_lot_28 (by decide) zb_1189 rfl (zOb.lit (by decide +kernel)) rfl (zst_ne (Or.inr (by decide))) ?_
      refine z_if_le (tgt := 49) dX11_lot_31 (by decide) (fun c3 => ?_) (fun c3 => ?_)
      ·
        refine z_iload_n 2 dX11_lot_49 rfl ?_
        refine z_iconst dX11_lot_50 (zi32_d rfl) ?_
        refine z_bipush dX11_lot_51 (zi32_d rfl) (by decide) ?_
        refine z_invSF (as := [xI w, xI 0, xI 60]) (st := []) (ra := [xI 60, xI 0, xI w]) (dep' := dep - 1) (rs := [xI (zb (0 ≤ w ∧ w ≤ 60))]) (h' := (zst h 169 0 0)) (f_X11_isIn w 0 60 (h := (zst h 169 0 0)) ) dX11_lot_53 nX11_isIn zb_1437 zb_1438 zb_92 (by omega) zne_I (Nat.le_of_ble_eq_true rfl) (Nat.le_of_ble_eq_true rfl) rfl ?_
        refine z_ifB_ne (C := 0 ≤ w ∧ w ≤ 60) (tgt := 61) dX11_lot_56 (by decide) (fun c4 => ?_) (fun c4 => ?_)
        ·
          exact k3 c1 c2 c3 c4
        ·
          refine z_iconst dX11_lot_59 (zi32_d rfl) ?_
          exact z_iret dX11_lot_60 rfl (k4 c1 c2 c3 c4)
      ·
        refine z_iload_n 1 dX11_lot_34 rfl ?_
        refine z_aload_n 0 dX11_lot_35 rfl ?_
        refine z_getS (v := 205) (k := 57) (kz := 57) pk11 dX11_lot_36 (by decide) zb_1181 rfl (zOb.lit (by decide +kernel)) rfl (by decide +kernel) ?_
        refine z_aload_n 0 dX11_lot_39 rfl ?_
        refine z_getIV (v := (h 169 65)) (k := 65) (kz := 65) pk11 dX11_lot_40 (by decide) zb_1189 rfl (zOb.lit (by decide +kernel)) rfl (zst_ne (Or.inr (by decide))) ?_
        refine z_iconst dX11_lot_43 (zi32_d rfl) ?_
        refine z_isubN dX11_lot_44 (show -2147483648 ≤ (h 169 65) - 1 ∧ (h 169 65) - 1 < 2147483648 from ⟨by omega, by omega⟩).1 (show -2147483648 ≤ (h 169 65) - 1 ∧ (h 169 65) - 1 < 2147483648 from ⟨by omega, by omega⟩).2 ?_
        refine z_ialdV (v := (h 205 ((h 169 65) - 1))) dX11_lot_45 (zOb.lit (by decide +kernel)) (show 0 ≤ ((h 169 65) - 1) ∧ ((h 169 65) - 1) < 4 from ⟨by omega, by omega⟩).1 (show 0 ≤ ((h 169 65) - 1) ∧ ((h 169 65) - 1) < 4 from ⟨by omega, by omega⟩).2 (zst_ne (Or.inl (by decide))) ?_
        refine z_icmp_lt (tgt := 59) dX11_lot_46 (by decide) (fun c4 => ?_) (fun c4 => ?_)
        ·
          refine z_iconst dX11_lot_59 (zi32_d rfl) ?_
          exact z_iret dX11_lot_60 rfl (k5 c1 c2 c3 c4)
        ·
          refine z_iload_n 2 dX11_lot_49 rfl ?_
          refine z_iconst dX11_lot_50 (zi32_d rfl) ?_
          refine z_bipush dX11_lot_51 (zi32_d rfl) (by decide) ?_
          refine z_invSF (as := [xI w, xI 0, xI 60]) (st := []) (ra := [xI 60, xI 0, xI w]) (dep' := dep - 1) (rs := [xI (zb (0 ≤ w ∧ w ≤ 60))]) (h' := (zst h 169 0 0)) (f_X11_isIn w 0 60 (h := (zst h 169 0 0)) ) dX11_lot_53 nX11_isIn zb_1437 zb_1438 zb_92 (by omega) zne_I (Nat.le_of_ble_eq_true rfl) (Nat.le_of_ble_eq_true rfl) rfl ?_
          refine z_ifB_ne (C := 0 ≤ w ∧ w ≤ 60) (tgt := 61) dX11_lot_56 (by decide) (fun c5 => ?_) (fun c5 => ?_)
          ·
            exact k6 c1 c2 c3 c4 c5
          ·
            refine z_iconst dX11_lot_59 (zi32_d rfl) ?_
            exact z_iret dX11_lot_60 rfl (k7 c1 c2 c3 c4 c5)

set_option maxRecDepth 20000 in
theorem bX11_lot_61 {X : zX} {dep bc bs : Nat} (d : Int) (w : Int) {g : zH} {Q : Nat → zH → List zV → Prop} (hl : 0 ≤ g 169 65 ∧ g 169 65 < 4)
    (k1 : zW mX11_lot X dep bc bs 239 83 [(0, xR 169), (3, xI 0)] [] (zst (zst g 205 (g 169 65) d) 206 (g 169 65) w) Q) : zW mX11_lot X dep bc bs 239 61 [(0, xR 169), (1, xI d), (2, xI w)] [] g Q := by
  refine z_aload_n 0 dX11_lot_61 rfl ?_
  refine z_getS (v := 205) (k := 57) (kz := 57) pk11 dX11_lot_62 (by decide) zb_1181 rfl (zOb.lit (by decide +kernel)) rfl (by decide +kernel) ?_
  refine z_aload_n 0 dX11_lot_65 rfl ?_
  refine z_getI (k := 65) (kz := 65) pk11 dX11_lot_66 (by decide) zb_1189 rfl (zOb.lit (by decide +kernel)) rfl ?_
  refine z_iload_n 1 dX11_lot_69 rfl ?_
  refine z_iast dX11_lot_70 (zOb.lit (by decide +kernel)) (show 0 ≤ (g 169 65) ∧ (g 169 65) < 4 from ⟨by omega, by omega⟩).1 (show 0 ≤ (g 169 65) ∧ (g 169 65) < 4 from ⟨by omega, by omega⟩).2 ?_
  refine z_aload_n 0 dX11_lot_71 rfl ?_
  refine z_getS (v := 206) (k := 58) (kz := 58) pk11 dX11_lot_72 (by decide) zb_1182 rfl (zOb.lit (by decide +kernel)) rfl (by decide +kernel) ?_
  refine z_aload_n 0 dX11_lot_75 rfl ?_
  refine z_getIV (v := (g 169 65)) (k := 65) (kz := 65) pk11 dX11_lot_76 (by decide) zb_1189 rfl (zOb.lit (by decide +kernel)) rfl (zst_ne (Or.inl (by decide))) ?_
  refine z_iload_n 2 dX11_lot_79 rfl ?_
  refine z_iast dX11_lot_80 (zOb.lit (by decide +kernel)) (show 0 ≤ (g 169 65) ∧ (g 169 65) < 4 from ⟨by omega, by omega⟩).1 (show 0 ≤ (g 169 65) ∧ (g 169 65) < 4 from ⟨by omega, by omega⟩).2 ?_
  refine z_iconst dX11_lot_81 (zi32_d rfl) ?_
  refine z_istore_n (lv' := [(3, xI 0), (0, xR 169), (1, xI d), (2, xI w)]) dX11_lot_82 (by decide) rfl ?_
  refine zW.sub (lv' := [(0, xR 169), (3, xI 0)]) [1, 0] rfl ?_
  exact k1

set_option maxRecDepth 20000 in
theorem bX11_lot_83 {X : zX} {dep bc bs : Nat} (i : Int) {g : zH} {Q : Nat → zH → List zV → Prop} (hl : 0 ≤ g 169 65 ∧ g 169 65 < 4) (hi : 0 ≤ i)
    (k1 : 52 ≤ i → zW mX11_lot X dep bc bs 239 127 [(0, xR 169), (3, xI 0)] [] g Q)
    (k2 : ¬ (52 ≤ i) → zW mX11_lot X dep bc bs 239 83 [(0, xR 169), (3, xI (i + 1))] [] (zst (zst g 207 ((52 * (g 169 65)) + i) i) 208 ((52 * (g 169 65)) + i) i) Q) : zW mX11_lot X dep bc bs 239 83 [(0, xR 169), (3, xI i)] [] g Q := by
  refine z_iload_n 1 dX11_lot_83 rfl ?_
  refine z_bipush dX11_lot_84 (zi32_d rfl) (by decide) ?_
  refine z_icmp_ge (tgt := 125) dX11_lot_86 (by decide) (fun c1 => ?_) (fun c1 => ?_)
  ·
    refine z_iconst dX11_lot_125 (zi32_d rfl) ?_
    refine z_istore_n (lv' := [(3, xI 0), (0, xR 169)]) dX11_lot_126 (by decide) rfl ?_
    refine zW.sub (lv' := [(0, xR 169), (3, xI 0)]) [1, 0] rfl ?_
    exact k1 c1
  ·
    refine z_aload_n 0 dX11_lot_89 rfl ?_
    refine z_getS (v := 207) (k := 59) (kz := 59) pk11 dX11_lot_90 (by decide) zb_1183 rfl (zOb.lit (by decide +kernel)) rfl (by decide +kernel) ?_
    refine z_bipush dX11_lot_93 (zi32_d rfl) (by decide) ?_
    refine z_aload_n 0 dX11_lot_95 rfl ?_
    refine z_getI (k := 65) (kz := 65) pk11 dX11_lot_96 (by decide) zb_1189 rfl (zOb.lit (by decide +kernel)) rfl ?_
    refine z_imulN dX11_lot_99 (show -2147483648 ≤ 52 * (g 169 65) ∧ 52 * (g 169 65) < 2147483648 from ⟨by omega, by omega⟩).1 (show -2147483648 ≤ 52 * (g 169 65) ∧ 52 * (g 169 65) < 2147483648 from ⟨by omega, by omega⟩).2 ?_
    refine z_iload_n 1 dX11_lot_100 rfl ?_
    refine z_iaddN dX11_lot_101 (show -2147483648 ≤ (52 * (g 169 65)) + i ∧ (52 * (g 169 65)) + i < 2147483648 from ⟨by omega, by omega⟩).1 (show -2147483648 ≤ (52 * (g 169 65)) + i ∧ (52 * (g 169 65)) + i < 2147483648 from ⟨by omega, by omega⟩).2 ?_
    refine z_iload_n 1 dX11_lot_102 rfl ?_
    refine z_iast dX11_lot_103 (zOb.lit (by decide +kernel)) (show 0 ≤ ((52 * (g 169 65)) + i) ∧ ((52 * (g 169 65)) + i) < 208 from ⟨by omega, by omega⟩).1 (show 0 ≤ ((52 * (g 169 65)) + i) ∧ ((52 * (g 169 65)) + i) < 208 from ⟨by omega, by omega⟩).2 ?_
    refine z_aload_n 0 dX11_lot_104 rfl ?_
    refine z_getS (v := 208) (k := 60) (kz := 60) pk11 dX11_lot_105 (by decide) zb_1184 rfl (zOb.lit (by decide +kernel)) rfl (by decide +kernel) ?_
    refine z_bipush dX11_lot_108 (zi32_d rfl) (by decide) ?_
    refine z_aload_n 0 dX11_lot_110 rfl ?_
    refine z_getIV (v := (g 169 65)) (k := 65) (kz := 65) pk11 dX11_lot_111 (by decide) zb_1189 rfl (zOb.lit (by decide +kernel)) rfl (zst_ne (Or.inl (by decide))) ?_
    refine z_imulN dX11_lot_114 (show -2147483648 ≤ 52 * (g 169 65) ∧ 52 * (g 169 65) < 2147483648 from ⟨by omega, by omega⟩).1 (show -2147483648 ≤ 52 * (g 169 65) ∧ 52 * (g 169 65) < 2147483648 from ⟨by omega, by omega⟩).2 ?_
    refine z_iload_n 1 dX11_lot_115 rfl ?_
    refine z_iaddN dX11_lot_116 (show -2147483648 ≤ (52 * (g 169 65)) + i ∧ (52 * (g 169 65)) + i < 2147483648 from ⟨by omega, by omega⟩).1 (show -2147483648 ≤ (52 * (g 169 65)) + i ∧ (52 * (g 169 65)) + i < 2147483648 from ⟨by omega, by omega⟩).2 ?_
    refine z_iload_n 1 dX11_lot_117 rfl ?_
    refine z_iast dX11_lot_118 (zOb.lit (by decide +kernel)) (show 0 ≤ ((52 * (g 169 65)) + i) ∧ ((52 * (g 169 65)) + i) < 208 from ⟨by omega, by omega⟩).1 (show 0 ≤ ((52 * (g 169 65)) + i) ∧ ((52 * (g 169 65)) + i) < 208 from ⟨by omega, by omega⟩).2 ?_
    refine z_iincN (lv' := [(3, xI (i + 1)), (0, xR 169)]) 1 dX11_lot_119 rfl (by decide) rfl (show -2147483648 ≤ i + 1 ∧ i + 1 < 2147483648 from ⟨by omega, by omega⟩).1 (show -2147483648 ≤ i + 1 ∧ i + 1 < 2147483648 from ⟨by omega, by omega⟩).2 ?_
    refine z_goto (tgt := 83) dX11_lot_122 (by decide) ?_
    refine zW.sub (lv' := [(0, xR 169), (3, xI (i + 1))]) [1, 0] rfl ?_
    exact k2 c1

set_option maxRecDepth 20000 in
theorem bX11_lot_127 {X : zX} {dep bc bs : Nat} (i : Int) {g : zH} {Q : Nat → zH → List zV → Prop} (hl : 0 ≤ g 169 65 ∧ g 169 65 < 4) (hi : 0 ≤ i)
    (k1 : 26 ≤ i → Q 239 (zst g 169 65 ((g 169 65) + 1)) [xI (g 169 65)])
    (k2 : ¬ (26 ≤ i) → zW mX11_lot X dep bc bs 239 127 [(0, xR 169), (3, xI (i + 1))] [] (zst g 209 ((26 * (g 169 65)) + i) i) Q) : zW mX11_lot X dep bc bs 239 127 [(0, xR 169), (3, xI i)] [] g Q := by
  refine z_iload_n 1 dX11_lot_127 rfl ?_
  refine z_bipush dX11_lot_128 (zi32_d rfl) (by decide) ?_
  refine z_icmp_ge (tgt := 154) dX11_lot_130 (by decide) (fun c1 => ?_) (fun c1 => ?_)
  ·
    refine z_aload_n 0 dX11_lot_154 rfl ?_
    refine z_dup dX11_lot_155 zt2 ?_
    refine z_getI (k := 65) (kz := 65) pk11 dX11_lot_156 (by decide) zb_1189 rfl (zOb.lit (by decide +kernel)) rfl ?_
    refine z_iconst dX11_lot_159 (zi32_d rfl) ?_
    refine z_iaddN dX11_lot_160 (show -2147483648 ≤ (g 169 65) + 1 ∧ (g 169 65) + 1 < 2147483648 from ⟨by omega, by omega⟩).1 (show -2147483648 ≤ (g 169 65) + 1 ∧ (g 169 65) + 1 < 2147483648 from ⟨by omega, by omega⟩).2 ?_
    refine z_putI (k := 65) (kz := 65) pk11 dX11_lot_161 (by decide) zb_1189 rfl (zFit_int _) (zOb.lit (by decide +kernel)) rfl ?_
    refine z_aload_n 0 dX11_lot_164 rfl ?_
    refine z_getIV (v := ((g 169 65) + 1)) (k := 65) (kz := 65) pk11 dX11_lot_165 (by decide) zb_1189 rfl (zOb.lit (by decide +kernel)) rfl (zst_self _ _ _ _) ?_
    refine z_iconst dX11_lot_168 (zi32_d rfl) ?_
    refine z_isubV (v := (g 169 65)) dX11_lot_169 (by omega) (show -2147483648 ≤ (g 169 65) ∧ (g 169 65) < 2147483648 from ⟨by omega, by omega⟩).1 (show -2147483648 ≤ (g 169 65) ∧ (g 169 65) < 2147483648 from ⟨by omega, by omega⟩).2 ?_
    exact z_iret dX11_lot_170 rfl (k1 c1)
  ·
    refine z_aload_n 0 dX11_lot_133 rfl ?_
    refine z_getS (v := 209) (k := 61) (kz := 61) pk11 dX11_lot_134 (by decide) zb_1185 rfl (zOb.lit (by decide +kernel)) rfl (by decide +kernel) ?_
    refine z_bipush dX11_lot_137 (zi32_d rfl) (by decide) ?_
    refine z_aload_n 0 dX11_lot_139 rfl ?_
    refine z_getI (k := 65) (kz := 65) pk11 dX11_lot_140 (by decide) zb_1189 rfl (zOb.lit (by decide +kernel)) rfl ?_
    refine z_imulN dX11_lot_143 (show -2147483648 ≤ 26 * (g 169 65) ∧ 26 * (g 169 65) < 2147483648 from ⟨by omega, by omega⟩).1 (show -2147483648 ≤ 26 * (g 169 65) ∧ 26 * (g 169 65) < 2147483648 from ⟨by omega, by omega⟩).2 ?_
    refine z_iload_n 1 dX11_lot_144 rfl ?_
    refine z_iaddN dX11_lot_145 (show -2147483648 ≤ (26 * (g 169 65)) + i ∧ (26 * (g 169 65)) + i < 2147483648 from ⟨by omega, by omega⟩).1 (show -2147483648 ≤ (26 * (g 169 65)) + i ∧ (26 * (g 169 65)) + i < 2147483648 from ⟨by omega, by omega⟩).2 ?_
    refine z_iload_n 1 dX11_lot_146 rfl ?_
    refine z_iast dX11_lot_147 (zOb.lit (by decide +kernel)) (show 0 ≤ ((26 * (g 169 65)) + i) ∧ ((26 * (g 169 65)) + i) < 104 from ⟨by omega, by omega⟩).1 (show 0 ≤ ((26 * (g 169 65)) + i) ∧ ((26 * (g 169 65)) + i) < 104 from ⟨by omega, by omega⟩).2 ?_
    refine z_iincN (lv' := [(3, xI (i + 1)), (0, xR 169)]) 1 dX11_lot_148 rfl (by decide) rfl (show -2147483648 ≤ i + 1 ∧ i + 1 < 2147483648 from ⟨by omega, by omega⟩).1 (show -2147483648 ≤ i + 1 ∧ i + 1 < 2147483648 from ⟨by omega, by omega⟩).2 ?_
    refine z_goto (tgt := 127) dX11_lot_151 (by decide) ?_
    refine zW.sub (lv' := [(0, xR 169), (3, xI (i + 1))]) [1, 0] rfl ?_
    exact k2 c1

set_option maxRecDepth 20000 in
theorem bX11_isOrder_0 {X : zX} {dep bc bs : Nat} (n : Int) {h : zH} {Q : Nat → zH → List zV → Prop}
    (k1 : (h 169 3) = n → zW mX11_isOrder X dep bc bs 239 12 [(0, xR 169), (1, xI n), (2, xI 0)] [] h Q)
    (k2 : ¬ ((h 169 3) = n) → Q 239 h [xI 0]) : zW mX11_isOrder X dep bc bs 239 0 [(0, xR 169), (1, xI n)] [] h Q := by
  refine z_aload_n 0 dX11_isOrder_0 rfl ?_
  refine z_getI (k := 3) (kz := 3) pk11 dX11_isOrder_1 (by decide) zb_1127 rfl (zOb.lit (by decide +kernel)) rfl ?_
  refine z_iload_n 1 dX11_isOrder_4 rfl ?_
  refine z_icmp_eq (tgt := 10) dX11_isOrder_5 (by decide) (fun c1 => ?_) (fun c1 => ?_)
  ·
    refine z_iconst dX11_isOrder_10 (zi32_d rfl) ?_
    refine z_istore_n (lv' := [(2, xI 0), (0, xR 169), (1, xI n)]) dX11_isOrder_11 (by decide) rfl ?_
    refine zW.sub (lv' := [(0, xR 169), (1, xI n), (2, xI 0)]) [1, 2, 0] rfl ?_
    exact k1 c1
  ·
    refine z_iconst dX11_isOrder_8 (zi32_d rfl) ?_
    exact z_zret dX11_isOrder_9 rfl (Or.inl rfl) (k2 c1)

set_option maxRecDepth 20000 in
theorem bX11_isOrder_12 {X : zX} {dep bc bs : Nat} (n : Int) (i : Int) {g : zH} {Q : Nat → zH → List zV → Prop} (hn : n = 52 ∨ n = 26) (hi : 0 ≤ i)
    (k1 : n ≤ i → zW mX11_isOrder X dep bc bs 239 32 [(0, xR 169), (1, xI n), (2, xI 0)] [] g Q)
    (k2 : ¬ (n ≤ i) → zW mX11_isOrder X dep bc bs 239 12 [(0, xR 169), (1, xI n), (2, xI (i + 1))] [] (zst g 212 i 0) Q) : zW mX11_isOrder X dep bc bs 239 12 [(0, xR 169), (1, xI n), (2, xI i)] [] g Q := by
  refine z_iload_n 2 dX11_isOrder_12 rfl ?_
  refine z_iload_n 1 dX11_isOrder_13 rfl ?_
  refine z_icmp_ge (tgt := 30) dX11_isOrder_14 (by decide) (fun c1 => ?_) (fun c1 => ?_)
  ·
    refine z_iconst dX11_isOrder_30 (zi32_d rfl) ?_
    refine z_istore_n (lv' := [(2, xI 0), (0, xR 169), (1, xI n)]) dX11_isOrder_31 (by decide) rfl ?_
    refine zW.sub (lv' := [(0, xR 169), (1, xI n), (2, xI 0)]) [1, 2, 0] rfl ?_
    exact k1 c1
  ·
    refine z_aload_n 0 dX11_isOrder_17 rfl ?_
    refine z_getS (v := 212) (k := 64) (kz := 64) pk11 dX11_isOrder_18 (by decide) zb_1188 rfl (zOb.lit (by decide +kernel)) rfl (by decide +kernel) ?_
    refine z_iload_n 2 dX11_isOrder_21 rfl ?_
    refine z_iconst dX11_isOrder_22 (zi32_d rfl) ?_
    refine z_zast dX11_isOrder_23 (zOb.lit (by decide +kernel)) (show 0 ≤ i ∧ i < 64 from ⟨by omega, by omega⟩).1 (show 0 ≤ i ∧ i < 64 from ⟨by omega, by omega⟩).2 (Or.inl rfl) ?_
    refine z_iincN (lv' := [(2, xI (i + 1)), (0, xR 169), (1, xI n)]) 2 dX11_isOrder_24 rfl (by decide) rfl (show -2147483648 ≤ i + 1 ∧ i + 1 < 2147483648 from ⟨by omega, by omega⟩).1 (show -2147483648 ≤ i + 1 ∧ i + 1 < 2147483648 from ⟨by omega, by omega⟩).2 ?_
    refine z_goto (tgt := 12) dX11_isOrder_27 (by decide) ?_
    refine zW.sub (lv' := [(0, xR 169), (1, xI n), (2, xI (i + 1))]) [1, 2, 0] rfl ?_
    exact k2 c1

set_option maxRecDepth 20000 in
theorem bX11_isOrder_32 {X : zX} {dep bc bs : Nat} (n : Int) (i : Int) {g : zH} {Q : Nat → zH → List zV → Prop} (hn : n = 52 ∨ n = 26) (hi : 0 ≤ i) (hdep : 1 ≤ dep)
    (k1 : n ≤ i → Q 239 g [xI 1])
    (k2 : ¬ (n ≤ i) → ¬ (0 ≤ (g 170 i) ∧ (g 170 i) ≤ (n - 1)) → Q 239 g [xI 0])
    (k3 : ¬ (n ≤ i) → 0 ≤ (g 170 i) ∧ (g 170 i) ≤ (n - 1) → (g 212 (g 170 i)) = 0 → zW mX11_isOrder X dep bc bs 239 32 [(0, xR 169), (1, xI n), (2, xI (i + 1))] [] (zst g 212 (g 170 i) 1) Q)
    (k4 : ¬ (n ≤ i) → 0 ≤ (g 170 i) ∧ (g 170 i) ≤ (n - 1) → ¬ ((g 212 (g 170 i)) = 0) → Q 239 g [xI 0]) : zW mX11_isOrder X dep bc bs 239 32 [(0, xR 169), (1, xI n), (2, xI i)] [] g Q := by
  refine z_iload_n 2 dX11_isOrder_32 rfl ?_
  refine z_iload_n 1 dX11_isOrder_33 rfl ?_
  refine z_icmp_ge (tgt := 87) dX11_isOrder_34 (by decide) (fun c1 => ?_) (fun c1 => ?_)
  ·
    refine z_iconst dX11_isOrder_87 (zi32_d rfl) ?_
    exact z_zret dX11_isOrder_88 rfl (Or.inr rfl) (k1 c1)
  ·
    refine z_aload_n 0 dX11_isOrder_37 rfl ?_
    refine z_getS (v := 170) (k := 1) (kz := 1) pk11 dX11_isOrder_38 (by decide) zb_1125 rfl (zOb.lit (by decide +kernel)) rfl (by decide +kernel) ?_
    refine z_iload_n 2 dX11_isOrder_41 rfl ?_
    refine z_bald dX11_isOrder_42 (zOb.lit (by decide +kernel)) (show 0 ≤ i ∧ i < 340 from ⟨by omega, by omega⟩).1 (show 0 ≤ i ∧ i < 340 from ⟨by omega, by omega⟩).2 ?_
    refine z_iconst dX11_isOrder_43 (zi32_d rfl) ?_
    refine z_iload_n 1 dX11_isOrder_44 rfl ?_
    refine z_iconst dX11_isOrder_45 (zi32_d rfl) ?_
    refine z_isubN dX11_isOrder_46 (show -2147483648 ≤ n - 1 ∧ n - 1 < 2147483648 from ⟨by omega, by omega⟩).1 (show -2147483648 ≤ n - 1 ∧ n - 1 < 2147483648 from ⟨by omega, by omega⟩).2 ?_
    refine z_invSF (as := [xI (g 170 i), xI 0, xI (n - 1)]) (st := []) (ra := [xI (n - 1), xI 0, xI (g 170 i)]) (dep' := dep - 1) (rs := [xI (zb (0 ≤ (g 170 i) ∧ (g 170 i) ≤ (n - 1)))]) (h' := g) (f_X11_isIn (g 170 i) 0 (n - 1) (h := g) ) dX11_isOrder_47 nX11_isIn zb_1437 zb_1438 zb_92 (by omega) zne_I (Nat.le_of_ble_eq_true rfl) (Nat.le_of_ble_eq_true rfl) rfl ?_
    refine z_ifB_eq (C := 0 ≤ (g 170 i) ∧ (g 170 i) ≤ (n - 1)) (tgt := 67) dX11_isOrder_50 (by decide) (fun c2 => ?_) (fun c2 => ?_)
    ·
      refine z_iconst dX11_isOrder_67 (zi32_d rfl) ?_
      exact z_zret dX11_isOrder_68 rfl (Or.inl rfl) (k2 c1 c2)
    ·
      refine z_aload_n 0 dX11_isOrder_53 rfl ?_
      refine z_getS (v := 212) (k := 64) (kz := 64) pk11 dX11_isOrder_54 (by decide) zb_1188 rfl (zOb.lit (by decide +kernel)) rfl (by decide +kernel) ?_
      refine z_aload_n 0 dX11_isOrder_57 rfl ?_
      refine z_getS (v := 170) (k := 1) (kz := 1) pk11 dX11_isOrder_58 (by decide) zb_1125 rfl (zOb.lit (by decide +kernel)) rfl (by decide +kernel) ?_
      refine z_iload_n 2 dX11_isOrder_61 rfl ?_
      refine z_bald dX11_isOrder_62 (zOb.lit (by decide +kernel)) (show 0 ≤ i ∧ i < 340 from ⟨by omega, by omega⟩).1 (show 0 ≤ i ∧ i < 340 from ⟨by omega, by omega⟩).2 ?_
      refine z_zald dX11_isOrder_63 (zOb.lit (by decide +kernel)) (show 0 ≤ (g 170 i) ∧ (g 170 i) < 64 from ⟨by omega, by omega⟩).1 (show 0 ≤ (g 170 i) ∧ (g 170 i) < 64 from ⟨by omega, by omega⟩).2 ?_
      refine z_if_eq (tgt := 69) dX11_isOrder_64 (by decide) (fun c3 => ?_) (fun c3 => ?_)
      ·
        refine z_aload_n 0 dX11_isOrder_69 rfl ?_
        refine z_getS (v := 212) (k := 64) (kz := 64) pk11 dX11_isOrder_70 (by decide) zb_1188 rfl (zOb.lit (by decide +kernel)) rfl (by decide +kernel) ?_
        refine z_aload_n 0 dX11_isOrder_73 rfl ?_
        refine z_getS (v := 170) (k := 1) (kz := 1) pk11 dX11_isOrder_74 (by decide) zb_1125 rfl (zOb.lit (by decide +kernel)) rfl (by decide +kernel) ?_
        refine z_iload_n 2 dX11_isOrder_77 rfl ?_
        refine z_bald dX11_isOrder_78 (zOb.lit (by decide +kernel)) (show 0 ≤ i ∧ i < 340 from ⟨by omega, by omega⟩).1 (show 0 ≤ i ∧ i < 340 from ⟨by omega, by omega⟩).2 ?_
        refine z_iconst dX11_isOrder_79 (zi32_d rfl) ?_
        refine z_zast dX11_isOrder_80 (zOb.lit (by decide +kernel)) (show 0 ≤ (g 170 i) ∧ (g 170 i) < 64 from ⟨by omega, by omega⟩).1 (show 0 ≤ (g 170 i) ∧ (g 170 i) < 64 from ⟨by omega, by omega⟩).2 (Or.inr rfl) ?_
        refine z_iincN (lv' := [(2, xI (i + 1)), (0, xR 169), (1, xI n)]) 2 dX11_isOrder_81 rfl (by decide) rfl (show -2147483648 ≤ i + 1 ∧ i + 1 < 2147483648 from ⟨by omega, by omega⟩).1 (show -2147483648 ≤ i + 1 ∧ i + 1 < 2147483648 from ⟨by omega, by omega⟩).2 ?_
        refine z_goto (tgt := 32) dX11_isOrder_84 (by decide) ?_
        refine zW.sub (lv' := [(0, xR 169), (1, xI n), (2, xI (i + 1))]) [1, 2, 0] rfl ?_
        exact k3 c1 c2 c3
      ·
        refine z_iconst dX11_isOrder_67 (zi32_d rfl) ?_
        exact z_zret dX11_isOrder_68 rfl (Or.inl rfl) (k4 c1 c2 c3)

set_option maxRecDepth 20000 in
theorem bX11_weeks_0 {X : zX} {dep bc bs : Nat} (l : Int) {h : zH} {Q : Nat → zH → List zV → Prop} (hl : 0 ≤ h 169 65 ∧ h 169 65 ≤ 4) (ht : 0 ≤ h 169 2 ∧ h 169 2 ≤ 340) (hdep : 2 ≤ dep)
    (k1 : ¬ (0 ≤ l ∧ l < (h 169 65)) → Q 239 (zst (zst (zst (zst h 169 0 0) 169 3 ((h 169 2))) 169 2 0) 169 4 0) [xI 0])
    (k2 : 0 ≤ l ∧ l < (h 169 65) → ¬ (h 210 l) = 0 → Q 239 (zst (zst (zst (zst h 169 0 0) 169 3 ((h 169 2))) 169 2 0) 169 4 0) [xI 0])
    (k3 : 0 ≤ l ∧ l < (h 169 65) → (h 210 l) = 0 → zW mX11_weeks X dep bc bs 239 29 [(0, xR 169), (1, xI l)] [xI 52, xR 169] (zst (zst (zst (zst h 169 0 0) 169 3 ((h 169 2))) 169 2 0) 169 4 0) Q) : zW mX11_weeks X dep bc bs 239 0 [(0, xR 169), (1, xI l)] [] h Q := by
  refine z_aload_n 0 dX11_weeks_0 rfl ?_
  refine z_iconst dX11_weeks_1 (zi32_d rfl) ?_
  refine z_putI (k := 0) (kz := 0) pk11 dX11_weeks_2 (by decide) zb_1124 rfl (zFit_int _) (zOb.lit (by decide +kernel)) rfl ?_
  refine z_aload_n 0 dX11_weeks_5 rfl ?_
  refine z_invF (ci := 11) (N := 97) (as := []) (st := []) (ra := []) (dep' := dep - 1) (rs := []) (h' := (zst (zst (zst (zst h 169 0 0) 169 3 ((h 169 2))) 169 2 0) 169 4 0)) (by have e1 : (zst h 169 0 0) 169 2 = (h 169 2) := (zst_ne (Or.inr (by decide))); have z9 := f_X11_taken (X := X) (dep := dep - 1)  (h := (zst h 169 0 0)) ; rw [e1] at z9; exact z9) dX11_weeks_6 nX11_taken zb_1444 zb_1446 zb_36 zb_92 (zOb.lit (by decide +kernel)) rfl (by omega) zne_0 (Nat.le_of_ble_eq_true rfl) (Nat.le_of_ble_eq_true rfl) rfl ?_
  refine z_aload_n 0 dX11_weeks_9 rfl ?_
  refine z_iload_n 1 dX11_weeks_10 rfl ?_
  refine z_invF (ci := 11) (N := 97) (as := [xI l]) (st := []) (ra := [xI l]) (dep' := dep - 1) (rs := [xI (zb (0 ≤ l ∧ l < (h 169 65)))]) (h' := (zst (zst (zst (zst h 169 0 0) 169 3 ((h 169 2))) 169 2 0) 169 4 0)) (by have e1 : (zst (zst (zst (zst h 169 0 0) 169 3 ((h 169 2))) 169 2 0) 169 4 0) 169 65 = (h 169 65) := ((zst_ne (Or.inr (by decide))).trans ((zst_ne (Or.inr (by decide))).trans ((zst_ne (Or.inr (by decide))).trans (zst_ne (Or.inr (by decide)))))); have z9 := f_X11_isLot (X := X) (dep := dep - 1) l (h := (zst (zst (zst (zst h 169 0 0) 169 3 ((h 169 2))) 169 2 0) 169 4 0)) (by have y1 : (zst (zst (zst (zst h 169 0 0) 169 3 ((h 169 2))) 169 2 0) 169 4 0) 169 65 = (h 169 65) := ((zst_ne (Or.inr (by decide))).trans ((zst_ne (Or.inr (by decide))).trans ((zst_ne (Or.inr (by decide))).trans (zst_ne (Or.inr (by decide)))))); simp only [y1]; omega) (by omega); rw [e1] at z9; exact z9) dX11_weeks_11 nX11_isLot zb_1583 zb_1585 zb_55 zb_92 (zOb.lit (by decide +kernel)) rfl (by omega) zne_I (Nat.le_of_ble_eq_true rfl) (Nat.le_of_ble_eq_true rfl) rfl ?_
  refine z_ifB_eq (C := 0 ≤ l ∧ l < (h 169 65)) (tgt := 35) dX11_weeks_14 (by decide) (fun c1 => ?_) (fun c1 => ?_)
  ·
    refine z_iconst dX11_weeks_35 (zi32_d rfl) ?_
    exact z_zret dX11_weeks_36 rfl (Or.inl rfl) (k1 c1)
  ·
    refine z_aload_n 0 dX11_weeks_17 rfl ?_
    refine z_getS (v := 210) (k := 62) (kz := 62) pk11 dX11_weeks_18 (by decide) zb_1186 rfl (zOb.lit (by decide +kernel)) rfl (by decide +kernel) ?_
    refine z_iload_n 1 dX11_weeks_21 rfl ?_
    refine z_zaldV (v := (h 210 l)) dX11_weeks_22 (zOb.lit (by decide +kernel)) (show 0 ≤ l ∧ l < 4 from ⟨by omega, by omega⟩).1 (show 0 ≤ l ∧ l < 4 from ⟨by omega, by omega⟩).2 ((zst_ne (Or.inl (by decide))).trans ((zst_ne (Or.inl (by decide))).trans ((zst_ne (Or.inl (by decide))).trans (zst_ne (Or.inl (by decide)))))) ?_
    refine z_if_ne (tgt := 35) dX11_weeks_23 (by decide) (fun c2 => ?_) (fun c2 => ?_)
    ·
      refine z_iconst dX11_weeks_35 (zi32_d rfl) ?_
      exact z_zret dX11_weeks_36 rfl (Or.inl rfl) (k2 c1 c2)
    ·
      refine z_aload_n 0 dX11_weeks_26 rfl ?_
      refine z_bipush dX11_weeks_27 (zi32_d rfl) (by decide) ?_
      exact k3 c1 c2

set_option maxRecDepth 20000 in
theorem rX11_weeks_29 {X : zX} {dep bc bs : Nat} (l : Int) {h : zH} {Q : Nat → zH → List zV → Prop} {P : Int → zH → Prop}
    (hZ : zW mX11_isOrder X (dep - 1) 0 0 239 0 (zar 0 [xR 169, xI 52]) [] h (zQI P)) (hdep : 1 ≤ dep)
    (k : ∀ (v : Int) (g : zH), P v g → zW mX11_weeks X dep bc bs 239 32 [(0, xR 169), (1, xI l)] [xI v] g Q) : zW mX11_weeks X dep bc bs 239 29 [(0, xR 169), (1, xI l)] [xI 52, xR 169] h Q :=
  z_invQI (ci := 11) (N := 97) (as := [xI 52]) (st := []) (ra := [xI 52]) hZ dX11_weeks_29 nX11_isOrder zb_1587 zb_1589 zb_56 zb_92 (zOb.lit (by decide +kernel)) rfl (by omega) (Nat.le_of_ble_eq_true rfl) (Nat.le_of_ble_eq_true rfl) rfl (fun v g hg => k v g hg)

set_option maxRecDepth 20000 in
theorem bX11_weeks_32 {X : zX} {dep bc bs : Nat} (l : Int) (v : Int) {g : zH} {Q : Nat → zH → List zV → Prop} (hl : 0 ≤ l ∧ l < 4)
    (k1 : ¬ v = 0 → zW mX11_weeks X dep bc bs 239 46 [(0, xR 169), (1, xI l), (2, xI 0)] [] (zst g 210 l 1) Q)
    (k2 : v = 0 → Q 239 g [xI 0]) : zW mX11_weeks X dep bc bs 239 32 [(0, xR 169), (1, xI l)] [xI v] g Q := by
  refine z_if_ne (tgt := 37) dX11_weeks_32 (by decide) (fun c1 => ?_) (fun c1 => ?_)
  ·
    refine z_aload_n 0 dX11_weeks_37 rfl ?_
    refine z_getS (v := 210) (k := 62) (kz := 62) pk11 dX11_weeks_38 (by decide) zb_1186 rfl (zOb.lit (by decide +kernel)) rfl (by decide +kernel) ?_
    refine z_iload_n 1 dX11_weeks_41 rfl ?_
    refine z_iconst dX11_weeks_42 (zi32_d rfl) ?_
    refine z_zast dX11_weeks_43 (zOb.lit (by decide +kernel)) hl.1 hl.2 (Or.inr rfl) ?_
    refine z_iconst dX11_weeks_44 (zi32_d rfl) ?_
    refine z_istore_n (lv' := [(2, xI 0), (0, xR 169), (1, xI l)]) dX11_weeks_45 (by decide) rfl ?_
    refine zW.sub (lv' := [(0, xR 169), (1, xI l), (2, xI 0)]) [1, 2, 0] rfl ?_
    exact k1 c1
  ·
    refine z_iconst dX11_weeks_35 (zi32_d rfl) ?_
    exact z_zret dX11_weeks_36 rfl (Or.inl rfl) (k2 c1)

set_option maxRecDepth 20000 in
theorem bX11_weeks_46 {X : zX} {dep bc bs : Nat} (l : Int) (i : Int) {g : zH} {Q : Nat → zH → List zV → Prop} (hl : 0 ≤ l ∧ l < 4) (hi : 0 ≤ i) (hb : 52 ≤ i ∨ (0 ≤ g 170 i ∧ g 170 i < 52))
    (k1 : 52 ≤ i → Q 239 g [xI 1])
    (k2 : ¬ (52 ≤ i) → zW mX11_weeks X dep bc bs 239 46 [(0, xR 169), (1, xI l), (2, xI (i + 1))] [] (zst (zst g 207 ((52 * l) + i) (g 170 i)) 208 ((52 * l) + (g 170 i)) i) Q) : zW mX11_weeks X dep bc bs 239 46 [(0, xR 169), (1, xI l), (2, xI i)] [] g Q := by
  refine z_iload_n 2 dX11_weeks_46 rfl ?_
  refine z_bipush dX11_weeks_47 (zi32_d rfl) (by decide) ?_
  refine z_icmp_ge (tgt := 92) dX11_weeks_49 (by decide) (fun c1 => ?_) (fun c1 => ?_)
  ·
    refine z_iconst dX11_weeks_92 (zi32_d rfl) ?_
    exact z_zret dX11_weeks_93 rfl (Or.inr rfl) (k1 c1)
  ·
    refine z_aload_n 0 dX11_weeks_52 rfl ?_
    refine z_getS (v := 207) (k := 59) (kz := 59) pk11 dX11_weeks_53 (by decide) zb_1183 rfl (zOb.lit (by decide +kernel)) rfl (by decide +kernel) ?_
    refine z_bipush dX11_weeks_56 (zi32_d rfl) (by decide) ?_
    refine z_iload_n 1 dX11_weeks_58 rfl ?_
    refine z_imulN dX11_weeks_59 (show -2147483648 ≤ 52 * l ∧ 52 * l < 2147483648 from ⟨by omega, by omega⟩).1 (show -2147483648 ≤ 52 * l ∧ 52 * l < 2147483648 from ⟨by omega, by omega⟩).2 ?_
    refine z_iload_n 2 dX11_weeks_60 rfl ?_
    refine z_iaddN dX11_weeks_61 (show -2147483648 ≤ (52 * l) + i ∧ (52 * l) + i < 2147483648 from ⟨by omega, by omega⟩).1 (show -2147483648 ≤ (52 * l) + i ∧ (52 * l) + i < 2147483648 from ⟨by omega, by omega⟩).2 ?_
    refine z_aload_n 0 dX11_weeks_62 rfl ?_
    refine z_getS (v := 170) (k := 1) (kz := 1) pk11 dX11_weeks_63 (by decide) zb_1125 rfl (zOb.lit (by decide +kernel)) rfl (by decide +kernel) ?_
    refine z_iload_n 2 dX11_weeks_66 rfl ?_
    refine z_bald dX11_weeks_67 (zOb.lit (by decide +kernel)) (show 0 ≤ i ∧ i < 340 from ⟨by omega, by omega⟩).1 (show 0 ≤ i ∧ i < 340 from ⟨by omega, by omega⟩).2 ?_
    refine z_iast dX11_weeks_68 (zOb.lit (by decide +kernel)) (show 0 ≤ ((52 * l) + i) ∧ ((52 * l) + i) < 208 from ⟨by omega, by omega⟩).1 (show 0 ≤ ((52 * l) + i) ∧ ((52 * l) + i) < 208 from ⟨by omega, by omega⟩).2 ?_
    refine z_aload_n 0 dX11_weeks_69 rfl ?_
    refine z_getS (v := 208) (k := 60) (kz := 60) pk11 dX11_weeks_70 (by decide) zb_1184 rfl (zOb.lit (by decide +kernel)) rfl (by decide +kernel) ?_
    refine z_bipush dX11_weeks_73 (zi32_d rfl) (by decide) ?_
    refine z_iload_n 1 dX11_weeks_75 rfl ?_
    refine z_imulN dX11_weeks_76 (show -2147483648 ≤ 52 * l ∧ 52 * l < 2147483648 from ⟨by omega, by omega⟩).1 (show -2147483648 ≤ 52 * l ∧ 52 * l < 2147483648 from ⟨by omega, by omega⟩).2 ?_
    refine z_aload_n 0 dX11_weeks_77 rfl ?_
    refine z_getS (v := 170) (k := 1) (kz := 1) pk11 dX11_weeks_78 (by decide) zb_1125 rfl (zOb.lit (by decide +kernel)) rfl (by decide +kernel) ?_
    refine z_iload_n 2 dX11_weeks_81 rfl ?_
    refine z_baldV (v := (g 170 i)) dX11_weeks_82 (zOb.lit (by decide +kernel)) (show 0 ≤ i ∧ i < 340 from ⟨by omega, by omega⟩).1 (show 0 ≤ i ∧ i < 340 from ⟨by omega, by omega⟩).2 (zst_ne (Or.inl (by decide))) ?_
    refine z_iaddN dX11_weeks_83 (show -2147483648 ≤ (52 * l) + (g 170 i) ∧ (52 * l) + (g 170 i) < 2147483648 from ⟨by omega, by omega⟩).1 (show -2147483648 ≤ (52 * l) + (g 170 i) ∧ (52 * l) + (g 170 i) < 2147483648 from ⟨by omega, by omega⟩).2 ?_
    refine z_iload_n 2 dX11_weeks_84 rfl ?_
    refine z_iast dX11_weeks_85 (zOb.lit (by decide +kernel)) (show 0 ≤ ((52 * l) + (g 170 i)) ∧ ((52 * l) + (g 170 i)) < 208 from ⟨by omega, by omega⟩).1 (show 0 ≤ ((52 * l) + (g 170 i)) ∧ ((52 * l) + (g 170 i)) < 208 from ⟨by omega, by omega⟩).2 ?_
    refine z_iincN (lv' := [(2, xI (i + 1)), (0, xR 169), (1, xI l)]) 2 dX11_weeks_86 rfl (by decide) rfl (show -2147483648 ≤ i + 1 ∧ i + 1 < 2147483648 from ⟨by omega, by omega⟩).1 (show -2147483648 ≤ i + 1 ∧ i + 1 < 2147483648 from ⟨by omega, by omega⟩).2 ?_
    refine z_goto (tgt := 46) dX11_weeks_89 (by decide) ?_
    refine zW.sub (lv' := [(0, xR 169), (1, xI l), (2, xI (i + 1))]) [1, 2, 0] rfl ?_
    exact k2 c1

set_option maxRecDepth 20000 in
theorem bX11_letters_0 {X : zX} {dep bc bs : Nat} (l : Int) {h : zH} {Q : Nat → zH → List zV → Prop} (hl : 0 ≤ h 169 65 ∧ h 169 65 ≤ 4) (ht : 0 ≤ h 169 2 ∧ h 169 2 ≤ 340) (hdep : 2 ≤ dep)
    (k1 : ¬ (0 ≤ l ∧ l < (h 169 65)) → Q 239 (zst (zst (zst (zst h 169 0 0) 169 3 ((h 169 2))) 169 2 0) 169 4 0) [xI 0])
    (k2 : 0 ≤ l ∧ l < (h 169 65) → ¬ (h 211 l) = 0 → Q 239 (zst (zst (zst (zst h 169 0 0) 169 3 ((h 169 2))) 169 2 0) 169 4 0) [xI 0])
    (k3 : 0 ≤ l ∧ l < (h 169 65) → (h 211 l) = 0 → zW mX11_letters X dep bc bs 239 29 [(0, xR 169), (1, xI l)] [xI 26, xR 169] (zst (zst (zst (zst h 169 0 0) 169 3 ((h 169 2))) 169 2 0) 169 4 0) Q) : zW mX11_letters X dep bc bs 239 0 [(0, xR 169), (1, xI l)] [] h Q := by
  refine z_aload_n 0 dX11_letters_0 rfl ?_
  refine z_iconst dX11_letters_1 (zi32_d rfl) ?_
  refine z_putI (k := 0) (kz := 0) pk11 dX11_letters_2 (by decide) zb_1124 rfl (zFit_int _) (zOb.lit (by decide +kernel)) rfl ?_
  refine z_aload_n 0 dX11_letters_5 rfl ?_
  refine z_invF (ci := 11) (N := 97) (as := []) (st := []) (ra := []) (dep' := dep - 1) (rs := []) (h' := (zst (zst (zst (zst h 169 0 0) 169 3 ((h 169 2))) 169 2 0) 169 4 0)) (by have e1 : (zst h 169 0 0) 169 2 = (h 169 2) := (zst_ne (Or.inr (by decide))); have z9 := f_X11_taken (X := X) (dep := dep - 1)  (h := (zst h 169 0 0)) ; rw [e1] at z9; exact z9) dX11_letters_6 nX11_taken zb_1444 zb_1446 zb_36 zb_92 (zOb.lit (by decide +kernel)) rfl (by omega) zne_0 (Nat.le_of_ble_eq_true rfl) (Nat.le_of_ble_eq_true rfl) rfl ?_
  refine z_aload_n 0 dX11_letters_9 rfl ?_
  refine z_iload_n 1 dX11_letters_10 rfl ?_
  refine z_invF (ci := 11) (N := 97) (as := [xI l]) (st := []) (ra := [xI l]) (dep' := dep - 1) (rs := [xI (zb (0 ≤ l ∧ l < (h 169 65)))]) (h' := (zst (zst (zst (zst h 169 0 0) 169 3 ((h 169 2))) 169 2 0) 169 4 0)) (by have e1 : (zst (zst (zst (zst h 169 0 0) 169 3 ((h 169 2))) 169 2 0) 169 4 0) 169 65 = (h 169 65) := ((zst_ne (Or.inr (by decide))).trans ((zst_ne (Or.inr (by decide))).trans ((zst_ne (Or.inr (by decide))).trans (zst_ne (Or.inr (by decide)))))); have z9 := f_X11_isLot (X := X) (dep := dep - 1) l (h := (zst (zst (zst (zst h 169 0 0) 169 3 ((h 169 2))) 169 2 0) 169 4 0)) (by have y1 : (zst (zst (zst (zst h 169 0 0) 169 3 ((h 169 2))) 169 2 0) 169 4 0) 169 65 = (h 169 65) := ((zst_ne (Or.inr (by decide))).trans ((zst_ne (Or.inr (by decide))).trans ((zst_ne (Or.inr (by decide))).trans (zst_ne (Or.inr (by decide)))))); simp only [y1]; omega) (by omega); rw [e1] at z9; exact z9) dX11_letters_11 nX11_isLot zb_1583 zb_1585 zb_55 zb_92 (zOb.lit (by decide +kernel)) rfl (by omega) zne_I (Nat.le_of_ble_eq_true rfl) (Nat.le_of_ble_eq_true rfl) rfl ?_
  refine z_ifB_eq (C := 0 ≤ l ∧ l < (h 169 65)) (tgt := 35) dX11_letters_14 (by decide) (fun c1 => ?_) (fun c1 => ?_)
  ·
    refine z_iconst dX11_letters_35 (zi32_d rfl) ?_
    exact z_zret dX11_letters_36 rfl (Or.inl rfl) (k1 c1)
  ·
    refine z_aload_n 0 dX11_letters_17 rfl ?_
    refine z_getS (v := 211) (k := 63) (kz := 63) pk11 dX11_letters_18 (by decide) zb_1187 rfl (zOb.lit (by decide +kernel)) rfl (by decide +kernel) ?_
    refine z_iload_n 1 dX11_letters_21 rfl ?_
    refine z_zaldV (v := (h 211 l)) dX11_letters_22 (zOb.lit (by decide +kernel)) (show 0 ≤ l ∧ l < 4 from ⟨by omega, by omega⟩).1 (show 0 ≤ l ∧ l < 4 from ⟨by omega, by omega⟩).2 ((zst_ne (Or.inl (by decide))).trans ((zst_ne (Or.inl (by decide))).trans ((zst_ne (Or.inl (by decide))).trans (zst_ne (Or.inl (by decide)))))) ?_
    refine z_if_ne (tgt := 35) dX11_letters_23 (by decide) (fun c2 => ?_) (fun c2 => ?_)
    ·
      refine z_iconst dX11_letters_35 (zi32_d rfl) ?_
      exact z_zret dX11_letters_36 rfl (Or.inl rfl) (k2 c1 c2)
    ·
      refine z_aload_n 0 dX11_letters_26 rfl ?_
      refine z_bipush dX11_letters_27 (zi32_d rfl) (by decide) ?_
      exact k3 c1 c2

set_option maxRecDepth 20000 in
theorem rX11_letters_29 {X : zX} {dep bc bs : Nat} (l : Int) {h : zH} {Q : Nat → zH → List zV → Prop} {P : Int → zH → Prop}
    (hZ : zW mX11_isOrder X (dep - 1) 0 0 239 0 (zar 0 [xR 169, xI 26]) [] h (zQI P)) (hdep : 1 ≤ dep)
    (k : ∀ (v : Int) (g : zH), P v g → zW mX11_letters X dep bc bs 239 32 [(0, xR 169), (1, xI l)] [xI v] g Q) : zW mX11_letters X dep bc bs 239 29 [(0, xR 169), (1, xI l)] [xI 26, xR 169] h Q :=
  z_invQI (ci := 11) (N := 97) (as := [xI 26]) (st := []) (ra := [xI 26]) hZ dX11_letters_29 nX11_isOrder zb_1587 zb_1589 zb_56 zb_92 (zOb.lit (by decide +kernel)) rfl (by omega) (Nat.le_of_ble_eq_true rfl) (Nat.le_of_ble_eq_true rfl) rfl (fun v g hg => k v g hg)

set_option maxRecDepth 20000 in
theorem bX11_letters_32 {X : zX} {dep bc bs : Nat} (l : Int) (v : Int) {g : zH} {Q : Nat → zH → List zV → Prop} (hl : 0 ≤ l ∧ l < 4)
    (k1 : ¬ v = 0 → zW mX11_letters X dep bc bs 239 46 [(0, xR 169), (1, xI l), (2, xI 0)] [] (zst g 211 l 1) Q)
    (k2 : v = 0 → Q 239 g [xI 0]) : zW mX11_letters X dep bc bs 239 32 [(0, xR 169), (1, xI l)] [xI v] g Q := by
  refine z_if_ne (tgt := 37) dX11_letters_32 (by decide) (fun c1 => ?_) (fun c1 => ?_)
  ·
    refine z_aload_n 0 dX11_letters_37 rfl ?_
    refine z_getS (v := 211) (k := 63) (kz := 63) pk11 dX11_letters_38 (by decide) zb_1187 rfl (zOb.lit (by decide +kernel)) rfl (by decide +kernel) ?_
    refine z_iload_n 1 dX11_letters_41 rfl ?_
    refine z_iconst dX11_letters_42 (zi32_d rfl) ?_
    refine z_zast dX11_letters_43 (zOb.lit (by decide +kernel)) hl.1 hl.2 (Or.inr rfl) ?_
    refine z_iconst dX11_letters_44 (zi32_d rfl) ?_
    refine z_istore_n (lv' := [(2, xI 0), (0, xR 169), (1, xI l)]) dX11_letters_45 (by decide) rfl ?_
    refine zW.sub (lv' := [(0, xR 169), (1, xI l), (2, xI 0)]) [1, 2, 0] rfl ?_
    exact k1 c1
  ·
    refine z_iconst dX11_letters_35 (zi32_d rfl) ?_
    exact z_zret dX11_letters_36 rfl (Or.inl rfl) (k2 c1)

set_option maxRecDepth 20000 in
theorem bX11_letters_46 {X : zX} {dep bc bs : Nat} (l : Int) (i : Int) {g : zH} {Q : Nat → zH → List zV → Prop} (hl : 0 ≤ l ∧ l < 4) (hi : 0 ≤ i) (hb : 26 ≤ i ∨ (0 ≤ g 170 i ∧ g 170 i < 26))
    (k1 : 26 ≤ i → Q 239 g [xI 1])
    (k2 : ¬ (26 ≤ i) → zW mX11_letters X dep bc bs 239 46 [(0, xR 169), (1, xI l), (2, xI (i + 1))] [] (zst g 209 ((26 * l) + (g 170 i)) i) Q) : zW mX11_letters X dep bc bs 239 46 [(0, xR 169), (1, xI l), (2, xI i)] [] g Q := by
  refine z_iload_n 2 dX11_letters_46 rfl ?_
  refine z_bipush dX11_letters_47 (zi32_d rfl) (by decide) ?_
  refine z_icmp_ge (tgt := 75) dX11_letters_49 (by decide) (fun c1 => ?_) (fun c1 => ?_)
  ·
    refine z_iconst dX11_letters_75 (zi32_d rfl) ?_
    exact z_zret dX11_letters_76 rfl (Or.inr rfl) (k1 c1)
  ·
    refine z_aload_n 0 dX11_letters_52 rfl ?_
    refine z_getS (v := 209) (k := 61) (kz := 61) pk11 dX11_letters_53 (by decide) zb_1185 rfl (zOb.lit (by decide +kernel)) rfl (by decide +kernel) ?_
    refine z_bipush dX11_letters_56 (zi32_d rfl) (by decide) ?_
    refine z_iload_n 1 dX11_letters_58 rfl ?_
    refine z_imulN dX11_letters_59 (show -2147483648 ≤ 26 * l ∧ 26 * l < 2147483648 from ⟨by omega, by omega⟩).1 (show -2147483648 ≤ 26 * l ∧ 26 * l < 2147483648 from ⟨by omega, by omega⟩).2 ?_
    refine z_aload_n 0 dX11_letters_60 rfl ?_
    refine z_getS (v := 170) (k := 1) (kz := 1) pk11 dX11_letters_61 (by decide) zb_1125 rfl (zOb.lit (by decide +kernel)) rfl (by decide +kernel) ?_
    refine z_iload_n 2 dX11_letters_64 rfl ?_
    refine z_bald dX11_letters_65 (zOb.lit (by decide +kernel)) (show 0 ≤ i ∧ i < 340 from ⟨by omega, by omega⟩).1 (show 0 ≤ i ∧ i < 340 from ⟨by omega, by omega⟩).2 ?_
    refine z_iaddN dX11_letters_66 (show -2147483648 ≤ (26 * l) + (g 170 i) ∧ (26 * l) + (g 170 i) < 2147483648 from ⟨by omega, by omega⟩).1 (show -2147483648 ≤ (26 * l) + (g 170 i) ∧ (26 * l) + (g 170 i) < 2147483648 from ⟨by omega, by omega⟩).2 ?_
    refine z_iload_n 2 dX11_letters_67 rfl ?_
    refine z_iast dX11_letters_68 (zOb.lit (by decide +kernel)) (show 0 ≤ ((26 * l) + (g 170 i)) ∧ ((26 * l) + (g 170 i)) < 104 from ⟨by omega, by omega⟩).1 (show 0 ≤ ((26 * l) + (g 170 i)) ∧ ((26 * l) + (g 170 i)) < 104 from ⟨by omega, by omega⟩).2 ?_
    refine z_iincN (lv' := [(2, xI (i + 1)), (0, xR 169), (1, xI l)]) 2 dX11_letters_69 rfl (by decide) rfl (show -2147483648 ≤ i + 1 ∧ i + 1 < 2147483648 from ⟨by omega, by omega⟩).1 (show -2147483648 ≤ i + 1 ∧ i + 1 < 2147483648 from ⟨by omega, by omega⟩).2 ?_
    refine z_goto (tgt := 46) dX11_letters_72 (by decide) ?_
    refine zW.sub (lv' := [(0, xR 169), (1, xI l), (2, xI (i + 1))]) [1, 2, 0] rfl ?_
    exact k2 c1


theorem f_X11_feed {X : zX} {dep : Nat} (a b c d e : Int) {h : zH} (ht : 0 ≤ h 169 2 ∧ h 169 2 ≤ 340) (hdep : 1 ≤ dep) : zW mX11_feed X dep 0 0 239 0 (zar 0 [xR 169, xI a, xI b, xI c, xI d, xI e]) [] h
    (zQI (fun v g => h 169 2 + 20 ≤ 340 ∧ v = h 169 2 + 20 ∧ g = zfed (zst h 169 0 0) 170 169 2 a b c d e ∨ ¬ (h 169 2 + 20 ≤ 340) ∧ v = -1 ∧ g = zst h 169 0 0)) := by
  have pt : ∀ (g : zH) (x : Int), 0 ≤ g 169 2 ∧ g 169 2 ≤ 336 → zW mX11_four X (dep - 1) 0 0 239 0 (zar 0 [xR 169, xI x]) [] g (zQ0 (fun f => f = zput4 g 170 169 2 x)) := fun g x hg => (f_X11_four x hg).weaken (fun _ _ _ q => ⟨q.1, q.2.2, q.2.1⟩)
  have ln : ∀ (g : zH) (x : Int), zput4 g 170 169 2 x 169 2 = g 169 2 + 4 := fun g x => zput4_len (by omega)
  have e2 : zst h 169 0 0 169 2 = h 169 2 := zst_ne (Or.inr (by decide))
  refine bX11_feed_0 a b c d e ht (fun c0 => ?_) (fun c0 => ?_)
  · refine rX11_feed_22 a b c d e (pt _ _ (by rw [e2]; omega)) hdep (fun g hg => ?_)
    subst hg
    refine bX11_feed_25 a b c d e ?_
    refine rX11_feed_27 a b c d e (pt _ _ (by rw [ln, e2]; omega)) hdep (fun g hg => ?_)
    subst hg
    refine bX11_feed_30 a b c d e ?_
    refine rX11_feed_32 a b c d e (pt _ _ (by rw [ln, ln, e2]; omega)) hdep (fun g hg => ?_)
    subst hg
    refine bX11_feed_35 a b c d e ?_
    refine rX11_feed_38 a b c d e (pt _ _ (by rw [ln, ln, ln, e2]; omega)) hdep (fun g hg => ?_)
    subst hg
    refine bX11_feed_41 a b c d e ?_
    refine rX11_feed_44 a b c d e (pt _ _ (by rw [ln, ln, ln, ln, e2]; omega)) hdep (fun g hg => ?_)
    subst hg
    refine bX11_feed_47 a b c d e ?_
    refine ⟨rfl, _, rfl, Or.inl ⟨c0, ?_, rfl⟩⟩
    rw [ln, ln, ln, ln, ln, e2]
    omega
  · exact ⟨rfl, _, rfl, Or.inr ⟨c0, rfl, rfl⟩⟩
/-- a name, by the model -/
def mName (h : zH) : Prop := (1 ≤ h 169 2 ∧ h 169 2 ≤ 8) ∧ ∀ i : Int, 0 ≤ i → i < h 169 2 → 97 ≤ h 170 i ∧ h 170 i ≤ 122
abbrev mMC (h : zH) (p f : Int) : Prop := h 169 25 ≠ 60 ∧ (0 ≤ p ∧ p ≤ 7) ∧ (0 ≤ f ∧ f ≤ 59) ∧ mName h
theorem f_X11_man {X : zX} {dep : Nat} (p f : Int) {h : zH} (hm : 0 ≤ h 169 25 ∧ h 169 25 ≤ 60) (ht : 0 ≤ h 169 2 ∧ h 169 2 ≤ 340) (hdep : 1 ≤ dep) : zW mX11_man X dep 0 0 239 0 (zar 0 [xR 169, xI p, xI f]) [] h
    (zQI (fun v g => mMC h p f ∧ v = h 169 25 ∧ g = zst (zst (zst (zst (mTk h) 171 (h 169 25) (h 170 0 - 97)) 172 (h 169 25) p) 173 (h 169 25) f) 169 25 (h 169 25 + 1) ∨ ¬ mMC h p f ∧ v = -1 ∧ g = mTk h)) := by
  have e25 : mTk h 169 25 = h 169 25 := mTk_ne _ _ (by omega)
  have e170 : ∀ i : Int, mTk h 170 i = h 170 i := fun i => mTk_ne _ _ (by omega)
  have eh : zst (zst (zst (zst h 169 0 0) 169 3 (h 169 2)) 169 2 0) 169 4 0 = mTk h := rfl
  have no : ¬ mMC h p f → zQI (fun v g => mMC h p f ∧ v = h 169 25 ∧ g = zst (zst (zst (zst (mTk h) 171 (h 169 25) (h 170 0 - 97)) 172 (h 169 25) p) 173 (h 169 25) f) 169 25 (h 169 25 + 1) ∨ ¬ mMC h p f ∧ v = -1 ∧ g = mTk h) 239 (mTk h) [xI (-1)] := fun c => ⟨rfl, _, rfl, Or.inr ⟨c, rfl, rfl⟩⟩
  refine bX11_man_0 p f hm ht hdep ?_ ?_ ?_ ?_ ?_
  all_goals rw [eh]
  · intro c
    exact no (fun z => z.1 c)
  · intro _ c
    exact no (fun z => c z.2.1)
  · intro _ _ c
    exact no (fun z => c z.2.2.1)
  · intro c1 c2 c3 c4
    have main : ∀ (k : Nat) (i : Int), 0 ≤ i → i + k = h 169 2 → (∀ j : Int, 0 ≤ j → j < i → 97 ≤ h 170 j ∧ h 170 j ≤ 122) → zW mX11_man X dep 0 0 239 55 [(0, xR 169), (1, xI p), (2, xI f), (3, xI i)] [] (mTk h) (zQI (fun v g => mMC h p f ∧ v = h 169 25 ∧ g = zst (zst (zst (zst (mTk h) 171 (h 169 25) (h 170 0 - 97)) 172 (h 169 25) p) 173 (h 169 25) f) 169 25 (h 169 25 + 1) ∨ ¬ mMC h p f ∧ v = -1 ∧ g = mTk h)) := by
      intro k
      induction k with
      | zero =>
        intro i h0 hk hj
        refine bX11_man_55 p f i (by rw [mTk_3]; omega) h0 hdep ?_ ?_ ?_
        all_goals simp only [mTk_3, e170]
        · intro c
          have j0 := hj 0 (by omega) (by omega)
          refine bX11_man_83 p f (by rw [e25]; omega) (by rw [e170]; omega) ?_
          simp only [e25, e170]
          exact ⟨rfl, _, rfl, Or.inl ⟨⟨c1, c2, c3, c4, fun j q1 q2 => hj j q1 (by omega)⟩, rfl, rfl⟩⟩
        · intro c
          exfalso
          omega
        · intro c
          exfalso
          omega
      | succ k ih =>
        intro i h0 hk hj
        refine bX11_man_55 p f i (by rw [mTk_3]; omega) h0 hdep ?_ ?_ ?_
        all_goals simp only [mTk_3, e170]
        · intro c
          exfalso
          omega
        · intro c d
          refine ih (i + 1) (by omega) (by omega) (fun j q1 q2 => ?_)
          by_cases e : j = i
          · rw [e]
            exact d
          · exact hj j q1 (by omega)
        · intro c d
          exact no (fun z => d (z.2.2.2.2 i h0 (by omega)))
    exact main (h 169 2).toNat 0 (by omega) (by omega) (fun j q1 q2 => by omega)
  · intro _ _ _ c
    exact no (fun z => c z.2.2.2.1)
/-- a lot told -/
abbrev mLC (h : zH) (d w : Int) : Prop := h 169 65 ≠ 4 ∧ (h 169 5 ≤ d ∧ d ≤ 3639) ∧ (h 169 65 ≤ 0 ∨ h 205 (h 169 65 - 1) ≤ d) ∧ 0 ≤ w ∧ w ≤ 60
def mLd (h : zH) (d w : Int) (g : zH) : Prop := zag [169, 205, 206, 207, 208, 209] h g ∧ (∀ k : Int, k ≠ 65 → g 169 k = h 169 k) ∧ g 169 65 = h 169 65 + 1 ∧ (∀ q : Int, g 205 q = if q = h 169 65 then d else h 205 q) ∧ (∀ q : Int, g 206 q = if q = h 169 65 then w else h 206 q) ∧ (∀ k : Int, 0 ≤ k → k < 52 → g 207 (52 * h 169 65 + k) = k ∧ g 208 (52 * h 169 65 + k) = k) ∧ (∀ q : Int, q < 52 * h 169 65 ∨ 52 * h 169 65 + 52 ≤ q → g 207 q = h 207 q ∧ g 208 q = h 208 q) ∧ (∀ k : Int, 0 ≤ k → k < 26 → g 209 (26 * h 169 65 + k) = k) ∧ ∀ q : Int, q < 26 * h 169 65 ∨ 26 * h 169 65 + 26 ≤ q → g 209 q = h 209 q
theorem f_X11_lot {X : zX} {dep : Nat} (d w : Int) {h : zH} (hl : 0 ≤ h 169 65 ∧ h 169 65 ≤ 4) (hdep : 1 ≤ dep) : zW mX11_lot X dep 0 0 239 0 (zar 0 [xR 169, xI d, xI w]) [] h
    (zQI (fun v g => mLC h d w ∧ v = h 169 65 ∧ mLd (zst h 169 0 0) d w g ∨ ¬ mLC h d w ∧ v = -1 ∧ g = zst h 169 0 0)) := by
  have e65 : zst h 169 0 0 169 65 = h 169 65 := zst_ne (Or.inr (by decide))
  have no : ¬ mLC h d w → zQI (fun v g => mLC h d w ∧ v = h 169 65 ∧ mLd (zst h 169 0 0) d w g ∨ ¬ mLC h d w ∧ v = -1 ∧ g = zst h 169 0 0) 239 (zst h 169 0 0) [xI (-1)] := fun c => ⟨rfl, _, rfl, Or.inr ⟨c, rfl, rfl⟩⟩
  have go : mLC h d w → zW mX11_lot X dep 0 0 239 61 [(0, xR 169), (1, xI d), (2, xI w)] [] (zst h 169 0 0) (zQI (fun v g => mLC h d w ∧ v = h 169 65 ∧ mLd (zst h 169 0 0) d w g ∨ ¬ mLC h d w ∧ v = -1 ∧ g = zst h 169 0 0)) := fun C => by
    generalize zst h 169 0 0 = f at e65 ⊢
    have ns : h 169 65 < 4 := by
      have := C.1
      omega
    have two : ∀ (k : Nat) (i : Int) (g : zH), 0 ≤ i → i + k = 26 → zag [205, 206, 207, 208, 209] f g → (∀ q : Int, g 205 q = if q = f 169 65 then d else f 205 q) → (∀ q : Int, g 206 q = if q = f 169 65 then w else f 206 q) → (∀ j : Int, 0 ≤ j → j < 52 → g 207 (52 * f 169 65 + j) = j ∧ g 208 (52 * f 169 65 + j) = j) → (∀ q : Int, q < 52 * f 169 65 ∨ 52 * f 169 65 + 52 ≤ q → g 207 q = f 207 q ∧ g 208 q = f 208 q) → (∀ j : Int, 0 ≤ j → j < i → g 209 (26 * f 169 65 + j) = j) → (∀ q : Int, q < 26 * f 169 65 ∨ 26 * f 169 65 + 26 ≤ q → g 209 q = f 209 q) →
        zW mX11_lot X dep 0 0 239 127 [(0, xR 169), (3, xI i)] [] g (zQI (fun v g => mLC h d w ∧ v = h 169 65 ∧ mLd f d w g ∨ ¬ mLC h d w ∧ v = -1 ∧ g = f)) := by
      intro k
      induction k with
      | zero =>
        intro i g h0 hk ha h5 h6 h7 h8 h9 h10
        have g65 := ha 169 65 (by decide)
        refine bX11_lot_127 i (by omega) h0 (fun c => ?_) (fun c => by exfalso; omega)
        refine ⟨rfl, _, rfl, Or.inl ⟨C, by omega, (ha.mono (by decide)).st (by decide) _ _, fun q hq => ?_, ?_, fun q => ?_, fun q => ?_, fun j j0 j1 => ?_, fun q hq => ?_, fun j j0 j1 => ?_, fun q hq => ?_⟩⟩
        · rw [zst_ne (Or.inr hq)]
          exact ha 169 q (by decide)
        · rw [zst_self, g65]
        · rw [zst_ne (Or.inl (by decide))]
          exact h5 q
        · rw [zst_ne (Or.inl (by decide))]
          exact h6 q
        · rw [zst_ne (Or.inl (by decide)), zst_ne (Or.inl (by decide))]
          exact h7 j j0 j1
        · rw [zst_ne (Or.inl (by decide)), zst_ne (Or.inl (by decide))]
          exact h8 q hq
        · rw [zst_ne (Or.inl (by decide))]
          exact h9 j j0 (by omega)
        · rw [zst_ne (Or.inl (by decide))]
          exact h10 q hq
      | succ k ih =>
        intro i g h0 hk ha h5 h6 h7 h8 h9 h10
        have g65 := ha 169 65 (by decide)
        refine bX11_lot_127 i (by omega) h0 (fun c => by exfalso; omega) (fun c => ?_)
        rw [g65]
        refine ih (i + 1) _ (by omega) (by omega) (ha.st (by decide) _ _) (fun q => ?_) (fun q => ?_) (fun j j0 j1 => ?_) (fun q hq => ?_) (fun j j0 j1 => ?_) (fun q hq => ?_)
        · rw [zst_ne (Or.inl (by decide))]
          exact h5 q
        · rw [zst_ne (Or.inl (by decide))]
          exact h6 q
        · rw [zst_ne (Or.inl (by decide)), zst_ne (Or.inl (by decide))]
          exact h7 j j0 j1
        · rw [zst_ne (Or.inl (by decide)), zst_ne (Or.inl (by decide))]
          exact h8 q hq
        · rw [zst_or]
          by_cases e : j = i
          · rw [if_pos (by omega), e]
          · rw [if_neg (by omega)]
            exact h9 j j0 (by omega)
        · rw [zst_ne (Or.inr (by omega))]
          exact h10 q hq
    have one : ∀ (k : Nat) (i : Int) (g : zH), 0 ≤ i → i + k = 52 → zag [205, 206, 207, 208, 209] f g → (∀ q : Int, g 205 q = if q = f 169 65 then d else f 205 q) → (∀ q : Int, g 206 q = if q = f 169 65 then w else f 206 q) → (∀ j : Int, 0 ≤ j → j < i → g 207 (52 * f 169 65 + j) = j ∧ g 208 (52 * f 169 65 + j) = j) → (∀ q : Int, q < 52 * f 169 65 ∨ 52 * f 169 65 + 52 ≤ q → g 207 q = f 207 q ∧ g 208 q = f 208 q) → (∀ q : Int, g 209 q = f 209 q) →
        zW mX11_lot X dep 0 0 239 83 [(0, xR 169), (3, xI i)] [] g (zQI (fun v g => mLC h d w ∧ v = h 169 65 ∧ mLd f d w g ∨ ¬ mLC h d w ∧ v = -1 ∧ g = f)) := by
      intro k
      induction k with
      | zero =>
        intro i g h0 hk ha h5 h6 h7 h8 h9
        have g65 := ha 169 65 (by decide)
        refine bX11_lot_83 i (by omega) h0 (fun c => ?_) (fun c => by exfalso; omega)
        exact two 26 0 g (by omega) (by omega) ha h5 h6 (fun j j0 j1 => h7 j j0 (by omega)) h8 (fun j j0 j1 => by omega) (fun q _ => h9 q)
      | succ k ih =>
        intro i g h0 hk ha h5 h6 h7 h8 h9
        have g65 := ha 169 65 (by decide)
        refine bX11_lot_83 i (by omega) h0 (fun c => by exfalso; omega) (fun c => ?_)
        rw [g65]
        refine ih (i + 1) _ (by omega) (by omega) ((ha.st (by decide) _ _).st (by decide) _ _) (fun q => ?_) (fun q => ?_) (fun j j0 j1 => ?_) (fun q hq => ?_) (fun q => ?_)
        · rw [zst_ne (Or.inl (by decide)), zst_ne (Or.inl (by decide))]
          exact h5 q
        · rw [zst_ne (Or.inl (by decide)), zst_ne (Or.inl (by decide))]
          exact h6 q
        · rw [zst_ne (o' := 207) (o := 208) (Or.inl (by decide)), zst_or, zst_or, zst_ne (o' := 208) (o := 207) (Or.inl (by decide))]
          by_cases e : j = i
          · rw [if_pos (by omega), if_pos (by omega), e]
            exact ⟨rfl, rfl⟩
          · rw [if_neg (by omega), if_neg (by omega)]
            exact h7 j j0 (by omega)
        · rw [zst_ne (o' := 207) (o := 208) (Or.inl (by decide)), zst_ne (o' := 207) (o := 207) (Or.inr (by omega)), zst_ne (o' := 208) (o := 208) (Or.inr (by omega)), zst_ne (o' := 208) (o := 207) (Or.inl (by decide))]
          exact h8 q hq
        · rw [zst_ne (Or.inl (by decide)), zst_ne (Or.inl (by decide))]
          exact h9 q
    refine bX11_lot_61 d w (by omega) ?_
    refine one 52 0 _ (by omega) (by omega) (((zag.rf _ f).st (by decide) _ _).st (by decide) _ _) (fun q => ?_) (fun q => ?_) (fun j j0 j1 => by omega) (fun q hq => ?_) (fun q => ?_)
    · rw [zst_ne (Or.inl (by decide)), zst_or]
    · rw [zst_or, zst_ne (Or.inl (by decide))]
    · rw [zst_ne (Or.inl (by decide)), zst_ne (Or.inl (by decide)), zst_ne (Or.inl (by decide)), zst_ne (Or.inl (by decide))]
      exact ⟨rfl, rfl⟩
    · rw [zst_ne (Or.inl (by decide)), zst_ne (Or.inl (by decide))]
  refine bX11_lot_0 d w hl hdep (fun c => no (fun z => z.1 c)) (fun _ c => no (fun z => c z.2.1)) (fun c1 c2 c3 c4 => go ⟨c1, c2, Or.inl c3, c4⟩) (fun _ _ _ c => no (fun z => c z.2.2.2)) (fun _ _ c3 c => no (fun z => by have := z.2.2.1; omega)) (fun c1 c2 c3 c4 c5 => go ⟨c1, c2, Or.inr (by omega), c5⟩) (fun _ _ _ _ c => no (fun z => c z.2.2.2))
/-- so many bytes, each number once -/
def mOrd (h : zH) (n : Int) : Prop := h 169 3 = n ∧ ∀ i : Int, 0 ≤ i → i < n → (0 ≤ h 170 i ∧ h 170 i < n) ∧ ∀ k : Int, 0 ≤ k → k < i → h 170 k ≠ h 170 i
theorem f_X11_isOrder {X : zX} {dep : Nat} (n : Int) {h : zH} (hn : n = 52 ∨ n = 26) (hdep : 1 ≤ dep) : zW mX11_isOrder X dep 0 0 239 0 (zar 0 [xR 169, xI n]) [] h (zQI (fun v g => zag [212] h g ∧ v = zb (mOrd h n))) := by
  refine bX11_isOrder_0 n (fun c0 => ?_) (fun c0 => ?_)
  · have two : ∀ (k : Nat) (i : Int) (g : zH), 0 ≤ i → i + k = n → zag [212] h g → (∀ v : Int, 0 ≤ v → v < n → (g 212 v = 0 ↔ ∀ j : Int, 0 ≤ j → j < i → h 170 j ≠ v)) → (∀ j : Int, 0 ≤ j → j < i → (0 ≤ h 170 j ∧ h 170 j < n) ∧ ∀ k : Int, 0 ≤ k → k < j → h 170 k ≠ h 170 j) → zW mX11_isOrder X dep 0 0 239 32 [(0, xR 169), (1, xI n), (2, xI i)] [] g (zQI (fun v g => zag [212] h g ∧ v = zb (mOrd h n))) := by
      intro k
      induction k with
      | zero =>
        intro i g h0 hk ha hs ho
        refine bX11_isOrder_32 n i hn h0 hdep (fun c => ?_) (fun c => by exfalso; omega) (fun c => by exfalso; omega) (fun c => by exfalso; omega)
        exact ⟨rfl, _, rfl, ha, (zb_t ⟨c0, fun j j0 j1 => ho j j0 (by omega)⟩).symm⟩
      | succ k ih =>
        intro i g h0 hk ha hs ho
        have e := ha 170 i (by decide)
        refine bX11_isOrder_32 n i hn h0 hdep (fun c => by exfalso; omega) (fun c1 c2 => ?_) (fun c1 c2 c3 => ?_) (fun c1 c2 c3 => ?_)
        · rw [e] at c2
          exact ⟨rfl, _, rfl, ha, (zb_f (fun z => c2 (by have := (z.2 i h0 (by omega)).1; omega))).symm⟩
        · rw [e] at c2 c3 ⊢
          have s := (hs (h 170 i) c2.1 (by omega)).mp c3
          refine ih (i + 1) _ (by omega) (by omega) (ha.st (by decide) _ _) (fun v v0 v1 => ?_) (fun j j0 j1 => ?_)
          · rw [zst_or]
            by_cases d : v = h 170 i
            · rw [if_pos d]
              exact ⟨fun z => absurd z (by decide), fun z => absurd d.symm (z i h0 (by omega))⟩
            · rw [if_neg d, hs v v0 v1]
              refine ⟨fun z j j0 j1 => ?_, fun z j j0 j1 => z j j0 (by omega)⟩
              by_cases d2 : j = i
              · rw [d2]
                exact fun q => d q.symm
              · exact z j j0 (by omega)
          · by_cases d : j = i
            · rw [d]
              exact ⟨by omega, fun k k0 k1 => s k k0 k1⟩
            · exact ho j j0 (by omega)
        · rw [e] at c2 c3
          refine ⟨rfl, _, rfl, ha, (zb_f (fun z => c3 ?_)).symm⟩
          exact (hs (h 170 i) c2.1 (by omega)).mpr (fun j j0 j1 => (z.2 i h0 (by omega)).2 j j0 j1)
    have one : ∀ (k : Nat) (i : Int) (g : zH), 0 ≤ i → i + k = n → zag [212] h g → (∀ v : Int, 0 ≤ v → v < i → g 212 v = 0) → zW mX11_isOrder X dep 0 0 239 12 [(0, xR 169), (1, xI n), (2, xI i)] [] g (zQI (fun v g => zag [212] h g ∧ v = zb (mOrd h n))) := by
      intro k
      induction k with
      | zero =>
        intro i g h0 hk ha hs
        refine bX11_isOrder_12 n i hn h0 (fun c => ?_) (fun c => by exfalso; omega)
        exact two n.toNat 0 g (by omega) (by omega) ha (fun v v0 v1 => ⟨fun _ j j0 j1 => by omega, fun _ => hs v v0 (by omega)⟩) (fun j j0 j1 => by omega)
      | succ k ih =>
        intro i g h0 hk ha hs
        refine bX11_isOrder_12 n i hn h0 (fun c => by exfalso; omega) (fun c => ?_)
        refine ih (i + 1) _ (by omega) (by omega) (ha.st (by decide) _ _) (fun v v0 v1 => ?_)
        rw [zst_or]
        split
        · rfl
        · exact hs v v0 (by omega)
    exact one n.toNat 0 h (by omega) (by omega) (zag.rf _ _) (fun v v0 v1 => by omega)
  · exact ⟨rfl, _, rfl, zag.rf _ _, (zb_f (fun z => c0 z.1)).symm⟩
/-- the places that picks give, behind what was there -/
def mtk (a b : Int → Int) : Nat → Int → Int
  | 0, v => b v
  | n + 1, v => if a n = v then n else mtk a b n v
abbrev mWC (h : zH) (l : Int) : Prop := mCl h l ∧ h 210 l = 0 ∧ mOrd (mTk h) 52
def mWk (h : zH) (l : Int) (g : zH) : Prop := zag [207, 208, 210, 212] (mTk h) g ∧ (∀ q : Int, g 210 q = if q = l then 1 else h 210 q) ∧ (∀ k : Int, 0 ≤ k → k < 52 → g 207 (52 * l + k) = h 170 k) ∧ (∀ v : Int, 0 ≤ v → v < 52 → g 208 (52 * l + v) = mtk (h 170) (fun v => h 208 (52 * l + v)) 52 v) ∧ ∀ q : Int, q < 52 * l ∨ 52 * l + 52 ≤ q → g 207 q = h 207 q ∧ g 208 q = h 208 q
theorem f_X11_weeks {X : zX} {dep : Nat} (l : Int) {h : zH} (hl : 0 ≤ h 169 65 ∧ h 169 65 ≤ 4) (ht : 0 ≤ h 169 2 ∧ h 169 2 ≤ 340) (hdep : 2 ≤ dep) : zW mX11_weeks X dep 0 0 239 0 (zar 0 [xR 169, xI l]) [] h
    (zQI (fun v g => mWC h l ∧ v = 1 ∧ mWk h l g ∨ ¬ mWC h l ∧ v = 0 ∧ zag [212] (mTk h) g)) := by
  have e65 : mTk h 169 65 = h 169 65 := mTk_ne _ _ (by omega)
  have e210 : ∀ i : Int, mTk h 210 i = h 210 i := fun i => mTk_ne _ _ (by omega)
  have e170 : ∀ i : Int, mTk h 170 i = h 170 i := fun i => mTk_ne _ _ (by omega)
  have e207 : ∀ i : Int, mTk h 207 i = h 207 i := fun i => mTk_ne _ _ (by omega)
  have e208 : ∀ i : Int, mTk h 208 i = h 208 i := fun i => mTk_ne _ _ (by omega)
  have eh : zst (zst (zst (zst h 169 0 0) 169 3 (h 169 2)) 169 2 0) 169 4 0 = mTk h := rfl
  have no : ∀ g : zH, zag [212] (mTk h) g → ¬ mWC h l → zQI (fun v g => mWC h l ∧ v = 1 ∧ mWk h l g ∨ ¬ mWC h l ∧ v = 0 ∧ zag [212] (mTk h) g) 239 g [xI 0] := fun g hg c => ⟨rfl, _, rfl, Or.inr ⟨c, rfl, hg⟩⟩
  refine bX11_weeks_0 l hl ht hdep ?_ ?_ ?_
  all_goals rw [eh]
  · intro c
    exact no _ (zag.rf _ _) (fun z => c z.1)
  · intro _ c
    exact no _ (zag.rf _ _) (fun z => c z.2.1)
  · intro c1 c2
    refine rX11_weeks_29 l (f_X11_isOrder 52 (Or.inl rfl) (by omega)) (by omega) (fun v g hg => ?_)
    obtain ⟨ha, hv⟩ := hg
    refine bX11_weeks_32 l v (by omega) (fun c => ?_) (fun c => ?_)
    · have ord : mOrd (mTk h) 52 := by
        by_cases z : mOrd (mTk h) 52
        · exact z
        · rw [zb_f z] at hv
          exact absurd hv c
      have C : mWC h l := ⟨c1, c2, ord⟩
      have main : ∀ (k i : Nat) (f : zH), i + k = 52 → zag [207, 208, 210, 212] (mTk h) f → (∀ q : Int, f 210 q = if q = l then 1 else h 210 q) → (∀ k : Int, 0 ≤ k → k < i → f 207 (52 * l + k) = h 170 k) → (∀ v : Int, 0 ≤ v → v < 52 → f 208 (52 * l + v) = mtk (h 170) (fun v => h 208 (52 * l + v)) i v) → (∀ q : Int, q < 52 * l ∨ 52 * l + 52 ≤ q → f 207 q = h 207 q ∧ f 208 q = h 208 q) → zW mX11_weeks X dep 0 0 239 46 [(0, xR 169), (1, xI l), (2, xI i)] [] f (zQI (fun v g => mWC h l ∧ v = 1 ∧ mWk h l g ∨ ¬ mWC h l ∧ v = 0 ∧ zag [212] (mTk h) g)) := by
        intro k
        induction k with
        | zero =>
          intro i f hk fa f1 f2 f3 f4
          obtain rfl : i = 52 := by omega
          refine bX11_weeks_46 l 52 (by omega) (by omega) (Or.inl (by omega)) (fun _ => ?_) (fun c => by exfalso; omega)
          exact ⟨rfl, _, rfl, Or.inl ⟨C, rfl, fa, f1, f2, f3, f4⟩⟩
        | succ k ih =>
          intro i f hk fa f1 f2 f3 f4
          have eb : f 170 i = h 170 i := (fa 170 i (by decide)).trans (e170 i)
          have ob := (ord.2 i (by omega) (by omega)).1
          rw [e170] at ob
          refine bX11_weeks_46 l i (by omega) (by omega) (by rw [eb]; exact Or.inr ob) (fun c => by exfalso; omega) (fun c => ?_)
          rw [eb]
          have go := ih (i + 1) (zst (zst f 207 ((52 * l) + i) (h 170 i)) 208 ((52 * l) + (h 170 i)) i) (by omega) ((fa.st (by decide) _ _).st (by decide) _ _) (fun q => by
              rw [zst_ne (Or.inl (by decide)), zst_ne (Or.inl (by decide))]
              exact f1 q) (fun q q0 q1 => by
              rw [zst_ne (o' := 207) (o := 208) (Or.inl (by decide)), zst_or]
              by_cases d : q = i
              · rw [if_pos (by omega), d]
              · rw [if_neg (by omega)]
                exact f2 q q0 (by omega)) (fun v v0 v1 => by
              rw [zst_or, zst_ne (o' := 208) (o := 207) (Or.inl (by decide))]
              unfold mtk
              by_cases d : h 170 i = v
              · rw [if_pos (by omega), if_pos d]
              · rw [if_neg (by omega), if_neg d]
                exact f3 v v0 v1) (fun q hq => by
              rw [zst_ne (o' := 207) (o := 208) (Or.inl (by decide)), zst_ne (o' := 207) (o := 207) (Or.inr (by omega)), zst_ne (o' := 208) (o := 208) (Or.inr (by omega)), zst_ne (o' := 208) (o := 207) (Or.inl (by decide))]
              exact f4 q hq)
          rw [show ((i + 1 : Nat) : Int) = (i : Int) + 1 by omega] at go
          exact go
      refine main 52 0 _ (by omega) ((ha.mono (by decide)).st (by decide) _ _) (fun q => ?_) (fun q q0 q1 => by omega) (fun v v0 v1 => ?_) (fun q hq => ?_)
      · rw [zst_or, ha 210 q (by decide), e210]
      · rw [zst_ne (Or.inl (by decide)), ha 208 _ (by decide), e208]
        rfl
      · rw [zst_ne (Or.inl (by decide)), zst_ne (Or.inl (by decide)), ha 207 _ (by decide), e207, ha 208 _ (by decide), e208]
        exact ⟨rfl, rfl⟩
    · refine no g ha (fun z => ?_)
      rw [zb_t z.2.2] at hv
      omega
abbrev mTC (h : zH) (l : Int) : Prop := mCl h l ∧ h 211 l = 0 ∧ mOrd (mTk h) 26
def mTt (h : zH) (l : Int) (g : zH) : Prop := zag [209, 211, 212] (mTk h) g ∧ (∀ q : Int, g 211 q = if q = l then 1 else h 211 q) ∧ (∀ v : Int, 0 ≤ v → v < 26 → g 209 (26 * l + v) = mtk (h 170) (fun v => h 209 (26 * l + v)) 26 v) ∧ ∀ q : Int, q < 26 * l ∨ 26 * l + 26 ≤ q → g 209 q = h 209 q
theorem f_X11_letters {X : zX} {dep : Nat} (l : Int) {h : zH} (hl : 0 ≤ h 169 65 ∧ h 169 65 ≤ 4) (ht : 0 ≤ h 169 2 ∧ h 169 2 ≤ 340) (hdep : 2 ≤ dep) : zW mX11_letters X dep 0 0 239 0 (zar 0 [xR 169, xI l]) [] h
    (zQI (fun v g => mTC h l ∧ v = 1 ∧ mTt h l g ∨ ¬ mTC h l ∧ v = 0 ∧ zag [212] (mTk h) g)) := by
  have e65 : mTk h 169 65 = h 169 65 := mTk_ne _ _ (by omega)
  have e211 : ∀ i : Int, mTk h 211 i = h 211 i := fun i => mTk_ne _ _ (by omega)
  have e170 : ∀ i : Int, mTk h 170 i = h 170 i := fun i => mTk_ne _ _ (by omega)
  have e209 : ∀ i : Int, mTk h 209 i = h 209 i := fun i => mTk_ne _ _ (by omega)
  have eh : zst (zst (zst (zst h 169 0 0) 169 3 (h 169 2)) 169 2 0) 169 4 0 = mTk h := rfl
  have no : ∀ g : zH, zag [212] (mTk h) g → ¬ mTC h l → zQI (fun v g => mTC h l ∧ v = 1 ∧ mTt h l g ∨ ¬ mTC h l ∧ v = 0 ∧ zag [212] (mTk h) g) 239 g [xI 0] := fun g hg c => ⟨rfl, _, rfl, Or.inr ⟨c, rfl, hg⟩⟩
  refine bX11_letters_0 l hl ht hdep ?_ ?_ ?_
  all_goals rw [eh]
  · intro c
    exact no _ (zag.rf _ _) (fun z => c z.1)
  · intro _ c
    exact no _ (zag.rf _ _) (fun z => c z.2.1)
  · intro c1 c2
    refine rX11_letters_29 l (f_X11_isOrder 26 (Or.inr rfl) (by omega)) (by omega) (fun v g hg => ?_)
    obtain ⟨ha, hv⟩ := hg
    refine bX11_letters_32 l v (by omega) (fun c => ?_) (fun c => ?_)
    · have ord : mOrd (mTk h) 26 := by
        by_cases z : mOrd (mTk h) 26
        · exact z
        · rw [zb_f z] at hv
          exact absurd hv c
      have C : mTC h l := ⟨c1, c2, ord⟩
      have main : ∀ (k i : Nat) (f : zH), i + k = 26 → zag [209, 211, 212] (mTk h) f → (∀ q : Int, f 211 q = if q = l then 1 else h 211 q) → (∀ v : Int, 0 ≤ v → v < 26 → f 209 (26 * l + v) = mtk (h 170) (fun v => h 209 (26 * l + v)) i v) → (∀ q : Int, q < 26 * l ∨ 26 * l + 26 ≤ q → f 209 q = h 209 q) → zW mX11_letters X dep 0 0 239 46 [(0, xR 169), (1, xI l), (2, xI i)] [] f (zQI (fun v g => mTC h l ∧ v = 1 ∧ mTt h l g ∨ ¬ mTC h l ∧ v = 0 ∧ zag [212] (mTk h) g)) := by
        intro k
        induction k with
        | zero =>
          intro i f hk fa f1 f3 f4
          obtain rfl : i = 26 := by omega
          refine bX11_letters_46 l 26 (by omega) (by omega) (Or.inl (by omega)) (fun _ => ?_) (fun c => by exfalso; omega)
          exact ⟨rfl, _, rfl, Or.inl ⟨C, rfl, fa, f1, f3, f4⟩⟩
        | succ k ih =>
          intro i f hk fa f1 f3 f4
          have eb : f 170 i = h 170 i := (fa 170 i (by decide)).trans (e170 i)
          have ob := (ord.2 i (by omega) (by omega)).1
          rw [e170] at ob
          refine bX11_letters_46 l i (by omega) (by omega) (by rw [eb]; exact Or.inr ob) (fun c => by exfalso; omega) (fun c => ?_)
          rw [eb]
          have go := ih (i + 1) (zst f 209 ((26 * l) + (h 170 i)) i) (by omega) (fa.st (by decide) _ _) (fun q => by
              rw [zst_ne (Or.inl (by decide))]
              exact f1 q) (fun v v0 v1 => by
              rw [zst_or]
              unfold mtk
              by_cases d : h 170 i = v
              · rw [if_pos (by omega), if_pos d]
              · rw [if_neg (by omega), if_neg d]
                exact f3 v v0 v1) (fun q hq => by
              rw [zst_ne (Or.inr (by omega))]
              exact f4 q hq)
          rw [show ((i + 1 : Nat) : Int) = (i : Int) + 1 by omega] at go
          exact go
      refine main 26 0 _ (by omega) ((ha.mono (by decide)).st (by decide) _ _) (fun q => ?_) (fun v v0 v1 => ?_) (fun q hq => ?_)
      · rw [zst_or, ha 211 q (by decide), e211]
      · rw [zst_ne (Or.inl (by decide)), ha 209 _ (by decide), e209]
        rfl
      · rw [zst_ne (Or.inl (by decide)), ha 209 _ (by decide), e209]
    · refine no g ha (fun z => ?_)
      rw [zb_t z.2.2] at hv
      omega
