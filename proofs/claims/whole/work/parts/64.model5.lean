/-! the model: places and quotas -/
set_option maxRecDepth 20000 in
theorem bX11_placeOf_0 {X : zX} {dep bc bs : Nat} (l : Int) (m : Int) {h : zH} {Q : Nat → zH → List zV → Prop}
    (k1 : zW mX11_placeOf X dep bc bs 239 5 [(0, xR 169), (1, xI l), (2, xI m), (3, xI 0), (4, xI 0)] [] h Q) : zW mX11_placeOf X dep bc bs 239 0 [(0, xR 169), (1, xI l), (2, xI m)] [] h Q := by
  refine z_iconst dX11_placeOf_0 (zi32_d rfl) ?_
  refine z_istore_n (lv' := [(3, xI 0), (0, xR 169), (1, xI l), (2, xI m)]) dX11_placeOf_1 (by decide) rfl ?_
  refine z_iconst dX11_placeOf_2 (zi32_d rfl) ?_
  refine z_istore (lv' := [(4, xI 0), (3, xI 0), (0, xR 169), (1, xI l), (2, xI m)]) dX11_placeOf_3 (by decide) rfl ?_
  refine zW.sub (lv' := [(0, xR 169), (1, xI l), (2, xI m), (3, xI 0), (4, xI 0)]) [2, 3, 4, 1, 0] rfl ?_
  exact k1

set_option maxRecDepth 20000 in
theorem bX11_placeOf_5 {X : zX} {dep bc bs : Nat} (l : Int) (m : Int) (n : Int) (q : Int) {h : zH} {Q : Nat → zH → List zV → Prop} (hm : 0 ≤ h 169 25 ∧ h 169 25 ≤ 60) (hl : 0 ≤ l ∧ l < 4) (hx : 0 ≤ m ∧ m < 60) (hq : 0 ≤ q ∧ q ≤ 60) (hn : 0 ≤ n ∧ n ≤ q) (hm0 : -3120 ≤ h 214 m ∧ h 214 m < 520) (hm1 : 0 ≤ h 171 m ∧ h 171 m < 26) (hm2 : 0 ≤ h 221 (60 * l + m) ∧ h 221 (60 * l + m) ≤ 9) (hm3 : 0 ≤ h 208 (52 * l + h 214 m % 52) ∧ h 208 (52 * l + h 214 m % 52) < 52) (hm4 : 0 ≤ h 209 (26 * l + h 171 m) ∧ h 209 (26 * l + h 171 m) < 26) (hq0 : h 169 25 ≤ q ∨ h 219 (60 * l + q) < 4 ∨ (-3120 ≤ h 214 q ∧ h 214 q < 520)) (hq1 : h 169 25 ≤ q ∨ h 219 (60 * l + q) < 4 ∨ (0 ≤ h 171 q ∧ h 171 q < 26)) (hq2 : h 169 25 ≤ q ∨ h 219 (60 * l + q) < 4 ∨ (0 ≤ h 221 (60 * l + q) ∧ h 221 (60 * l + q) ≤ 9)) (hq3 : h 169 25 ≤ q ∨ h 219 (60 * l + q) < 4 ∨ (0 ≤ h 208 (52 * l + h 214 q % 52) ∧ h 208 (52 * l + h 214 q % 52) < 52)) (hq4 : h 169 25 ≤ q ∨ h 219 (60 * l + q) < 4 ∨ (0 ≤ h 209 (26 * l + h 171 q) ∧ h 209 (26 * l + h 171 q) < 26)) (hdep : 2 ≤ dep)
    (k1 : (h 169 25) ≤ q → Q 239 h [xI n])
    (k2 : ¬ ((h 169 25) ≤ q) → q = m → zW mX11_placeOf X dep bc bs 239 5 [(0, xR 169), (1, xI l), (2, xI m), (3, xI (n + 0)), (4, xI (q + 1))] [] h Q)
    (k3 : ¬ ((h 169 25) ≤ q) → ¬ (q = m) → ¬ (4 ≤ h 219 (60 * l + q)) → zW mX11_placeOf X dep bc bs 239 5 [(0, xR 169), (1, xI l), (2, xI m), (3, xI (n + 0)), (4, xI (q + 1))] [] h Q)
    (k4 : ¬ ((h 169 25) ≤ q) → ¬ (q = m) → 4 ≤ h 219 (60 * l + q) → ¬ (h 172 q) = (h 172 m) → zW mX11_placeOf X dep bc bs 239 5 [(0, xR 169), (1, xI l), (2, xI m), (3, xI (n + 0)), (4, xI (q + 1))] [] h Q)
    (k5 : ¬ ((h 169 25) ≤ q) → ¬ (q = m) → 4 ≤ h 219 (60 * l + q) → (h 172 q) = (h 172 m) → ¬ (h 221 (60 * l + q) < h 221 (60 * l + m) ∨ h 221 (60 * l + q) = h 221 (60 * l + m) ∧ (h 208 (52 * l + h 214 q % 52) < h 208 (52 * l + h 214 m % 52) ∨ h 208 (52 * l + h 214 q % 52) = h 208 (52 * l + h 214 m % 52) ∧ (h 209 (26 * l + h 171 q) < h 209 (26 * l + h 171 m) ∨ h 209 (26 * l + h 171 q) = h 209 (26 * l + h 171 m) ∧ q < m))) → zW mX11_placeOf X dep bc bs 239 5 [(0, xR 169), (1, xI l), (2, xI m), (3, xI (n + 0)), (4, xI (q + 1))] [] h Q)
    (k6 : ¬ ((h 169 25) ≤ q) → ¬ (q = m) → 4 ≤ h 219 (60 * l + q) → (h 172 q) = (h 172 m) → h 221 (60 * l + q) < h 221 (60 * l + m) ∨ h 221 (60 * l + q) = h 221 (60 * l + m) ∧ (h 208 (52 * l + h 214 q % 52) < h 208 (52 * l + h 214 m % 52) ∨ h 208 (52 * l + h 214 q % 52) = h 208 (52 * l + h 214 m % 52) ∧ (h 209 (26 * l + h 171 q) < h 209 (26 * l + h 171 m) ∨ h 209 (26 * l + h 171 q) = h 209 (26 * l + h 171 m) ∧ q < m)) → zW mX11_placeOf X dep bc bs 239 5 [(0, xR 169), (1, xI l), (2, xI m), (3, xI (n + 1)), (4, xI (q + 1))] [] h Q) : zW mX11_placeOf X dep bc bs 239 5 [(0, xR 169), (1, xI l), (2, xI m), (3, xI n), (4, xI q)] [] h Q := by
  refine z_iload 4 dX11_placeOf_5 rfl ?_
  refine z_aload_n 0 dX11_placeOf_7 rfl ?_
  refine z_getI (k := 25) (kz := 25) pk11 dX11_placeOf_8 (by decide) zb_1149 rfl (zOb.lit (by decide +kernel)) rfl ?_
  refine z_icmp_ge (tgt := 71) dX11_placeOf_11 (by decide) (fun c1 => ?_) (fun c1 => ?_)
  ·
    refine z_iload_n 3 dX11_placeOf_71 rfl ?_
    exact z_iret dX11_placeOf_72 rfl (k1 c1)
  ·
    refine z_iload_n 3 dX11_placeOf_14 rfl ?_
    refine z_iload 4 dX11_placeOf_15 rfl ?_
    refine z_iload_n 2 dX11_placeOf_17 rfl ?_
    refine z_icmp_eq (tgt := 62) dX11_placeOf_18 (by decide) (fun c2 => ?_) (fun c2 => ?_)
    ·
      refine z_iconst dX11_placeOf_62 (zi32_d rfl) ?_
      refine z_iaddN dX11_placeOf_63 (show -2147483648 ≤ n + 0 ∧ n + 0 < 2147483648 from ⟨by omega, by omega⟩).1 (show -2147483648 ≤ n + 0 ∧ n + 0 < 2147483648 from ⟨by omega, by omega⟩).2 ?_
      refine z_istore_n (lv' := [(3, xI (n + 0)), (0, xR 169), (1, xI l), (2, xI m), (4, xI q)]) dX11_placeOf_64 (by decide) rfl ?_
      refine z_iincN (lv' := [(4, xI (q + 1)), (3, xI (n + 0)), (0, xR 169), (1, xI l), (2, xI m)]) 4 dX11_placeOf_65 rfl (by decide) rfl (show -2147483648 ≤ q + 1 ∧ q + 1 < 2147483648 from ⟨by omega, by omega⟩).1 (show -2147483648 ≤ q + 1 ∧ q + 1 < 2147483648 from ⟨by omega, by omega⟩).2 ?_
      refine z_goto (tgt := 5) dX11_placeOf_68 (by decide) ?_
      refine zW.sub (lv' := [(0, xR 169), (1, xI l), (2, xI m), (3, xI (n + 0)), (4, xI (q + 1))]) [2, 3, 4, 1, 0] rfl ?_
      exact k2 c1 c2
    ·
      refine z_aload_n 0 dX11_placeOf_21 rfl ?_
      refine z_iload_n 1 dX11_placeOf_22 rfl ?_
      refine z_iload 4 dX11_placeOf_23 rfl ?_
      refine z_invF (ci := 11) (N := 97) (as := [xI l, xI q]) (st := [xI n]) (ra := [xI q, xI l]) (dep' := dep - 1) (rs := [xI (zb (4 ≤ h 219 (60 * l + q)))]) (h' := h) (f_X11_isListed l q (h := h) hl (show 0 ≤ q ∧ q < 60 from ⟨by omega, by omega⟩)) dX11_placeOf_25 nX11_isListed zb_1663 zb_1665 zb_70 zb_92 (zOb.lit (by decide +kernel)) rfl (by omega) zne_I (Nat.le_of_ble_eq_true rfl) (Nat.le_of_ble_eq_true rfl) rfl ?_
      refine z_ifB_eq (C := 4 ≤ h 219 (60 * l + q)) (tgt := 62) dX11_placeOf_28 (by decide) (fun c3 => ?_) (fun c3 => ?_)
      ·
        refine z_iconst dX11_placeOf_62 (zi32_d rfl) ?_
        refine z_iaddN dX11_placeOf_63 (show -2147483648 ≤ n + 0 ∧ n + 0 < 2147483648 from ⟨by omega, by omega⟩).1 (show -2147483648 ≤ n + 0 ∧ n + 0 < 2147483648 from ⟨by omega, by omega⟩).2 ?_
        refine z_istore_n (lv' := [(3, xI (n + 0)), (0, xR 169), (1, xI l), (2, xI m), (4, xI q)]) dX11_placeOf_64 (by decide) rfl ?_
        refine z_iincN (lv' := [(4, xI (q + 1)), (3, xI (n + 0)), (0, xR 169), (1, xI l), (2, xI m)]) 4 dX11_placeOf_65 rfl (by decide) rfl (show -2147483648 ≤ q + 1 ∧ q + 1 < 2147483648 from ⟨by omega, by omega⟩).1 (show -2147483648 ≤ q + 1 ∧ q + 1 < 2147483648 from ⟨by omega, by omega⟩).2 ?_
        refine z_goto (tgt := 5) dX11_placeOf_68 (by decide) ?_
        refine zW.sub (lv' := [(0, xR 169), (1, xI l), (2, xI m), (3, xI (n + 0)), (4, xI (q + 1))]) [2, 3, 4, 1, 0] rfl ?_
        exact k3 c1 c2 c3
      ·
        refine z_aload_n 0 dX11_placeOf_31 rfl ?_
        refine z_getS (v := 172) (k := 7) (kz := 7) pk11 dX11_placeOf_32 (by decide) zb_1131 rfl (zOb.lit (by decide +kernel)) rfl (by decide +kernel) ?_
        refine z_iload 4 dX11_placeOf_35 rfl ?_
        refine z_iald dX11_placeOf_37 (zOb.lit (by decide +kernel)) (show 0 ≤ q ∧ q < 60 from ⟨by omega, by omega⟩).1 (show 0 ≤ q ∧ q < 60 from ⟨by omega, by omega⟩).2 ?_
        refine z_aload_n 0 dX11_placeOf_38 rfl ?_
        refine z_getS (v := 172) (k := 7) (kz := 7) pk11 dX11_placeOf_39 (by decide) zb_1131 rfl (zOb.lit (by decide +kernel)) rfl (by decide +kernel) ?_
        refine z_iload_n 2 dX11_placeOf_42 rfl ?_
        refine z_iald dX11_placeOf_43 (zOb.lit (by decide +kernel)) hx.1 hx.2 ?_
        refine z_icmp_ne (tgt := 62) dX11_placeOf_44 (by decide) (fun c4 => ?_) (fun c4 => ?_)
        ·
          refine z_iconst dX11_placeOf_62 (zi32_d rfl) ?_
          refine z_iaddN dX11_placeOf_63 (show -2147483648 ≤ n + 0 ∧ n + 0 < 2147483648 from ⟨by omega, by omega⟩).1 (show -2147483648 ≤ n + 0 ∧ n + 0 < 2147483648 from ⟨by omega, by omega⟩).2 ?_
          refine z_istore_n (lv' := [(3, xI (n + 0)), (0, xR 169), (1, xI l), (2, xI m), (4, xI q)]) dX11_placeOf_64 (by decide) rfl ?_
          refine z_iincN (lv' := [(4, xI (q + 1)), (3, xI (n + 0)), (0, xR 169), (1, xI l), (2, xI m)]) 4 dX11_placeOf_65 rfl (by decide) rfl (show -2147483648 ≤ q + 1 ∧ q + 1 < 2147483648 from ⟨by omega, by omega⟩).1 (show -2147483648 ≤ q + 1 ∧ q + 1 < 2147483648 from ⟨by omega, by omega⟩).2 ?_
          refine z_goto (tgt := 5) dX11_placeOf_68 (by decide) ?_
          refine zW.sub (lv' := [(0, xR 169), (1, xI l), (2, xI m), (3, xI (n + 0)), (4, xI (q + 1))]) [2, 3, 4, 1, 0] rfl ?_
          exact k4 c1 c2 c3 c4
        ·
          refine z_aload_n 0 dX11_placeOf_47 rfl ?_
          refine z_iload_n 1 dX11_placeOf_48 rfl ?_
          refine z_iload 4 dX11_placeOf_49 rfl ?_
          refine z_iload_n 2 dX11_placeOf_51 rfl ?_
          refine z_invF (ci := 11) (N := 97) (as := [xI l, xI q, xI m]) (st := [xI n]) (ra := [xI m, xI q, xI l]) (dep' := dep - 1) (rs := [xI (zb (h 221 (60 * l + q) < h 221 (60 * l + m) ∨ h 221 (60 * l + q) = h 221 (60 * l + m) ∧ (h 208 (52 * l + h 214 q % 52) < h 208 (52 * l + h 214 m % 52) ∨ h 208 (52 * l + h 214 q % 52) = h 208 (52 * l + h 214 m % 52) ∧ (h 209 (26 * l + h 171 q) < h 209 (26 * l + h 171 m) ∨ h 209 (26 * l + h 171 q) = h 209 (26 * l + h 171 m) ∧ q < m))))]) (h' := h) (f_X11_isAhead l q m (h := h) hl (show 0 ≤ q ∧ q < 60 from ⟨by omega, by omega⟩) (show -3120 ≤ h 214 q ∧ h 214 q < 520 from ⟨by omega, by omega⟩) (show 0 ≤ h 171 q ∧ h 171 q < 26 from ⟨by omega, by omega⟩) (show 0 ≤ h 221 (60 * l + q) ∧ h 221 (60 * l + q) ≤ 9 from ⟨by omega, by omega⟩) (show 0 ≤ h 208 (52 * l + h 214 q % 52) ∧ h 208 (52 * l + h 214 q % 52) < 52 from ⟨by omega, by omega⟩) (show 0 ≤ h 209 (26 * l + h 171 q) ∧ h 209 (26 * l + h 171 q) < 26 from ⟨by omega, by omega⟩) hx hm0 hm1 hm2 hm3 hm4 (by omega)) dX11_placeOf_52 nX11_isAhead zb_1671 zb_1673 zb_72 zb_92 (zOb.lit (by decide +kernel)) rfl (by omega) zne_I (Nat.le_of_ble_eq_true rfl) (Nat.le_of_ble_eq_true rfl) rfl ?_
          refine z_ifB_eq (C := h 221 (60 * l + q) < h 221 (60 * l + m) ∨ h 221 (60 * l + q) = h 221 (60 * l + m) ∧ (h 208 (52 * l + h 214 q % 52) < h 208 (52 * l + h 214 m % 52) ∨ h 208 (52 * l + h 214 q % 52) = h 208 (52 * l + h 214 m % 52) ∧ (h 209 (26 * l + h 171 q) < h 209 (26 * l + h 171 m) ∨ h 209 (26 * l + h 171 q) = h 209 (26 * l + h 171 m) ∧ q < m))) (tgt := 62) dX11_placeOf_55 (by decide) (fun c5 => ?_) (fun c5 => ?_)
          ·
            refine z_iconst dX11_placeOf_62 (zi32_d rfl) ?_
            refine z_iaddN dX11_placeOf_63 (show -2147483648 ≤ n + 0 ∧ n + 0 < 2147483648 from ⟨by omega, by omega⟩).1 (show -2147483648 ≤ n + 0 ∧ n + 0 < 2147483648 from ⟨by omega, by omega⟩).2 ?_
            refine z_istore_n (lv' := [(3, xI (n + 0)), (0, xR 169), (1, xI l), (2, xI m), (4, xI q)]) dX11_placeOf_64 (by decide) rfl ?_
            refine z_iincN (lv' := [(4, xI (q + 1)), (3, xI (n + 0)), (0, xR 169), (1, xI l), (2, xI m)]) 4 dX11_placeOf_65 rfl (by decide) rfl (show -2147483648 ≤ q + 1 ∧ q + 1 < 2147483648 from ⟨by omega, by omega⟩).1 (show -2147483648 ≤ q + 1 ∧ q + 1 < 2147483648 from ⟨by omega, by omega⟩).2 ?_
            refine z_goto (tgt := 5) dX11_placeOf_68 (by decide) ?_
            refine zW.sub (lv' := [(0, xR 169), (1, xI l), (2, xI m), (3, xI (n + 0)), (4, xI (q + 1))]) [2, 3, 4, 1, 0] rfl ?_
            exact k5 c1 c2 c3 c4 c5
          ·
            refine z_iconst dX11_placeOf_58 (zi32_d rfl) ?_
            refine z_goto (tgt := 63) dX11_placeOf_59 (by decide) ?_
            refine z_iaddN dX11_placeOf_63 (show -2147483648 ≤ n + 1 ∧ n + 1 < 2147483648 from ⟨by omega, by omega⟩).1 (show -2147483648 ≤ n + 1 ∧ n + 1 < 2147483648 from ⟨by omega, by omega⟩).2 ?_
            refine z_istore_n (lv' := [(3, xI (n + 1)), (0, xR 169), (1, xI l), (2, xI m), (4, xI q)]) dX11_placeOf_64 (by decide) rfl ?_
            refine z_iincN (lv' := [(4, xI (q + 1)), (3, xI (n + 1)), (0, xR 169), (1, xI l), (2, xI m)]) 4 dX11_placeOf_65 rfl (by decide) rfl (show -2147483648 ≤ q + 1 ∧ q + 1 < 2147483648 from ⟨by omega, by omega⟩).1 (show -2147483648 ≤ q + 1 ∧ q + 1 < 2147483648 from ⟨by omega, by omega⟩).2 ?_
            refine z_goto (tgt := 5) dX11_placeOf_68 (by decide) ?_
            refine zW.sub (lv' := [(0, xR 169), (1, xI l), (2, xI m), (3, xI (n + 1)), (4, xI (q + 1))]) [2, 3, 4, 1, 0] rfl ?_
            exact k6 c1 c2 c3 c4 c5

set_option maxRecDepth 20000 in
theorem bX11_share_0 {X : zX} {dep bc bs : Nat} (l : Int) {h : zH} {Q : Nat → zH → List zV → Prop}
    (k1 : zW mX11_share X dep bc bs 239 4 [(0, xR 169), (1, xI l), (2, xI 0), (3, xI 0)] [] h Q) : zW mX11_share X dep bc bs 239 0 [(0, xR 169), (1, xI l)] [] h Q := by
  refine z_iconst dX11_share_0 (zi32_d rfl) ?_
  refine z_istore_n (lv' := [(2, xI 0), (0, xR 169), (1, xI l)]) dX11_share_1 (by decide) rfl ?_
  refine z_iconst dX11_share_2 (zi32_d rfl) ?_
  refine z_istore_n (lv' := [(3, xI 0), (2, xI 0), (0, xR 169), (1, xI l)]) dX11_share_3 (by decide) rfl ?_
  refine zW.sub (lv' := [(0, xR 169), (1, xI l), (2, xI 0), (3, xI 0)]) [2, 3, 1, 0] rfl ?_
  exact k1

set_option maxRecDepth 20000 in
theorem bX11_share_4 {X : zX} {dep bc bs : Nat} (l : Int) (n : Int) (i : Int) {g : zH} {Q : Nat → zH → List zV → Prop} (hm : 0 ≤ g 169 25 ∧ g 169 25 ≤ 60) (hl : 0 ≤ l ∧ l < 4) (hi : 0 ≤ i ∧ i ≤ 60) (hn : 0 ≤ n ∧ n ≤ i) (hdep : 1 ≤ dep)
    (k1 : (g 169 25) ≤ i → zW mX11_share X dep bc bs 239 35 [(0, xR 169), (1, xI l), (2, xI n)] [] g Q)
    (k2 : ¬ ((g 169 25) ≤ i) → ¬ (4 ≤ g 219 (60 * l + i)) → zW mX11_share X dep bc bs 239 4 [(0, xR 169), (1, xI l), (2, xI (n + 0)), (3, xI (i + 1))] [] g Q)
    (k3 : ¬ ((g 169 25) ≤ i) → 4 ≤ g 219 (60 * l + i) → zW mX11_share X dep bc bs 239 4 [(0, xR 169), (1, xI l), (2, xI (n + 1)), (3, xI (i + 1))] [] g Q) : zW mX11_share X dep bc bs 239 4 [(0, xR 169), (1, xI l), (2, xI n), (3, xI i)] [] g Q := by
  refine z_iload_n 3 dX11_share_4 rfl ?_
  refine z_aload_n 0 dX11_share_5 rfl ?_
  refine z_getI (k := 25) (kz := 25) pk11 dX11_share_6 (by decide) zb_1149 rfl (zOb.lit (by decide +kernel)) rfl ?_
  refine z_icmp_ge (tgt := 35) dX11_share_9 (by decide) (fun c1 => ?_) (fun c1 => ?_)
  ·
    refine zW.sub (lv' := [(0, xR 169), (1, xI l), (2, xI n)]) [0, 1, 2] rfl ?_
    exact k1 c1
  ·
    refine z_iload_n 2 dX11_share_12 rfl ?_
    refine z_aload_n 0 dX11_share_13 rfl ?_
    refine z_iload_n 1 dX11_share_14 rfl ?_
    refine z_iload_n 3 dX11_share_15 rfl ?_
    refine z_invF (ci := 11) (N := 97) (as := [xI l, xI i]) (st := [xI n]) (ra := [xI i, xI l]) (dep' := dep - 1) (rs := [xI (zb (4 ≤ g 219 (60 * l + i)))]) (h' := g) (f_X11_isListed l i (h := g) hl (show 0 ≤ i ∧ i < 60 from ⟨by omega, by omega⟩)) dX11_share_16 nX11_isListed zb_1663 zb_1665 zb_70 zb_92 (zOb.lit (by decide +kernel)) rfl (by omega) zne_I (Nat.le_of_ble_eq_true rfl) (Nat.le_of_ble_eq_true rfl) rfl ?_
    refine z_ifB_eq (C := 4 ≤ g 219 (60 * l + i)) (tgt := 26) dX11_share_19 (by decide) (fun c2 => ?_) (fun c2 => ?_)
    ·
      refine z_iconst dX11_share_26 (zi32_d rfl) ?_
      refine z_iaddN dX11_share_27 (show -2147483648 ≤ n + 0 ∧ n + 0 < 2147483648 from ⟨by omega, by omega⟩).1 (show -2147483648 ≤ n + 0 ∧ n + 0 < 2147483648 from ⟨by omega, by omega⟩).2 ?_
      refine z_istore_n (lv' := [(2, xI (n + 0)), (0, xR 169), (1, xI l), (3, xI i)]) dX11_share_28 (by decide) rfl ?_
      refine z_iincN (lv' := [(3, xI (i + 1)), (2, xI (n + 0)), (0, xR 169), (1, xI l)]) 3 dX11_share_29 rfl (by decide) rfl (show -2147483648 ≤ i + 1 ∧ i + 1 < 2147483648 from ⟨by omega, by omega⟩).1 (show -2147483648 ≤ i + 1 ∧ i + 1 < 2147483648 from ⟨by omega, by omega⟩).2 ?_
      refine z_goto (tgt := 4) dX11_share_32 (by decide) ?_
      refine zW.sub (lv' := [(0, xR 169), (1, xI l), (2, xI (n + 0)), (3, xI (i + 1))]) [2, 3, 1, 0] rfl ?_
      exact k2 c1 c2
    ·
      refine z_iconst dX11_share_22 (zi32_d rfl) ?_
      refine z_goto (tgt := 27) dX11_share_23 (by decide) ?_
      refine z_iaddN dX11_share_27 (show -2147483648 ≤ n + 1 ∧ n + 1 < 2147483648 from ⟨by omega, by omega⟩).1 (show -2147483648 ≤ n + 1 ∧ n + 1 < 2147483648 from ⟨by omega, by omega⟩).2 ?_
      refine z_istore_n (lv' := [(2, xI (n + 1)), (0, xR 169), (1, xI l), (3, xI i)]) dX11_share_28 (by decide) rfl ?_
      refine z_iincN (lv' := [(3, xI (i + 1)), (2, xI (n + 1)), (0, xR 169), (1, xI l)]) 3 dX11_share_29 rfl (by decide) rfl (show -2147483648 ≤ i + 1 ∧ i + 1 < 2147483648 from ⟨by omega, by omega⟩).1 (show -2147483648 ≤ i + 1 ∧ i + 1 < 2147483648 from ⟨by omega, by omega⟩).2 ?_
      refine z_goto (tgt := 4) dX11_share_32 (by decide) ?_
      refine zW.sub (lv' := [(0, xR 169), (1, xI l), (2, xI (n + 1)), (3, xI (i + 1))]) [2, 3, 1, 0] rfl ?_
      exact k3 c1 c2

set_option maxRecDepth 20000 in
theorem bX11_share_35 {X : zX} {dep bc bs : Nat} (l : Int) (n : Int) {g : zH} {Q : Nat → zH → List zV → Prop} (hm : 0 ≤ g 169 25 ∧ g 169 25 ≤ 60) (hl : 0 ≤ l ∧ l < 4)
    (k1 : n ≤ (g 206 l) → zW mX11_share X dep bc bs 239 55 [(0, xR 169), (1, xI l), (2, xI n)] [xI n] g Q)
    (k2 : ¬ (n ≤ (g 206 l)) → zW mX11_share X dep bc bs 239 55 [(0, xR 169), (1, xI l), (2, xI n)] [xI (g 206 l)] g Q) : zW mX11_share X dep bc bs 239 35 [(0, xR 169), (1, xI l), (2, xI n)] [] g Q := by
  refine z_aload_n 0 dX11_share_35 rfl ?_
  refine z_getS (v := 206) (k := 58) (kz := 58) pk11 dX11_share_36 (by decide) zb_1182 rfl (zOb.lit (by decide +kernel)) rfl (by decide +kernel) ?_
  refine z_iload_n 1 dX11_share_39 rfl ?_
  refine z_iald dX11_share_40 (zOb.lit (by decide +kernel)) hl.1 hl.2 ?_
  refine z_iload_n 2 dX11_share_41 rfl ?_
  refine z_icmp_ge (tgt := 54) dX11_share_42 (by decide) (fun c1 => ?_) (fun c1 => ?_)
  ·
    refine z_iload_n 2 dX11_share_54 rfl ?_
    exact k1 c1
  ·
    refine z_aload_n 0 dX11_share_45 rfl ?_
    refine z_getS (v := 206) (k := 58) (kz := 58) pk11 dX11_share_46 (by decide) zb_1182 rfl (zOb.lit (by decide +kernel)) rfl (by decide +kernel) ?_
    refine z_iload_n 1 dX11_share_49 rfl ?_
    refine z_iald dX11_share_50 (zOb.lit (by decide +kernel)) hl.1 hl.2 ?_
    refine z_goto (tgt := 55) dX11_share_51 (by decide) ?_
    exact k2 c1

set_option maxRecDepth 20000 in
theorem bX11_share_55 {X : zX} {dep bc bs : Nat} (l : Int) (n : Int) (a : Int) {g : zH} {Q : Nat → zH → List zV → Prop} (hm : 0 ≤ g 169 25 ∧ g 169 25 ≤ 60) (hl : 0 ≤ l ∧ l < 4)
    (k1 : zW mX11_share X dep bc bs 239 62 [(0, xR 169), (1, xI l), (2, xI n), (3, xI a), (4, xI a), (5, xI 0)] [] g Q) : zW mX11_share X dep bc bs 239 55 [(0, xR 169), (1, xI l), (2, xI n)] [xI a] g Q := by
  refine z_istore_n (lv' := [(3, xI a), (0, xR 169), (1, xI l), (2, xI n)]) dX11_share_55 (by decide) rfl ?_
  refine z_iload_n 0 dX11_share_56 rfl ?_
  refine z_istore (lv' := [(4, xI a), (3, xI a), (0, xR 169), (1, xI l), (2, xI n)]) dX11_share_57 (by decide) rfl ?_
  refine z_iconst dX11_share_59 (zi32_d rfl) ?_
  refine z_istore (lv' := [(5, xI 0), (4, xI a), (3, xI a), (0, xR 169), (1, xI l), (2, xI n)]) dX11_share_60 (by decide) rfl ?_
  refine zW.sub (lv' := [(0, xR 169), (1, xI l), (2, xI n), (3, xI a), (4, xI a), (5, xI 0)]) [3, 4, 5, 2, 1, 0] rfl ?_
  exact k1

set_option maxRecDepth 20000 in
theorem bX11_share_62 {X : zX} {dep bc bs : Nat} (l : Int) (n : Int) (a : Int) (f : Int) (p : Int) {g : zH} {Q : Nat → zH → List zV → Prop} (hm : 0 ≤ g 169 25 ∧ g 169 25 ≤ 60) (hl : 0 ≤ l ∧ l < 4) (hn : 0 ≤ n ∧ n ≤ 60) (ha : 0 ≤ a ∧ a ≤ n) (hp : 0 ≤ p ∧ p ≤ 8)
    (k1 : 8 ≤ p → zW mX11_share X dep bc bs 239 192 [(0, xR 169), (1, xI l), (4, xI f)] [] g Q)
    (k2 : ¬ (8 ≤ p) → zW mX11_share X dep bc bs 239 75 [(0, xR 169), (1, xI l), (2, xI n), (3, xI a), (4, xI f), (5, xI p), (6, xI 0), (7, xI 0)] [] g Q) : zW mX11_share X dep bc bs 239 62 [(0, xR 169), (1, xI l), (2, xI n), (3, xI a), (4, xI f), (5, xI p)] [] g Q := by
  refine z_iload 5 dX11_share_62 rfl ?_
  refine z_bipush dX11_share_64 (zi32_d rfl) (by decide) ?_
  refine z_icmp_ge (tgt := 192) dX11_share_66 (by decide) (fun c1 => ?_) (fun c1 => ?_)
  ·
    refine zW.sub (lv' := [(0, xR 169), (1, xI l), (4, xI f)]) [0, 1, 4] rfl ?_
    exact k1 c1
  ·
    refine z_iconst dX11_share_69 (zi32_d rfl) ?_
    refine z_istore (lv' := [(6, xI 0), (0, xR 169), (1, xI l), (2, xI n), (3, xI a), (4, xI f), (5, xI p)]) dX11_share_70 (by decide) rfl ?_
    refine z_iconst dX11_share_72 (zi32_d rfl) ?_
    refine z_istore (lv' := [(7, xI 0), (6, xI 0), (0, xR 169), (1, xI l), (2, xI n), (3, xI a), (4, xI f), (5, xI p)]) dX11_share_73 (by decide) rfl ?_
    refine zW.sub (lv' := [(0, xR 169), (1, xI l), (2, xI n), (3, xI a), (4, xI f), (5, xI p), (6, xI 0), (7, xI 0)]) [2, 3, 4, 5, 6, 7, 1, 0] rfl ?_
    exact k2 c1

set_option maxRecDepth 20000 in
theorem bX11_share_75 {X : zX} {dep bc bs : Nat} (l : Int) (n : Int) (a : Int) (f : Int) (p : Int) (y : Int) (i : Int) {g : zH} {Q : Nat → zH → List zV → Prop} (hm : 0 ≤ g 169 25 ∧ g 169 25 ≤ 60) (hl : 0 ≤ l ∧ l < 4) (hn : 0 ≤ n ∧ n ≤ 60) (ha : 0 ≤ a ∧ a ≤ n) (hp : 0 ≤ p ∧ p ≤ 8) (hi : 0 ≤ i ∧ i ≤ 60) (hy : 0 ≤ y ∧ y ≤ i) (hdep : 1 ≤ dep)
    (k1 : (g 169 25) ≤ i → zW mX11_share X dep bc bs 239 122 [(0, xR 169), (1, xI l), (2, xI n), (3, xI a), (4, xI f), (5, xI p), (6, xI y)] [] g Q)
    (k2 : ¬ ((g 169 25) ≤ i) → ¬ (4 ≤ g 219 (60 * l + i)) → zW mX11_share X dep bc bs 239 75 [(0, xR 169), (1, xI l), (2, xI n), (3, xI a), (4, xI f), (5, xI p), (6, xI (y + 0)), (7, xI (i + 1))] [] g Q)
    (k3 : ¬ ((g 169 25) ≤ i) → 4 ≤ g 219 (60 * l + i) → zW mX11_share X dep bc bs 239 75 [(0, xR 169), (1, xI l), (2, xI n), (3, xI a), (4, xI f), (5, xI p), (6, xI (y + (if (g 172 i) = p then 1 else 0 : Int))), (7, xI (i + 1))] [] g Q) : zW mX11_share X dep bc bs 239 75 [(0, xR 169), (1, xI l), (2, xI n), (3, xI a), (4, xI f), (5, xI p), (6, xI y), (7, xI i)] [] g Q := by
  refine z_iload 7 dX11_share_75 rfl ?_
  refine z_aload_n 0 dX11_share_77 rfl ?_
  refine z_getI (k := 25) (kz := 25) pk11 dX11_share_78 (by decide) zb_1149 rfl (zOb.lit (by decide +kernel)) rfl ?_
  refine z_icmp_ge (tgt := 122) dX11_share_81 (by decide) (fun c1 => ?_) (fun c1 => ?_)
  ·
    refine zW.sub (lv' := [(0, xR 169), (1, xI l), (2, xI n), (3, xI a), (4, xI f), (5, xI p), (6, xI y)]) [0, 1, 2, 3, 4, 5, 6] rfl ?_
    exact k1 c1
  ·
    refine z_iload 6 dX11_share_84 rfl ?_
    refine z_aload_n 0 dX11_share_86 rfl ?_
    refine z_iload_n 1 dX11_share_87 rfl ?_
    refine z_iload 7 dX11_share_88 rfl ?_
    refine z_invF (ci := 11) (N := 97) (as := [xI l, xI i]) (st := [xI y]) (ra := [xI i, xI l]) (dep' := dep - 1) (rs := [xI (zb (4 ≤ g 219 (60 * l + i)))]) (h' := g) (f_X11_isListed l i (h := g) hl (show 0 ≤ i ∧ i < 60 from ⟨by omega, by omega⟩)) dX11_share_90 nX11_isListed zb_1663 zb_1665 zb_70 zb_92 (zOb.lit (by decide +kernel)) rfl (by omega) zne_I (Nat.le_of_ble_eq_true rfl) (Nat.le_of_ble_eq_true rfl) rfl ?_
    refine z_ifB_eq (C := 4 ≤ g 219 (60 * l + i)) (tgt := 112) dX11_share_93 (by decide) (fun c2 => ?_) (fun c2 => ?_)
    ·
      refine z_iconst dX11_share_112 (zi32_d rfl) ?_
      refine z_iaddN dX11_share_113 (show -2147483648 ≤ y + 0 ∧ y + 0 < 2147483648 from ⟨by omega, by omega⟩).1 (show -2147483648 ≤ y + 0 ∧ y + 0 < 2147483648 from ⟨by omega, by omega⟩).2 ?_
      refine z_istore (lv' := [(6, xI (y + 0)), (0, xR 169), (1, xI l), (2, xI n), (3, xI a), (4, xI f), (5, xI p), (7, xI i)]) dX11_share_114 (by decide) rfl ?_
      refine z_iincN (lv' := [(7, xI (i + 1)), (6, xI (y + 0)), (0, xR 169), (1, xI l), (2, xI n), (3, xI a), (4, xI f), (5, xI p)]) 7 dX11_share_116 rfl (by decide) rfl (show -2147483648 ≤ i + 1 ∧ i + 1 < 2147483648 from ⟨by omega, by omega⟩).1 (show -2147483648 ≤ i + 1 ∧ i + 1 < 2147483648 from ⟨by omega, by omega⟩).2 ?_
      refine z_goto (tgt := 75) dX11_share_119 (by decide) ?_
      refine zW.sub (lv' := [(0, xR 169), (1, xI l), (2, xI n), (3, xI a), (4, xI f), (5, xI p), (6, xI (y + 0)), (7, xI (i + 1))]) [2, 3, 4, 5, 6, 7, 1, 0] rfl ?_
      exact k2 c1 c2
    ·
      refine z_aload_n 0 dX11_share_96 rfl ?_
      refine z_getS (v := 172) (k := 7) (kz := 7) pk11 dX11_share_97 (by decide) zb_1131 rfl (zOb.lit (by decide +kernel)) rfl (by decide +kernel) ?_
      refine z_iload 7 dX11_share_100 rfl ?_
      refine z_iald dX11_share_102 (zOb.lit (by decide +kernel)) (show 0 ≤ i ∧ i < 60 from ⟨by omega, by omega⟩).1 (show 0 ≤ i ∧ i < 60 from ⟨by omega, by omega⟩).2 ?_
      refine z_iload 5 dX11_share_103 rfl ?_
      suffices KJ : zW mX11_share X dep bc bs 239 113 [(0, xR 169), (1, xI l), (2, xI n), (3, xI a), (4, xI f), (5, xI p), (6, xI y), (7, xI i)] [xI (if (g 172 i) = p then 1 else 0 : Int), xI y] g Q by
        refine z_icmp_ne (tgt := 112) dX11_share_105 (by decide) (fun j1 => ?_) (fun j1 => ?_)
        ·
          refine z_iconst dX11_share_112 (zi32_d rfl) ?_
          rw [if_neg j1] at KJ
          exact KJ
        ·
          refine z_iconst dX11_share_108 (zi32_d rfl) ?_
          refine z_goto (tgt := 113) dX11_share_109 (by decide) ?_
          rw [if_pos j1] at KJ
          exact KJ
      refine z_iaddN dX11_share_113 (show -2147483648 ≤ y + (if (g 172 i) = p then 1 else 0 : Int) ∧ y + (if (g 172 i) = p then 1 else 0 : Int) < 2147483648 from ⟨by omega, by omega⟩).1 (show -2147483648 ≤ y + (if (g 172 i) = p then 1 else 0 : Int) ∧ y + (if (g 172 i) = p then 1 else 0 : Int) < 2147483648 from ⟨by omega, by omega⟩).2 ?_
      refine z_istore (lv' := [(6, xI (y + (if (g 172 i) = p then 1 else 0 : Int))), (0, xR 169), (1, xI l), (2, xI n), (3, xI a), (4, xI f), (5, xI p), (7, xI i)]) dX11_share_114 (by decide) rfl ?_
      refine z_iincN (lv' := [(7, xI (i + 1)), (6, xI (y + (if (g 172 i) = p then 1 else 0 : Int))), (0, xR 169), (1, xI l), (2, xI n), (3, xI a), (4, xI f), (5, xI p)]) 7 dX11_share_116 rfl (by decide) rfl (show -2147483648 ≤ i + 1 ∧ i + 1 < 2147483648 from ⟨by omega, by omega⟩).1 (show -2147483648 ≤ i + 1 ∧ i + 1 < 2147483648 from ⟨by omega, by omega⟩).2 ?_
      refine z_goto (tgt := 75) dX11_share_119 (by decide) ?_
      refine zW.sub (lv' := [(0, xR 169), (1, xI l), (2, xI n), (3, xI a), (4, xI f), (5, xI p), (6, xI (y + (if (g 172 i) = p then 1 else 0 : Int))), (7, xI (i + 1))]) [2, 3, 4, 5, 6, 7, 1, 0] rfl ?_
      exact k3 c1 c2

set_option maxRecDepth 20000 in
theorem bX11_share_122 {X : zX} {dep bc bs : Nat} (l : Int) (n : Int) (a : Int) (f : Int) (p : Int) (y : Int) {g : zH} {Q : Nat → zH → List zV → Prop} (hm : 0 ≤ g 169 25 ∧ g 169 25 ≤ 60) (hl : 0 ≤ l ∧ l < 4) (hn : 0 ≤ n ∧ n ≤ 60) (ha : 0 ≤ a ∧ a ≤ n) (hp : 0 ≤ p ∧ p ≤ 8) (hp2 : p < 8) (hf : -600 ≤ f ∧ f ≤ 60) (hy : 0 ≤ y ∧ y ≤ n) (hay : 0 ≤ a * y ∧ a * y ≤ 3600) (hv : n = 0 ∨ (0 ≤ zdiv (a * y) n ∧ zdiv (a * y) n ≤ 60))
    (k1 : ¬ n = 0 → ¬ n = 0 → zW mX11_share X dep bc bs 239 62 [(0, xR 169), (1, xI l), (2, xI n), (3, xI a), (4, xI (f - (zdiv (a * y) n))), (5, xI (p + 1))] [] (zst (zst g 223 ((8 * l) + p) (zdiv (a * y) n)) 232 p (zrem (a * y) n)) Q)
    (k2 : ¬ n = 0 → n = 0 → zW mX11_share X dep bc bs 239 62 [(0, xR 169), (1, xI l), (2, xI n), (3, xI a), (4, xI (f - (zdiv (a * y) n))), (5, xI (p + 1))] [] (zst (zst g 223 ((8 * l) + p) (zdiv (a * y) n)) 232 p 0) Q)
    (k3 : n = 0 → ¬ n = 0 → zW mX11_share X dep bc bs 239 62 [(0, xR 169), (1, xI l), (2, xI n), (3, xI a), (4, xI (f - 0)), (5, xI (p + 1))] [] (zst (zst g 223 ((8 * l) + p) 0) 232 p (zrem (a * y) n)) Q)
    (k4 : n = 0 → n = 0 → zW mX11_share X dep bc bs 239 62 [(0, xR 169), (1, xI l), (2, xI n), (3, xI a), (4, xI (f - 0)), (5, xI (p + 1))] [] (zst (zst g 223 ((8 * l) + p) 0) 232 p 0) Q) : zW mX11_share X dep bc bs 239 122 [(0, xR 169), (1, xI l), (2, xI n), (3, xI a), (4, xI f), (5, xI p), (6, xI y)] [] g Q := by
  refine z_aload_n 0 dX11_share_122 rfl ?_
  refine z_getS (v := 223) (k := 76) (kz := 76) pk11 dX11_share_123 (by decide) zb_1200 rfl (zOb.lit (by decide +kernel)) rfl (by decide +kernel) ?_
  refine z_bipush dX11_share_126 (zi32_d rfl) (by decide) ?_
  refine z_iload_n 1 dX11_share_128 rfl ?_
  refine z_imulN dX11_share_129 (show -2147483648 ≤ 8 * l ∧ 8 * l < 2147483648 from ⟨by omega, by omega⟩).1 (show -2147483648 ≤ 8 * l ∧ 8 * l < 2147483648 from ⟨by omega, by omega⟩).2 ?_
  refine z_iload 5 dX11_share_130 rfl ?_
  refine z_iaddN dX11_share_132 (show -2147483648 ≤ (8 * l) + p ∧ (8 * l) + p < 2147483648 from ⟨by omega, by omega⟩).1 (show -2147483648 ≤ (8 * l) + p ∧ (8 * l) + p < 2147483648 from ⟨by omega, by omega⟩).2 ?_
  refine z_iload_n 2 dX11_share_133 rfl ?_
  refine z_if_ne (tgt := 141) dX11_share_134 (by decide) (fun c1 => ?_) (fun c1 => ?_)
  ·
    refine z_iload_n 3 dX11_share_141 rfl ?_
    refine z_iload 6 dX11_share_142 rfl ?_
    refine z_imulN dX11_share_144 (show -2147483648 ≤ a * y ∧ a * y < 2147483648 from ⟨by omega, by omega⟩).1 (show -2147483648 ≤ a * y ∧ a * y < 2147483648 from ⟨by omega, by omega⟩).2 ?_
    refine z_iload_n 2 dX11_share_145 rfl ?_
    refine z_idiv dX11_share_146 (show n ≠ 0 by omega) ?_
    refine z_iast dX11_share_147 (zOb.lit (by decide +kernel)) (show 0 ≤ ((8 * l) + p) ∧ ((8 * l) + p) < 32 from ⟨by omega, by omega⟩).1 (show 0 ≤ ((8 * l) + p) ∧ ((8 * l) + p) < 32 from ⟨by omega, by omega⟩).2 ?_
    refine z_aload_n 0 dX11_share_148 rfl ?_
    refine z_getS (v := 232) (k := 86) (kz := 86) pk11 dX11_share_149 (by decide) zb_1210 rfl (zOb.lit (by decide +kernel)) rfl (by decide +kernel) ?_
    refine z_iload 5 dX11_share_152 rfl ?_
    refine z_iload_n 2 dX11_share_154 rfl ?_
    refine z_if_ne (tgt := 162) dX11_share_155 (by decide) (fun c2 => ?_) (fun c2 => ?_)
    ·
      refine z_iload_n 3 dX11_share_162 rfl ?_
      refine z_iload 6 dX11_share_163 rfl ?_
      refine z_imulN dX11_share_165 (show -2147483648 ≤ a * y ∧ a * y < 2147483648 from ⟨by omega, by omega⟩).1 (show -2147483648 ≤ a * y ∧ a * y < 2147483648 from ⟨by omega, by omega⟩).2 ?_
      refine z_iload_n 2 dX11_share_166 rfl ?_
      refine z_irem dX11_share_167 (show n ≠ 0 by omega) ?_
      refine z_iast dX11_share_168 (zOb.lit (by decide +kernel)) (show 0 ≤ p ∧ p < 8 from ⟨by omega, by omega⟩).1 (show 0 ≤ p ∧ p < 8 from ⟨by omega, by omega⟩).2 ?_
      refine z_iload 4 dX11_share_169 rfl ?_
      refine z_aload_n 0 dX11_share_171 rfl ?_
      refine z_getS (v := 223) (k := 76) (kz := 76) pk11 dX11_share_172 (by decide) zb_1200 rfl (zOb.lit (by decide +kernel)) rfl (by decide +kernel) ?_
      refine z_bipush dX11_share_175 (zi32_d rfl) (by decide) ?_
      refine z_iload_n 1 dX11_share_177 rfl ?_
      refine z_imulN dX11_share_178 (show -2147483648 ≤ 8 * l ∧ 8 * l < 2147483648 from ⟨by omega, by omega⟩).1 (show -2147483648 ≤ 8 * l ∧ 8 * l < 2147483648 from ⟨by omega, by omega⟩).2 ?_
      refine z_iload 5 dX11_share_179 rfl ?_
      refine z_iaddN dX11_share_181 (show -2147483648 ≤ (8 * l) + p ∧ (8 * l) + p < 2147483648 from ⟨by omega, by omega⟩).1 (show -2147483648 ≤ (8 * l) + p ∧ (8 * l) + p < 2147483648 from ⟨by omega, by omega⟩).2 ?_
      refine z_ialdV (v := (zdiv (a * y) n)) dX11_share_182 (zOb.lit (by decide +kernel)) (show 0 ≤ ((8 * l) + p) ∧ ((8 * l) + p) < 32 from ⟨by omega, by omega⟩).1 (show 0 ≤ ((8 * l) + p) ∧ ((8 * l) + p) < 32 from ⟨by omega, by omega⟩).2 ((zst_ne (Or.inl (by decide))).trans (zst_self _ _ _ _)) ?_
      refine z_isubN dX11_share_183 (show -2147483648 ≤ f - (zdiv (a * y) n) ∧ f - (zdiv (a * y) n) < 2147483648 from ⟨by omega, by omega⟩).1 (show -2147483648 ≤ f - (zdiv (a * y) n) ∧ f - (zdiv (a * y) n) < 2147483648 from ⟨by omega, by omega⟩).2 ?_
      refine z_istore (lv' := [(4, xI (f - (zdiv (a * y) n))), (0, xR 169), (1, xI l), (2, xI n), (3, xI a), (5, xI p), (6, xI y)]) dX11_share_184 (by decide) rfl ?_
      refine z_iincN (lv' := [(5, xI (p + 1)), (4, xI (f - (zdiv (a * y) n))), (0, xR 169), (1, xI l), (2, xI n), (3, xI a), (6, xI y)]) 5 dX11_share_186 rfl (by decide) rfl (show -2147483648 ≤ p + 1 ∧ p + 1 < 2147483648 from ⟨by omega, by omega⟩).1 (show -2147483648 ≤ p + 1 ∧ p + 1 < 2147483648 from ⟨by omega, by omega⟩).2 ?_
      refine z_goto (tgt := 62) dX11_share_189 (by decide) ?_
      refine zW.sub (lv' := [(0, xR 169), (1, xI l), (2, xI n), (3, xI a), (4, xI (f - (zdiv (a * y) n))), (5, xI (p + 1))]) [2, 3, 4, 5, 1, 0] rfl ?_
      exact k1 c1 c2
    ·
      refine z_iconst dX11_share_158 (zi32_d rfl) ?_
      refine z_goto (tgt := 168) dX11_share_159 (by decide) ?_
      refine z_iast dX11_share_168 (zOb.lit (by decide +kernel)) (show 0 ≤ p ∧ p < 8 from ⟨by omega, by omega⟩).1 (show 0 ≤ p ∧ p < 8 from ⟨by omega, by omega⟩).2 ?_
      refine z_iload 4 dX11_share_169 rfl ?_
      refine z_aload_n 0 dX11_share_171 rfl ?_
      refine z_getS (v := 223) (k := 76) (kz := 76) pk11 dX11_share_172 (by decide) zb_1200 rfl (zOb.lit (by decide +kernel)) rfl (by decide +kernel) ?_
      refine z_bipush dX11_share_175 (zi32_d rfl) (by decide) ?_
      refine z_iload_n 1 dX11_share_177 rfl ?_
      refine z_imulN dX11_share_178 (show -2147483648 ≤ 8 * l ∧ 8 * l < 2147483648 from ⟨by omega, by omega⟩).1 (show -2147483648 ≤ 8 * l ∧ 8 * l < 2147483648 from ⟨by omega, by omega⟩).2 ?_
      refine z_iload 5 dX11_share_179 rfl ?_
      refine z_iaddN dX11_share_181 (show -2147483648 ≤ (8 * l) + p ∧ (8 * l) + p < 2147483648 from ⟨by omega, by omega⟩).1 (show -2147483648 ≤ (8 * l) + p ∧ (8 * l) + p < 2147483648 from ⟨by omega, by omega⟩).2 ?_
      refine z_ialdV (v := (zdiv (a * y) n)) dX11_share_182 (zOb.lit (by decide +kernel)) (show 0 ≤ ((8 * l) + p) ∧ ((8 * l) + p) < 32 from ⟨by omega, by omega⟩).1 (show 0 ≤ ((8 * l) + p) ∧ ((8 * l) + p) < 32 from ⟨by omega, by omega⟩).2 ((zst_ne (Or.inl (by decide))).trans (zst_self _ _ _ _)) ?_
      refine z_isubN dX11_share_183 (show -2147483648 ≤ f - (zdiv (a * y) n) ∧ f - (zdiv (a * y) n) < 2147483648 from ⟨by omega, by omega⟩).1 (show -2147483648 ≤ f - (zdiv (a * y) n) ∧ f - (zdiv (a * y) n) < 2147483648 from ⟨by omega, by omega⟩).2 ?_
      refine z_istore (lv' := [(4, xI (f - (zdiv (a * y) n))), (0, xR 169), (1, xI l), (2, xI n), (3, xI a), (5, xI p), (6, xI y)]) dX11_share_184 (by decide) rfl ?_
      refine z_iincN (lv' := [(5, xI (p + 1)), (4, xI (f - (zdiv (a * y) n))), (0, xR 169), (1, xI l), (2, xI n), (3, xI a), (6, xI y)]) 5 dX11_share_186 rfl (by decide) rfl (show -2147483648 ≤ p + 1 ∧ p + 1 < 2147483648 from ⟨by omega, by omega⟩).1 (show -2147483648 ≤ p + 1 ∧ p + 1 < 2147483648 from ⟨by omega, by omega⟩).2 ?_
      refine z_goto (tgt := 62) dX11_share_189 (by decide) ?_
      refine zW.sub (lv' := [(0, xR 169), (1, xI l), (2, xI n), (3, xI a), (4, xI (f - (zdiv (a * y) n))), (5, xI (p + 1))]) [2, 3, 4, 5, 1, 0] rfl ?_
      exact k2 c1 c2
  ·
    refine z_iconst dX11_share_137 (zi32_d rfl) ?_
    refine z_goto (tgt := 147) dX11_share_138 (by decide) ?_
    refine z_iast dX11_share_147 (zOb.lit (by decide +kernel)) (show 0 ≤ ((8 * l) + p) ∧ ((8 * l) + p) < 32 from ⟨by omega, by omega⟩).1 (show 0 ≤ ((8 * l) + p) ∧ ((8 * l) + p) < 32 from ⟨by omega, by omega⟩).2 ?_
    refine z_aload_n 0 dX11_share_148 rfl ?_
    refine z_getS (v := 232) (k := 86) (kz := 86) pk11 dX11_share_149 (by decide) zb_1210 rfl (zOb.lit (by decide +kernel)) rfl (by decide +kernel) ?_
    refine z_iload 5 dX11_share_152 rfl ?_
    refine z_iload_n 2 dX11_share_154 rfl ?_
    refine z_if_ne (tgt := 162) dX11_share_155 (by decide) (fun c2 => ?_) (fun c2 => ?_)
    ·
      refine z_iload_n 3 dX11_share_162 rfl ?_
      refine z_iload 6 dX11_share_163 rfl ?_
      refine z_imulN dX11_share_165 (show -2147483648 ≤ a * y ∧ a * y < 2147483648 from ⟨by omega, by omega⟩).1 (show -2147483648 ≤ a * y ∧ a * y < 2147483648 from ⟨by omega, by omega⟩).2 ?_
      refine z_iload_n 2 dX11_share_166 rfl ?_
      refine z_irem dX11_share_167 (show n ≠ 0 by omega) ?_
      refine z_iast dX11_share_168 (zOb.lit (by decide +kernel)) (show 0 ≤ p ∧ p < 8 from ⟨by omega, by omega⟩).1 (show 0 ≤ p ∧ p < 8 from ⟨by omega, by omega⟩).2 ?_
      refine z_iload 4 dX11_share_169 rfl ?_
      refine z_aload_n 0 dX11_share_171 rfl ?_
      refine z_getS (v := 223) (k := 76) (kz := 76) pk11 dX11_share_172 (by decide) zb_1200 rfl (zOb.lit (by decide +kernel)) rfl (by decide +kernel) ?_
      refine z_bipush dX11_share_175 (zi32_d rfl) (by decide) ?_
      refine z_iload_n 1 dX11_share_177 rfl ?_
      refine z_imulN dX11_share_178 (show -2147483648 ≤ 8 * l ∧ 8 * l < 2147483648 from ⟨by omega, by omega⟩).1 (show -2147483648 ≤ 8 * l ∧ 8 * l < 2147483648 from ⟨by omega, by omega⟩).2 ?_
      refine z_iload 5 dX11_share_179 rfl ?_
      refine z_iaddN dX11_share_181 (show -2147483648 ≤ (8 * l) + p ∧ (8 * l) + p < 2147483648 from ⟨by omega, by omega⟩).1 (show -2147483648 ≤ (8 * l) + p ∧ (8 * l) + p < 2147483648 from ⟨by omega, by omega⟩).2 ?_
      refine z_ialdV (v := 0) dX11_share_182 (zOb.lit (by decide +kernel)) (show 0 ≤ ((8 * l) + p) ∧ ((8 * l) + p) < 32 from ⟨by omega, by omega⟩).1 (show 0 ≤ ((8 * l) + p) ∧ ((8 * l) + p) < 32 from ⟨by omega, by omega⟩).2 ((zst_ne (Or.inl (by decide))).trans (zst_self _ _ _ _)) ?_
      refine z_isubN dX11_share_183 (show -2147483648 ≤ f - 0 ∧ f - 0 < 2147483648 from ⟨by omega, by omega⟩).1 (show -2147483648 ≤ f - 0 ∧ f - 0 < 2147483648 from ⟨by omega, by omega⟩).2 ?_
      refine z_istore (lv' := [(4, xI (f - 0)), (0, xR 169), (1, xI l), (2, xI n), (3, xI a), (5, xI p), (6, xI y)]) dX11_share_184 (by decide) rfl ?_
      refine z_iincN (lv' := [(5, xI (p + 1)), (4, xI (f - 0)), (0, xR 169), (1, xI l), (2, xI n), (3, xI a), (6, xI y)]) 5 dX11_share_186 rfl (by decide) rfl (show -2147483648 ≤ p + 1 ∧ p + 1 < 2147483648 from ⟨by omega, by omega⟩).1 (show -2147483648 ≤ p + 1 ∧ p + 1 < 2147483648 from ⟨by omega, by omega⟩).2 ?_
      refine z_goto (tgt := 62) dX11_share_189 (by decide) ?_
      refine zW.sub (lv' := [(0, xR 169), (1, xI l), (2, xI n), (3, xI a), (4, xI (f - 0)), (5, xI (p + 1))]) [2, 3, 4, 5, 1, 0] rfl ?_
      exact k3 c1 c2
    ·
      refine z_iconst dX11_share_158 (zi32_d rfl) ?_
      refine z_goto (tgt := 168) dX11_share_159 (by decide) ?_
      refine z_iast dX11_share_168 (zOb.lit (by decide +kernel)) (show 0 ≤ p ∧ p < 8 from ⟨by omega, by omega⟩).1 (show 0 ≤ p ∧ p < 8 from ⟨by omega, by omega⟩).2 ?_
      refine z_iload 4 dX11_share_169 rfl ?_
      refine z_aload_n 0 dX11_share_171 rfl ?_
      refine z_getS (v := 223) (k := 76) (kz := 76) pk11 dX11_share_172 (by decide) zb_1200 rfl (zOb.lit (by decide +kernel)) rfl (by decide +kernel) ?_
      refine z_bipush dX11_share_175 (zi32_d rfl) (by decide) ?_
      refine z_iload_n 1 dX11_share_177 rfl ?_
      refine z_imulN dX11_share_178 (show -2147483648 ≤ 8 * l ∧ 8 * l < 2147483648 from ⟨by omega, by omega⟩).1 (show -2147483648 ≤ 8 * l ∧ 8 * l < 2147483648 from ⟨by omega, by omega⟩).2 ?_
      refine z_iload 5 dX11_share_179 rfl ?_
      refine z_iaddN dX11_share_181 (show -2147483648 ≤ (8 * l) + p ∧ (8 * l) + p < 2147483648 from ⟨by omega, by omega⟩).1 (show -2147483648 ≤ (8 * l) + p ∧ (8 * l) + p < 2147483648 from ⟨by omega, by omega⟩).2 ?_
      refine z_ialdV (v := 0) dX11_share_182 (zOb.lit (by decide +kernel)) (show 0 ≤ ((8 * l) + p) ∧ ((8 * l) + p) < 32 from ⟨by omega, by omega⟩).1 (show 0 ≤ ((8 * l) + p) ∧ ((8 * l) + p) < 32 from ⟨by omega, by omega⟩).2 ((zst_ne (Or.inl (by decide))).trans (zst_self _ _ _ _)) ?_
      refine z_isubN dX11_share_183 (show -2147483648 ≤ f - 0 ∧ f - 0 < 2147483648 from ⟨by omega, by omega⟩).1 (show -2147483648 ≤ f - 0 ∧ f - 0 < 2147483648 from ⟨by omega, by omega⟩).2 ?_
      refine z_istore (lv' := [(4, xI (f - 0)), (0, xR 169), (1, xI l), (2, xI n), (3, xI a), (5, xI p), (6, xI y)]) dX11_share_184 (by decide) rfl ?_
      refine z_iincN (lv' := [(5, xI (p + 1)), (4, xI (f - 0)), (0, xR 169), (1, xI l), (2, xI n), (3, xI a), (6, xI y)]) 5 dX11_share_186 rfl (by decide) rfl (show -2147483648 ≤ p + 1 ∧ p + 1 < 2147483648 from ⟨by omega, by omega⟩).1 (show -2147483648 ≤ p + 1 ∧ p + 1 < 2147483648 from ⟨by omega, by omega⟩).2 ?_
      refine z_goto (tgt := 62) dX11_share_189 (by decide) ?_
      refine zW.sub (lv' := [(0, xR 169), (1, xI l), (2, xI n), (3, xI a), (4, xI (f - 0)), (5, xI (p + 1))]) [2, 3, 4, 5, 1, 0] rfl ?_
      exact k4 c1 c2

set_option maxRecDepth 20000 in
theorem bX11_share_192 {X : zX} {dep bc bs : Nat} (l : Int) (f : Int) {g : zH} {Q : Nat → zH → List zV → Prop} (hl : 0 ≤ l ∧ l < 4)
    (k1 : f ≤ 0 → Q 239 g [])
    (k2 : ¬ (f ≤ 0) → zW mX11_share X dep bc bs 239 203 [(0, xR 169), (1, xI l), (4, xI f), (5, xI 0), (6, xI 1)] [] g Q) : zW mX11_share X dep bc bs 239 192 [(0, xR 169), (1, xI l), (4, xI f)] [] g Q := by
  refine z_iload 2 dX11_share_192 rfl ?_
  refine z_if_le (tgt := 272) dX11_share_194 (by decide) (fun c1 => ?_) (fun c1 => ?_)
  ·
    exact z_ret dX11_share_272 rfl (k1 c1)
  ·
    refine z_iconst dX11_share_197 (zi32_d rfl) ?_
    refine z_istore (lv' := [(5, xI 0), (0, xR 169), (1, xI l), (4, xI f)]) dX11_share_198 (by decide) rfl ?_
    refine z_iconst dX11_share_200 (zi32_d rfl) ?_
    refine z_istore (lv' := [(6, xI 1), (5, xI 0), (0, xR 169), (1, xI l), (4, xI f)]) dX11_share_201 (by decide) rfl ?_
    refine zW.sub (lv' := [(0, xR 169), (1, xI l), (4, xI f), (5, xI 0), (6, xI 1)]) [2, 3, 4, 1, 0] rfl ?_
    exact k2 c1

set_option maxRecDepth 20000 in
theorem bX11_share_203 {X : zX} {dep bc bs : Nat} (l : Int) (f : Int) (c : Int) (i : Int) {g : zH} {Q : Nat → zH → List zV → Prop} (hc : 0 ≤ c ∧ c < 8) (hi : 0 ≤ i ∧ i ≤ 8)
    (k1 : 8 ≤ i → zW mX11_share X dep bc bs 239 242 [(0, xR 169), (1, xI l), (4, xI f), (5, xI c)] [] g Q)
    (k2 : ¬ (8 ≤ i) → (g 232 i) ≤ (g 232 c) → zW mX11_share X dep bc bs 239 203 [(0, xR 169), (1, xI l), (4, xI f), (5, xI c), (6, xI (i + 1))] [] g Q)
    (k3 : ¬ (8 ≤ i) → ¬ ((g 232 i) ≤ (g 232 c)) → zW mX11_share X dep bc bs 239 203 [(0, xR 169), (1, xI l), (4, xI f), (5, xI i), (6, xI (i + 1))] [] g Q) : zW mX11_share X dep bc bs 239 203 [(0, xR 169), (1, xI l), (4, xI f), (5, xI c), (6, xI i)] [] g Q := by
  refine z_iload 4 dX11_share_203 rfl ?_
  refine z_bipush dX11_share_205 (zi32_d rfl) (by decide) ?_
  refine z_icmp_ge (tgt := 242) dX11_share_207 (by decide) (fun c1 => ?_) (fun c1 => ?_)
  ·
    refine zW.sub (lv' := [(0, xR 169), (1, xI l), (4, xI f), (5, xI c)]) [0, 1, 2, 3] rfl ?_
    exact k1 c1
  ·
    refine z_aload_n 0 dX11_share_210 rfl ?_
    refine z_getS (v := 232) (k := 86) (kz := 86) pk11 dX11_share_211 (by decide) zb_1210 rfl (zOb.lit (by decide +kernel)) rfl (by decide +kernel) ?_
    refine z_iload 4 dX11_share_214 rfl ?_
    refine z_iald dX11_share_216 (zOb.lit (by decide +kernel)) (show 0 ≤ i ∧ i < 8 from ⟨by omega, by omega⟩).1 (show 0 ≤ i ∧ i < 8 from ⟨by omega, by omega⟩).2 ?_
    refine z_aload_n 0 dX11_share_217 rfl ?_
    refine z_getS (v := 232) (k := 86) (kz := 86) pk11 dX11_share_218 (by decide) zb_1210 rfl (zOb.lit (by decide +kernel)) rfl (by decide +kernel) ?_
    refine z_iload 3 dX11_share_221 rfl ?_
    refine z_iald dX11_share_223 (zOb.lit (by decide +kernel)) hc.1 hc.2 ?_
    refine z_icmp_le (tgt := 232) dX11_share_224 (by decide) (fun c2 => ?_) (fun c2 => ?_)
    ·
      refine z_iload 3 dX11_share_232 rfl ?_
      refine z_istore (lv' := [(5, xI c), (0, xR 169), (1, xI l), (4, xI f), (6, xI i)]) dX11_share_234 (by decide) rfl ?_
      refine z_iincN (lv' := [(6, xI (i + 1)), (5, xI c), (0, xR 169), (1, xI l), (4, xI f)]) 4 dX11_share_236 rfl (by decide) rfl (show -2147483648 ≤ i + 1 ∧ i + 1 < 2147483648 from ⟨by omega, by omega⟩).1 (show -2147483648 ≤ i + 1 ∧ i + 1 < 2147483648 from ⟨by omega, by omega⟩).2 ?_
      refine z_goto (tgt := 203) dX11_share_239 (by decide) ?_
      refine zW.sub (lv' := [(0, xR 169), (1, xI l), (4, xI f), (5, xI c), (6, xI (i + 1))]) [2, 3, 4, 1, 0] rfl ?_
      exact k2 c1 c2
    ·
      refine z_iload 4 dX11_share_227 rfl ?_
      refine z_goto (tgt := 234) dX11_share_229 (by decide) ?_
      refine z_istore (lv' := [(5, xI i), (0, xR 169), (1, xI l), (4, xI f), (6, xI i)]) dX11_share_234 (by decide) rfl ?_
      refine z_iincN (lv' := [(6, xI (i + 1)), (5, xI i), (0, xR 169), (1, xI l), (4, xI f)]) 4 dX11_share_236 rfl (by decide) rfl (show -2147483648 ≤ i + 1 ∧ i + 1 < 2147483648 from ⟨by omega, by omega⟩).1 (show -2147483648 ≤ i + 1 ∧ i + 1 < 2147483648 from ⟨by omega, by omega⟩).2 ?_
      refine z_goto (tgt := 203) dX11_share_239 (by decide) ?_
      refine zW.sub (lv' := [(0, xR 169), (1, xI l), (4, xI f), (5, xI i), (6, xI (i + 1))]) [2, 3, 4, 1, 0] rfl ?_
      exact k3 c1 c2

set_option maxRecDepth 20000 in
theorem bX11_share_242 {X : zX} {dep bc bs : Nat} (l : Int) (f : Int) (c : Int) {g : zH} {Q : Nat → zH → List zV → Prop} (hl : 0 ≤ l ∧ l < 4) (hc : 0 ≤ c ∧ c < 8) (hf : 0 < f ∧ f < 1000) (hu : -1000 ≤ g 223 (8 * l + c) ∧ g 223 (8 * l + c) < 1000)
    (k1 : zW mX11_share X dep bc bs 239 192 [(0, xR 169), (1, xI l), (4, xI (f + (-1)))] [] (zst (zst g 223 ((8 * l) + c) ((g 223 ((8 * l) + c)) + 1)) 232 c (-1)) Q) : zW mX11_share X dep bc bs 239 242 [(0, xR 169), (1, xI l), (4, xI f), (5, xI c)] [] g Q := by
  refine z_aload_n 0 dX11_share_242 rfl ?_
  refine z_getS (v := 223) (k := 76) (kz := 76) pk11 dX11_share_243 (by decide) zb_1200 rfl (zOb.lit (by decide +kernel)) rfl (by decide +kernel) ?_
  refine z_bipush dX11_share_246 (zi32_d rfl) (by decide) ?_
  refine z_iload_n 1 dX11_share_248 rfl ?_
  refine z_imulN dX11_share_249 (show -2147483648 ≤ 8 * l ∧ 8 * l < 2147483648 from ⟨by omega, by omega⟩).1 (show -2147483648 ≤ 8 * l ∧ 8 * l < 2147483648 from ⟨by omega, by omega⟩).2 ?_
  refine z_iload 3 dX11_share_250 rfl ?_
  refine z_iaddN dX11_share_252 (show -2147483648 ≤ (8 * l) + c ∧ (8 * l) + c < 2147483648 from ⟨by omega, by omega⟩).1 (show -2147483648 ≤ (8 * l) + c ∧ (8 * l) + c < 2147483648 from ⟨by omega, by omega⟩).2 ?_
  refine z_dup2 dX11_share_253 zt0 zt2 ?_
  refine z_iald dX11_share_254 (zOb.lit (by decide +kernel)) (show 0 ≤ ((8 * l) + c) ∧ ((8 * l) + c) < 32 from ⟨by omega, by omega⟩).1 (show 0 ≤ ((8 * l) + c) ∧ ((8 * l) + c) < 32 from ⟨by omega, by omega⟩).2 ?_
  refine z_iconst dX11_share_255 (zi32_d rfl) ?_
  refine z_iaddN dX11_share_256 (show -2147483648 ≤ (g 223 ((8 * l) + c)) + 1 ∧ (g 223 ((8 * l) + c)) + 1 < 2147483648 from ⟨by omega, by omega⟩).1 (show -2147483648 ≤ (g 223 ((8 * l) + c)) + 1 ∧ (g 223 ((8 * l) + c)) + 1 < 2147483648 from ⟨by omega, by omega⟩).2 ?_
  refine z_iast dX11_share_257 (zOb.lit (by decide +kernel)) (show 0 ≤ ((8 * l) + c) ∧ ((8 * l) + c) < 32 from ⟨by omega, by omega⟩).1 (show 0 ≤ ((8 * l) + c) ∧ ((8 * l) + c) < 32 from ⟨by omega, by omega⟩).2 ?_
  refine z_aload_n 0 dX11_share_258 rfl ?_
  refine z_getS (v := 232) (k := 86) (kz := 86) pk11 dX11_share_259 (by decide) zb_1210 rfl (zOb.lit (by decide +kernel)) rfl (by decide +kernel) ?_
  refine z_iload 3 dX11_share_262 rfl ?_
  refine z_iconst dX11_share_264 (zi32_d rfl) ?_
  refine z_iast dX11_share_265 (zOb.lit (by decide +kernel)) hc.1 hc.2 ?_
  refine z_iincN (lv' := [(4, xI (f + (-1))), (0, xR 169), (1, xI l), (5, xI c)]) 2 dX11_share_266 rfl (by decide) rfl (show -2147483648 ≤ f + (-1) ∧ f + (-1) < 2147483648 from ⟨by omega, by omega⟩).1 (show -2147483648 ≤ f + (-1) ∧ f + (-1) < 2147483648 from ⟨by omega, by omega⟩).2 ?_
  refine z_goto (tgt := 192) dX11_share_269 (by decide) ?_
  refine zW.sub (lv' := [(0, xR 169), (1, xI l), (4, xI (f + (-1)))]) [1, 2, 0] rfl ?_
  exact k1


/-- what orders a man on the model's list -/
def mKey (h : zH) (l q : Int) : Prop := (-3120 ≤ h 214 q ∧ h 214 q < 520) ∧ (0 ≤ h 171 q ∧ h 171 q < 26) ∧ (0 ≤ h 221 (60 * l + q) ∧ h 221 (60 * l + q) ≤ 9) ∧ (0 ≤ h 208 (52 * l + h 214 q % 52) ∧ h 208 (52 * l + h 214 q % 52) < 52) ∧ 0 ≤ h 209 (26 * l + h 171 q) ∧ h 209 (26 * l + h 171 q) < 26
abbrev mli (h : zH) (l i : Int) : Prop := 4 ≤ h 219 (60 * l + i)
abbrev mbf (h : zH) (l q m : Int) : Prop := h 221 (60 * l + q) < h 221 (60 * l + m) ∨ h 221 (60 * l + q) = h 221 (60 * l + m) ∧ (h 208 (52 * l + h 214 q % 52) < h 208 (52 * l + h 214 m % 52) ∨ h 208 (52 * l + h 214 q % 52) = h 208 (52 * l + h 214 m % 52) ∧ (h 209 (26 * l + h 171 q) < h 209 (26 * l + h 171 m) ∨ h 209 (26 * l + h 171 q) = h 209 (26 * l + h 171 m) ∧ q < m))
def mah (h : zH) (l m q : Int) : Prop := q ≠ m ∧ mli h l q ∧ h 172 q = h 172 m ∧ mbf h l q m
theorem f_X11_placeOf {X : zX} {dep : Nat} (l m : Int) {h : zH} (hm : 0 ≤ h 169 25 ∧ h 169 25 ≤ 60) (hl : 0 ≤ l ∧ l < 4) (hx : 0 ≤ m ∧ m < 60) (hkm : mKey h l m) (hk : ∀ q : Int, 0 ≤ q → q < h 169 25 → mli h l q → mKey h l q) (hdep : 2 ≤ dep) : zW mX11_placeOf X dep 0 0 239 0 (zar 0 [xR 169, xI l, xI m]) [] h (zF h [xI (zcnt (mah h l m) (h 169 25).toNat)]) := by
  refine bX11_placeOf_0 l m ?_
  have main : ∀ (j b : Nat), (b : Int) + j = h 169 25 → zW mX11_placeOf X dep 0 0 239 5 [(0, xR 169), (1, xI l), (2, xI m), (3, xI (zcnt (mah h l m) b)), (4, xI b)] [] h (zF h [xI (zcnt (mah h l m) (h 169 25).toNat)]) := by
    intro j
    induction j with
    | zero =>
      intro b hb
      refine bX11_placeOf_5 l m _ b hm hl hx (by omega) (zcnt_in _ b) hkm.1 hkm.2.1 hkm.2.2.1 hkm.2.2.2.1 hkm.2.2.2.2 (Or.inl (by omega)) (Or.inl (by omega)) (Or.inl (by omega)) (Or.inl (by omega)) (Or.inl (by omega)) hdep ?_ ?_ ?_ ?_ ?_ ?_
      · intro c
        rw [show (h 169 25).toNat = b by omega]
        exact ⟨rfl, rfl, rfl⟩
      all_goals
        intro c
        exfalso
        omega
    | succ j ih =>
      intro b hb
      have go := ih (b + 1) (by omega)
      rw [show ((b + 1 : Nat) : Int) = (b : Int) + 1 by omega] at go
      have no : ¬ mah h l m b → zW mX11_placeOf X dep 0 0 239 5 [(0, xR 169), (1, xI l), (2, xI m), (3, xI (zcnt (mah h l m) b + 0)), (4, xI ((b : Int) + 1))] [] h (zF h [xI (zcnt (mah h l m) (h 169 25).toNat)]) := fun c => by
        rw [zcnt_0 (P := mah h l m) c] at go
        rw [Int.add_zero]
        exact go
      have K : h 219 (60 * l + b) < 4 ∨ mKey h l b := by
        by_cases c : mli h l b
        · exact Or.inr (hk b (by omega) (by omega) c)
        · exact Or.inl (by simp only [mli] at c; omega)
      refine bX11_placeOf_5 l m _ b hm hl hx (by omega) (zcnt_in _ b) hkm.1 hkm.2.1 hkm.2.2.1 hkm.2.2.2.1 hkm.2.2.2.2 (Or.inr (K.imp id (fun z => z.1))) (Or.inr (K.imp id (fun z => z.2.1))) (Or.inr (K.imp id (fun z => z.2.2.1))) (Or.inr (K.imp id (fun z => z.2.2.2.1))) (Or.inr (K.imp id (fun z => z.2.2.2.2))) hdep ?_ ?_ ?_ ?_ ?_ ?_
      · intro c
        exfalso
        omega
      · intro _ c
        exact no (fun z => z.1 c)
      · intro _ _ c
        exact no (fun z => c z.2.1)
      · intro _ _ _ c
        exact no (fun z => c z.2.2.1)
      · intro _ _ _ _ c
        exact no (fun z => c z.2.2.2)
      · intro _ c1 c2 c3 c4
        rw [zcnt_1 (P := mah h l m) ⟨c1, c2, c3, c4⟩] at go
        exact go
  exact main (h 169 25).toNat 0 (by omega)
/-- the model's shares -/
noncomputable def mla (h : zH) (l : Int) (n : Nat) : Int := zcnt (mli h l) n
noncomputable def mlp (h : zH) (l p : Int) (n : Nat) : Int := zcnt (fun i => mli h l i ∧ h 172 i = p) n
noncomputable def mcl (h : zH) (l : Int) : Int := min (h 206 l) (mla h l (h 169 25).toNat)
noncomputable def mq0 (h : zH) (l p : Int) : Int := if mla h l (h 169 25).toNat = 0 then 0 else zdiv (mcl h l * mlp h l p (h 169 25).toNat) (mla h l (h 169 25).toNat)
noncomputable def mr0 (h : zH) (l p : Int) : Int := if mla h l (h 169 25).toNat = 0 then 0 else zrem (mcl h l * mlp h l p (h 169 25).toNat) (mla h l (h 169 25).toNat)
noncomputable def mleft (h : zH) (l : Int) : Int := mcl h l - zsm (mq0 h l) 8
noncomputable def mquo (h : zH) (l p : Int) : Int := (zqr (mq0 h l) (mr0 h l) (mleft h l).toNat).1 p
theorem mlp_le (h : zH) (l p : Int) : ∀ n : Nat, mlp h l p n ≤ mla h l n
  | 0 => Int.le_refl _
  | k + 1 => by
    have ih := mlp_le h l p k
    unfold mlp mla at ih ⊢
    by_cases c : mli h l k
    · rw [zcnt_1 (P := mli h l) (k := k) c]
      by_cases d : h 172 k = p
      · rw [zcnt_1 (P := fun i => mli h l i ∧ h 172 i = p) (k := k) ⟨c, d⟩]
        omega
      · rw [zcnt_0 (P := fun i => mli h l i ∧ h 172 i = p) (k := k) (fun z => d z.2)]
        omega
    · rw [zcnt_0 (P := mli h l) (k := k) c, zcnt_0 (P := fun i => mli h l i ∧ h 172 i = p) (k := k) (fun z => c z.1)]
      exact ih
theorem mcl_in {h : zH} {l : Int} (hw : 0 ≤ h 206 l ∧ h 206 l ≤ 60) : 0 ≤ mcl h l ∧ mcl h l ≤ mla h l (h 169 25).toNat ∧ mcl h l ≤ 60 := by
  have l2 := zcnt_in (mli h l) (h 169 25).toNat
  unfold mcl mla
  omega
theorem mlp_in (h : zH) (l p : Int) (n : Nat) : 0 ≤ mlp h l p n ∧ mlp h l p n ≤ n := zcnt_in _ n
theorem mla_in (h : zH) (l : Int) (n : Nat) : 0 ≤ mla h l n ∧ mla h l n ≤ n := zcnt_in _ n
theorem mq0_in (h : zH) (l p : Int) (hm : 0 ≤ h 169 25 ∧ h 169 25 ≤ 60) (hw : 0 ≤ h 206 l ∧ h 206 l ≤ 60) : 0 ≤ mq0 h l p ∧ mq0 h l p ≤ 60 := by
  have l1 := mlp_in h l p (h 169 25).toNat
  have l2 := mla_in h l (h 169 25).toNat
  have l3 := mlp_le h l p (h 169 25).toNat
  have c1 := mcl_in (h := h) (l := l) hw
  unfold mq0
  by_cases c : mla h l (h 169 25).toNat = 0
  · rw [if_pos c]; omega
  · rw [if_neg c]
    have m0 : 0 ≤ mcl h l * mlp h l p (h 169 25).toNat := Int.mul_nonneg c1.1 l1.1
    have m1 : mcl h l * mlp h l p (h 169 25).toNat ≤ mla h l (h 169 25).toNat * 60 := Int.mul_le_mul c1.2.1 (by omega) l1.1 l2.1
    rw [zdiv_eq m0 (by omega) (by omega) (by omega)]
    refine ⟨Int.ediv_nonneg m0 l2.1, ?_⟩
    have := Int.ediv_le_ediv (show (0 : Int) < mla h l (h 169 25).toNat by omega) m1
    rw [Int.mul_ediv_cancel_left _ c] at this
    exact this
theorem l_X11_share_4 {X : zX} {dep : Nat} {Q : Nat → zH → List zV → Prop} (l : Int) {h : zH} (hm : 0 ≤ h 169 25 ∧ h 169 25 ≤ 60) (hl : 0 ≤ l ∧ l < 4) (hdep : 1 ≤ dep)
    (kx : zW mX11_share X dep 0 0 239 35 [(0, xR 169), (1, xI l), (2, xI (mla h l (h 169 25).toNat))] [] h Q) :
    ∀ (j b : Nat), (b : Int) + j = h 169 25 → zW mX11_share X dep 0 0 239 4 [(0, xR 169), (1, xI l), (2, xI (mla h l b)), (3, xI b)] [] h Q := by
  intro j
  induction j with
  | zero =>
    intro b hb
    refine bX11_share_4 l _ b hm hl (by omega) (mla_in h l b) hdep ?_ ?_ ?_
    · intro c
      rw [show (h 169 25).toNat = b by omega] at kx
      exact kx
    all_goals
      intro c
      exfalso
      omega
  | succ j ih =>
    intro b hb
    have go := ih (b + 1) (by omega)
    rw [show ((b + 1 : Nat) : Int) = (b : Int) + 1 by omega] at go
    unfold mla at go
    refine bX11_share_4 l _ b hm hl (by omega) (mla_in h l b) hdep ?_ ?_ ?_
    · intro c
      exfalso
      omega
    · intro _ c
      rw [zcnt_0 (P := mli h l) c] at go
      rw [Int.add_zero]
      exact go
    · intro _ c
      rw [zcnt_1 (P := mli h l) c] at go
      exact go
abbrev mSh : List Int := [223, 232]
theorem mli_ag {S : List Int} {h g : zH} (ha : zag S h g) (h1 : (219 : Int) ∉ S) (l i : Int) : mli g l i ↔ mli h l i := by
  unfold mli
  rw [ha 219 _ h1]
theorem l_X11_share_75 {X : zX} {dep : Nat} {Q : Nat → zH → List zV → Prop} (l p f : Int) {h g : zH} (hm : 0 ≤ h 169 25 ∧ h 169 25 ≤ 60) (hl : 0 ≤ l ∧ l < 4) (hw : 0 ≤ h 206 l ∧ h 206 l ≤ 60) (hp : 0 ≤ p ∧ p < 8) (ha : zag mSh h g) (hdep : 1 ≤ dep)
    (kx : zW mX11_share X dep 0 0 239 122 [(0, xR 169), (1, xI l), (2, xI (mla h l (h 169 25).toNat)), (3, xI (mcl h l)), (4, xI f), (5, xI p), (6, xI (mlp h l p (h 169 25).toNat))] [] g Q) :
    ∀ (j b : Nat), (b : Int) + j = h 169 25 → zW mX11_share X dep 0 0 239 75 [(0, xR 169), (1, xI l), (2, xI (mla h l (h 169 25).toNat)), (3, xI (mcl h l)), (4, xI f), (5, xI p), (6, xI (mlp h l p b)), (7, xI b)] [] g Q := by
  have l2 := mla_in h l (h 169 25).toNat
  have c1 := mcl_in (h := h) (l := l) hw
  have e3 := ha 169 25 (by decide)
  intro j
  induction j with
  | zero =>
    intro b hb
    refine bX11_share_75 l _ _ f p _ b (by rw [e3]; exact hm) hl (by omega) (by omega) (by omega) (by omega) (mlp_in h l p b) hdep ?_ ?_ ?_
    · intro c
      rw [show (h 169 25).toNat = b by omega] at kx ⊢
      exact kx
    all_goals
      intro c
      exfalso
      omega
  | succ j ih =>
    intro b hb
    have go := ih (b + 1) (by omega)
    rw [show ((b + 1 : Nat) : Int) = (b : Int) + 1 by omega] at go
    unfold mlp at go
    refine bX11_share_75 l _ _ f p _ b (by rw [e3]; exact hm) hl (by omega) (by omega) (by omega) (by omega) (mlp_in h l p b) hdep ?_ ?_ ?_
    · intro c
      exfalso
      omega
    · intro _ c
      rw [zcnt_0 (P := fun i => mli h l i ∧ h 172 i = p) (fun z => c ((mli_ag ha (by decide) l b).mpr z.1))] at go
      rw [Int.add_zero]
      exact go
    · intro _ c
      rw [ha 172 b (by decide)]
      by_cases d : h 172 b = p
      · rw [if_pos d]
        rw [zcnt_1 (P := fun i => mli h l i ∧ h 172 i = p) ⟨(mli_ag ha (by decide) l b).mp c, d⟩] at go
        exact go
      · rw [if_neg d, Int.add_zero]
        rw [zcnt_0 (P := fun i => mli h l i ∧ h 172 i = p) (fun z => d z.2)] at go
        exact go
theorem l_X11_share_62 {X : zX} {dep : Nat} {Q : Nat → zH → List zV → Prop} (l : Int) {h : zH} (hm : 0 ≤ h 169 25 ∧ h 169 25 ≤ 60) (hl : 0 ≤ l ∧ l < 4) (hw : 0 ≤ h 206 l ∧ h 206 l ≤ 60) (hdep : 1 ≤ dep)
    (kx : ∀ g : zH, zag mSh h g → (∀ p : Int, 0 ≤ p → p < 8 → g 223 (8 * l + p) = mq0 h l p ∧ g 232 p = mr0 h l p) → zW mX11_share X dep 0 0 239 192 [(0, xR 169), (1, xI l), (4, xI (mleft h l))] [] g Q) :
    ∀ (k j : Nat) (g : zH), j + k = 8 → zag mSh h g → (∀ p : Int, 0 ≤ p → p < j → g 223 (8 * l + p) = mq0 h l p ∧ g 232 p = mr0 h l p) → zW mX11_share X dep 0 0 239 62 [(0, xR 169), (1, xI l), (2, xI (mla h l (h 169 25).toNat)), (3, xI (mcl h l)), (4, xI (mcl h l - zsm (mq0 h l) j)), (5, xI j)] [] g Q := by
  have l2 := mla_in h l (h 169 25).toNat
  have c1 := mcl_in (h := h) (l := l) hw
  have hz := zsm_in (f := mq0 h l) (b := 60) (fun p => mq0_in h l p hm hw) (by omega)
  intro k
  induction k with
  | zero =>
    intro j g hk a hq
    obtain rfl : j = 8 := by omega
    refine bX11_share_62 l _ _ _ _ (by rw [a 169 25 (by decide)]; exact hm) hl (by omega) (by omega) (by omega) ?_ ?_
    · intro c
      exact kx g a (fun p p0 p1 => hq p p0 p1)
    · intro c
      exfalso
      omega
  | succ k ih =>
    intro j g hk a hq
    have z1 := hz j
    have l1 := mlp_in h l j (h 169 25).toNat
    have l3 := mlp_le h l j (h 169 25).toNat
    have m0 : 0 ≤ mcl h l * mlp h l j (h 169 25).toNat := Int.mul_nonneg c1.1 l1.1
    have m1 : mcl h l * mlp h l j (h 169 25).toNat ≤ 60 * 60 := Int.mul_le_mul (by omega) (by omega) l1.1 (by omega)
    have q1 := mq0_in h l j hm hw
    have go : ∀ (q r f : Int), q = mq0 h l j → r = mr0 h l j → f = mcl h l - zsm (mq0 h l) j - mq0 h l j → zW mX11_share X dep 0 0 239 62 [(0, xR 169), (1, xI l), (2, xI (mla h l (h 169 25).toNat)), (3, xI (mcl h l)), (4, xI f), (5, xI ((j : Int) + 1))] [] (zst (zst g 223 ((8 * l) + j) q) 232 j r) Q := fun q r f eq er ef => by
      have ih1 := ih (j + 1) (zst (zst g 223 ((8 * l) + j) q) 232 j r) (by omega) ((a.st (by decide) _ _).st (by decide) _ _) (fun p p0 p1 => by
        rw [zst_ne (o := 232) (o' := 223) (Or.inl (by decide)), zst_or, zst_or, zst_ne (o := 223) (o' := 232) (Or.inl (by decide))]
        by_cases d : p = j
        · rw [d, if_pos rfl, if_pos rfl]
          exact ⟨eq, er⟩
        · rw [if_neg (by omega), if_neg d]
          exact hq p p0 (by omega))
      rw [zsm_s, show ((j + 1 : Nat) : Int) = (j : Int) + 1 by omega, show mcl h l - (zsm (mq0 h l) j + mq0 h l j) = f by omega] at ih1
      exact ih1
    refine bX11_share_62 l _ _ _ _ (by rw [a 169 25 (by decide)]; exact hm) hl (by omega) (by omega) (by omega) ?_ ?_
    · intro c
      exfalso
      omega
    · intro c
      refine l_X11_share_75 l j _ hm hl hw (by omega) a hdep ?_ (h 169 25).toNat 0 (by omega)
      refine bX11_share_122 l _ _ _ _ _ (by rw [a 169 25 (by decide)]; exact hm) hl (by omega) (by omega) (by omega) (by omega) (by omega) (by omega) (by omega) ?_ ?_ ?_ ?_ ?_
      · by_cases z : mla h l (h 169 25).toNat = 0
        · exact Or.inl z
        · refine Or.inr ?_
          unfold mq0 at q1
          rw [if_neg z] at q1
          exact q1
      · intro z _
        have eq : mq0 h l j = zdiv (mcl h l * mlp h l j (h 169 25).toNat) (mla h l (h 169 25).toNat) := by unfold mq0; rw [if_neg z]
        have er : mr0 h l j = zrem (mcl h l * mlp h l j (h 169 25).toNat) (mla h l (h 169 25).toNat) := by unfold mr0; rw [if_neg z]
        rw [← eq, ← er]
        exact go _ _ _ rfl rfl rfl
      · intro z z2
        exact absurd z2 z
      · intro z z2
        exact absurd z z2
      · intro z _
        have eq : mq0 h l j = 0 := by unfold mq0; rw [if_pos z]
        have er : mr0 h l j = 0 := by unfold mr0; rw [if_pos z]
        exact go _ _ _ eq.symm er.symm (by rw [eq])
theorem l_X11_share_203 {X : zX} {dep : Nat} {Q : Nat → zH → List zV → Prop} (l f : Int) {g : zH}
    (kx : zW mX11_share X dep 0 0 239 242 [(0, xR 169), (1, xI l), (4, xI f), (5, xI (zgm (g 232) 7))] [] g Q) :
    ∀ (k j : Nat), j + k = 7 → zW mX11_share X dep 0 0 239 203 [(0, xR 169), (1, xI l), (4, xI f), (5, xI (zgm (g 232) j)), (6, xI ((j : Int) + 1))] [] g Q := by
  intro k
  induction k with
  | zero =>
    intro j hk
    obtain rfl : j = 7 := by omega
    have gi := zgm_in (g 232) 7
    refine bX11_share_203 l f _ _ (by omega) (by omega) ?_ ?_ ?_
    · intro c
      exact kx
    all_goals
      intro c
      exfalso
      omega
  | succ k ih =>
    intro j hk
    have gi := zgm_in (g 232) j
    have ih1 := ih (j + 1) (by omega)
    rw [show ((j + 1 : Nat) : Int) = (j : Int) + 1 by omega] at ih1
    refine bX11_share_203 l f _ _ (by omega) (by omega) ?_ ?_ ?_
    · intro c
      exfalso
      omega
    · intro c c1
      rw [show zgm (g 232) (j + 1) = zgm (g 232) j from if_pos c1] at ih1
      exact ih1
    · intro c c1
      rw [show zgm (g 232) (j + 1) = (j : Int) + 1 from if_neg c1] at ih1
      exact ih1
def mShd (h : zH) (l : Int) (g : zH) : Prop := zag mSh h g ∧ ∀ p : Int, 0 ≤ p → p < 8 → g 223 (8 * l + p) = mquo h l p
theorem l_X11_share_192 {X : zX} {dep : Nat} (l : Int) {h : zH} (hm : 0 ≤ h 169 25 ∧ h 169 25 ≤ 60) (hl : 0 ≤ l ∧ l < 4) (hw : 0 ≤ h 206 l ∧ h 206 l ≤ 60) :
    ∀ (k n : Nat) (g : zH), n + k = (mleft h l).toNat → zag mSh h g → (∀ p : Int, 0 ≤ p → p < 8 → g 223 (8 * l + p) = (zqr (mq0 h l) (mr0 h l) n).1 p ∧ g 232 p = (zqr (mq0 h l) (mr0 h l) n).2 p) → zW mX11_share X dep 0 0 239 192 [(0, xR 169), (1, xI l), (4, xI (mleft h l - n))] [] g (zQ0 (mShd h l)) := by
  have c1 := mcl_in (h := h) (l := l) hw
  have hz := zsm_in (f := mq0 h l) (b := 60) (fun p => mq0_in h l p hm hw) (by omega) 8
  have hle : mleft h l ≤ 60 := by unfold mleft; omega
  intro k
  induction k with
  | zero =>
    intro n g hk a hq
    refine bX11_share_192 l _ hl ?_ ?_
    · intro c
      refine ⟨rfl, rfl, a, fun p p0 p1 => ?_⟩
      rw [(hq p p0 p1).1]
      unfold mquo
      rw [show (mleft h l).toNat = n by omega]
    · intro c
      exfalso
      omega
  | succ k ih =>
    intro n g hk a hq
    refine bX11_share_192 l _ hl ?_ ?_
    · intro c
      exfalso
      omega
    · intro c
      have eg : zgm (g 232) 7 = zgm (zqr (mq0 h l) (mr0 h l) n).2 7 := zgm_ag 7 (fun i i0 i1 => (hq i i0 (by omega)).2)
      have gi := zgm_in (g 232) 7
      refine l_X11_share_203 l _ ?_ 7 0 rfl
      have hu := zqr_in (q := mq0 h l) (r := mr0 h l) (fun p => mq0_in h l p hm hw) n (zgm (g 232) 7)
      have hv := (hq (zgm (g 232) 7) gi.1 (by omega)).1
      refine bX11_share_242 l _ _ hl (by omega) (by omega) (by rw [hv]; omega) ?_
      have ih1 := ih (n + 1) (zst (zst g 223 ((8 * l) + zgm (g 232) 7) ((g 223 ((8 * l) + zgm (g 232) 7)) + 1)) 232 (zgm (g 232) 7) (-1)) (by omega) ((a.st (by decide) _ _).st (by decide) _ _) (fun p p0 p1 => by
        have q1 := hq p p0 p1
        rw [zst_ne (o := 232) (o' := 223) (Or.inl (by decide)), zst_or, zst_or, zst_ne (o := 223) (o' := 232) (Or.inl (by decide)), zqr_s1, zqr_s2, ← eg]
        by_cases d : p = zgm (g 232) 7
        · rw [if_pos (by omega), if_pos d, if_pos d, if_pos d, ← d, q1.1]
          exact ⟨rfl, rfl⟩
        · rw [if_neg (by omega), if_neg d, if_neg d, if_neg d]
          exact q1)
      rw [show ((n + 1 : Nat) : Int) = (n : Int) + 1 by omega, show mleft h l - ((n : Int) + 1) = mleft h l - n + -1 by omega] at ih1
      exact ih1
theorem f_X11_share {X : zX} {dep : Nat} (l : Int) {h : zH} (hm : 0 ≤ h 169 25 ∧ h 169 25 ≤ 60) (hl : 0 ≤ l ∧ l < 4) (hw : 0 ≤ h 206 l ∧ h 206 l ≤ 60) (hdep : 1 ≤ dep) :
    zW mX11_share X dep 0 0 239 0 (zar 0 [xR 169, xI l]) [] h (zQ0 (mShd h l)) := by
  refine bX11_share_0 l ?_
  refine l_X11_share_4 l hm hl hdep ?_ (h 169 25).toNat 0 (by omega)
  have e55 : zW mX11_share X dep 0 0 239 55 [(0, xR 169), (1, xI l), (2, xI (mla h l (h 169 25).toNat))] [xI (mcl h l)] h (zQ0 (mShd h l)) := by
    refine bX11_share_55 l _ _ hm hl ?_
    have go := l_X11_share_62 (X := X) (dep := dep) l hm hl hw hdep (fun g a hq => by
      have := l_X11_share_192 (X := X) (dep := dep) l hm hl hw (mleft h l).toNat 0 g (by omega) a (fun p p0 p1 => hq p p0 p1)
      rw [show mleft h l - ((0 : Nat) : Int) = mleft h l by omega] at this
      exact this) 8 0 h rfl (zag.rf _ _) (fun p p0 p1 => by omega)
    rw [show mcl h l - zsm (mq0 h l) 0 = mcl h l by unfold zsm; omega] at go
    exact go
  refine bX11_share_35 l _ hm hl ?_ ?_
  · intro c
    rw [show mcl h l = mla h l (h 169 25).toNat by unfold mcl; omega] at e55
    exact e55
  · intro c
    rw [show mcl h l = h 206 l by unfold mcl; omega] at e55
    exact e55
