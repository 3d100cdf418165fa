/-! the model reads a COND: its blocks -/
set_option maxRecDepth 20000 in
theorem bX11_one_0 {X : zX} {dep bc bs : Nat} {g : zH} {Q : Nat → zH → List zV → Prop} (hdep : 1 ≤ dep)
    (k1 : zW mX11_one X dep bc bs 239 9 [(0, xR 169), (1, xI (zb (g 169 49 = 1 ∧ g 169 56 = 7237492)))] [xR 169] g Q) : zW mX11_one X dep bc bs 239 0 [(0, xR 169)] [] g Q := by
  refine z_aload_n 0 dX11_one_0 rfl ?_
  refine z_ldc2c (v := 7237492) ⟨by decide, by decide⟩ dX11_one_1 zb_1513 (by decide) ?_
  refine z_invF (ci := 11) (N := 97) (as := [xL 7237492]) (st := []) (ra := [xL 7237492]) (dep' := dep - 1) (rs := [xI (zb (g 169 49 = 1 ∧ g 169 56 = 7237492))]) (h' := g) (f_X11_isWord 7237492 (h := g) ) dX11_one_4 nX11_isWord zb_1491 zb_1493 zb_41 zb_92 (zOb.lit (by decide +kernel)) rfl (by omega) zne_I (Nat.le_of_ble_eq_true rfl) (Nat.le_of_ble_eq_true rfl) rfl ?_
  refine z_istore_n (lv' := [(1, xI (zb (g 169 49 = 1 ∧ g 169 56 = 7237492))), (0, xR 169)]) dX11_one_7 (by decide) rfl ?_
  refine z_aload_n 1 dX11_one_8 rfl ?_
  refine zW.sub (lv' := [(0, xR 169), (1, xI (zb (g 169 49 = 1 ∧ g 169 56 = 7237492)))]) [1, 0] rfl ?_
  exact k1

set_option maxRecDepth 20000 in
theorem rX11_one_9 {X : zX} {dep bc bs : Nat} (nn : Int) {g : zH} {Q : Nat → zH → List zV → Prop} {P : Int → zH → Prop}
    (hZ : zW mX11_atom X (dep - 1) 0 0 239 0 (zar 0 [xR 169]) [] g (zQI P)) (hdep : 1 ≤ dep)
    (k : ∀ (v : Int) (g : zH), P v g → zW mX11_one X dep bc bs 239 12 [(0, xR 169), (1, xI nn)] [xI v] g Q) : zW mX11_one X dep bc bs 239 9 [(0, xR 169), (1, xI nn)] [xR 169] g Q :=
  z_invQI (ci := 11) (N := 97) (as := []) (st := []) (ra := []) hZ dX11_one_9 nX11_atom zb_1523 zb_1525 zb_47 zb_92 (zOb.lit (by decide +kernel)) rfl (by omega) (Nat.le_of_ble_eq_true rfl) (Nat.le_of_ble_eq_true rfl) rfl (fun v g hg => k v g hg)

set_option maxRecDepth 20000 in
theorem bX11_one_12 {X : zX} {dep bc bs : Nat} (nn : Int) (v : Int) {g : zH} {Q : Nat → zH → List zV → Prop} (hdep : 1 ≤ dep)
    (k1 : ¬ nn = 0 → zW mX11_one X dep bc bs 239 36 [(0, xR 169), (1, xI nn), (2, xI v)] [] g Q)
    (k2 : nn = 0 → 0 ≤ v → zW mX11_one X dep bc bs 239 36 [(0, xR 169), (1, xI nn), (2, xI v)] [] g Q)
    (k3 : nn = 0 → ¬ (0 ≤ v) → g 169 49 = 3 ∧ g 169 52 = 40 → zW mX11_one X dep bc bs 239 36 [(0, xR 169), (1, xI nn), (2, xI v)] [] g Q)
    (k4 : nn = 0 → ¬ (0 ≤ v) → ¬ (g 169 49 = 3 ∧ g 169 52 = 40) → zW mX11_one X dep bc bs 239 30 [(0, xR 169)] [] g Q) : zW mX11_one X dep bc bs 239 12 [(0, xR 169), (1, xI nn)] [xI v] g Q := by
  refine z_istore_n (lv' := [(2, xI v), (0, xR 169), (1, xI nn)]) dX11_one_12 (by decide) rfl ?_
  refine z_iload_n 2 dX11_one_13 rfl ?_
  refine z_if_ne (tgt := 36) dX11_one_14 (by decide) (fun c1 => ?_) (fun c1 => ?_)
  ·
    refine zW.sub (lv' := [(0, xR 169), (1, xI nn), (2, xI v)]) [1, 2, 0] rfl ?_
    exact k1 c1
  ·
    refine z_iload_n 0 dX11_one_17 rfl ?_
    refine z_if_ge (tgt := 36) dX11_one_18 (by decide) (fun c2 => ?_) (fun c2 => ?_)
    ·
      refine zW.sub (lv' := [(0, xR 169), (1, xI nn), (2, xI v)]) [1, 2, 0] rfl ?_
      exact k2 c1 c2
    ·
      refine z_aload_n 1 dX11_one_21 rfl ?_
      refine z_bipush dX11_one_22 (zi32_d rfl) (by decide) ?_
      refine z_invF (ci := 11) (N := 97) (as := [xI 40]) (st := []) (ra := [xI 40]) (dep' := dep - 1) (rs := [xI (zb (g 169 49 = 3 ∧ g 169 52 = 40))]) (h' := g) (f_X11_isSign 40 (h := g) ) dX11_one_24 nX11_isSign zb_1538 zb_1540 zb_48 zb_92 (zOb.lit (by decide +kernel)) rfl (by omega) zne_I (Nat.le_of_ble_eq_true rfl) (Nat.le_of_ble_eq_true rfl) rfl ?_
      refine z_ifB_ne (C := g 169 49 = 3 ∧ g 169 52 = 40) (tgt := 36) dX11_one_27 (by decide) (fun c3 => ?_) (fun c3 => ?_)
      ·
        refine zW.sub (lv' := [(0, xR 169), (1, xI nn), (2, xI v)]) [1, 2, 0] rfl ?_
        exact k3 c1 c2 c3
      ·
        refine zW.sub (lv' := [(0, xR 169)]) [1] rfl ?_
        exact k4 c1 c2 c3

set_option maxRecDepth 20000 in
theorem bX11_one_30 {X : zX} {dep bc bs : Nat} {g : zH} {Q : Nat → zH → List zV → Prop}
    (k1 : zW mX11_one X dep bc bs 239 32 [(0, xR 169)] [xI 1, xR 169] g Q) : zW mX11_one X dep bc bs 239 30 [(0, xR 169)] [] g Q := by
  refine z_aload_n 0 dX11_one_30 rfl ?_
  refine z_iconst dX11_one_31 (zi32_d rfl) ?_
  exact k1

set_option maxRecDepth 20000 in
theorem rX11_one_32 {X : zX} {dep bc bs : Nat} {g : zH} {Q : Nat → zH → List zV → Prop} {P : Int → zH → Prop}
    (hZ : zW mX11_bad X (dep - 1) 0 0 239 0 (zar 0 [xR 169, xI 1]) [] g (zQI P)) (hdep : 1 ≤ dep)
    (k : ∀ (v : Int) (g : zH), P v g → zW mX11_one X dep bc bs 239 35 [(0, xR 169)] [xI v] g Q) : zW mX11_one X dep bc bs 239 32 [(0, xR 169)] [xI 1, xR 169] g Q :=
  z_invQI (ci := 11) (N := 97) (as := [xI 1]) (st := []) (ra := [xI 1]) hZ dX11_one_32 nX11_bad zb_1500 zb_1502 zb_42 zb_92 (zOb.lit (by decide +kernel)) rfl (by omega) (Nat.le_of_ble_eq_true rfl) (Nat.le_of_ble_eq_true rfl) rfl (fun v g hg => k v g hg)

set_option maxRecDepth 20000 in
theorem bX11_one_35 {X : zX} {dep bc bs : Nat} (v : Int) {g : zH} {Q : Nat → zH → List zV → Prop} (hv : v = 0 ∨ v = 1)
    (k1 : Q 239 g [xI v]) : zW mX11_one X dep bc bs 239 35 [(0, xR 169)] [xI v] g Q := by
  exact z_zret dX11_one_35 rfl hv (k1)

set_option maxRecDepth 20000 in
theorem bX11_one_36 {X : zX} {dep bc bs : Nat} (nn : Int) (w : Int) {g : zH} {Q : Nat → zH → List zV → Prop}
    (k1 : (g 169 48) = 60 → zW mX11_one X dep bc bs 239 54 [(0, xR 169)] [] g Q)
    (k2 : ¬ ((g 169 48) = 60) → zW mX11_one X dep bc bs 239 46 [(0, xR 169), (1, xI nn), (2, xI w)] [xR 169] g Q) : zW mX11_one X dep bc bs 239 36 [(0, xR 169), (1, xI nn), (2, xI w)] [] g Q := by
  refine z_aload_n 0 dX11_one_36 rfl ?_
  refine z_getI (k := 48) (kz := 48) pk11 dX11_one_37 (by decide) zb_1172 rfl (zOb.lit (by decide +kernel)) rfl ?_
  refine z_bipush dX11_one_40 (zi32_d rfl) (by decide) ?_
  refine z_icmp_eq (tgt := 54) dX11_one_42 (by decide) (fun c1 => ?_) (fun c1 => ?_)
  ·
    refine zW.sub (lv' := [(0, xR 169)]) [0] rfl ?_
    exact k1 c1
  ·
    refine z_aload_n 0 dX11_one_45 rfl ?_
    exact k2 c1

set_option maxRecDepth 20000 in
theorem rX11_one_46 {X : zX} {dep bc bs : Nat} (nn : Int) (w : Int) {g : zH} {Q : Nat → zH → List zV → Prop} {P : Int → zH → Prop}
    (hZ : zW mX11_open X (dep - 1) 0 0 239 0 (zar 0 [xR 169]) [] g (zQI P)) (hdep : 1 ≤ dep)
    (k : ∀ (v : Int) (g : zH), P v g → zW mX11_one X dep bc bs 239 49 [(0, xR 169), (1, xI nn), (2, xI w)] [xI v] g Q) : zW mX11_one X dep bc bs 239 46 [(0, xR 169), (1, xI nn), (2, xI w)] [xR 169] g Q :=
  z_invQI (ci := 11) (N := 97) (as := []) (st := []) (ra := []) hZ dX11_one_46 nX11_open zb_1542 zb_1544 zb_49 zb_92 (zOb.lit (by decide +kernel)) rfl (by omega) (Nat.le_of_ble_eq_true rfl) (Nat.le_of_ble_eq_true rfl) rfl (fun v g hg => k v g hg)

set_option maxRecDepth 20000 in
theorem bX11_one_49 {X : zX} {dep bc bs : Nat} (nn : Int) (w : Int) (v : Int) {g : zH} {Q : Nat → zH → List zV → Prop}
    (k1 : ¬ v = 12 → zW mX11_one X dep bc bs 239 60 [(0, xR 169), (1, xI nn), (2, xI w)] [] g Q)
    (k2 : v = 12 → zW mX11_one X dep bc bs 239 54 [(0, xR 169)] [] g Q) : zW mX11_one X dep bc bs 239 49 [(0, xR 169), (1, xI nn), (2, xI w)] [xI v] g Q := by
  refine z_bipush dX11_one_49 (zi32_d rfl) (by decide) ?_
  refine z_icmp_ne (tgt := 60) dX11_one_51 (by decide) (fun c1 => ?_) (fun c1 => ?_)
  ·
    exact k1 c1
  ·
    refine zW.sub (lv' := [(0, xR 169)]) [0] rfl ?_
    exact k2 c1

set_option maxRecDepth 20000 in
theorem bX11_one_54 {X : zX} {dep bc bs : Nat} {g : zH} {Q : Nat → zH → List zV → Prop}
    (k1 : zW mX11_one X dep bc bs 239 56 [(0, xR 169)] [xI 4, xR 169] g Q) : zW mX11_one X dep bc bs 239 54 [(0, xR 169)] [] g Q := by
  refine z_aload_n 0 dX11_one_54 rfl ?_
  refine z_iconst dX11_one_55 (zi32_d rfl) ?_
  exact k1

set_option maxRecDepth 20000 in
theorem rX11_one_56 {X : zX} {dep bc bs : Nat} {g : zH} {Q : Nat → zH → List zV → Prop} {P : Int → zH → Prop}
    (hZ : zW mX11_bad X (dep - 1) 0 0 239 0 (zar 0 [xR 169, xI 4]) [] g (zQI P)) (hdep : 1 ≤ dep)
    (k : ∀ (v : Int) (g : zH), P v g → zW mX11_one X dep bc bs 239 59 [(0, xR 169)] [xI v] g Q) : zW mX11_one X dep bc bs 239 56 [(0, xR 169)] [xI 4, xR 169] g Q :=
  z_invQI (ci := 11) (N := 97) (as := [xI 4]) (st := []) (ra := [xI 4]) hZ dX11_one_56 nX11_bad zb_1500 zb_1502 zb_42 zb_92 (zOb.lit (by decide +kernel)) rfl (by omega) (Nat.le_of_ble_eq_true rfl) (Nat.le_of_ble_eq_true rfl) rfl (fun v g hg => k v g hg)

set_option maxRecDepth 20000 in
theorem bX11_one_59 {X : zX} {dep bc bs : Nat} (v : Int) {g : zH} {Q : Nat → zH → List zV → Prop} (hv : v = 0 ∨ v = 1)
    (k1 : Q 239 g [xI v]) : zW mX11_one X dep bc bs 239 59 [(0, xR 169)] [xI v] g Q := by
  exact z_zret dX11_one_59 rfl hv (k1)

set_option maxRecDepth 20000 in
theorem bX11_one_60 {X : zX} {dep bc bs : Nat} (nn : Int) (w : Int) {g : zH} {Q : Nat → zH → List zV → Prop} (ho : 0 ≤ g 169 48 ∧ g 169 48 ≤ 60)
    (k1 : zW mX11_one X dep bc bs 239 71 [(0, xR 169), (1, xI nn), (2, xI w)] [xR 169] (zst g 169 48 ((g 169 48) + 1)) Q) : zW mX11_one X dep bc bs 239 60 [(0, xR 169), (1, xI nn), (2, xI w)] [] g Q := by
  refine z_aload_n 0 dX11_one_60 rfl ?_
  refine z_dup dX11_one_61 zt2 ?_
  refine z_getI (k := 48) (kz := 48) pk11 dX11_one_62 (by decide) zb_1172 rfl (zOb.lit (by decide +kernel)) rfl ?_
  refine z_iconst dX11_one_65 (zi32_d rfl) ?_
  refine z_iaddN dX11_one_66 (show -2147483648 ≤ (g 169 48) + 1 ∧ (g 169 48) + 1 < 2147483648 from ⟨by omega, by omega⟩).1 (show -2147483648 ≤ (g 169 48) + 1 ∧ (g 169 48) + 1 < 2147483648 from ⟨by omega, by omega⟩).2 ?_
  refine z_putI (k := 48) (kz := 48) pk11 dX11_one_67 (by decide) zb_1172 rfl (zFit_int _) (zOb.lit (by decide +kernel)) rfl ?_
  refine z_aload_n 0 dX11_one_70 rfl ?_
  exact k1

set_option maxRecDepth 20000 in
theorem rX11_one_71 {X : zX} {dep bc bs : Nat} (nn : Int) (w : Int) {g : zH} {Q : Nat → zH → List zV → Prop} {P : zH → Prop}
    (hZ : zW mX11_next_ X (dep - 1) 0 0 239 0 (zar 0 [xR 169]) [] g (zQ0 P)) (hdep : 1 ≤ dep)
    (k : ∀ g : zH, P g → zW mX11_one X dep bc bs 239 74 [(0, xR 169), (1, xI nn), (2, xI w)] [] g Q) : zW mX11_one X dep bc bs 239 71 [(0, xR 169), (1, xI nn), (2, xI w)] [xR 169] g Q :=
  z_invQ0 (ci := 11) (N := 97) (as := []) (st := []) (ra := []) hZ dX11_one_71 nX11_next_ zb_1475 zb_1477 zb_38 zb_92 (zOb.lit (by decide +kernel)) rfl (by omega) (Nat.le_of_ble_eq_true rfl) (Nat.le_of_ble_eq_true rfl) rfl (fun g hg => k g hg)

set_option maxRecDepth 20000 in
theorem bX11_one_74 {X : zX} {dep bc bs : Nat} (nn : Int) (w : Int) {g : zH} {Q : Nat → zH → List zV → Prop} (hp : 0 ≤ g 169 47 ∧ g 169 47 < 80)
    (k1 : 0 ≤ w → zW mX11_one X dep bc bs 239 111 [(0, xR 169), (2, xI w)] [] g Q)
    (k2 : ¬ (0 ≤ w) → zW mX11_one X dep bc bs 239 0 [(0, xR 169)] [] (zst (zst g 204 (g 169 47) (if nn = 0 then 23 else 20 : Int)) 169 47 ((g 169 47) + 1)) Q) : zW mX11_one X dep bc bs 239 74 [(0, xR 169), (1, xI nn), (2, xI w)] [] g Q := by
  refine z_iload_n 2 dX11_one_74 rfl ?_
  refine z_if_ge (tgt := 111) dX11_one_75 (by decide) (fun c1 => ?_) (fun c1 => ?_)
  ·
    refine zW.sub (lv' := [(0, xR 169), (2, xI w)]) [0, 2] rfl ?_
    exact k1 c1
  ·
    refine z_aload_n 0 dX11_one_78 rfl ?_
    refine z_getS (v := 204) (k := 44) (kz := 44) pk11 dX11_one_79 (by decide) zb_1168 rfl (zOb.lit (by decide +kernel)) rfl (by decide +kernel) ?_
    refine z_aload_n 0 dX11_one_82 rfl ?_
    refine z_getI (k := 47) (kz := 47) pk11 dX11_one_83 (by decide) zb_1171 rfl (zOb.lit (by decide +kernel)) rfl ?_
    refine z_iload_n 1 dX11_one_86 rfl ?_
    suffices KJ : zW mX11_one X dep bc bs 239 97 [(0, xR 169), (1, xI nn), (2, xI w)] [xI (if nn = 0 then 23 else 20 : Int), xI (g 169 47), xR 204] g Q by
      refine z_if_eq (tgt := 95) dX11_one_87 (by decide) (fun j1 => ?_) (fun j1 => ?_)
      ·
        refine z_bipush dX11_one_95 (zi32_d rfl) (by decide) ?_
        rw [if_pos j1] at KJ
        exact KJ
      ·
        refine z_bipush dX11_one_90 (zi32_d rfl) (by decide) ?_
        refine z_goto (tgt := 97) dX11_one_92 (by decide) ?_
        rw [if_neg j1] at KJ
        exact KJ
    refine z_iast dX11_one_97 (zOb.lit (by decide +kernel)) (show 0 ≤ (g 169 47) ∧ (g 169 47) < 80 from ⟨by omega, by omega⟩).1 (show 0 ≤ (g 169 47) ∧ (g 169 47) < 80 from ⟨by omega, by omega⟩).2 ?_
    refine z_aload_n 0 dX11_one_98 rfl ?_
    refine z_dup dX11_one_99 zt2 ?_
    refine z_getIV (v := (g 169 47)) (k := 47) (kz := 47) pk11 dX11_one_100 (by decide) zb_1171 rfl (zOb.lit (by decide +kernel)) rfl (zst_ne (Or.inl (by decide))) ?_
    refine z_iconst dX11_one_103 (zi32_d rfl) ?_
    refine z_iaddN dX11_one_104 (show -2147483648 ≤ (g 169 47) + 1 ∧ (g 169 47) + 1 < 2147483648 from ⟨by omega, by omega⟩).1 (show -2147483648 ≤ (g 169 47) + 1 ∧ (g 169 47) + 1 < 2147483648 from ⟨by omega, by omega⟩).2 ?_
    refine z_putI (k := 47) (kz := 47) pk11 dX11_one_105 (by decide) zb_1171 rfl (zFit_int _) (zOb.lit (by decide +kernel)) rfl ?_
    refine z_goto (tgt := 0) dX11_one_108 (by decide) ?_
    refine zW.sub (lv' := [(0, xR 169)]) [0] rfl ?_
    exact k2 c1

set_option maxRecDepth 20000 in
theorem bX11_one_111 {X : zX} {dep bc bs : Nat} (w : Int) {g : zH} {Q : Nat → zH → List zV → Prop}
    (k1 : 4 ≤ w → zW mX11_one X dep bc bs 239 126 [(0, xR 169), (2, xI w)] [] g Q)
    (k2 : ¬ (4 ≤ w) → zW mX11_one X dep bc bs 239 120 [(0, xR 169), (2, xI w)] [xI 0, xI 0, xI w, xR 169] g Q) : zW mX11_one X dep bc bs 239 111 [(0, xR 169), (2, xI w)] [] g Q := by
  refine z_iload_n 1 dX11_one_111 rfl ?_
  refine z_iconst dX11_one_112 (zi32_d rfl) ?_
  refine z_icmp_ge (tgt := 126) dX11_one_113 (by decide) (fun c1 => ?_) (fun c1 => ?_)
  ·
    exact k1 c1
  ·
    refine z_aload_n 0 dX11_one_116 rfl ?_
    refine z_iload_n 1 dX11_one_117 rfl ?_
    refine z_iconst dX11_one_118 (zi32_d rfl) ?_
    refine z_iconst dX11_one_119 (zi32_d rfl) ?_
    exact k2 c1

set_option maxRecDepth 20000 in
theorem rX11_one_120 {X : zX} {dep bc bs : Nat} (w : Int) {g : zH} {Q : Nat → zH → List zV → Prop} {P : zH → Prop}
    (hZ : zW mX11_write X (dep - 1) 0 0 239 0 (zar 0 [xR 169, xI w, xI 0, xI 0]) [] g (zQ0 P)) (hdep : 1 ≤ dep)
    (k : ∀ g : zH, P g → zW mX11_one X dep bc bs 239 123 [(0, xR 169), (2, xI w)] [] g Q) : zW mX11_one X dep bc bs 239 120 [(0, xR 169), (2, xI w)] [xI 0, xI 0, xI w, xR 169] g Q :=
  z_invQ0 (ci := 11) (N := 97) (as := [xI w, xI 0, xI 0]) (st := []) (ra := [xI 0, xI 0, xI w]) hZ dX11_one_120 nX11_write zb_1546 zb_1548 zb_50 zb_92 (zOb.lit (by decide +kernel)) rfl (by omega) (Nat.le_of_ble_eq_true rfl) (Nat.le_of_ble_eq_true rfl) rfl (fun g hg => k g hg)

set_option maxRecDepth 20000 in
theorem bX11_one_123 {X : zX} {dep bc bs : Nat} (w : Int) {g : zH} {Q : Nat → zH → List zV → Prop}
    (k1 : zW mX11_one X dep bc bs 239 196 [(0, xR 169)] [] g Q) : zW mX11_one X dep bc bs 239 123 [(0, xR 169), (2, xI w)] [] g Q := by
  refine z_goto (tgt := 196) dX11_one_123 (by decide) ?_
  refine zW.sub (lv' := [(0, xR 169)]) [0] rfl ?_
  exact k1

set_option maxRecDepth 20000 in
theorem bX11_one_126 {X : zX} {dep bc bs : Nat} (w : Int) {g : zH} {Q : Nat → zH → List zV → Prop} (hdep : 1 ≤ dep)
    (k1 : g 169 49 = 3 ∧ g 169 52 = 60 → zW mX11_one X dep bc bs 239 159 [(0, xR 169), (2, xI w)] [] g Q)
    (k2 : ¬ (g 169 49 = 3 ∧ g 169 52 = 60) → g 169 49 = 3 ∧ g 169 52 = 61 → zW mX11_one X dep bc bs 239 159 [(0, xR 169), (2, xI w)] [] g Q)
    (k3 : ¬ (g 169 49 = 3 ∧ g 169 52 = 60) → ¬ (g 169 49 = 3 ∧ g 169 52 = 61) → g 169 49 = 3 ∧ g 169 52 = 62 → zW mX11_one X dep bc bs 239 159 [(0, xR 169), (2, xI w)] [] g Q)
    (k4 : ¬ (g 169 49 = 3 ∧ g 169 52 = 60) → ¬ (g 169 49 = 3 ∧ g 169 52 = 61) → ¬ (g 169 49 = 3 ∧ g 169 52 = 62) → zW mX11_one X dep bc bs 239 153 [(0, xR 169)] [] g Q) : zW mX11_one X dep bc bs 239 126 [(0, xR 169), (2, xI w)] [] g Q := by
  refine z_aload_n 0 dX11_one_126 rfl ?_
  refine z_bipush dX11_one_127 (zi32_d rfl) (by decide) ?_
  refine z_invF (ci := 11) (N := 97) (as := [xI 60]) (st := []) (ra := [xI 60]) (dep' := dep - 1) (rs := [xI (zb (g 169 49 = 3 ∧ g 169 52 = 60))]) (h' := g) (f_X11_isSign 60 (h := g) ) dX11_one_129 nX11_isSign zb_1538 zb_1540 zb_48 zb_92 (zOb.lit (by decide +kernel)) rfl (by omega) zne_I (Nat.le_of_ble_eq_true rfl) (Nat.le_of_ble_eq_true rfl) rfl ?_
  refine z_ifB_ne (C := g 169 49 = 3 ∧ g 169 52 = 60) (tgt := 159) dX11_one_132 (by decide) (fun c1 => ?_) (fun c1 => ?_)
  ·
    exact k1 c1
  ·
    refine z_aload_n 0 dX11_one_135 rfl ?_
    refine z_bipush dX11_one_136 (zi32_d rfl) (by decide) ?_
    refine z_invF (ci := 11) (N := 97) (as := [xI 61]) (st := []) (ra := [xI 61]) (dep' := dep - 1) (rs := [xI (zb (g 169 49 = 3 ∧ g 169 52 = 61))]) (h' := g) (f_X11_isSign 61 (h := g) ) dX11_one_138 nX11_isSign zb_1538 zb_1540 zb_48 zb_92 (zOb.lit (by decide +kernel)) rfl (by omega) zne_I (Nat.le_of_ble_eq_true rfl) (Nat.le_of_ble_eq_true rfl) rfl ?_
    refine z_ifB_ne (C := g 169 49 = 3 ∧ g 169 52 = 61) (tgt := 159) dX11_one_141 (by decide) (fun c2 => ?_) (fun c2 => ?_)
    ·
      exact k2 c1 c2
    ·
      refine z_aload_n 0 dX11_one_144 rfl ?_
      refine z_bipush dX11_one_145 (zi32_d rfl) (by decide) ?_
      refine z_invF (ci := 11) (N := 97) (as := [xI 62]) (st := []) (ra := [xI 62]) (dep' := dep - 1) (rs := [xI (zb (g 169 49 = 3 ∧ g 169 52 = 62))]) (h' := g) (f_X11_isSign 62 (h := g) ) dX11_one_147 nX11_isSign zb_1538 zb_1540 zb_48 zb_92 (zOb.lit (by decide +kernel)) rfl (by omega) zne_I (Nat.le_of_ble_eq_true rfl) (Nat.le_of_ble_eq_true rfl) rfl ?_
      refine z_ifB_ne (C := g 169 49 = 3 ∧ g 169 52 = 62) (tgt := 159) dX11_one_150 (by decide) (fun c3 => ?_) (fun c3 => ?_)
      ·
        exact k3 c1 c2 c3
      ·
        refine zW.sub (lv' := [(0, xR 169)]) [0] rfl ?_
        exact k4 c1 c2 c3

set_option maxRecDepth 20000 in
theorem bX11_one_153 {X : zX} {dep bc bs : Nat} {g : zH} {Q : Nat → zH → List zV → Prop}
    (k1 : zW mX11_one X dep bc bs 239 155 [(0, xR 169)] [xI 1, xR 169] g Q) : zW mX11_one X dep bc bs 239 153 [(0, xR 169)] [] g Q := by
  refine z_aload_n 0 dX11_one_153 rfl ?_
  refine z_iconst dX11_one_154 (zi32_d rfl) ?_
  exact k1

set_option maxRecDepth 20000 in
theorem rX11_one_155 {X : zX} {dep bc bs : Nat} {g : zH} {Q : Nat → zH → List zV → Prop} {P : Int → zH → Prop}
    (hZ : zW mX11_bad X (dep - 1) 0 0 239 0 (zar 0 [xR 169, xI 1]) [] g (zQI P)) (hdep : 1 ≤ dep)
    (k : ∀ (v : Int) (g : zH), P v g → zW mX11_one X dep bc bs 239 158 [(0, xR 169)] [xI v] g Q) : zW mX11_one X dep bc bs 239 155 [(0, xR 169)] [xI 1, xR 169] g Q :=
  z_invQI (ci := 11) (N := 97) (as := [xI 1]) (st := []) (ra := [xI 1]) hZ dX11_one_155 nX11_bad zb_1500 zb_1502 zb_42 zb_92 (zOb.lit (by decide +kernel)) rfl (by omega) (Nat.le_of_ble_eq_true rfl) (Nat.le_of_ble_eq_true rfl) rfl (fun v g hg => k v g hg)

set_option maxRecDepth 20000 in
theorem bX11_one_158 {X : zX} {dep bc bs : Nat} (v : Int) {g : zH} {Q : Nat → zH → List zV → Prop} (hv : v = 0 ∨ v = 1)
    (k1 : Q 239 g [xI v]) : zW mX11_one X dep bc bs 239 158 [(0, xR 169)] [xI v] g Q := by
  exact z_zret dX11_one_158 rfl hv (k1)

set_option maxRecDepth 20000 in
theorem bX11_one_159 {X : zX} {dep bc bs : Nat} (w : Int) {g : zH} {Q : Nat → zH → List zV → Prop}
    (k1 : zW mX11_one X dep bc bs 239 164 [(0, xR 169), (2, xI w), (3, xI (g 169 52))] [] g Q) : zW mX11_one X dep bc bs 239 159 [(0, xR 169), (2, xI w)] [] g Q := by
  refine z_aload_n 0 dX11_one_159 rfl ?_
  refine z_getI (k := 52) (kz := 52) pk11 dX11_one_160 (by decide) zb_1176 rfl (zOb.lit (by decide +kernel)) rfl ?_
  refine z_istore_n (lv' := [(3, xI (g 169 52)), (0, xR 169), (2, xI w)]) dX11_one_163 (by decide) rfl ?_
  refine zW.sub (lv' := [(0, xR 169), (2, xI w), (3, xI (g 169 52))]) [1, 2, 0] rfl ?_
  exact k1

set_option maxRecDepth 20000 in
theorem bX11_one_164 {X : zX} {dep bc bs : Nat} (w : Int) (s : Int) {g : zH} {Q : Nat → zH → List zV → Prop}
    (k1 : zW mX11_one X dep bc bs 239 165 [(0, xR 169), (2, xI w), (3, xI s)] [xR 169] g Q) : zW mX11_one X dep bc bs 239 164 [(0, xR 169), (2, xI w), (3, xI s)] [] g Q := by
  refine z_aload_n 0 dX11_one_164 rfl ?_
  exact k1

set_option maxRecDepth 20000 in
theorem rX11_one_165 {X : zX} {dep bc bs : Nat} (w : Int) (s : Int) {g : zH} {Q : Nat → zH → List zV → Prop} {P : zH → Prop}
    (hZ : zW mX11_next_ X (dep - 1) 0 0 239 0 (zar 0 [xR 169]) [] g (zQ0 P)) (hdep : 1 ≤ dep)
    (k : ∀ g : zH, P g → zW mX11_one X dep bc bs 239 168 [(0, xR 169), (2, xI w), (3, xI s)] [] g Q) : zW mX11_one X dep bc bs 239 165 [(0, xR 169), (2, xI w), (3, xI s)] [xR 169] g Q :=
  z_invQ0 (ci := 11) (N := 97) (as := []) (st := []) (ra := []) hZ dX11_one_165 nX11_next_ zb_1475 zb_1477 zb_38 zb_92 (zOb.lit (by decide +kernel)) rfl (by omega) (Nat.le_of_ble_eq_true rfl) (Nat.le_of_ble_eq_true rfl) rfl (fun g hg => k g hg)

set_option maxRecDepth 20000 in
theorem bX11_one_168 {X : zX} {dep bc bs : Nat} (w : Int) (s : Int) {g : zH} {Q : Nat → zH → List zV → Prop}
    (k1 : (g 169 49) = 2 → zW mX11_one X dep bc bs 239 182 [(0, xR 169), (2, xI w), (3, xI s)] [] g Q)
    (k2 : ¬ ((g 169 49) = 2) → zW mX11_one X dep bc bs 239 176 [(0, xR 169)] [] g Q) : zW mX11_one X dep bc bs 239 168 [(0, xR 169), (2, xI w), (3, xI s)] [] g Q := by
  refine z_aload_n 0 dX11_one_168 rfl ?_
  refine z_getI (k := 49) (kz := 49) pk11 dX11_one_169 (by decide) zb_1173 rfl (zOb.lit (by decide +kernel)) rfl ?_
  refine z_iconst dX11_one_172 (zi32_d rfl) ?_
  refine z_icmp_eq (tgt := 182) dX11_one_173 (by decide) (fun c1 => ?_) (fun c1 => ?_)
  ·
    exact k1 c1
  ·
    refine zW.sub (lv' := [(0, xR 169)]) [0] rfl ?_
    exact k2 c1

set_option maxRecDepth 20000 in
theorem bX11_one_176 {X : zX} {dep bc bs : Nat} {g : zH} {Q : Nat → zH → List zV → Prop}
    (k1 : zW mX11_one X dep bc bs 239 178 [(0, xR 169)] [xI 1, xR 169] g Q) : zW mX11_one X dep bc bs 239 176 [(0, xR 169)] [] g Q := by
  refine z_aload_n 0 dX11_one_176 rfl ?_
  refine z_iconst dX11_one_177 (zi32_d rfl) ?_
  exact k1

set_option maxRecDepth 20000 in
theorem rX11_one_178 {X : zX} {dep bc bs : Nat} {g : zH} {Q : Nat → zH → List zV → Prop} {P : Int → zH → Prop}
    (hZ : zW mX11_bad X (dep - 1) 0 0 239 0 (zar 0 [xR 169, xI 1]) [] g (zQI P)) (hdep : 1 ≤ dep)
    (k : ∀ (v : Int) (g : zH), P v g → zW mX11_one X dep bc bs 239 181 [(0, xR 169)] [xI v] g Q) : zW mX11_one X dep bc bs 239 178 [(0, xR 169)] [xI 1, xR 169] g Q :=
  z_invQI (ci := 11) (N := 97) (as := [xI 1]) (st := []) (ra := [xI 1]) hZ dX11_one_178 nX11_bad zb_1500 zb_1502 zb_42 zb_92 (zOb.lit (by decide +kernel)) rfl (by omega) (Nat.le_of_ble_eq_true rfl) (Nat.le_of_ble_eq_true rfl) rfl (fun v g hg => k v g hg)

set_option maxRecDepth 20000 in
theorem bX11_one_181 {X : zX} {dep bc bs : Nat} (v : Int) {g : zH} {Q : Nat → zH → List zV → Prop} (hv : v = 0 ∨ v = 1)
    (k1 : Q 239 g [xI v]) : zW mX11_one X dep bc bs 239 181 [(0, xR 169)] [xI v] g Q := by
  exact z_zret dX11_one_181 rfl hv (k1)

set_option maxRecDepth 20000 in
theorem bX11_one_182 {X : zX} {dep bc bs : Nat} (w : Int) (s : Int) {g : zH} {Q : Nat → zH → List zV → Prop}
    (k1 : zW mX11_one X dep bc bs 239 189 [(0, xR 169), (2, xI w), (3, xI s)] [xI (g 169 52), xI s, xI w, xR 169] g Q) : zW mX11_one X dep bc bs 239 182 [(0, xR 169), (2, xI w), (3, xI s)] [] g Q := by
  refine z_aload_n 0 dX11_one_182 rfl ?_
  refine z_iload_n 1 dX11_one_183 rfl ?_
  refine z_iload_n 2 dX11_one_184 rfl ?_
  refine z_aload_n 0 dX11_one_185 rfl ?_
  refine z_getI (k := 52) (kz := 52) pk11 dX11_one_186 (by decide) zb_1176 rfl (zOb.lit (by decide +kernel)) rfl ?_
  exact k1

set_option maxRecDepth 20000 in
theorem rX11_one_189 {X : zX} {dep bc bs : Nat} (w : Int) (s : Int) (m : Int) {g : zH} {Q : Nat → zH → List zV → Prop} {P : zH → Prop}
    (hZ : zW mX11_write X (dep - 1) 0 0 239 0 (zar 0 [xR 169, xI w, xI s, xI m]) [] g (zQ0 P)) (hdep : 1 ≤ dep)
    (k : ∀ g : zH, P g → zW mX11_one X dep bc bs 239 192 [(0, xR 169), (2, xI w), (3, xI s)] [] g Q) : zW mX11_one X dep bc bs 239 189 [(0, xR 169), (2, xI w), (3, xI s)] [xI m, xI s, xI w, xR 169] g Q :=
  z_invQ0 (ci := 11) (N := 97) (as := [xI w, xI s, xI m]) (st := []) (ra := [xI m, xI s, xI w]) hZ dX11_one_189 nX11_write zb_1546 zb_1548 zb_50 zb_92 (zOb.lit (by decide +kernel)) rfl (by omega) (Nat.le_of_ble_eq_true rfl) (Nat.le_of_ble_eq_true rfl) rfl (fun g hg => k g hg)

set_option maxRecDepth 20000 in
theorem bX11_one_192 {X : zX} {dep bc bs : Nat} (w : Int) (s : Int) {g : zH} {Q : Nat → zH → List zV → Prop}
    (k1 : zW mX11_one X dep bc bs 239 193 [(0, xR 169)] [xR 169] g Q) : zW mX11_one X dep bc bs 239 192 [(0, xR 169), (2, xI w), (3, xI s)] [] g Q := by
  refine z_aload_n 0 dX11_one_192 rfl ?_
  refine zW.sub (lv' := [(0, xR 169)]) [0] rfl ?_
  exact k1

set_option maxRecDepth 20000 in
theorem rX11_one_193 {X : zX} {dep bc bs : Nat} {g : zH} {Q : Nat → zH → List zV → Prop} {P : zH → Prop}
    (hZ : zW mX11_next_ X (dep - 1) 0 0 239 0 (zar 0 [xR 169]) [] g (zQ0 P)) (hdep : 1 ≤ dep)
    (k : ∀ g : zH, P g → zW mX11_one X dep bc bs 239 196 [(0, xR 169)] [] g Q) : zW mX11_one X dep bc bs 239 193 [(0, xR 169)] [xR 169] g Q :=
  z_invQ0 (ci := 11) (N := 97) (as := []) (st := []) (ra := []) hZ dX11_one_193 nX11_next_ zb_1475 zb_1477 zb_38 zb_92 (zOb.lit (by decide +kernel)) rfl (by omega) (Nat.le_of_ble_eq_true rfl) (Nat.le_of_ble_eq_true rfl) rfl (fun g hg => k g hg)

set_option maxRecDepth 20000 in
theorem bX11_one_196 {X : zX} {dep bc bs : Nat} {g : zH} {Q : Nat → zH → List zV → Prop}
    (k1 : zW mX11_one X dep bc bs 239 198 [(0, xR 169)] [xI 3, xR 169] g Q) : zW mX11_one X dep bc bs 239 196 [(0, xR 169)] [] g Q := by
  refine z_aload_n 0 dX11_one_196 rfl ?_
  refine z_iconst dX11_one_197 (zi32_d rfl) ?_
  exact k1

set_option maxRecDepth 20000 in
theorem rX11_one_198 {X : zX} {dep bc bs : Nat} {g : zH} {Q : Nat → zH → List zV → Prop} {P : zH → Prop}
    (hZ : zW mX11_writeDown X (dep - 1) 0 0 239 0 (zar 0 [xR 169, xI 3]) [] g (zQ0 P)) (hdep : 1 ≤ dep)
    (k : ∀ g : zH, P g → zW mX11_one X dep bc bs 239 201 [(0, xR 169)] [] g Q) : zW mX11_one X dep bc bs 239 198 [(0, xR 169)] [xI 3, xR 169] g Q :=
  z_invQ0 (ci := 11) (N := 97) (as := [xI 3]) (st := []) (ra := [xI 3]) hZ dX11_one_198 nX11_writeDown zb_1550 zb_1552 zb_51 zb_92 (zOb.lit (by decide +kernel)) rfl (by omega) (Nat.le_of_ble_eq_true rfl) (Nat.le_of_ble_eq_true rfl) rfl (fun g hg => k g hg)

set_option maxRecDepth 20000 in
theorem bX11_one_201 {X : zX} {dep bc bs : Nat} {g : zH} {Q : Nat → zH → List zV → Prop}
    (k1 : Q 239 g [xI 1]) : zW mX11_one X dep bc bs 239 201 [(0, xR 169)] [] g Q := by
  refine z_iconst dX11_one_201 (zi32_d rfl) ?_
  exact z_zret dX11_one_202 rfl (Or.inr rfl) (k1)

set_option maxRecDepth 20000 in
theorem bX11_cond_0 {X : zX} {dep bc bs : Nat} {g : zH} {Q : Nat → zH → List zV → Prop}
    (k1 : zW mX11_cond X dep bc bs 239 5 [(0, xR 169)] [] (zst g 169 47 0) Q) : zW mX11_cond X dep bc bs 239 0 [(0, xR 169)] [] g Q := by
  refine z_aload_n 0 dX11_cond_0 rfl ?_
  refine z_iconst dX11_cond_1 (zi32_d rfl) ?_
  refine z_putI (k := 47) (kz := 47) pk11 dX11_cond_2 (by decide) zb_1171 rfl (zFit_int _) (zOb.lit (by decide +kernel)) rfl ?_
  exact k1

set_option maxRecDepth 20000 in
theorem bX11_cond_5 {X : zX} {dep bc bs : Nat} {g : zH} {Q : Nat → zH → List zV → Prop}
    (k1 : zW mX11_cond X dep bc bs 239 6 [(0, xR 169)] [xR 169] g Q) : zW mX11_cond X dep bc bs 239 5 [(0, xR 169)] [] g Q := by
  refine z_aload_n 0 dX11_cond_5 rfl ?_
  exact k1

set_option maxRecDepth 20000 in
theorem rX11_cond_6 {X : zX} {dep bc bs : Nat} {g : zH} {Q : Nat → zH → List zV → Prop} {P : Int → zH → Prop}
    (hZ : zW mX11_one X (dep - 1) 0 0 239 0 (zar 0 [xR 169]) [] g (zQI P)) (hdep : 1 ≤ dep)
    (k : ∀ (v : Int) (g : zH), P v g → zW mX11_cond X dep bc bs 239 9 [(0, xR 169)] [xI v] g Q) : zW mX11_cond X dep bc bs 239 6 [(0, xR 169)] [xR 169] g Q :=
  z_invQI (ci := 11) (N := 97) (as := []) (st := []) (ra := []) hZ dX11_cond_6 nX11_one zb_1519 zb_1521 zb_46 zb_92 (zOb.lit (by decide +kernel)) rfl (by omega) (Nat.le_of_ble_eq_true rfl) (Nat.le_of_ble_eq_true rfl) rfl (fun v g hg => k v g hg)

set_option maxRecDepth 20000 in
theorem bX11_cond_9 {X : zX} {dep bc bs : Nat} (v : Int) {g : zH} {Q : Nat → zH → List zV → Prop}
    (k1 : ¬ v = 0 → zW mX11_cond X dep bc bs 239 14 [(0, xR 169)] [] g Q)
    (k2 : v = 0 → Q 239 g [xI 0]) : zW mX11_cond X dep bc bs 239 9 [(0, xR 169)] [xI v] g Q := by
  refine z_if_ne (tgt := 14) dX11_cond_9 (by decide) (fun c1 => ?_) (fun c1 => ?_)
  ·
    exact k1 c1
  ·
    refine z_iconst dX11_cond_12 (zi32_d rfl) ?_
    exact z_zret dX11_cond_13 rfl (Or.inl rfl) (k2 c1)

set_option maxRecDepth 20000 in
theorem bX11_cond_14 {X : zX} {dep bc bs : Nat} {g : zH} {Q : Nat → zH → List zV → Prop} (hdep : 1 ≤ dep)
    (k1 : ¬ (g 169 49 = 3 ∧ g 169 52 = 41) → zW mX11_cond X dep bc bs 239 57 [(0, xR 169)] [] g Q)
    (k2 : g 169 49 = 3 ∧ g 169 52 = 41 → zW mX11_cond X dep bc bs 239 24 [(0, xR 169)] [xR 169] g Q) : zW mX11_cond X dep bc bs 239 14 [(0, xR 169)] [] g Q := by
  refine z_aload_n 0 dX11_cond_14 rfl ?_
  refine z_bipush dX11_cond_15 (zi32_d rfl) (by decide) ?_
  refine z_invF (ci := 11) (N := 97) (as := [xI 41]) (st := []) (ra := [xI 41]) (dep' := dep - 1) (rs := [xI (zb (g 169 49 = 3 ∧ g 169 52 = 41))]) (h' := g) (f_X11_isSign 41 (h := g) ) dX11_cond_17 nX11_isSign zb_1538 zb_1540 zb_48 zb_92 (zOb.lit (by decide +kernel)) rfl (by omega) zne_I (Nat.le_of_ble_eq_true rfl) (Nat.le_of_ble_eq_true rfl) rfl ?_
  refine z_ifB_eq (C := g 169 49 = 3 ∧ g 169 52 = 41) (tgt := 57) dX11_cond_20 (by decide) (fun c1 => ?_) (fun c1 => ?_)
  ·
    exact k1 c1
  ·
    refine z_aload_n 0 dX11_cond_23 rfl ?_
    exact k2 c1

set_option maxRecDepth 20000 in
theorem rX11_cond_24 {X : zX} {dep bc bs : Nat} {g : zH} {Q : Nat → zH → List zV → Prop} {P : Int → zH → Prop}
    (hZ : zW mX11_isOpen X (dep - 1) 0 0 239 0 (zar 0 [xR 169]) [] g (zQI P)) (hdep : 1 ≤ dep)
    (k : ∀ (v : Int) (g : zH), P v g → zW mX11_cond X dep bc bs 239 27 [(0, xR 169)] [xI v] g Q) : zW mX11_cond X dep bc bs 239 24 [(0, xR 169)] [xR 169] g Q :=
  z_invQI (ci := 11) (N := 97) (as := []) (st := []) (ra := []) hZ dX11_cond_24 nX11_isOpen zb_1557 zb_1559 zb_52 zb_92 (zOb.lit (by decide +kernel)) rfl (by omega) (Nat.le_of_ble_eq_true rfl) (Nat.le_of_ble_eq_true rfl) rfl (fun v g hg => k v g hg)

set_option maxRecDepth 20000 in
theorem bX11_cond_27 {X : zX} {dep bc bs : Nat} (v : Int) {g : zH} {Q : Nat → zH → List zV → Prop}
    (k1 : v = 0 → zW mX11_cond X dep bc bs 239 57 [(0, xR 169)] [] g Q)
    (k2 : ¬ (v = 0) → zW mX11_cond X dep bc bs 239 32 [(0, xR 169)] [xI 1, xR 169] g Q) : zW mX11_cond X dep bc bs 239 27 [(0, xR 169)] [xI v] g Q := by
  refine z_if_eq (tgt := 57) dX11_cond_27 (by decide) (fun c1 => ?_) (fun c1 => ?_)
  ·
    exact k1 c1
  ·
    refine z_aload_n 0 dX11_cond_30 rfl ?_
    refine z_iconst dX11_cond_31 (zi32_d rfl) ?_
    exact k2 c1

set_option maxRecDepth 20000 in
theorem rX11_cond_32 {X : zX} {dep bc bs : Nat} {g : zH} {Q : Nat → zH → List zV → Prop} {P : zH → Prop}
    (hZ : zW mX11_writeDown X (dep - 1) 0 0 239 0 (zar 0 [xR 169, xI 1]) [] g (zQ0 P)) (hdep : 1 ≤ dep)
    (k : ∀ g : zH, P g → zW mX11_cond X dep bc bs 239 35 [(0, xR 169)] [] g Q) : zW mX11_cond X dep bc bs 239 32 [(0, xR 169)] [xI 1, xR 169] g Q :=
  z_invQ0 (ci := 11) (N := 97) (as := [xI 1]) (st := []) (ra := [xI 1]) hZ dX11_cond_32 nX11_writeDown zb_1550 zb_1552 zb_51 zb_92 (zOb.lit (by decide +kernel)) rfl (by omega) (Nat.le_of_ble_eq_true rfl) (Nat.le_of_ble_eq_true rfl) rfl (fun g hg => k g hg)

set_option maxRecDepth 20000 in
theorem bX11_cond_35 {X : zX} {dep bc bs : Nat} {g : zH} {Q : Nat → zH → List zV → Prop} (hp : 1 ≤ g 169 47 ∧ g 169 47 ≤ 80)
    (k1 : zW mX11_cond X dep bc bs 239 47 [(0, xR 169)] [xI 3, xR 169] (zst g 169 47 ((g 169 47) - 1)) Q) : zW mX11_cond X dep bc bs 239 35 [(0, xR 169)] [] g Q := by
  refine z_aload_n 0 dX11_cond_35 rfl ?_
  refine z_dup dX11_cond_36 zt2 ?_
  refine z_getI (k := 47) (kz := 47) pk11 dX11_cond_37 (by decide) zb_1171 rfl (zOb.lit (by decide +kernel)) rfl ?_
  refine z_iconst dX11_cond_40 (zi32_d rfl) ?_
  refine z_isubN dX11_cond_41 (show -2147483648 ≤ (g 169 47) - 1 ∧ (g 169 47) - 1 < 2147483648 from ⟨by omega, by omega⟩).1 (show -2147483648 ≤ (g 169 47) - 1 ∧ (g 169 47) - 1 < 2147483648 from ⟨by omega, by omega⟩).2 ?_
  refine z_putI (k := 47) (kz := 47) pk11 dX11_cond_42 (by decide) zb_1171 rfl (zFit_int _) (zOb.lit (by decide +kernel)) rfl ?_
  refine z_aload_n 0 dX11_cond_45 rfl ?_
  refine z_iconst dX11_cond_46 (zi32_d rfl) ?_
  exact k1

set_option maxRecDepth 20000 in
theorem rX11_cond_47 {X : zX} {dep bc bs : Nat} {g : zH} {Q : Nat → zH → List zV → Prop} {P : zH → Prop}
    (hZ : zW mX11_writeDown X (dep - 1) 0 0 239 0 (zar 0 [xR 169, xI 3]) [] g (zQ0 P)) (hdep : 1 ≤ dep)
    (k : ∀ g : zH, P g → zW mX11_cond X dep bc bs 239 50 [(0, xR 169)] [] g Q) : zW mX11_cond X dep bc bs 239 47 [(0, xR 169)] [xI 3, xR 169] g Q :=
  z_invQ0 (ci := 11) (N := 97) (as := [xI 3]) (st := []) (ra := [xI 3]) hZ dX11_cond_47 nX11_writeDown zb_1550 zb_1552 zb_51 zb_92 (zOb.lit (by decide +kernel)) rfl (by omega) (Nat.le_of_ble_eq_true rfl) (Nat.le_of_ble_eq_true rfl) rfl (fun g hg => k g hg)

set_option maxRecDepth 20000 in
theorem bX11_cond_50 {X : zX} {dep bc bs : Nat} {g : zH} {Q : Nat → zH → List zV → Prop}
    (k1 : zW mX11_cond X dep bc bs 239 51 [(0, xR 169)] [xR 169] g Q) : zW mX11_cond X dep bc bs 239 50 [(0, xR 169)] [] g Q := by
  refine z_aload_n 0 dX11_cond_50 rfl ?_
  exact k1

set_option maxRecDepth 20000 in
theorem rX11_cond_51 {X : zX} {dep bc bs : Nat} {g : zH} {Q : Nat → zH → List zV → Prop} {P : zH → Prop}
    (hZ : zW mX11_next_ X (dep - 1) 0 0 239 0 (zar 0 [xR 169]) [] g (zQ0 P)) (hdep : 1 ≤ dep)
    (k : ∀ g : zH, P g → zW mX11_cond X dep bc bs 239 54 [(0, xR 169)] [] g Q) : zW mX11_cond X dep bc bs 239 51 [(0, xR 169)] [xR 169] g Q :=
  z_invQ0 (ci := 11) (N := 97) (as := []) (st := []) (ra := []) hZ dX11_cond_51 nX11_next_ zb_1475 zb_1477 zb_38 zb_92 (zOb.lit (by decide +kernel)) rfl (by omega) (Nat.le_of_ble_eq_true rfl) (Nat.le_of_ble_eq_true rfl) rfl (fun g hg => k g hg)

set_option maxRecDepth 20000 in
theorem bX11_cond_54 {X : zX} {dep bc bs : Nat} {g : zH} {Q : Nat → zH → List zV → Prop}
    (k1 : zW mX11_cond X dep bc bs 239 14 [(0, xR 169)] [] g Q) : zW mX11_cond X dep bc bs 239 54 [(0, xR 169)] [] g Q := by
  refine z_goto (tgt := 14) dX11_cond_54 (by decide) ?_
  exact k1

set_option maxRecDepth 20000 in
theorem bX11_cond_57 {X : zX} {dep bc bs : Nat} {g : zH} {Q : Nat → zH → List zV → Prop} (hdep : 1 ≤ dep)
    (k1 : ¬ (zb (g 169 49 = 1 ∧ g 169 56 = 6385252)) = 0 → zW mX11_cond X dep bc bs 239 99 [(0, xR 169), (1, xI (zb (g 169 49 = 1 ∧ g 169 56 = 6385252)))] [] g Q)
    (k2 : (zb (g 169 49 = 1 ∧ g 169 56 = 6385252)) = 0 → g 169 49 = 1 ∧ g 169 56 = 28530 → zW mX11_cond X dep bc bs 239 99 [(0, xR 169), (1, xI (zb (g 169 49 = 1 ∧ g 169 56 = 6385252)))] [] g Q)
    (k3 : (zb (g 169 49 = 1 ∧ g 169 56 = 6385252)) = 0 → ¬ (g 169 49 = 1 ∧ g 169 56 = 28530) → zW mX11_cond X dep bc bs 239 79 [(0, xR 169)] [] g Q) : zW mX11_cond X dep bc bs 239 57 [(0, xR 169)] [] g Q := by
  refine z_aload_n 0 dX11_cond_57 rfl ?_
  refine z_ldc2c (v := 6385252) ⟨by decide, by decide⟩ dX11_cond_58 zb_1561 (by decide) ?_
  refine z_invF (ci := 11) (N := 97) (as := [xL 6385252]) (st := []) (ra := [xL 6385252]) (dep' := dep - 1) (rs := [xI (zb (g 169 49 = 1 ∧ g 169 56 = 6385252))]) (h' := g) (f_X11_isWord 6385252 (h := g) ) dX11_cond_61 nX11_isWord zb_1491 zb_1493 zb_41 zb_92 (zOb.lit (by decide +kernel)) rfl (by omega) zne_I (Nat.le_of_ble_eq_true rfl) (Nat.le_of_ble_eq_true rfl) rfl ?_
  refine z_istore_n (lv' := [(1, xI (zb (g 169 49 = 1 ∧ g 169 56 = 6385252))), (0, xR 169)]) dX11_cond_64 (by decide) rfl ?_
  refine z_iload_n 0 dX11_cond_65 rfl ?_
  refine z_if_ne (tgt := 99) dX11_cond_66 (by decide) (fun c1 => ?_) (fun c1 => ?_)
  ·
    refine zW.sub (lv' := [(0, xR 169), (1, xI (zb (g 169 49 = 1 ∧ g 169 56 = 6385252)))]) [1, 0] rfl ?_
    exact k1 c1
  ·
    refine z_aload_n 1 dX11_cond_69 rfl ?_
    refine z_ldc2c (v := 28530) ⟨by decide, by decide⟩ dX11_cond_70 zb_1562 (by decide) ?_
    refine z_invF (ci := 11) (N := 97) (as := [xL 28530]) (st := []) (ra := [xL 28530]) (dep' := dep - 1) (rs := [xI (zb (g 169 49 = 1 ∧ g 169 56 = 28530))]) (h' := g) (f_X11_isWord 28530 (h := g) ) dX11_cond_73 nX11_isWord zb_1491 zb_1493 zb_41 zb_92 (zOb.lit (by decide +kernel)) rfl (by omega) zne_I (Nat.le_of_ble_eq_true rfl) (Nat.le_of_ble_eq_true rfl) rfl ?_
    refine z_ifB_ne (C := g 169 49 = 1 ∧ g 169 56 = 28530) (tgt := 99) dX11_cond_76 (by decide) (fun c2 => ?_) (fun c2 => ?_)
    ·
      refine zW.sub (lv' := [(0, xR 169), (1, xI (zb (g 169 49 = 1 ∧ g 169 56 = 6385252)))]) [1, 0] rfl ?_
      exact k2 c1 c2
    ·
      refine zW.sub (lv' := [(0, xR 169)]) [1] rfl ?_
      exact k3 c1 c2

set_option maxRecDepth 20000 in
theorem bX11_cond_79 {X : zX} {dep bc bs : Nat} {g : zH} {Q : Nat → zH → List zV → Prop}
    (k1 : zW mX11_cond X dep bc bs 239 80 [(0, xR 169)] [xR 169] g Q) : zW mX11_cond X dep bc bs 239 79 [(0, xR 169)] [] g Q := by
  refine z_aload_n 0 dX11_cond_79 rfl ?_
  exact k1

set_option maxRecDepth 20000 in
theorem rX11_cond_80 {X : zX} {dep bc bs : Nat} {g : zH} {Q : Nat → zH → List zV → Prop} {P : Int → zH → Prop}
    (hZ : zW mX11_isOpen X (dep - 1) 0 0 239 0 (zar 0 [xR 169]) [] g (zQI P)) (hdep : 1 ≤ dep)
    (k : ∀ (v : Int) (g : zH), P v g → zW mX11_cond X dep bc bs 239 83 [(0, xR 169)] [xI v] g Q) : zW mX11_cond X dep bc bs 239 80 [(0, xR 169)] [xR 169] g Q :=
  z_invQI (ci := 11) (N := 97) (as := []) (st := []) (ra := []) hZ dX11_cond_80 nX11_isOpen zb_1557 zb_1559 zb_52 zb_92 (zOb.lit (by decide +kernel)) rfl (by omega) (Nat.le_of_ble_eq_true rfl) (Nat.le_of_ble_eq_true rfl) rfl (fun v g hg => k v g hg)

set_option maxRecDepth 20000 in
theorem bX11_cond_83 {X : zX} {dep bc bs : Nat} (v : Int) {g : zH} {Q : Nat → zH → List zV → Prop}
    (k1 : v = 0 → zW mX11_cond X dep bc bs 239 92 [(0, xR 169)] [] g Q)
    (k2 : ¬ (v = 0) → zW mX11_cond X dep bc bs 239 86 [(0, xR 169)] [] g Q) : zW mX11_cond X dep bc bs 239 83 [(0, xR 169)] [xI v] g Q := by
  refine z_if_eq (tgt := 92) dX11_cond_83 (by decide) (fun c1 => ?_) (fun c1 => ?_)
  ·
    exact k1 c1
  ·
    exact k2 c1

set_option maxRecDepth 20000 in
theorem bX11_cond_86 {X : zX} {dep bc bs : Nat} {g : zH} {Q : Nat → zH → List zV → Prop}
    (k1 : zW mX11_cond X dep bc bs 239 88 [(0, xR 169)] [xI 1, xR 169] g Q) : zW mX11_cond X dep bc bs 239 86 [(0, xR 169)] [] g Q := by
  refine z_aload_n 0 dX11_cond_86 rfl ?_
  refine z_iconst dX11_cond_87 (zi32_d rfl) ?_
  exact k1

set_option maxRecDepth 20000 in
theorem rX11_cond_88 {X : zX} {dep bc bs : Nat} {g : zH} {Q : Nat → zH → List zV → Prop} {P : Int → zH → Prop}
    (hZ : zW mX11_bad X (dep - 1) 0 0 239 0 (zar 0 [xR 169, xI 1]) [] g (zQI P)) (hdep : 1 ≤ dep)
    (k : ∀ (v : Int) (g : zH), P v g → zW mX11_cond X dep bc bs 239 91 [(0, xR 169)] [xI v] g Q) : zW mX11_cond X dep bc bs 239 88 [(0, xR 169)] [xI 1, xR 169] g Q :=
  z_invQI (ci := 11) (N := 97) (as := [xI 1]) (st := []) (ra := [xI 1]) hZ dX11_cond_88 nX11_bad zb_1500 zb_1502 zb_42 zb_92 (zOb.lit (by decide +kernel)) rfl (by omega) (Nat.le_of_ble_eq_true rfl) (Nat.le_of_ble_eq_true rfl) rfl (fun v g hg => k v g hg)

set_option maxRecDepth 20000 in
theorem bX11_cond_91 {X : zX} {dep bc bs : Nat} (v : Int) {g : zH} {Q : Nat → zH → List zV → Prop} (hv : v = 0 ∨ v = 1)
    (k1 : Q 239 g [xI v]) : zW mX11_cond X dep bc bs 239 91 [(0, xR 169)] [xI v] g Q := by
  exact z_zret dX11_cond_91 rfl hv (k1)

set_option maxRecDepth 20000 in
theorem bX11_cond_92 {X : zX} {dep bc bs : Nat} {g : zH} {Q : Nat → zH → List zV → Prop}
    (k1 : zW mX11_cond X dep bc bs 239 94 [(0, xR 169)] [xI 1, xR 169] g Q) : zW mX11_cond X dep bc bs 239 92 [(0, xR 169)] [] g Q := by
  refine z_aload_n 0 dX11_cond_92 rfl ?_
  refine z_iconst dX11_cond_93 (zi32_d rfl) ?_
  exact k1

set_option maxRecDepth 20000 in
theorem rX11_cond_94 {X : zX} {dep bc bs : Nat} {g : zH} {Q : Nat → zH → List zV → Prop} {P : zH → Prop}
    (hZ : zW mX11_writeDown X (dep - 1) 0 0 239 0 (zar 0 [xR 169, xI 1]) [] g (zQ0 P)) (hdep : 1 ≤ dep)
    (k : ∀ g : zH, P g → zW mX11_cond X dep bc bs 239 97 [(0, xR 169)] [] g Q) : zW mX11_cond X dep bc bs 239 94 [(0, xR 169)] [xI 1, xR 169] g Q :=
  z_invQ0 (ci := 11) (N := 97) (as := [xI 1]) (st := []) (ra := [xI 1]) hZ dX11_cond_94 nX11_writeDown zb_1550 zb_1552 zb_51 zb_92 (zOb.lit (by decide +kernel)) rfl (by omega) (Nat.le_of_ble_eq_true rfl) (Nat.le_of_ble_eq_true rfl) rfl (fun g hg => k g hg)

set_option maxRecDepth 20000 in
theorem bX11_cond_97 {X : zX} {dep bc bs : Nat} {g : zH} {Q : Nat → zH → List zV → Prop}
    (k1 : Q 239 g [xI 1]) : zW mX11_cond X dep bc bs 239 97 [(0, xR 169)] [] g Q := by
  refine z_iconst dX11_cond_97 (zi32_d rfl) ?_
  exact z_zret dX11_cond_98 rfl (Or.inr rfl) (k1)

set_option maxRecDepth 20000 in
theorem bX11_cond_99 {X : zX} {dep bc bs : Nat} (nn : Int) {g : zH} {Q : Nat → zH → List zV → Prop}
    (k1 : zW mX11_cond X dep bc bs 239 109 [(0, xR 169), (1, xI nn)] [xI (if nn = 0 then 1 else 2 : Int), xR 169] g Q) : zW mX11_cond X dep bc bs 239 99 [(0, xR 169), (1, xI nn)] [] g Q := by
  refine z_aload_n 0 dX11_cond_99 rfl ?_
  refine z_iload_n 1 dX11_cond_100 rfl ?_
  suffices KJ : zW mX11_cond X dep bc bs 239 109 [(0, xR 169), (1, xI nn)] [xI (if nn = 0 then 1 else 2 : Int), xR 169] g Q by
    refine z_if_eq (tgt := 108) dX11_cond_101 (by decide) (fun j1 => ?_) (fun j1 => ?_)
    ·
      refine z_iconst dX11_cond_108 (zi32_d rfl) ?_
      rw [if_pos j1] at KJ
      exact KJ
    ·
      refine z_iconst dX11_cond_104 (zi32_d rfl) ?_
      refine z_goto (tgt := 109) dX11_cond_105 (by decide) ?_
      rw [if_neg j1] at KJ
      exact KJ
  exact k1

set_option maxRecDepth 20000 in
theorem rX11_cond_109 {X : zX} {dep bc bs : Nat} (nn : Int) (z : Int) {g : zH} {Q : Nat → zH → List zV → Prop} {P : zH → Prop}
    (hZ : zW mX11_writeDown X (dep - 1) 0 0 239 0 (zar 0 [xR 169, xI z]) [] g (zQ0 P)) (hdep : 1 ≤ dep)
    (k : ∀ g : zH, P g → zW mX11_cond X dep bc bs 239 112 [(0, xR 169), (1, xI nn)] [] g Q) : zW mX11_cond X dep bc bs 239 109 [(0, xR 169), (1, xI nn)] [xI z, xR 169] g Q :=
  z_invQ0 (ci := 11) (N := 97) (as := [xI z]) (st := []) (ra := [xI z]) hZ dX11_cond_109 nX11_writeDown zb_1550 zb_1552 zb_51 zb_92 (zOb.lit (by decide +kernel)) rfl (by omega) (Nat.le_of_ble_eq_true rfl) (Nat.le_of_ble_eq_true rfl) rfl (fun g hg => k g hg)

set_option maxRecDepth 20000 in
theorem bX11_cond_112 {X : zX} {dep bc bs : Nat} (nn : Int) {g : zH} {Q : Nat → zH → List zV → Prop} (hp : 0 ≤ g 169 47 ∧ g 169 47 < 80)
    (k1 : zW mX11_cond X dep bc bs 239 143 [(0, xR 169)] [xR 169] (zst (zst g 204 (g 169 47) (if nn = 0 then 22 else 21 : Int)) 169 47 ((g 169 47) + 1)) Q) : zW mX11_cond X dep bc bs 239 112 [(0, xR 169), (1, xI nn)] [] g Q := by
  refine z_aload_n 0 dX11_cond_112 rfl ?_
  refine z_getS (v := 204) (k := 44) (kz := 44) pk11 dX11_cond_113 (by decide) zb_1168 rfl (zOb.lit (by decide +kernel)) rfl (by decide +kernel) ?_
  refine z_aload_n 0 dX11_cond_116 rfl ?_
  refine z_getI (k := 47) (kz := 47) pk11 dX11_cond_117 (by decide) zb_1171 rfl (zOb.lit (by decide +kernel)) rfl ?_
  refine z_iload_n 1 dX11_cond_120 rfl ?_
  suffices KJ : zW mX11_cond X dep bc bs 239 131 [(0, xR 169), (1, xI nn)] [xI (if nn = 0 then 22 else 21 : Int), xI (g 169 47), xR 204] g Q by
    refine z_if_eq (tgt := 129) dX11_cond_121 (by decide) (fun j1 => ?_) (fun j1 => ?_)
    ·
      refine z_bipush dX11_cond_129 (zi32_d rfl) (by decide) ?_
      rw [if_pos j1] at KJ
      exact KJ
    ·
      refine z_bipush dX11_cond_124 (zi32_d rfl) (by decide) ?_
      refine z_goto (tgt := 131) dX11_cond_126 (by decide) ?_
      rw [if_neg j1] at KJ
      exact KJ
  refine z_iast dX11_cond_131 (zOb.lit (by decide +kernel)) (show 0 ≤ (g 169 47) ∧ (g 169 47) < 80 from ⟨by omega, by omega⟩).1 (show 0 ≤ (g 169 47) ∧ (g 169 47) < 80 from ⟨by omega, by omega⟩).2 ?_
  refine z_aload_n 0 dX11_cond_132 rfl ?_
  refine z_dup dX11_cond_133 zt2 ?_
  refine z_getIV (v := (g 169 47)) (k := 47) (kz := 47) pk11 dX11_cond_134 (by decide) zb_1171 rfl (zOb.lit (by decide +kernel)) rfl (zst_ne (Or.inl (by decide))) ?_
  refine z_iconst dX11_cond_137 (zi32_d rfl) ?_
  refine z_iaddN dX11_cond_138 (show -2147483648 ≤ (g 169 47) + 1 ∧ (g 169 47) + 1 < 2147483648 from ⟨by omega, by omega⟩).1 (show -2147483648 ≤ (g 169 47) + 1 ∧ (g 169 47) + 1 < 2147483648 from ⟨by omega, by omega⟩).2 ?_
  refine z_putI (k := 47) (kz := 47) pk11 dX11_cond_139 (by decide) zb_1171 rfl (zFit_int _) (zOb.lit (by decide +kernel)) rfl ?_
  refine z_aload_n 0 dX11_cond_142 rfl ?_
  refine zW.sub (lv' := [(0, xR 169)]) [0] rfl ?_
  exact k1

set_option maxRecDepth 20000 in
theorem rX11_cond_143 {X : zX} {dep bc bs : Nat} {g : zH} {Q : Nat → zH → List zV → Prop} {P : zH → Prop}
    (hZ : zW mX11_next_ X (dep - 1) 0 0 239 0 (zar 0 [xR 169]) [] g (zQ0 P)) (hdep : 1 ≤ dep)
    (k : ∀ g : zH, P g → zW mX11_cond X dep bc bs 239 146 [(0, xR 169)] [] g Q) : zW mX11_cond X dep bc bs 239 143 [(0, xR 169)] [xR 169] g Q :=
  z_invQ0 (ci := 11) (N := 97) (as := []) (st := []) (ra := []) hZ dX11_cond_143 nX11_next_ zb_1475 zb_1477 zb_38 zb_92 (zOb.lit (by decide +kernel)) rfl (by omega) (Nat.le_of_ble_eq_true rfl) (Nat.le_of_ble_eq_true rfl) rfl (fun g hg => k g hg)

set_option maxRecDepth 20000 in
theorem bX11_cond_146 {X : zX} {dep bc bs : Nat} {g : zH} {Q : Nat → zH → List zV → Prop}
    (k1 : zW mX11_cond X dep bc bs 239 5 [(0, xR 169)] [] g Q) : zW mX11_cond X dep bc bs 239 146 [(0, xR 169)] [] g Q := by
  refine z_goto (tgt := 5) dX11_cond_146 (by decide) ?_
  exact k1
