/-! the model: what a man is asked -/
/-- what the model keeps of facts and examinations names men -/
def mFaOK (h : zH) : Prop := (0 ≤ h 169 27 ∧ h 169 27 ≤ 240) ∧ ∀ k : Int, 0 ≤ k → k < h 169 27 → (0 ≤ h 177 k ∧ h 177 k < h 169 25) ∧ 0 ≤ h 178 k ∧ h 178 k < 6
def mExOK (h : zH) : Prop := (0 ≤ h 169 28 ∧ h 169 28 ≤ 60) ∧ ∀ k : Int, 0 ≤ k → k < h 169 28 → 0 ≤ h 183 k ∧ h 183 k < h 169 25

set_option maxRecDepth 20000 in
theorem bX11_hold_0 {X : zX} {dep bc bs : Nat} (day : Int) (t : Int) {h : zH} {Q : Nat → zH → List zV → Prop}
    (k1 : zW mX11_hold X dep bc bs 239 2 [(0, xR 169), (1, xI day), (2, xI t), (3, xI 0)] [] h Q) : zW mX11_hold X dep bc bs 239 0 [(0, xR 169), (1, xI day), (2, xI t)] [] h Q := by
  refine z_iconst dX11_hold_0 (zi32_d rfl) ?_
  refine z_istore_n (lv' := [(3, xI 0), (0, xR 169), (1, xI day), (2, xI t)]) dX11_hold_1 (by decide) rfl ?_
  refine zW.sub (lv' := [(0, xR 169), (1, xI day), (2, xI t), (3, xI 0)]) [1, 2, 3, 0] rfl ?_
  exact k1

set_option maxRecDepth 20000 in
theorem bX11_hold_2 {X : zX} {dep bc bs : Nat} (day : Int) (t : Int) (i : Int) {g : zH} {Q : Nat → zH → List zV → Prop} (hi : 0 ≤ i)
    (k1 : 360 ≤ i → zW mX11_hold X dep bc bs 239 24 [(0, xR 169), (1, xI day), (2, xI t), (3, xI 0)] [] g Q)
    (k2 : ¬ (360 ≤ i) → zW mX11_hold X dep bc bs 239 2 [(0, xR 169), (1, xI day), (2, xI t), (3, xI (i + 1))] [] (zst g 217 i 0) Q) : zW mX11_hold X dep bc bs 239 2 [(0, xR 169), (1, xI day), (2, xI t), (3, xI i)] [] g Q := by
  refine z_iload_n 3 dX11_hold_2 rfl ?_
  refine z_sipush dX11_hold_3 (zi32_d rfl) (by decide) ?_
  refine z_icmp_ge (tgt := 22) dX11_hold_6 (by decide) (fun c1 => ?_) (fun c1 => ?_)
  ·
    refine z_iconst dX11_hold_22 (zi32_d rfl) ?_
    refine z_istore_n (lv' := [(3, xI 0), (0, xR 169), (1, xI day), (2, xI t)]) dX11_hold_23 (by decide) rfl ?_
    refine zW.sub (lv' := [(0, xR 169), (1, xI day), (2, xI t), (3, xI 0)]) [1, 2, 3, 0] rfl ?_
    exact k1 c1
  ·
    refine z_aload_n 0 dX11_hold_9 rfl ?_
    refine z_getS (v := 217) (k := 70) (kz := 70) pk11 dX11_hold_10 (by decide) zb_1194 rfl (zOb.lit (by decide +kernel)) rfl (by decide +kernel) ?_
    refine z_iload_n 3 dX11_hold_13 rfl ?_
    refine z_iconst dX11_hold_14 (zi32_d rfl) ?_
    refine z_iast dX11_hold_15 (zOb.lit (by decide +kernel)) (show 0 ≤ i ∧ i < 360 from ⟨by omega, by omega⟩).1 (show 0 ≤ i ∧ i < 360 from ⟨by omega, by omega⟩).2 ?_
    refine z_iincN (lv' := [(3, xI (i + 1)), (0, xR 169), (1, xI day), (2, xI t)]) 3 dX11_hold_16 rfl (by decide) rfl (show -2147483648 ≤ i + 1 ∧ i + 1 < 2147483648 from ⟨by omega, by omega⟩).1 (show -2147483648 ≤ i + 1 ∧ i + 1 < 2147483648 from ⟨by omega, by omega⟩).2 ?_
    refine z_goto (tgt := 2) dX11_hold_19 (by decide) ?_
    refine zW.sub (lv' := [(0, xR 169), (1, xI day), (2, xI t), (3, xI (i + 1))]) [1, 2, 3, 0] rfl ?_
    exact k2 c1

set_option maxRecDepth 20000 in
theorem bX11_hold_24 {X : zX} {dep bc bs : Nat} (day : Int) (t : Int) (i : Int) {g : zH} {Q : Nat → zH → List zV → Prop} (hi : 0 ≤ i)
    (k1 : 60 ≤ i → zW mX11_hold X dep bc bs 239 45 [(0, xR 169), (1, xI day), (2, xI t), (3, xI 0)] [] g Q)
    (k2 : ¬ (60 ≤ i) → zW mX11_hold X dep bc bs 239 24 [(0, xR 169), (1, xI day), (2, xI t), (3, xI (i + 1))] [] (zst g 218 i 0) Q) : zW mX11_hold X dep bc bs 239 24 [(0, xR 169), (1, xI day), (2, xI t), (3, xI i)] [] g Q := by
  refine z_iload_n 3 dX11_hold_24 rfl ?_
  refine z_bipush dX11_hold_25 (zi32_d rfl) (by decide) ?_
  refine z_icmp_ge (tgt := 43) dX11_hold_27 (by decide) (fun c1 => ?_) (fun c1 => ?_)
  ·
    refine z_iconst dX11_hold_43 (zi32_d rfl) ?_
    refine z_istore_n (lv' := [(3, xI 0), (0, xR 169), (1, xI day), (2, xI t)]) dX11_hold_44 (by decide) rfl ?_
    refine zW.sub (lv' := [(0, xR 169), (1, xI day), (2, xI t), (3, xI 0)]) [1, 2, 3, 0] rfl ?_
    exact k1 c1
  ·
    refine z_aload_n 0 dX11_hold_30 rfl ?_
    refine z_getS (v := 218) (k := 71) (kz := 71) pk11 dX11_hold_31 (by decide) zb_1195 rfl (zOb.lit (by decide +kernel)) rfl (by decide +kernel) ?_
    refine z_iload_n 3 dX11_hold_34 rfl ?_
    refine z_iconst dX11_hold_35 (zi32_d rfl) ?_
    refine z_iast dX11_hold_36 (zOb.lit (by decide +kernel)) (show 0 ≤ i ∧ i < 60 from ⟨by omega, by omega⟩).1 (show 0 ≤ i ∧ i < 60 from ⟨by omega, by omega⟩).2 ?_
    refine z_iincN (lv' := [(3, xI (i + 1)), (0, xR 169), (1, xI day), (2, xI t)]) 3 dX11_hold_37 rfl (by decide) rfl (show -2147483648 ≤ i + 1 ∧ i + 1 < 2147483648 from ⟨by omega, by omega⟩).1 (show -2147483648 ≤ i + 1 ∧ i + 1 < 2147483648 from ⟨by omega, by omega⟩).2 ?_
    refine z_goto (tgt := 24) dX11_hold_40 (by decide) ?_
    refine zW.sub (lv' := [(0, xR 169), (1, xI day), (2, xI t), (3, xI (i + 1))]) [1, 2, 3, 0] rfl ?_
    exact k2 c1

set_option maxRecDepth 20000 in
theorem bX11_hold_45 {X : zX} {dep bc bs : Nat} (day : Int) (t : Int) (k : Int) {g : zH} {Q : Nat → zH → List zV → Prop} (hm : 0 ≤ g 169 25 ∧ g 169 25 ≤ 60) (hs : 0 ≤ g 169 27 ∧ g 169 27 ≤ 240) (hk : 0 ≤ k) (h1 : g 169 27 ≤ k ∨ ((0 ≤ g 177 k ∧ g 177 k < g 169 25) ∧ 0 ≤ g 178 k ∧ g 178 k < 6)) (hdep : 1 ≤ dep)
    (k1 : (g 169 27) ≤ k → zW mX11_hold X dep bc bs 239 117 [(0, xR 169), (1, xI day), (2, xI t), (3, xI 0)] [] g Q)
    (k2 : ¬ ((g 169 27) ≤ k) → t < (g 182 k) → zW mX11_hold X dep bc bs 239 45 [(0, xR 169), (1, xI day), (2, xI t), (3, xI (k + 1))] [] g Q)
    (k3 : ¬ ((g 169 27) ≤ k) → ¬ (t < (g 182 k)) → ¬ ((g 180 k) ≤ day ∧ day ≤ (g 181 k)) → zW mX11_hold X dep bc bs 239 45 [(0, xR 169), (1, xI day), (2, xI t), (3, xI (k + 1))] [] g Q)
    (k4 : ¬ ((g 169 27) ≤ k) → ¬ (t < (g 182 k)) → (g 180 k) ≤ day ∧ day ≤ (g 181 k) → zW mX11_hold X dep bc bs 239 45 [(0, xR 169), (1, xI day), (2, xI t), (3, xI (k + 1))] [] (zst g 217 ((6 * (g 177 k)) + (g 178 k)) (g 179 k)) Q) : zW mX11_hold X dep bc bs 239 45 [(0, xR 169), (1, xI day), (2, xI t), (3, xI k)] [] g Q := by
  refine z_iload_n 3 dX11_hold_45 rfl ?_
  refine z_aload_n 0 dX11_hold_46 rfl ?_
  refine z_getI (k := 27) (kz := 27) pk11 dX11_hold_47 (by decide) zb_1151 rfl (zOb.lit (by decide +kernel)) rfl ?_
  refine z_icmp_ge (tgt := 115) dX11_hold_50 (by decide) (fun c1 => ?_) (fun c1 => ?_)
  ·
    refine z_iconst dX11_hold_115 (zi32_d rfl) ?_
    refine z_istore_n (lv' := [(3, xI 0), (0, xR 169), (1, xI day), (2, xI t)]) dX11_hold_116 (by decide) rfl ?_
    refine zW.sub (lv' := [(0, xR 169), (1, xI day), (2, xI t), (3, xI 0)]) [1, 2, 3, 0] rfl ?_
    exact k1 c1
  ·
    refine z_aload_n 0 dX11_hold_53 rfl ?_
    refine z_getS (v := 182) (k := 17) (kz := 17) pk11 dX11_hold_54 (by decide) zb_1141 rfl (zOb.lit (by decide +kernel)) rfl (by decide +kernel) ?_
    refine z_iload_n 3 dX11_hold_57 rfl ?_
    refine z_iald dX11_hold_58 (zOb.lit (by decide +kernel)) (show 0 ≤ k ∧ k < 240 from ⟨by omega, by omega⟩).1 (show 0 ≤ k ∧ k < 240 from ⟨by omega, by omega⟩).2 ?_
    refine z_iload_n 2 dX11_hold_59 rfl ?_
    refine z_icmp_gt (tgt := 109) dX11_hold_60 (by decide) (fun c2 => ?_) (fun c2 => ?_)
    ·
      refine z_iincN (lv' := [(3, xI (k + 1)), (0, xR 169), (1, xI day), (2, xI t)]) 3 dX11_hold_109 rfl (by decide) rfl (show -2147483648 ≤ k + 1 ∧ k + 1 < 2147483648 from ⟨by omega, by omega⟩).1 (show -2147483648 ≤ k + 1 ∧ k + 1 < 2147483648 from ⟨by omega, by omega⟩).2 ?_
      refine z_goto (tgt := 45) dX11_hold_112 (by decide) ?_
      refine zW.sub (lv' := [(0, xR 169), (1, xI day), (2, xI t), (3, xI (k + 1))]) [1, 2, 3, 0] rfl ?_
      exact k2 c1 c2
    ·
      refine z_iload_n 1 dX11_hold_63 rfl ?_
      refine z_aload_n 0 dX11_hold_64 rfl ?_
      refine z_getS (v := 180) (k := 15) (kz := 15) pk11 dX11_hold_65 (by decide) zb_1139 rfl (zOb.lit (by decide +kernel)) rfl (by decide +kernel) ?_
      refine z_iload_n 3 dX11_hold_68 rfl ?_
      refine z_iald dX11_hold_69 (zOb.lit (by decide +kernel)) (show 0 ≤ k ∧ k < 240 from ⟨by omega, by omega⟩).1 (show 0 ≤ k ∧ k < 240 from ⟨by omega, by omega⟩).2 ?_
      refine z_aload_n 0 dX11_hold_70 rfl ?_
      refine z_getS (v := 181) (k := 16) (kz := 16) pk11 dX11_hold_71 (by decide) zb_1140 rfl (zOb.lit (by decide +kernel)) rfl (by decide +kernel) ?_
      refine z_iload_n 3 dX11_hold_74 rfl ?_
      refine z_iald dX11_hold_75 (zOb.lit (by decide +kernel)) (show 0 ≤ k ∧ k < 240 from ⟨by omega, by omega⟩).1 (show 0 ≤ k ∧ k < 240 from ⟨by omega, by omega⟩).2 ?_
      refine z_invSF (as := [xI day, xI (g 180 k), xI (g 181 k)]) (st := []) (ra := [xI (g 181 k), xI (g 180 k), xI day]) (dep' := dep - 1) (rs := [xI (zb ((g 180 k) ≤ day ∧ day ≤ (g 181 k)))]) (h' := g) (f_X11_isIn day (g 180 k) (g 181 k) (h := g) ) dX11_hold_76 nX11_isIn zb_1437 zb_1438 zb_92 (by omega) zne_I (Nat.le_of_ble_eq_true rfl) (Nat.le_of_ble_eq_true rfl) rfl ?_
      refine z_ifB_eq (C := (g 180 k) ≤ day ∧ day ≤ (g 181 k)) (tgt := 109) dX11_hold_79 (by decide) (fun c3 => ?_) (fun c3 => ?_)
      ·
        refine z_iincN (lv' := [(3, xI (k + 1)), (0, xR 169), (1, xI day), (2, xI t)]) 3 dX11_hold_109 rfl (by decide) rfl (show -2147483648 ≤ k + 1 ∧ k + 1 < 2147483648 from ⟨by omega, by omega⟩).1 (show -2147483648 ≤ k + 1 ∧ k + 1 < 2147483648 from ⟨by omega, by omega⟩).2 ?_
        refine z_goto (tgt := 45) dX11_hold_112 (by decide) ?_
        refine zW.sub (lv' := [(0, xR 169), (1, xI day), (2, xI t), (3, xI (k + 1))]) [1, 2, 3, 0] rfl ?_
        exact k3 c1 c2 c3
      ·
        refine z_aload_n 0 dX11_hold_82 rfl ?_
        refine z_getS (v := 217) (k := 70) (kz := 70) pk11 dX11_hold_83 (by decide) zb_1194 rfl (zOb.lit (by decide +kernel)) rfl (by decide +kernel) ?_
        refine z_bipush dX11_hold_86 (zi32_d rfl) (by decide) ?_
        refine z_aload_n 0 dX11_hold_88 rfl ?_
        refine z_getS (v := 177) (k := 12) (kz := 12) pk11 dX11_hold_89 (by decide) zb_1136 rfl (zOb.lit (by decide +kernel)) rfl (by decide +kernel) ?_
        refine z_iload_n 3 dX11_hold_92 rfl ?_
        refine z_iald dX11_hold_93 (zOb.lit (by decide +kernel)) (show 0 ≤ k ∧ k < 240 from ⟨by omega, by omega⟩).1 (show 0 ≤ k ∧ k < 240 from ⟨by omega, by omega⟩).2 ?_
        refine z_imulN dX11_hold_94 (show -2147483648 ≤ 6 * (g 177 k) ∧ 6 * (g 177 k) < 2147483648 from ⟨by omega, by omega⟩).1 (show -2147483648 ≤ 6 * (g 177 k) ∧ 6 * (g 177 k) < 2147483648 from ⟨by omega, by omega⟩).2 ?_
        refine z_aload_n 0 dX11_hold_95 rfl ?_
        refine z_getS (v := 178) (k := 13) (kz := 13) pk11 dX11_hold_96 (by decide) zb_1137 rfl (zOb.lit (by decide +kernel)) rfl (by decide +kernel) ?_
        refine z_iload_n 3 dX11_hold_99 rfl ?_
        refine z_iald dX11_hold_100 (zOb.lit (by decide +kernel)) (show 0 ≤ k ∧ k < 240 from ⟨by omega, by omega⟩).1 (show 0 ≤ k ∧ k < 240 from ⟨by omega, by omega⟩).2 ?_
        refine z_iaddN dX11_hold_101 (show -2147483648 ≤ (6 * (g 177 k)) + (g 178 k) ∧ (6 * (g 177 k)) + (g 178 k) < 2147483648 from ⟨by omega, by omega⟩).1 (show -2147483648 ≤ (6 * (g 177 k)) + (g 178 k) ∧ (6 * (g 177 k)) + (g 178 k) < 2147483648 from ⟨by omega, by omega⟩).2 ?_
        refine z_aload_n 0 dX11_hold_102 rfl ?_
        refine z_getS (v := 179) (k := 14) (kz := 14) pk11 dX11_hold_103 (by decide) zb_1138 rfl (zOb.lit (by decide +kernel)) rfl (by decide +kernel) ?_
        refine z_iload_n 3 dX11_hold_106 rfl ?_
        refine z_iald dX11_hold_107 (zOb.lit (by decide +kernel)) (show 0 ≤ k ∧ k < 240 from ⟨by omega, by omega⟩).1 (show 0 ≤ k ∧ k < 240 from ⟨by omega, by omega⟩).2 ?_
        refine z_iast dX11_hold_108 (zOb.lit (by decide +kernel)) (show 0 ≤ ((6 * (g 177 k)) + (g 178 k)) ∧ ((6 * (g 177 k)) + (g 178 k)) < 360 from ⟨by omega, by omega⟩).1 (show 0 ≤ ((6 * (g 177 k)) + (g 178 k)) ∧ ((6 * (g 177 k)) + (g 178 k)) < 360 from ⟨by omega, by omega⟩).2 ?_
        refine z_iincN (lv' := [(3, xI (k + 1)), (0, xR 169), (1, xI day), (2, xI t)]) 3 dX11_hold_109 rfl (by decide) rfl (show -2147483648 ≤ k + 1 ∧ k + 1 < 2147483648 from ⟨by omega, by omega⟩).1 (show -2147483648 ≤ k + 1 ∧ k + 1 < 2147483648 from ⟨by omega, by omega⟩).2 ?_
        refine z_goto (tgt := 45) dX11_hold_112 (by decide) ?_
        refine zW.sub (lv' := [(0, xR 169), (1, xI day), (2, xI t), (3, xI (k + 1))]) [1, 2, 3, 0] rfl ?_
        exact k4 c1 c2 c3

set_option maxRecDepth 20000 in
theorem bX11_hold_117 {X : zX} {dep bc bs : Nat} (day : Int) (t : Int) (k : Int) {g : zH} {Q : Nat → zH → List zV → Prop} (hm : 0 ≤ g 169 25 ∧ g 169 25 ≤ 60) (hs : 0 ≤ g 169 28 ∧ g 169 28 ≤ 60) (hk : 0 ≤ k) (h1 : g 169 28 ≤ k ∨ (0 ≤ g 183 k ∧ g 183 k < g 169 25))
    (k1 : (g 169 28) ≤ k → Q 239 g [])
    (k2 : ¬ ((g 169 28) ≤ k) → t < (g 186 k) → zW mX11_hold X dep bc bs 239 117 [(0, xR 169), (1, xI day), (2, xI t), (3, xI (k + 1))] [] g Q)
    (k3 : ¬ ((g 169 28) ≤ k) → ¬ (t < (g 186 k)) → day < (g 186 k) → zW mX11_hold X dep bc bs 239 117 [(0, xR 169), (1, xI day), (2, xI t), (3, xI (k + 1))] [] g Q)
    (k4 : ¬ ((g 169 28) ≤ k) → ¬ (t < (g 186 k)) → ¬ (day < (g 186 k)) → zW mX11_hold X dep bc bs 239 117 [(0, xR 169), (1, xI day), (2, xI t), (3, xI (k + 1))] [] (zst g 218 (g 183 k) (g 185 k)) Q) : zW mX11_hold X dep bc bs 239 117 [(0, xR 169), (1, xI day), (2, xI t), (3, xI k)] [] g Q := by
  refine z_iload_n 3 dX11_hold_117 rfl ?_
  refine z_aload_n 0 dX11_hold_118 rfl ?_
  refine z_getI (k := 28) (kz := 28) pk11 dX11_hold_119 (by decide) zb_1152 rfl (zOb.lit (by decide +kernel)) rfl ?_
  refine z_icmp_ge (tgt := 168) dX11_hold_122 (by decide) (fun c1 => ?_) (fun c1 => ?_)
  ·
    exact z_ret dX11_hold_168 rfl (k1 c1)
  ·
    refine z_aload_n 0 dX11_hold_125 rfl ?_
    refine z_getS (v := 186) (k := 21) (kz := 21) pk11 dX11_hold_126 (by decide) zb_1145 rfl (zOb.lit (by decide +kernel)) rfl (by decide +kernel) ?_
    refine z_iload_n 3 dX11_hold_129 rfl ?_
    refine z_iald dX11_hold_130 (zOb.lit (by decide +kernel)) (show 0 ≤ k ∧ k < 60 from ⟨by omega, by omega⟩).1 (show 0 ≤ k ∧ k < 60 from ⟨by omega, by omega⟩).2 ?_
    refine z_iload_n 2 dX11_hold_131 rfl ?_
    refine z_icmp_gt (tgt := 162) dX11_hold_132 (by decide) (fun c2 => ?_) (fun c2 => ?_)
    ·
      refine z_iincN (lv' := [(3, xI (k + 1)), (0, xR 169), (1, xI day), (2, xI t)]) 3 dX11_hold_162 rfl (by decide) rfl (show -2147483648 ≤ k + 1 ∧ k + 1 < 2147483648 from ⟨by omega, by omega⟩).1 (show -2147483648 ≤ k + 1 ∧ k + 1 < 2147483648 from ⟨by omega, by omega⟩).2 ?_
      refine z_goto (tgt := 117) dX11_hold_165 (by decide) ?_
      refine zW.sub (lv' := [(0, xR 169), (1, xI day), (2, xI t), (3, xI (k + 1))]) [1, 2, 3, 0] rfl ?_
      exact k2 c1 c2
    ·
      refine z_aload_n 0 dX11_hold_135 rfl ?_
      refine z_getS (v := 186) (k := 21) (kz := 21) pk11 dX11_hold_136 (by decide) zb_1145 rfl (zOb.lit (by decide +kernel)) rfl (by decide +kernel) ?_
      refine z_iload_n 3 dX11_hold_139 rfl ?_
      refine z_iald dX11_hold_140 (zOb.lit (by decide +kernel)) (show 0 ≤ k ∧ k < 60 from ⟨by omega, by omega⟩).1 (show 0 ≤ k ∧ k < 60 from ⟨by omega, by omega⟩).2 ?_
      refine z_iload_n 1 dX11_hold_141 rfl ?_
      refine z_icmp_gt (tgt := 162) dX11_hold_142 (by decide) (fun c3 => ?_) (fun c3 => ?_)
      ·
        refine z_iincN (lv' := [(3, xI (k + 1)), (0, xR 169), (1, xI day), (2, xI t)]) 3 dX11_hold_162 rfl (by decide) rfl (show -2147483648 ≤ k + 1 ∧ k + 1 < 2147483648 from ⟨by omega, by omega⟩).1 (show -2147483648 ≤ k + 1 ∧ k + 1 < 2147483648 from ⟨by omega, by omega⟩).2 ?_
        refine z_goto (tgt := 117) dX11_hold_165 (by decide) ?_
        refine zW.sub (lv' := [(0, xR 169), (1, xI day), (2, xI t), (3, xI (k + 1))]) [1, 2, 3, 0] rfl ?_
        exact k3 c1 c2 c3
      ·
        refine z_aload_n 0 dX11_hold_145 rfl ?_
        refine z_getS (v := 218) (k := 71) (kz := 71) pk11 dX11_hold_146 (by decide) zb_1195 rfl (zOb.lit (by decide +kernel)) rfl (by decide +kernel) ?_
        refine z_aload_n 0 dX11_hold_149 rfl ?_
        refine z_getS (v := 183) (k := 18) (kz := 18) pk11 dX11_hold_150 (by decide) zb_1142 rfl (zOb.lit (by decide +kernel)) rfl (by decide +kernel) ?_
        refine z_iload_n 3 dX11_hold_153 rfl ?_
        refine z_iald dX11_hold_154 (zOb.lit (by decide +kernel)) (show 0 ≤ k ∧ k < 60 from ⟨by omega, by omega⟩).1 (show 0 ≤ k ∧ k < 60 from ⟨by omega, by omega⟩).2 ?_
        refine z_aload_n 0 dX11_hold_155 rfl ?_
        refine z_getS (v := 185) (k := 20) (kz := 20) pk11 dX11_hold_156 (by decide) zb_1144 rfl (zOb.lit (by decide +kernel)) rfl (by decide +kernel) ?_
        refine z_iload_n 3 dX11_hold_159 rfl ?_
        refine z_iald dX11_hold_160 (zOb.lit (by decide +kernel)) (show 0 ≤ k ∧ k < 60 from ⟨by omega, by omega⟩).1 (show 0 ≤ k ∧ k < 60 from ⟨by omega, by omega⟩).2 ?_
        refine z_iast dX11_hold_161 (zOb.lit (by decide +kernel)) (show 0 ≤ (g 183 k) ∧ (g 183 k) < 60 from ⟨by omega, by omega⟩).1 (show 0 ≤ (g 183 k) ∧ (g 183 k) < 60 from ⟨by omega, by omega⟩).2 ?_
        refine z_iincN (lv' := [(3, xI (k + 1)), (0, xR 169), (1, xI day), (2, xI t)]) 3 dX11_hold_162 rfl (by decide) rfl (show -2147483648 ≤ k + 1 ∧ k + 1 < 2147483648 from ⟨by omega, by omega⟩).1 (show -2147483648 ≤ k + 1 ∧ k + 1 < 2147483648 from ⟨by omega, by omega⟩).2 ?_
        refine z_goto (tgt := 117) dX11_hold_165 (by decide) ?_
        refine zW.sub (lv' := [(0, xR 169), (1, xI day), (2, xI t), (3, xI (k + 1))]) [1, 2, 3, 0] rfl ?_
        exact k4 c1 c2 c3

set_option maxRecDepth 20000 in
theorem bX11_brothersOf_0 {X : zX} {dep bc bs : Nat} (m : Int) {h : zH} {Q : Nat → zH → List zV → Prop}
    (k1 : zW mX11_brothersOf X dep bc bs 239 4 [(0, xR 169), (1, xI m), (2, xI 0), (3, xI 0)] [] h Q) : zW mX11_brothersOf X dep bc bs 239 0 [(0, xR 169), (1, xI m)] [] h Q := by
  refine z_iconst dX11_brothersOf_0 (zi32_d rfl) ?_
  refine z_istore_n (lv' := [(2, xI 0), (0, xR 169), (1, xI m)]) dX11_brothersOf_1 (by decide) rfl ?_
  refine z_iconst dX11_brothersOf_2 (zi32_d rfl) ?_
  refine z_istore_n (lv' := [(3, xI 0), (2, xI 0), (0, xR 169), (1, xI m)]) dX11_brothersOf_3 (by decide) rfl ?_
  refine zW.sub (lv' := [(0, xR 169), (1, xI m), (2, xI 0), (3, xI 0)]) [2, 3, 1, 0] rfl ?_
  exact k1

set_option maxRecDepth 20000 in
theorem bX11_brothersOf_4 {X : zX} {dep bc bs : Nat} (m : Int) (n : Int) (b : Int) {h : zH} {Q : Nat → zH → List zV → Prop} (hm : 0 ≤ h 169 25 ∧ h 169 25 ≤ 60) (hx : 0 ≤ m ∧ m < 60) (hb : 0 ≤ b) (hn : 0 ≤ n ∧ n ≤ b) (hdep : 1 ≤ dep)
    (k1 : (h 169 25) ≤ b → Q 239 h [xI n])
    (k2 : ¬ ((h 169 25) ≤ b) → ¬ (m ≠ b ∧ h 215 b ≠ 0 ∧ h 173 m = h 173 b) → zW mX11_brothersOf X dep bc bs 239 4 [(0, xR 169), (1, xI m), (2, xI (n + 0)), (3, xI (b + 1))] [] h Q)
    (k3 : ¬ ((h 169 25) ≤ b) → m ≠ b ∧ h 215 b ≠ 0 ∧ h 173 m = h 173 b → zW mX11_brothersOf X dep bc bs 239 4 [(0, xR 169), (1, xI m), (2, xI (n + 1)), (3, xI (b + 1))] [] h Q) : zW mX11_brothersOf X dep bc bs 239 4 [(0, xR 169), (1, xI m), (2, xI n), (3, xI b)] [] h Q := by
  refine z_iload_n 3 dX11_brothersOf_4 rfl ?_
  refine z_aload_n 0 dX11_brothersOf_5 rfl ?_
  refine z_getI (k := 25) (kz := 25) pk11 dX11_brothersOf_6 (by decide) zb_1149 rfl (zOb.lit (by decide +kernel)) rfl ?_
  refine z_icmp_ge (tgt := 35) dX11_brothersOf_9 (by decide) (fun c1 => ?_) (fun c1 => ?_)
  ·
    refine z_iload_n 2 dX11_brothersOf_35 rfl ?_
    exact z_iret dX11_brothersOf_36 rfl (k1 c1)
  ·
    refine z_iload_n 2 dX11_brothersOf_12 rfl ?_
    refine z_aload_n 0 dX11_brothersOf_13 rfl ?_
    refine z_iload_n 1 dX11_brothersOf_14 rfl ?_
    refine z_iload_n 3 dX11_brothersOf_15 rfl ?_
    refine z_invF (ci := 11) (N := 97) (as := [xI m, xI b]) (st := [xI n]) (ra := [xI b, xI m]) (dep' := dep - 1) (rs := [xI (zb (m ≠ b ∧ h 215 b ≠ 0 ∧ h 173 m = h 173 b))]) (h' := h) (f_X11_areBrothers m b (h := h) hx (show 0 ≤ b ∧ b < 60 from ⟨by omega, by omega⟩)) dX11_brothersOf_16 nX11_areBrothers zb_1619 zb_1621 zb_60 zb_92 (zOb.lit (by decide +kernel)) rfl (by omega) zne_I (Nat.le_of_ble_eq_true rfl) (Nat.le_of_ble_eq_true rfl) rfl ?_
    refine z_ifB_eq (C := m ≠ b ∧ h 215 b ≠ 0 ∧ h 173 m = h 173 b) (tgt := 26) dX11_brothersOf_19 (by decide) (fun c2 => ?_) (fun c2 => ?_)
    ·
      refine z_iconst dX11_brothersOf_26 (zi32_d rfl) ?_
      refine z_iaddN dX11_brothersOf_27 (show -2147483648 ≤ n + 0 ∧ n + 0 < 2147483648 from ⟨by omega, by omega⟩).1 (show -2147483648 ≤ n + 0 ∧ n + 0 < 2147483648 from ⟨by omega, by omega⟩).2 ?_
      refine z_istore_n (lv' := [(2, xI (n + 0)), (0, xR 169), (1, xI m), (3, xI b)]) dX11_brothersOf_28 (by decide) rfl ?_
      refine z_iincN (lv' := [(3, xI (b + 1)), (2, xI (n + 0)), (0, xR 169), (1, xI m)]) 3 dX11_brothersOf_29 rfl (by decide) rfl (show -2147483648 ≤ b + 1 ∧ b + 1 < 2147483648 from ⟨by omega, by omega⟩).1 (show -2147483648 ≤ b + 1 ∧ b + 1 < 2147483648 from ⟨by omega, by omega⟩).2 ?_
      refine z_goto (tgt := 4) dX11_brothersOf_32 (by decide) ?_
      refine zW.sub (lv' := [(0, xR 169), (1, xI m), (2, xI (n + 0)), (3, xI (b + 1))]) [2, 3, 1, 0] rfl ?_
      exact k2 c1 c2
    ·
      refine z_iconst dX11_brothersOf_22 (zi32_d rfl) ?_
      refine z_goto (tgt := 27) dX11_brothersOf_23 (by decide) ?_
      refine z_iaddN dX11_brothersOf_27 (show -2147483648 ≤ n + 1 ∧ n + 1 < 2147483648 from ⟨by omega, by omega⟩).1 (show -2147483648 ≤ n + 1 ∧ n + 1 < 2147483648 from ⟨by omega, by omega⟩).2 ?_
      refine z_istore_n (lv' := [(2, xI (n + 1)), (0, xR 169), (1, xI m), (3, xI b)]) dX11_brothersOf_28 (by decide) rfl ?_
      refine z_iincN (lv' := [(3, xI (b + 1)), (2, xI (n + 1)), (0, xR 169), (1, xI m)]) 3 dX11_brothersOf_29 rfl (by decide) rfl (show -2147483648 ≤ b + 1 ∧ b + 1 < 2147483648 from ⟨by omega, by omega⟩).1 (show -2147483648 ≤ b + 1 ∧ b + 1 < 2147483648 from ⟨by omega, by omega⟩).2 ?_
      refine z_goto (tgt := 4) dX11_brothersOf_32 (by decide) ?_
      refine zW.sub (lv' := [(0, xR 169), (1, xI m), (2, xI (n + 1)), (3, xI (b + 1))]) [2, 3, 1, 0] rfl ?_
      exact k3 c1 c2

set_option maxRecDepth 20000 in
theorem bX11_servingOf_0 {X : zX} {dep bc bs : Nat} (m : Int) (l : Int) {h : zH} {Q : Nat → zH → List zV → Prop}
    (k1 : zW mX11_servingOf X dep bc bs 239 5 [(0, xR 169), (1, xI m), (2, xI l), (3, xI 0), (4, xI 0)] [] h Q) : zW mX11_servingOf X dep bc bs 239 0 [(0, xR 169), (1, xI m), (2, xI l)] [] h Q := by
  refine z_iconst dX11_servingOf_0 (zi32_d rfl) ?_
  refine z_istore_n (lv' := [(3, xI 0), (0, xR 169), (1, xI m), (2, xI l)]) dX11_servingOf_1 (by decide) rfl ?_
  refine z_iconst dX11_servingOf_2 (zi32_d rfl) ?_
  refine z_istore (lv' := [(4, xI 0), (3, xI 0), (0, xR 169), (1, xI m), (2, xI l)]) dX11_servingOf_3 (by decide) rfl ?_
  refine zW.sub (lv' := [(0, xR 169), (1, xI m), (2, xI l), (3, xI 0), (4, xI 0)]) [2, 3, 4, 1, 0] rfl ?_
  exact k1

set_option maxRecDepth 20000 in
theorem bX11_servingOf_5 {X : zX} {dep bc bs : Nat} (m : Int) (l : Int) (n : Int) (b : Int) {h : zH} {Q : Nat → zH → List zV → Prop} (hm : 0 ≤ h 169 25 ∧ h 169 25 ≤ 60) (hx : 0 ≤ m ∧ m < 60) (hl : 0 ≤ l ∧ l < 4) (hb : 0 ≤ b ∧ b ≤ 60) (hn : 0 ≤ n ∧ n ≤ b)
    (k1 : (h 169 25) ≤ b → Q 239 h [xI n])
    (k2 : ¬ ((h 169 25) ≤ b) → zW mX11_servingOf X dep bc bs 239 20 [(0, xR 169), (1, xI m), (2, xI l), (3, xI n), (4, xI b), (5, xI 0), (6, xI 0)] [] h Q) : zW mX11_servingOf X dep bc bs 239 5 [(0, xR 169), (1, xI m), (2, xI l), (3, xI n), (4, xI b)] [] h Q := by
  refine z_iload 4 dX11_servingOf_5 rfl ?_
  refine z_aload_n 0 dX11_servingOf_7 rfl ?_
  refine z_getI (k := 25) (kz := 25) pk11 dX11_servingOf_8 (by decide) zb_1149 rfl (zOb.lit (by decide +kernel)) rfl ?_
  refine z_icmp_ge (tgt := 89) dX11_servingOf_11 (by decide) (fun c1 => ?_) (fun c1 => ?_)
  ·
    refine z_iload_n 3 dX11_servingOf_89 rfl ?_
    exact z_iret dX11_servingOf_90 rfl (k1 c1)
  ·
    refine z_iconst dX11_servingOf_14 (zi32_d rfl) ?_
    refine z_istore (lv' := [(5, xI 0), (0, xR 169), (1, xI m), (2, xI l), (3, xI n), (4, xI b)]) dX11_servingOf_15 (by decide) rfl ?_
    refine z_iconst dX11_servingOf_17 (zi32_d rfl) ?_
    refine z_istore (lv' := [(6, xI 0), (5, xI 0), (0, xR 169), (1, xI m), (2, xI l), (3, xI n), (4, xI b)]) dX11_servingOf_18 (by decide) rfl ?_
    refine zW.sub (lv' := [(0, xR 169), (1, xI m), (2, xI l), (3, xI n), (4, xI b), (5, xI 0), (6, xI 0)]) [2, 3, 4, 5, 6, 1, 0] rfl ?_
    exact k2 c1

set_option maxRecDepth 20000 in
theorem bX11_servingOf_20 {X : zX} {dep bc bs : Nat} (m : Int) (l : Int) (n : Int) (b : Int) (y : Int) (k : Int) {h : zH} {Q : Nat → zH → List zV → Prop} (hm : 0 ≤ h 169 25 ∧ h 169 25 ≤ 60) (hx : 0 ≤ m ∧ m < 60) (hl : 0 ≤ l ∧ l < 4) (hb : 0 ≤ b ∧ b ≤ 60) (hn : 0 ≤ n ∧ n ≤ b) (hb2 : b < h 169 25) (hk : 0 ≤ k) (hdep : 1 ≤ dep)
    (k1 : l ≤ k → y = 0 → zW mX11_servingOf X dep bc bs 239 5 [(0, xR 169), (1, xI m), (2, xI l), (3, xI (n + 0)), (4, xI (b + 1))] [] h Q)
    (k2 : l ≤ k → ¬ (y = 0) → ¬ (m ≠ b ∧ h 215 b ≠ 0 ∧ h 173 m = h 173 b) → zW mX11_servingOf X dep bc bs 239 5 [(0, xR 169), (1, xI m), (2, xI l), (3, xI (n + 0)), (4, xI (b + 1))] [] h Q)
    (k3 : l ≤ k → ¬ (y = 0) → m ≠ b ∧ h 215 b ≠ 0 ∧ h 173 m = h 173 b → zW mX11_servingOf X dep bc bs 239 5 [(0, xR 169), (1, xI m), (2, xI l), (3, xI (n + 1)), (4, xI (b + 1))] [] h Q)
    (k4 : ¬ (l ≤ k) → ¬ y = 0 → zW mX11_servingOf X dep bc bs 239 20 [(0, xR 169), (1, xI m), (2, xI l), (3, xI n), (4, xI b), (5, xI 1), (6, xI (k + 1))] [] h Q)
    (k5 : ¬ (l ≤ k) → y = 0 → zW mX11_servingOf X dep bc bs 239 20 [(0, xR 169), (1, xI m), (2, xI l), (3, xI n), (4, xI b), (5, xI (if (h 230 ((60 * k) + b)) = 0 then 0 else 1 : Int)), (6, xI (k + 1))] [] h Q) : zW mX11_servingOf X dep bc bs 239 20 [(0, xR 169), (1, xI m), (2, xI l), (3, xI n), (4, xI b), (5, xI y), (6, xI k)] [] h Q := by
  refine z_iload 6 dX11_servingOf_20 rfl ?_
  refine z_iload_n 2 dX11_servingOf_22 rfl ?_
  refine z_icmp_ge (tgt := 60) dX11_servingOf_23 (by decide) (fun c1 => ?_) (fun c1 => ?_)
  ·
    refine z_iload_n 3 dX11_servingOf_60 rfl ?_
    refine z_iload 5 dX11_servingOf_61 rfl ?_
    refine z_if_eq (tgt := 80) dX11_servingOf_63 (by decide) (fun c2 => ?_) (fun c2 => ?_)
    ·
      refine z_iconst dX11_servingOf_80 (zi32_d rfl) ?_
      refine z_iaddN dX11_servingOf_81 (show -2147483648 ≤ n + 0 ∧ n + 0 < 2147483648 from ⟨by omega, by omega⟩).1 (show -2147483648 ≤ n + 0 ∧ n + 0 < 2147483648 from ⟨by omega, by omega⟩).2 ?_
      refine z_istore_n (lv' := [(3, xI (n + 0)), (0, xR 169), (1, xI m), (2, xI l), (4, xI b), (5, xI y), (6, xI k)]) dX11_servingOf_82 (by decide) rfl ?_
      refine z_iincN (lv' := [(4, xI (b + 1)), (3, xI (n + 0)), (0, xR 169), (1, xI m), (2, xI l), (5, xI y), (6, xI k)]) 4 dX11_servingOf_83 rfl (by decide) rfl (show -2147483648 ≤ b + 1 ∧ b + 1 < 2147483648 from ⟨by omega, by omega⟩).1 (show -2147483648 ≤ b + 1 ∧ b + 1 < 2147483648 from ⟨by omega, by omega⟩).2 ?_
      refine z_goto (tgt := 5) dX11_servingOf_86 (by decide) ?_
      refine zW.sub (lv' := [(0, xR 169), (1, xI m), (2, xI l), (3, xI (n + 0)), (4, xI (b + 1))]) [2, 3, 4, 1, 0] rfl ?_
      exact k1 c1 c2
    ·
      refine z_aload_n 0 dX11_servingOf_66 rfl ?_
      refine z_iload_n 1 dX11_servingOf_67 rfl ?_
      refine z_iload 4 dX11_servingOf_68 rfl ?_
      refine z_invF (ci := 11) (N := 97) (as := [xI m, xI b]) (st := [xI n]) (ra := [xI b, xI m]) (dep' := dep - 1) (rs := [xI (zb (m ≠ b ∧ h 215 b ≠ 0 ∧ h 173 m = h 173 b))]) (h' := h) (f_X11_areBrothers m b (h := h) hx (show 0 ≤ b ∧ b < 60 from ⟨by omega, by omega⟩)) dX11_servingOf_70 nX11_areBrothers zb_1619 zb_1621 zb_60 zb_92 (zOb.lit (by decide +kernel)) rfl (by omega) zne_I (Nat.le_of_ble_eq_true rfl) (Nat.le_of_ble_eq_true rfl) rfl ?_
      refine z_ifB_eq (C := m ≠ b ∧ h 215 b ≠ 0 ∧ h 173 m = h 173 b) (tgt := 80) dX11_servingOf_73 (by decide) (fun c3 => ?_) (fun c3 => ?_)
      ·
        refine z_iconst dX11_servingOf_80 (zi32_d rfl) ?_
        refine z_iaddN dX11_servingOf_81 (show -2147483648 ≤ n + 0 ∧ n + 0 < 2147483648 from ⟨by omega, by omega⟩).1 (show -2147483648 ≤ n + 0 ∧ n + 0 < 2147483648 from ⟨by omega, by omega⟩).2 ?_
        refine z_istore_n (lv' := [(3, xI (n + 0)), (0, xR 169), (1, xI m), (2, xI l), (4, xI b), (5, xI y), (6, xI k)]) dX11_servingOf_82 (by decide) rfl ?_
        refine z_iincN (lv' := [(4, xI (b + 1)), (3, xI (n + 0)), (0, xR 169), (1, xI m), (2, xI l), (5, xI y), (6, xI k)]) 4 dX11_servingOf_83 rfl (by decide) rfl (show -2147483648 ≤ b + 1 ∧ b + 1 < 2147483648 from ⟨by omega, by omega⟩).1 (show -2147483648 ≤ b + 1 ∧ b + 1 < 2147483648 from ⟨by omega, by omega⟩).2 ?_
        refine z_goto (tgt := 5) dX11_servingOf_86 (by decide) ?_
        refine zW.sub (lv' := [(0, xR 169), (1, xI m), (2, xI l), (3, xI (n + 0)), (4, xI (b + 1))]) [2, 3, 4, 1, 0] rfl ?_
        exact k2 c1 c2 c3
      ·
        refine z_iconst dX11_servingOf_76 (zi32_d rfl) ?_
        refine z_goto (tgt := 81) dX11_servingOf_77 (by decide) ?_
        refine z_iaddN dX11_servingOf_81 (show -2147483648 ≤ n + 1 ∧ n + 1 < 2147483648 from ⟨by omega, by omega⟩).1 (show -2147483648 ≤ n + 1 ∧ n + 1 < 2147483648 from ⟨by omega, by omega⟩).2 ?_
        refine z_istore_n (lv' := [(3, xI (n + 1)), (0, xR 169), (1, xI m), (2, xI l), (4, xI b), (5, xI y), (6, xI k)]) dX11_servingOf_82 (by decide) rfl ?_
        refine z_iincN (lv' := [(4, xI (b + 1)), (3, xI (n + 1)), (0, xR 169), (1, xI m), (2, xI l), (5, xI y), (6, xI k)]) 4 dX11_servingOf_83 rfl (by decide) rfl (show -2147483648 ≤ b + 1 ∧ b + 1 < 2147483648 from ⟨by omega, by omega⟩).1 (show -2147483648 ≤ b + 1 ∧ b + 1 < 2147483648 from ⟨by omega, by omega⟩).2 ?_
        refine z_goto (tgt := 5) dX11_servingOf_86 (by decide) ?_
        refine zW.sub (lv' := [(0, xR 169), (1, xI m), (2, xI l), (3, xI (n + 1)), (4, xI (b + 1))]) [2, 3, 4, 1, 0] rfl ?_
        exact k3 c1 c2 c3
  ·
    refine z_iload 5 dX11_servingOf_26 rfl ?_
    refine z_if_ne (tgt := 47) dX11_servingOf_28 (by decide) (fun c2 => ?_) (fun c2 => ?_)
    ·
      refine z_iconst dX11_servingOf_47 (zi32_d rfl) ?_
      refine z_goto (tgt := 52) dX11_servingOf_48 (by decide) ?_
      refine z_istore (lv' := [(5, xI 1), (0, xR 169), (1, xI m), (2, xI l), (3, xI n), (4, xI b), (6, xI k)]) dX11_servingOf_52 (by decide) rfl ?_
      refine z_iincN (lv' := [(6, xI (k + 1)), (5, xI 1), (0, xR 169), (1, xI m), (2, xI l), (3, xI n), (4, xI b)]) 6 dX11_servingOf_54 rfl (by decide) rfl (show -2147483648 ≤ k + 1 ∧ k + 1 < 2147483648 from ⟨by omega, by omega⟩).1 (show -2147483648 ≤ k + 1 ∧ k + 1 < 2147483648 from ⟨by omega, by omega⟩).2 ?_
      refine z_goto (tgt := 20) dX11_servingOf_57 (by decide) ?_
      refine zW.sub (lv' := [(0, xR 169), (1, xI m), (2, xI l), (3, xI n), (4, xI b), (5, xI 1), (6, xI (k + 1))]) [2, 3, 4, 5, 6, 1, 0] rfl ?_
      exact k4 c1 c2
    ·
      refine z_aload_n 0 dX11_servingOf_31 rfl ?_
      refine z_getS (v := 230) (k := 83) (kz := 83) pk11 dX11_servingOf_32 (by decide) zb_1207 rfl (zOb.lit (by decide +kernel)) rfl (by decide +kernel) ?_
      refine z_bipush dX11_servingOf_35 (zi32_d rfl) (by decide) ?_
      refine z_iload 6 dX11_servingOf_37 rfl ?_
      refine z_imulN dX11_servingOf_39 (show -2147483648 ≤ 60 * k ∧ 60 * k < 2147483648 from ⟨by omega, by omega⟩).1 (show -2147483648 ≤ 60 * k ∧ 60 * k < 2147483648 from ⟨by omega, by omega⟩).2 ?_
      refine z_iload 4 dX11_servingOf_40 rfl ?_
      refine z_iaddN dX11_servingOf_42 (show -2147483648 ≤ (60 * k) + b ∧ (60 * k) + b < 2147483648 from ⟨by omega, by omega⟩).1 (show -2147483648 ≤ (60 * k) + b ∧ (60 * k) + b < 2147483648 from ⟨by omega, by omega⟩).2 ?_
      refine z_zald dX11_servingOf_43 (zOb.lit (by decide +kernel)) (show 0 ≤ ((60 * k) + b) ∧ ((60 * k) + b) < 240 from ⟨by omega, by omega⟩).1 (show 0 ≤ ((60 * k) + b) ∧ ((60 * k) + b) < 240 from ⟨by omega, by omega⟩).2 ?_
      suffices KJ : zW mX11_servingOf X dep bc bs 239 52 [(0, xR 169), (1, xI m), (2, xI l), (3, xI n), (4, xI b), (5, xI y), (6, xI k)] [xI (if (h 230 ((60 * k) + b)) = 0 then 0 else 1 : Int)] h Q by
        refine z_if_eq (tgt := 51) dX11_servingOf_44 (by decide) (fun j1 => ?_) (fun j1 => ?_)
        ·
          refine z_iconst dX11_servingOf_51 (zi32_d rfl) ?_
          rw [if_pos j1] at KJ
          exact KJ
        ·
          refine z_iconst dX11_servingOf_47 (zi32_d rfl) ?_
          refine z_goto (tgt := 52) dX11_servingOf_48 (by decide) ?_
          rw [if_neg j1] at KJ
          exact KJ
      refine z_istore (lv' := [(5, xI (if (h 230 ((60 * k) + b)) = 0 then 0 else 1 : Int)), (0, xR 169), (1, xI m), (2, xI l), (3, xI n), (4, xI b), (6, xI k)]) dX11_servingOf_52 (by decide) rfl ?_
      refine z_iincN (lv' := [(6, xI (k + 1)), (5, xI (if (h 230 ((60 * k) + b)) = 0 then 0 else 1 : Int)), (0, xR 169), (1, xI m), (2, xI l), (3, xI n), (4, xI b)]) 6 dX11_servingOf_54 rfl (by decide) rfl (show -2147483648 ≤ k + 1 ∧ k + 1 < 2147483648 from ⟨by omega, by omega⟩).1 (show -2147483648 ≤ k + 1 ∧ k + 1 < 2147483648 from ⟨by omega, by omega⟩).2 ?_
      refine z_goto (tgt := 20) dX11_servingOf_57 (by decide) ?_
      refine zW.sub (lv' := [(0, xR 169), (1, xI m), (2, xI l), (3, xI n), (4, xI b), (5, xI (if (h 230 ((60 * k) + b)) = 0 then 0 else 1 : Int)), (6, xI (k + 1))]) [2, 3, 4, 5, 6, 1, 0] rfl ?_
      exact k5 c1 c2


/-- what is held of every man on a day, as of day t -/
def mHeld (h : zH) (day t : Int) (g : zH) : Prop := zag [217, 218] h g ∧ (∀ q : Int, 0 ≤ q → q < 360 → g 217 q = zlw (fun r => h 182 r ≤ t ∧ h 180 r ≤ day ∧ day ≤ h 181 r) (fun r => 6 * h 177 r + h 178 r) (h 179) (fun _ => 0) (h 169 27).toNat q) ∧ ∀ m : Int, 0 ≤ m → m < 60 → g 218 m = zlw (fun r => h 186 r ≤ t ∧ h 186 r ≤ day) (h 183) (h 185) (fun _ => 0) (h 169 28).toNat m
theorem l_X11_hold_2 {X : zX} {dep : Nat} {h : zH} {Q : Nat → zH → List zV → Prop} (day t : Int)
    (kx : ∀ g : zH, zag [217, 218] h g → (∀ q, 0 ≤ q → q < 360 → g 217 q = 0) → zW mX11_hold X dep 0 0 239 24 [(0, xR 169), (1, xI day), (2, xI t), (3, xI 0)] [] g Q) :
    ∀ (k : Nat) (i : Int) (g : zH), 0 ≤ i → i + k = 360 → zag [217, 218] h g → (∀ q, 0 ≤ q → q < i → g 217 q = 0) → zW mX11_hold X dep 0 0 239 2 [(0, xR 169), (1, xI day), (2, xI t), (3, xI i)] [] g Q := by
  intro k
  induction k with
  | zero =>
    intro i g h0 hk ha hi
    refine bX11_hold_2 day t i h0 ?_ ?_
    · intro c
      exact kx g ha (fun m q1 q2 => hi m q1 (by omega))
    · intro c
      exfalso
      omega
  | succ k ih =>
    intro i g h0 hk ha hi
    refine bX11_hold_2 day t i h0 ?_ ?_
    · intro c
      exfalso
      omega
    · intro c
      refine ih (i + 1) _ (by omega) (by omega) (ha.st (by decide) _ _) (fun m q1 q2 => ?_)
      rw [zst_or]
      split
      · rfl
      · exact hi m q1 (by omega)
theorem l_X11_hold_24 {X : zX} {dep : Nat} {h f : zH} {Q : Nat → zH → List zV → Prop} (day t : Int)
    (kx : ∀ g : zH, zag [217, 218] h g → (∀ q : Int, g 217 q = f 217 q) → (∀ q, 0 ≤ q → q < 60 → g 218 q = 0) → zW mX11_hold X dep 0 0 239 45 [(0, xR 169), (1, xI day), (2, xI t), (3, xI 0)] [] g Q) :
    ∀ (k : Nat) (i : Int) (g : zH), 0 ≤ i → i + k = 60 → zag [217, 218] h g → (∀ q : Int, g 217 q = f 217 q) → (∀ q, 0 ≤ q → q < i → g 218 q = 0) → zW mX11_hold X dep 0 0 239 24 [(0, xR 169), (1, xI day), (2, xI t), (3, xI i)] [] g Q := by
  intro k
  induction k with
  | zero =>
    intro i g h0 hk ha hb hi
    refine bX11_hold_24 day t i h0 ?_ ?_
    · intro c
      exact kx g ha hb (fun m q1 q2 => hi m q1 (by omega))
    · intro c
      exfalso
      omega
  | succ k ih =>
    intro i g h0 hk ha hb hi
    refine bX11_hold_24 day t i h0 ?_ ?_
    · intro c
      exfalso
      omega
    · intro c
      refine ih (i + 1) _ (by omega) (by omega) (ha.st (by decide) _ _) (fun q => ?_) (fun m q1 q2 => ?_)
      · rw [zst_ne (Or.inl (by decide))]
        exact hb q
      · rw [zst_or]
        split
        · rfl
        · exact hi m q1 (by omega)
theorem l_X11_hold_45 {X : zX} {dep : Nat} {h f : zH} {Q : Nat → zH → List zV → Prop} (hm : 0 ≤ h 169 25 ∧ h 169 25 ≤ 60) (hs : mFaOK h) (day t : Int) (hdep : 1 ≤ dep)
    (kx : ∀ (g : zH), zag [217, 218] h g → (∀ q : Int, g 218 q = f 218 q) → (∀ q : Int, g 217 q = zlw (fun r => h 182 r ≤ t ∧ h 180 r ≤ day ∧ day ≤ h 181 r) (fun r => 6 * h 177 r + h 178 r) (h 179) (f 217) (h 169 27).toNat q) → zW mX11_hold X dep 0 0 239 117 [(0, xR 169), (1, xI day), (2, xI t), (3, xI 0)] [] g Q) :
    ∀ (j r : Nat) (g : zH), (r : Int) + j = h 169 27 → zag [217, 218] h g → (∀ q : Int, g 218 q = f 218 q) → (∀ q : Int, g 217 q = zlw (fun r => h 182 r ≤ t ∧ h 180 r ≤ day ∧ day ≤ h 181 r) (fun r => 6 * h 177 r + h 178 r) (h 179) (f 217) r q) → zW mX11_hold X dep 0 0 239 45 [(0, xR 169), (1, xI day), (2, xI t), (3, xI r)] [] g Q := by
  intro j
  induction j with
  | zero =>
    intro r g hk ha hb hw
    have e3 := ha 169 25 (by decide)
    have e4 := ha 169 27 (by decide)
    refine bX11_hold_45 day t r (by rw [e3]; exact hm) (by rw [e4]; exact hs.1) (by omega) (Or.inl (by omega)) hdep ?_ ?_ ?_ ?_
    · intro c
      refine kx g ha hb ?_
      rw [show (h 169 27).toNat = r by omega]
      exact hw
    all_goals
      intro c
      exfalso
      omega
  | succ j ih =>
    intro r g hk ha hb hw
    have e3 := ha 169 25 (by decide)
    have e4 := ha 169 27 (by decide)
    have e5 := ha 177 r (by decide)
    have e6 := ha 178 r (by decide)
    have e7 := ha 179 r (by decide)
    have e8 := ha 180 r (by decide)
    have e9 := ha 181 r (by decide)
    have e10 := ha 182 r (by decide)
    have hr := hs.2 r (by omega) (by omega)
    have no : ¬ (h 182 r ≤ t ∧ h 180 r ≤ day ∧ day ≤ h 181 r) → zW mX11_hold X dep 0 0 239 45 [(0, xR 169), (1, xI day), (2, xI t), (3, xI ((r : Int) + 1))] [] g Q := fun c => by
      have := ih (r + 1) g (by omega) ha hb (fun q => by
        rw [zlw_f (C := fun r => h 182 r ≤ t ∧ h 180 r ≤ day ∧ day ≤ h 181 r) c]
        exact hw q)
      rw [show ((r + 1 : Nat) : Int) = (r : Int) + 1 by omega] at this
      exact this
    refine bX11_hold_45 day t r (by rw [e3]; exact hm) (by rw [e4]; exact hs.1) (by omega) (Or.inr (by omega)) hdep ?_ ?_ ?_ ?_
    · intro c
      exfalso
      omega
    · intro c1 c2
      exact no (by omega)
    · intro c1 c2 c3
      exact no (by omega)
    · intro c1 c2 c3
      rw [e5, e6, e7]
      have c : h 182 r ≤ t ∧ h 180 r ≤ day ∧ day ≤ h 181 r := by omega
      have := ih (r + 1) _ (by omega) (ha.st (o := 217) (by decide) (6 * h 177 r + h 178 r) (h 179 r)) (fun q => by
        rw [zst_ne (Or.inl (by decide))]
        exact hb q) (fun q => by
        rw [zlw_t (C := fun r => h 182 r ≤ t ∧ h 180 r ≤ day ∧ day ≤ h 181 r) c, zst_or]
        by_cases e : q = 6 * h 177 r + h 178 r
        · rw [if_pos e, if_pos e]
        · rw [if_neg e, if_neg e]
          exact hw q)
      rw [show ((r + 1 : Nat) : Int) = (r : Int) + 1 by omega] at this
      exact this
theorem l_X11_hold_117 {X : zX} {dep : Nat} {h f : zH} {Q : Nat → zH → List zV → Prop} (hm : 0 ≤ h 169 25 ∧ h 169 25 ≤ 60) (hs : mExOK h) (day t : Int)
    (kx : ∀ (g : zH), zag [217, 218] h g → (∀ q : Int, g 217 q = f 217 q) → (∀ q : Int, g 218 q = zlw (fun r => h 186 r ≤ t ∧ h 186 r ≤ day) (h 183) (h 185) (f 218) (h 169 28).toNat q) → Q 239 g []) :
    ∀ (j r : Nat) (g : zH), (r : Int) + j = h 169 28 → zag [217, 218] h g → (∀ q : Int, g 217 q = f 217 q) → (∀ q : Int, g 218 q = zlw (fun r => h 186 r ≤ t ∧ h 186 r ≤ day) (h 183) (h 185) (f 218) r q) → zW mX11_hold X dep 0 0 239 117 [(0, xR 169), (1, xI day), (2, xI t), (3, xI r)] [] g Q := by
  intro j
  induction j with
  | zero =>
    intro r g hk ha hb hw
    have e3 := ha 169 25 (by decide)
    have e4 := ha 169 28 (by decide)
    refine bX11_hold_117 day t r (by rw [e3]; exact hm) (by rw [e4]; exact hs.1) (by omega) (Or.inl (by omega)) ?_ ?_ ?_ ?_
    · intro c
      refine kx g ha hb ?_
      rw [show (h 169 28).toNat = r by omega]
      exact hw
    all_goals
      intro c
      exfalso
      omega
  | succ j ih =>
    intro r g hk ha hb hw
    have e3 := ha 169 25 (by decide)
    have e4 := ha 169 28 (by decide)
    have e5 := ha 183 r (by decide)
    have e6 := ha 185 r (by decide)
    have e7 := ha 186 r (by decide)
    have hr := hs.2 r (by omega) (by omega)
    have no : ¬ (h 186 r ≤ t ∧ h 186 r ≤ day) → zW mX11_hold X dep 0 0 239 117 [(0, xR 169), (1, xI day), (2, xI t), (3, xI ((r : Int) + 1))] [] g Q := fun c => by
      have := ih (r + 1) g (by omega) ha hb (fun q => by
        rw [zlw_f (C := fun r => h 186 r ≤ t ∧ h 186 r ≤ day) c]
        exact hw q)
      rw [show ((r + 1 : Nat) : Int) = (r : Int) + 1 by omega] at this
      exact this
    refine bX11_hold_117 day t r (by rw [e3]; exact hm) (by rw [e4]; exact hs.1) (by omega) (Or.inr (by omega)) ?_ ?_ ?_ ?_
    · intro c
      exfalso
      omega
    · intro c1 c2
      exact no (by omega)
    · intro c1 c2 c3
      exact no (by omega)
    · intro c1 c2 c3
      rw [e5, e6]
      have c : h 186 r ≤ t ∧ h 186 r ≤ day := by omega
      have := ih (r + 1) _ (by omega) (ha.st (o := 218) (by decide) (h 183 r) (h 185 r)) (fun q => by
        rw [zst_ne (Or.inl (by decide))]
        exact hb q) (fun q => by
        rw [zlw_t (C := fun r => h 186 r ≤ t ∧ h 186 r ≤ day) c, zst_or]
        by_cases e : q = h 183 r
        · rw [if_pos e, if_pos e]
        · rw [if_neg e, if_neg e]
          exact hw q)
      rw [show ((r + 1 : Nat) : Int) = (r : Int) + 1 by omega] at this
      exact this
theorem f_X11_hold {X : zX} {dep : Nat} (day t : Int) {h : zH} (hm : 0 ≤ h 169 25 ∧ h 169 25 ≤ 60) (hf : mFaOK h) (he : mExOK h) (hdep : 1 ≤ dep) : zW mX11_hold X dep 0 0 239 0 (zar 0 [xR 169, xI day, xI t]) [] h (zQ0 (mHeld h day t)) := by
  refine bX11_hold_0 day t ?_
  refine l_X11_hold_2 day t (fun g ha hw => ?_) 360 0 h (by omega) (by omega) (zag.rf _ _) (fun m q1 q2 => by omega)
  refine l_X11_hold_24 (f := g) day t (fun g2 ha2 hb2 hw2 => ?_) 60 0 g (by omega) (by omega) ha (fun _ => rfl) (fun m q1 q2 => by omega)
  refine l_X11_hold_45 (f := g2) hm hf day t hdep (fun g3 ha3 hb3 hw3 => ?_) (h 169 27).toNat 0 g2 (by have := hf.1; omega) ha2 (fun _ => rfl) (fun q => rfl)
  refine l_X11_hold_117 (f := g3) hm he day t (fun g4 ha4 hb4 hw4 => ?_) (h 169 28).toNat 0 g3 (by have := he.1; omega) ha3 (fun _ => rfl) (fun q => rfl)
  refine ⟨rfl, rfl, ha4, fun q q0 q1 => ?_, fun m m0 m1 => ?_⟩
  · rw [hb4 q, hw3 q]
    refine zlw_b ?_ _
    rw [hb2 q, hw q q0 q1]
  · rw [hw4 m]
    refine zlw_b ?_ _
    rw [hb3 m, hw2 m m0 m1]
/-- b is a brother of m -/
def mBro (h : zH) (m b : Int) : Prop := m ≠ b ∧ h 215 b ≠ 0 ∧ h 173 m = h 173 b
/-- b serves of a lot before l -/
def mSer (h : zH) (l b : Int) : Prop := ∃ k : Int, (0 ≤ k ∧ k < l) ∧ h 230 (60 * k + b) ≠ 0
theorem f_X11_brothersOf {X : zX} {dep : Nat} (m : Int) {h : zH} (hm : 0 ≤ h 169 25 ∧ h 169 25 ≤ 60) (hx : 0 ≤ m ∧ m < 60) (hdep : 1 ≤ dep) : zW mX11_brothersOf X dep 0 0 239 0 (zar 0 [xR 169, xI m]) [] h (zF h [xI (zcnt (mBro h m) (h 169 25).toNat)]) := by
  refine bX11_brothersOf_0 m ?_
  have main : ∀ (j b : Nat), (b : Int) + j = h 169 25 → zW mX11_brothersOf X dep 0 0 239 4 [(0, xR 169), (1, xI m), (2, xI (zcnt (mBro h m) b)), (3, xI b)] [] h (zF h [xI (zcnt (mBro h m) (h 169 25).toNat)]) := by
    intro j
    induction j with
    | zero =>
      intro b hk
      refine bX11_brothersOf_4 m _ b hm hx (by omega) (zcnt_in _ b) hdep ?_ ?_ ?_
      · intro c
        rw [show (h 169 25).toNat = b by omega]
        exact ⟨rfl, rfl, rfl⟩
      all_goals
        intro c
        exfalso
        omega
    | succ j ih =>
      intro b hk
      have go := ih (b + 1) (by omega)
      rw [show ((b + 1 : Nat) : Int) = (b : Int) + 1 by omega] at go
      refine bX11_brothersOf_4 m _ b hm hx (by omega) (zcnt_in _ b) hdep ?_ ?_ ?_
      · intro c
        exfalso
        omega
      · intro c1 c2
        rw [zcnt_0 (P := mBro h m) c2] at go
        rw [Int.add_zero]
        exact go
      · intro c1 c2
        rw [zcnt_1 (P := mBro h m) c2] at go
        exact go
  exact main (h 169 25).toNat 0 (by omega)
theorem l_X11_servingOf_20 {X : zX} {dep : Nat} {h : zH} {Q : Nat → zH → List zV → Prop} (m l n b : Int) (hm : 0 ≤ h 169 25 ∧ h 169 25 ≤ 60) (hx : 0 ≤ m ∧ m < 60) (hl : 0 ≤ l ∧ l < 4) (hb : 0 ≤ b ∧ b < h 169 25) (hn : 0 ≤ n ∧ n ≤ b) (hdep : 1 ≤ dep)
    (kx : zW mX11_servingOf X dep 0 0 239 5 [(0, xR 169), (1, xI m), (2, xI l), (3, xI (n + zb (mSer h l b ∧ mBro h m b))), (4, xI (b + 1))] [] h Q) :
    ∀ (j : Nat) (k y : Int), 0 ≤ k → k + j = l → (y ≠ 0 ↔ mSer h k b) → zW mX11_servingOf X dep 0 0 239 20 [(0, xR 169), (1, xI m), (2, xI l), (3, xI n), (4, xI b), (5, xI y), (6, xI k)] [] h Q := by
  intro j
  induction j with
  | zero =>
    intro k y h0 hk hy
    obtain rfl : k = l := by omega
    refine bX11_servingOf_20 m k n b y k hm hx hl ⟨hb.1, by omega⟩ hn hb.2 h0 hdep ?_ ?_ ?_ ?_ ?_
    · intro c1 c2
      rw [zb_f (fun z => hy.mpr z.1 c2)] at kx
      exact kx
    · intro c1 c2 c3
      rw [zb_f (fun z => c3 z.2)] at kx
      exact kx
    · intro c1 c2 c3
      rw [zb_t ⟨hy.mp c2, c3⟩] at kx
      exact kx
    all_goals
      intro c
      exfalso
      omega
  | succ j ih =>
    intro k y h0 hk hy
    refine bX11_servingOf_20 m l n b y k hm hx hl ⟨hb.1, by omega⟩ hn hb.2 h0 hdep ?_ ?_ ?_ ?_ ?_
    · intro c1 c2
      exfalso
      omega
    · intro c1 c2 c3
      exfalso
      omega
    · intro c1 c2 c3
      exfalso
      omega
    · intro c1 c2
      refine ih (k + 1) 1 (by omega) (by omega) ⟨fun _ => ?_, fun _ => by decide⟩
      obtain ⟨i, i1, i2⟩ := hy.mp c2
      exact ⟨i, ⟨i1.1, by omega⟩, i2⟩
    · intro c1 c2
      refine ih (k + 1) _ (by omega) (by omega) ⟨fun q => ?_, fun q => ?_⟩
      · by_cases e : h 230 (60 * k + b) = 0
        · rw [if_pos e] at q
          exact absurd rfl q
        · exact ⟨k, ⟨h0, by omega⟩, e⟩
      · obtain ⟨i, i1, i2⟩ := q
        by_cases e : i = k
        · rw [e] at i2
          rw [if_neg i2]
          decide
        · exact absurd c2 (hy.mpr ⟨i, ⟨i1.1, by omega⟩, i2⟩)
theorem f_X11_servingOf {X : zX} {dep : Nat} (m l : Int) {h : zH} (hm : 0 ≤ h 169 25 ∧ h 169 25 ≤ 60) (hx : 0 ≤ m ∧ m < 60) (hl : 0 ≤ l ∧ l < 4) (hdep : 1 ≤ dep) : zW mX11_servingOf X dep 0 0 239 0 (zar 0 [xR 169, xI m, xI l]) [] h (zF h [xI (zcnt (fun b => mSer h l b ∧ mBro h m b) (h 169 25).toNat)]) := by
  refine bX11_servingOf_0 m l ?_
  have main : ∀ (j b : Nat), (b : Int) + j = h 169 25 → zW mX11_servingOf X dep 0 0 239 5 [(0, xR 169), (1, xI m), (2, xI l), (3, xI (zcnt (fun b => mSer h l b ∧ mBro h m b) b)), (4, xI b)] [] h (zF h [xI (zcnt (fun b => mSer h l b ∧ mBro h m b) (h 169 25).toNat)]) := by
    intro j
    induction j with
    | zero =>
      intro b hk
      refine bX11_servingOf_5 m l _ b hm hx hl (by omega) (zcnt_in _ b) ?_ ?_
      · intro c
        rw [show (h 169 25).toNat = b by omega]
        exact ⟨rfl, rfl, rfl⟩
      · intro c
        exfalso
        omega
    | succ j ih =>
      intro b hk
      have go := ih (b + 1) (by omega)
      rw [show ((b + 1 : Nat) : Int) = (b : Int) + 1 by omega, zcnt_s] at go
      refine bX11_servingOf_5 m l _ b hm hx hl (by omega) (zcnt_in _ b) ?_ ?_
      · intro c
        exfalso
        omega
      · intro c
        refine l_X11_servingOf_20 m l _ b hm hx hl (by omega) (zcnt_in _ b) hdep go l.toNat 0 0 (by omega) (by omega) ⟨fun z => absurd rfl z, fun ⟨i, i1, _⟩ => by omega⟩
  exact main (h 169 25).toNat 0 (by omega)
/-- a man's number, of its kind -/
noncomputable def mnum (h : zH) (w m l : Int) : Int :=
  if w = 4 then zage (h 214 m) (h 205 l) else if w = 5 then h 217 (6 * m) else if w = 6 then h 217 (6 * m + 1) else if w = 7 then h 217 (6 * m + 5) else if w = 8 then h 218 m else if w = 9 then zcnt (mBro h m) (h 169 25).toNat else if w = 10 then zcnt (fun b => mSer h l b ∧ mBro h m b) (h 169 25).toNat else h 172 m

set_option maxRecDepth 20000 in
theorem bX11_numberOf_0 {X : zX} {dep bc bs : Nat} (w : Int) (m : Int) (l : Int) {h : zH} {Q : Nat → zH → List zV → Prop} (hm : 0 ≤ h 169 25 ∧ h 169 25 ≤ 60) (hx : 0 ≤ m ∧ m < 60) (hl : 0 ≤ l ∧ l < 4) (hb : -3120 ≤ h 214 m ∧ h 214 m < 520) (hd : 0 ≤ h 205 l ∧ h 205 l ≤ 3639) (hdep : 2 ≤ dep)
    (k1 : w < 4 → Q 239 h [xI (h 172 m)])
    (k2 : 10 < w → Q 239 h [xI (h 172 m)])
    (k3 : w = 4 → Q 239 h [xI (zage (h 214 m) (h 205 l))])
    (k4 : w = 5 → Q 239 h [xI (h 217 (6 * m))])
    (k5 : w = 6 → Q 239 h [xI (h 217 ((6 * m) + 1))])
    (k6 : w = 7 → Q 239 h [xI (h 217 ((6 * m) + 5))])
    (k7 : w = 8 → Q 239 h [xI (h 218 m)])
    (k8 : w = 9 → Q 239 h [xI (zcnt (mBro h m) (h 169 25).toNat)])
    (k9 : w = 10 → Q 239 h [xI (zcnt (fun b => mSer h l b ∧ mBro h m b) (h 169 25).toNat)]) : zW mX11_numberOf X dep bc bs 239 0 [(0, xR 169), (1, xI w), (2, xI m), (3, xI l)] [] h Q := by
  refine z_iload_n 1 dX11_numberOf_0 rfl ?_
  rcases (show w < 4 ∨ 10 < w ∨ w = 4 ∨ w = 5 ∨ w = 6 ∨ w = 7 ∨ w = 8 ∨ w = 9 ∨ w = 10 by omega) with c1 | c1 | c1 | c1 | c1 | c1 | c1 | c1 | c1
  ·
    refine z_tsOut (tgt := 110) dX11_numberOf_1 (Or.inl c1) (by decide) ?_
    refine z_aload_n 0 dX11_numberOf_110 rfl ?_
    refine z_getS (v := 172) (k := 7) (kz := 7) pk11 dX11_numberOf_111 (by decide) zb_1131 rfl (zOb.lit (by decide +kernel)) rfl (by decide +kernel) ?_
    refine z_iload_n 2 dX11_numberOf_114 rfl ?_
    refine z_iald dX11_numberOf_115 (zOb.lit (by decide +kernel)) hx.1 hx.2 ?_
    exact z_iret dX11_numberOf_116 rfl (k1 c1)
  ·
    refine z_tsOut (tgt := 110) dX11_numberOf_1 (Or.inr c1) (by decide) ?_
    refine z_aload_n 0 dX11_numberOf_110 rfl ?_
    refine z_getS (v := 172) (k := 7) (kz := 7) pk11 dX11_numberOf_111 (by decide) zb_1131 rfl (zOb.lit (by decide +kernel)) rfl (by decide +kernel) ?_
    refine z_iload_n 2 dX11_numberOf_114 rfl ?_
    refine z_iald dX11_numberOf_115 (zOb.lit (by decide +kernel)) hx.1 hx.2 ?_
    exact z_iret dX11_numberOf_116 rfl (k2 c1)
  ·
    refine z_tsIn (tgt := 44) dX11_numberOf_1 (by omega) (by omega) (by rw [c1]; rfl) (by decide) ?_
    refine z_aload_n 0 dX11_numberOf_44 rfl ?_
    refine z_iload_n 2 dX11_numberOf_45 rfl ?_
    refine z_aload_n 0 dX11_numberOf_46 rfl ?_
    refine z_getS (v := 205) (k := 57) (kz := 57) pk11 dX11_numberOf_47 (by decide) zb_1181 rfl (zOb.lit (by decide +kernel)) rfl (by decide +kernel) ?_
    refine z_iload_n 3 dX11_numberOf_50 rfl ?_
    refine z_iald dX11_numberOf_51 (zOb.lit (by decide +kernel)) hl.1 hl.2 ?_
    refine z_invF (ci := 11) (N := 97) (as := [xI m, xI (h 205 l)]) (st := []) (ra := [xI (h 205 l), xI m]) (dep' := dep - 1) (rs := [xI (zage (h 214 m) (h 205 l))]) (h' := h) (f_X11_ageOf m (h 205 l) (h := h) hx (show 0 ≤ (h 205 l) ∧ (h 205 l) ≤ 3639 from ⟨by omega, by omega⟩) hb) dX11_numberOf_52 nX11_ageOf zb_1607 zb_1609 zb_58 zb_92 (zOb.lit (by decide +kernel)) rfl (by omega) zne_I (Nat.le_of_ble_eq_true rfl) (Nat.le_of_ble_eq_true rfl) rfl ?_
    exact z_iret dX11_numberOf_55 rfl (k3 c1)
  ·
    refine z_tsIn (tgt := 56) dX11_numberOf_1 (by omega) (by omega) (by rw [c1]; rfl) (by decide) ?_
    refine z_aload_n 0 dX11_numberOf_56 rfl ?_
    refine z_getS (v := 217) (k := 70) (kz := 70) pk11 dX11_numberOf_57 (by decide) zb_1194 rfl (zOb.lit (by decide +kernel)) rfl (by decide +kernel) ?_
    refine z_bipush dX11_numberOf_60 (zi32_d rfl) (by decide) ?_
    refine z_iload_n 2 dX11_numberOf_62 rfl ?_
    refine z_imulN dX11_numberOf_63 (show -2147483648 ≤ 6 * m ∧ 6 * m < 2147483648 from ⟨by omega, by omega⟩).1 (show -2147483648 ≤ 6 * m ∧ 6 * m < 2147483648 from ⟨by omega, by omega⟩).2 ?_
    refine z_iald dX11_numberOf_64 (zOb.lit (by decide +kernel)) (show 0 ≤ (6 * m) ∧ (6 * m) < 360 from ⟨by omega, by omega⟩).1 (show 0 ≤ (6 * m) ∧ (6 * m) < 360 from ⟨by omega, by omega⟩).2 ?_
    exact z_iret dX11_numberOf_65 rfl (k4 c1)
  ·
    refine z_tsIn (tgt := 66) dX11_numberOf_1 (by omega) (by omega) (by rw [c1]; rfl) (by decide) ?_
    refine z_aload_n 0 dX11_numberOf_66 rfl ?_
    refine z_getS (v := 217) (k := 70) (kz := 70) pk11 dX11_numberOf_67 (by decide) zb_1194 rfl (zOb.lit (by decide +kernel)) rfl (by decide +kernel) ?_
    refine z_bipush dX11_numberOf_70 (zi32_d rfl) (by decide) ?_
    refine z_iload_n 2 dX11_numberOf_72 rfl ?_
    refine z_imulN dX11_numberOf_73 (show -2147483648 ≤ 6 * m ∧ 6 * m < 2147483648 from ⟨by omega, by omega⟩).1 (show -2147483648 ≤ 6 * m ∧ 6 * m < 2147483648 from ⟨by omega, by omega⟩).2 ?_
    refine z_iconst dX11_numberOf_74 (zi32_d rfl) ?_
    refine z_iaddN dX11_numberOf_75 (show -2147483648 ≤ (6 * m) + 1 ∧ (6 * m) + 1 < 2147483648 from ⟨by omega, by omega⟩).1 (show -2147483648 ≤ (6 * m) + 1 ∧ (6 * m) + 1 < 2147483648 from ⟨by omega, by omega⟩).2 ?_
    refine z_iald dX11_numberOf_76 (zOb.lit (by decide +kernel)) (show 0 ≤ ((6 * m) + 1) ∧ ((6 * m) + 1) < 360 from ⟨by omega, by omega⟩).1 (show 0 ≤ ((6 * m) + 1) ∧ ((6 * m) + 1) < 360 from ⟨by omega, by omega⟩).2 ?_
    exact z_iret dX11_numberOf_77 rfl (k5 c1)
  ·
    refine z_tsIn (tgt := 78) dX11_numberOf_1 (by omega) (by omega) (by rw [c1]; rfl) (by decide) ?_
    refine z_aload_n 0 dX11_numberOf_78 rfl ?_
    refine z_getS (v := 217) (k := 70) (kz := 70) pk11 dX11_numberOf_79 (by decide) zb_1194 rfl (zOb.lit (by decide +kernel)) rfl (by decide +kernel) ?_
    refine z_bipush dX11_numberOf_82 (zi32_d rfl) (by decide) ?_
    refine z_iload_n 2 dX11_numberOf_84 rfl ?_
    refine z_imulN dX11_numberOf_85 (show -2147483648 ≤ 6 * m ∧ 6 * m < 2147483648 from ⟨by omega, by omega⟩).1 (show -2147483648 ≤ 6 * m ∧ 6 * m < 2147483648 from ⟨by omega, by omega⟩).2 ?_
    refine z_iconst dX11_numberOf_86 (zi32_d rfl) ?_
    refine z_iaddN dX11_numberOf_87 (show -2147483648 ≤ (6 * m) + 5 ∧ (6 * m) + 5 < 2147483648 from ⟨by omega, by omega⟩).1 (show -2147483648 ≤ (6 * m) + 5 ∧ (6 * m) + 5 < 2147483648 from ⟨by omega, by omega⟩).2 ?_
    refine z_iald dX11_numberOf_88 (zOb.lit (by decide +kernel)) (show 0 ≤ ((6 * m) + 5) ∧ ((6 * m) + 5) < 360 from ⟨by omega, by omega⟩).1 (show 0 ≤ ((6 * m) + 5) ∧ ((6 * m) + 5) < 360 from ⟨by omega, by omega⟩).2 ?_
    exact z_iret dX11_numberOf_89 rfl (k6 c1)
  ·
    refine z_tsIn (tgt := 90) dX11_numberOf_1 (by omega) (by omega) (by rw [c1]; rfl) (by decide) ?_
    refine z_aload_n 0 dX11_numberOf_90 rfl ?_
    refine z_getS (v := 218) (k := 71) (kz := 71) pk11 dX11_numberOf_91 (by decide) zb_1195 rfl (zOb.lit (by decide +kernel)) rfl (by decide +kernel) ?_
    refine z_iload_n 2 dX11_numberOf_94 rfl ?_
    refine z_iald dX11_numberOf_95 (zOb.lit (by decide +kernel)) hx.1 hx.2 ?_
    exact z_iret dX11_numberOf_96 rfl (k7 c1)
  ·
    refine z_tsIn (tgt := 97) dX11_numberOf_1 (by omega) (by omega) (by rw [c1]; rfl) (by decide) ?_
    refine z_aload_n 0 dX11_numberOf_97 rfl ?_
    refine z_iload_n 2 dX11_numberOf_98 rfl ?_
    refine z_invF (ci := 11) (N := 97) (as := [xI m]) (st := []) (ra := [xI m]) (dep' := dep - 1) (rs := [xI (zcnt (mBro h m) (h 169 25).toNat)]) (h' := h) (f_X11_brothersOf m (h := h) hm hx (by omega)) dX11_numberOf_99 nX11_brothersOf zb_1615 zb_1617 zb_59 zb_92 (zOb.lit (by decide +kernel)) rfl (by omega) zne_I (Nat.le_of_ble_eq_true rfl) (Nat.le_of_ble_eq_true rfl) rfl ?_
    exact z_iret dX11_numberOf_102 rfl (k8 c1)
  ·
    refine z_tsIn (tgt := 103) dX11_numberOf_1 (by omega) (by omega) (by rw [c1]; rfl) (by decide) ?_
    refine z_aload_n 0 dX11_numberOf_103 rfl ?_
    refine z_iload_n 2 dX11_numberOf_104 rfl ?_
    refine z_iload_n 3 dX11_numberOf_105 rfl ?_
    refine z_invF (ci := 11) (N := 97) (as := [xI m, xI l]) (st := []) (ra := [xI l, xI m]) (dep' := dep - 1) (rs := [xI (zcnt (fun b => mSer h l b ∧ mBro h m b) (h 169 25).toNat)]) (h' := h) (f_X11_servingOf m l (h := h) hm hx hl (by omega)) dX11_numberOf_106 nX11_servingOf zb_1655 zb_1657 zb_68 zb_92 (zOb.lit (by decide +kernel)) rfl (by omega) zne_I (Nat.le_of_ble_eq_true rfl) (Nat.le_of_ble_eq_true rfl) rfl ?_
    exact z_iret dX11_numberOf_109 rfl (k9 c1)
theorem f_X11_numberOf {X : zX} {dep : Nat} (w : Int) (m : Int) (l : Int) {h : zH} (hm : 0 ≤ h 169 25 ∧ h 169 25 ≤ 60) (hx : 0 ≤ m ∧ m < 60) (hl : 0 ≤ l ∧ l < 4) (hb : -3120 ≤ h 214 m ∧ h 214 m < 520) (hd : 0 ≤ h 205 l ∧ h 205 l ≤ 3639) (hdep : 2 ≤ dep) : zW mX11_numberOf X dep 0 0 239 0 (zar 0 [xR 169, xI w, xI m, xI l]) [] h (zF h [xI (mnum h w m l)]) := by
  refine bX11_numberOf_0 w m l hm hx hl hb hd hdep ?_ ?_ ?_ ?_ ?_ ?_ ?_ ?_ ?_
  all_goals intros
  all_goals refine ⟨rfl, rfl, congrArg (fun x => [xI x]) ?_⟩
  all_goals unfold mnum
  all_goals (repeat' split) <;> first | rfl | omega

set_option maxRecDepth 20000 in
theorem bX11_isSo_0 {X : zX} {dep bc bs : Nat} (w : Int) (x : Int) (m : Int) (l : Int) {g : zH} {Q : Nat → zH → List zV → Prop} (hw : 0 ≤ w ∧ w < 8) (hxx : 0 ≤ x ∧ x < 180) (h1 : 0 ≤ g 198 x ∧ g 198 x ≤ g 199 x ∧ g 199 x ≤ 130)
    (k1 : zW mX11_isSo X dep bc bs 239 17 [(0, xR 169), (1, xI w), (2, xI x), (3, xI m), (4, xI l), (5, xI 0), (6, xI ((130 * w) + (g 198 x)))] [] g Q) : zW mX11_isSo X dep bc bs 239 0 [(0, xR 169), (1, xI w), (2, xI x), (3, xI m), (4, xI l)] [] g Q := by
  refine z_iconst dX11_isSo_0 (zi32_d rfl) ?_
  refine z_istore (lv' := [(5, xI 0), (0, xR 169), (1, xI w), (2, xI x), (3, xI m), (4, xI l)]) dX11_isSo_1 (by decide) rfl ?_
  refine z_sipush dX11_isSo_3 (zi32_d rfl) (by decide) ?_
  refine z_iload_n 2 dX11_isSo_6 rfl ?_
  refine z_imulN dX11_isSo_7 (show -2147483648 ≤ 130 * w ∧ 130 * w < 2147483648 from ⟨by omega, by omega⟩).1 (show -2147483648 ≤ 130 * w ∧ 130 * w < 2147483648 from ⟨by omega, by omega⟩).2 ?_
  refine z_aload_n 1 dX11_isSo_8 rfl ?_
  refine z_getS (v := 198) (k := 38) (kz := 38) pk11 dX11_isSo_9 (by decide) zb_1162 rfl (zOb.lit (by decide +kernel)) rfl (by decide +kernel) ?_
  refine z_iload_n 3 dX11_isSo_12 rfl ?_
  refine z_iald dX11_isSo_13 (zOb.lit (by decide +kernel)) hxx.1 hxx.2 ?_
  refine z_iaddN dX11_isSo_14 (show -2147483648 ≤ (130 * w) + (g 198 x) ∧ (130 * w) + (g 198 x) < 2147483648 from ⟨by omega, by omega⟩).1 (show -2147483648 ≤ (130 * w) + (g 198 x) ∧ (130 * w) + (g 198 x) < 2147483648 from ⟨by omega, by omega⟩).2 ?_
  refine z_istore (lv' := [(6, xI ((130 * w) + (g 198 x))), (5, xI 0), (0, xR 169), (1, xI w), (2, xI x), (3, xI m), (4, xI l)]) dX11_isSo_15 (by decide) rfl ?_
  refine zW.sub (lv' := [(0, xR 169), (1, xI w), (2, xI x), (3, xI m), (4, xI l), (5, xI 0), (6, xI ((130 * w) + (g 198 x)))]) [2, 3, 4, 5, 6, 1, 0] rfl ?_
  exact k1

set_option maxRecDepth 20000 in
theorem bX11_isSo_17a {X : zX} {dep bc bs : Nat} (w : Int) (x : Int) (m : Int) (l : Int) (n : Int) (k : Int) {g : zH} {Q : Nat → zH → List zV → Prop} (hm : 0 ≤ g 169 25 ∧ g 169 25 ≤ 60) (hx : 0 ≤ m ∧ m < 60) (hl : 0 ≤ l ∧ l < 4) (hb : -3120 ≤ g 214 m ∧ g 214 m < 520) (hd : 0 ≤ g 205 l ∧ g 205 l ≤ 3639) (hw : 0 ≤ w ∧ w < 8) (hxx : 0 ≤ x ∧ x < 180) (h1 : 0 ≤ g 198 x ∧ g 198 x ≤ g 199 x ∧ g 199 x ≤ 130) (hk : 0 ≤ k ∧ k ≤ 1170) (hn : 0 ≤ n ∧ n ≤ 80) (hc : 130 * w + g 199 x ≤ k ∨ g 201 k ≠ 20 ∨ 1 ≤ n)
    (k1 : ((130 * w) + (g 199 x)) ≤ k → Q 239 g [xI (if n = 0 then 1 else if (g 231 0) = 0 then 0 else 1 : Int)])
    (k2 : ¬ (((130 * w) + (g 199 x)) ≤ k) → ¬ (g 201 k) = 20 → zW mX11_isSo X dep bc bs 239 79 [(0, xR 169), (1, xI w), (2, xI x), (3, xI m), (4, xI l), (5, xI n), (6, xI k), (7, xI (g 201 k))] [] g Q)
    (k3 : ¬ (((130 * w) + (g 199 x)) ≤ k) → (g 201 k) = 20 → zW mX11_isSo X dep bc bs 239 17 [(0, xR 169), (1, xI w), (2, xI x), (3, xI m), (4, xI l), (5, xI n), (6, xI (k + 1))] [] (zst g 231 (n - 1) (if (g 231 (n - 1)) = 0 then 1 else 0 : Int)) Q) : zW mX11_isSo X dep bc bs 239 17 [(0, xR 169), (1, xI w), (2, xI x), (3, xI m), (4, xI l), (5, xI n), (6, xI k)] [] g Q := by
  refine z_iload 6 dX11_isSo_17 rfl ?_
  refine z_sipush dX11_isSo_19 (zi32_d rfl) (by decide) ?_
  refine z_iload_n 1 dX11_isSo_22 rfl ?_
  refine z_imulN dX11_isSo_23 (show -2147483648 ≤ 130 * w ∧ 130 * w < 2147483648 from ⟨by omega, by omega⟩).1 (show -2147483648 ≤ 130 * w ∧ 130 * w < 2147483648 from ⟨by omega, by omega⟩).2 ?_
  refine z_aload_n 0 dX11_isSo_24 rfl ?_
  refine z_getS (v := 199) (k := 39) (kz := 39) pk11 dX11_isSo_25 (by decide) zb_1163 rfl (zOb.lit (by decide +kernel)) rfl (by decide +kernel) ?_
  refine z_iload_n 2 dX11_isSo_28 rfl ?_
  refine z_iald dX11_isSo_29 (zOb.lit (by decide +kernel)) hxx.1 hxx.2 ?_
  refine z_iaddN dX11_isSo_30 (show -2147483648 ≤ (130 * w) + (g 199 x) ∧ (130 * w) + (g 199 x) < 2147483648 from ⟨by omega, by omega⟩).1 (show -2147483648 ≤ (130 * w) + (g 199 x) ∧ (130 * w) + (g 199 x) < 2147483648 from ⟨by omega, by omega⟩).2 ?_
  refine z_icmp_ge (tgt := 344) dX11_isSo_31 (by decide) (fun c1 => ?_) (fun c1 => ?_)
  ·
    refine z_iload 5 dX11_isSo_344 rfl ?_
    suffices KJ : zW mX11_isSo X dep bc bs 239 363 [(0, xR 169), (1, xI w), (2, xI x), (3, xI m), (4, xI l), (5, xI n), (6, xI k)] [xI (if n = 0 then 1 else if (g 231 0) = 0 then 0 else 1 : Int)] g Q by
      refine z_if_eq (tgt := 358) dX11_isSo_346 (by decide) (fun j1 => ?_) (fun j1 => ?_)
      ·
        refine z_iconst dX11_isSo_358 (zi32_d rfl) ?_
        refine z_goto (tgt := 363) dX11_isSo_359 (by decide) ?_
        rw [if_pos j1] at KJ
        exact KJ
      ·
        refine z_aload_n 0 dX11_isSo_349 rfl ?_
        refine z_getS (v := 231) (k := 84) (kz := 84) pk11 dX11_isSo_350 (by decide) zb_1208 rfl (zOb.lit (by decide +kernel)) rfl (by decide +kernel) ?_
        refine z_iconst dX11_isSo_353 (zi32_d rfl) ?_
        refine z_zald (N := 80) dX11_isSo_354 (zOb.lit (by decide +kernel)) (by decide) (by decide) ?_
        refine z_if_eq (tgt := 362) dX11_isSo_355 (by decide) (fun j2 => ?_) (fun j2 => ?_)
        ·
          refine z_iconst dX11_isSo_362 (zi32_d rfl) ?_
          rw [if_neg j1] at KJ
          rw [if_pos j2] at KJ
          exact KJ
        ·
          refine z_iconst dX11_isSo_358 (zi32_d rfl) ?_
          refine z_goto (tgt := 363) dX11_isSo_359 (by decide) ?_
          rw [if_neg j1] at KJ
          rw [if_neg j2] at KJ
          exact KJ
    exact z_zret dX11_isSo_363 rfl (by repeat (first | (left; rfl) | (right; rfl) | split)) (k1 c1)
  ·
    refine z_aload_n 0 dX11_isSo_34 rfl ?_
    refine z_getS (v := 201) (k := 41) (kz := 41) pk11 dX11_isSo_35 (by decide) zb_1165 rfl (zOb.lit (by decide +kernel)) rfl (by decide +kernel) ?_
    refine z_iload 6 dX11_isSo_38 rfl ?_
    refine z_iald dX11_isSo_40 (zOb.lit (by decide +kernel)) (show 0 ≤ k ∧ k < 1170 from ⟨by omega, by omega⟩).1 (show 0 ≤ k ∧ k < 1170 from ⟨by omega, by omega⟩).2 ?_
    refine z_istore (lv' := [(7, xI (g 201 k)), (0, xR 169), (1, xI w), (2, xI x), (3, xI m), (4, xI l), (5, xI n), (6, xI k)]) dX11_isSo_41 (by decide) rfl ?_
    refine z_iload 0 dX11_isSo_43 rfl ?_
    refine z_bipush dX11_isSo_45 (zi32_d rfl) (by decide) ?_
    refine z_icmp_ne (tgt := 79) dX11_isSo_47 (by decide) (fun c2 => ?_) (fun c2 => ?_)
    ·
      refine zW.sub (lv' := [(0, xR 169), (1, xI w), (2, xI x), (3, xI m), (4, xI l), (5, xI n), (6, xI k), (7, xI (g 201 k))]) [1, 2, 3, 4, 5, 6, 7, 0] rfl ?_
      exact k2 c1 c2
    ·
      refine z_aload_n 1 dX11_isSo_50 rfl ?_
      refine z_getS (v := 231) (k := 84) (kz := 84) pk11 dX11_isSo_51 (by decide) zb_1208 rfl (zOb.lit (by decide +kernel)) rfl (by decide +kernel) ?_
      refine z_iload 6 dX11_isSo_54 rfl ?_
      refine z_iconst dX11_isSo_56 (zi32_d rfl) ?_
      refine z_isubN dX11_isSo_57 (show -2147483648 ≤ n - 1 ∧ n - 1 < 2147483648 from ⟨by omega, by omega⟩).1 (show -2147483648 ≤ n - 1 ∧ n - 1 < 2147483648 from ⟨by omega, by omega⟩).2 ?_
      refine z_aload_n 1 dX11_isSo_58 rfl ?_
      refine z_getS (v := 231) (k := 84) (kz := 84) pk11 dX11_isSo_59 (by decide) zb_1208 rfl (zOb.lit (by decide +kernel)) rfl (by decide +kernel) ?_
      refine z_iload 6 dX11_isSo_62 rfl ?_
      refine z_iconst dX11_isSo_64 (zi32_d rfl) ?_
      refine z_isubN dX11_isSo_65 (show -2147483648 ≤ n - 1 ∧ n - 1 < 2147483648 from ⟨by omega, by omega⟩).1 (show -2147483648 ≤ n - 1 ∧ n - 1 < 2147483648 from ⟨by omega, by omega⟩).2 ?_
      refine z_zald dX11_isSo_66 (zOb.lit (by decide +kernel)) (show 0 ≤ (n - 1) ∧ (n - 1) < 80 from ⟨by omega, by omega⟩).1 (show 0 ≤ (n - 1) ∧ (n - 1) < 80 from ⟨by omega, by omega⟩).2 ?_
      suffices KJ : zW mX11_isSo X dep bc bs 239 75 [(7, xI (g 201 k)), (0, xR 169), (1, xI w), (2, xI x), (3, xI m), (4, xI l), (5, xI n), (6, xI k)] [xI (if (g 231 (n - 1)) = 0 then 1 else 0 : Int), xI (n - 1), xR 231] g Q by
        refine z_if_ne (tgt := 74) dX11_isSo_67 (by decide) (fun j1 => ?_) (fun j1 => ?_)
        ·
          refine z_iconst dX11_isSo_74 (zi32_d rfl) ?_
          rw [if_neg j1] at KJ
          exact KJ
        ·
          refine z_iconst dX11_isSo_70 (zi32_d rfl) ?_
          refine z_goto (tgt := 75) dX11_isSo_71 (by decide) ?_
          rw [if_pos j1] at KJ
          exact KJ
      refine z_zast dX11_isSo_75 (zOb.lit (by decide +kernel)) (show 0 ≤ (n - 1) ∧ (n - 1) < 80 from ⟨by omega, by omega⟩).1 (show 0 ≤ (n - 1) ∧ (n - 1) < 80 from ⟨by omega, by omega⟩).2 (by repeat (first | (left; rfl) | (right; rfl) | split)) ?_
      refine z_goto (tgt := 338) dX11_isSo_76 (by decide) ?_
      refine z_iincN (lv' := [(6, xI (k + 1)), (7, xI (g 201 k)), (0, xR 169), (1, xI w), (2, xI x), (3, xI m), (4, xI l), (5, xI n)]) 7 dX11_isSo_338 rfl (by decide) rfl (show -2147483648 ≤ k + 1 ∧ k + 1 < 2147483648 from ⟨by omega, by omega⟩).1 (show -2147483648 ≤ k + 1 ∧ k + 1 < 2147483648 from ⟨by omega, by omega⟩).2 ?_
      refine z_goto (tgt := 17) dX11_isSo_341 (by decide) ?_
      refine zW.sub (lv' := [(0, xR 169), (1, xI w), (2, xI x), (3, xI m), (4, xI l), (5, xI n), (6, xI (k + 1))]) [2, 3, 4, 5, 6, 7, 0] rfl ?_
      exact k3 c1 c2

set_option maxRecDepth 20000 in
theorem bX11_isSo_79 {X : zX} {dep bc bs : Nat} (w : Int) (x : Int) (m : Int) (l : Int) (n : Int) (k : Int) (s : Int) {g : zH} {Q : Nat → zH → List zV → Prop}
    (k1 : s = 21 → zW mX11_isSo X dep bc bs 239 93 [(0, xR 169), (1, xI w), (2, xI x), (3, xI m), (4, xI l), (5, xI n), (6, xI k), (7, xI s)] [] g Q)
    (k2 : ¬ (s = 21) → ¬ s = 22 → zW mX11_isSo X dep bc bs 239 172 [(0, xR 169), (1, xI w), (2, xI x), (3, xI m), (4, xI l), (5, xI n), (6, xI k), (7, xI s)] [] g Q)
    (k3 : ¬ (s = 21) → s = 22 → zW mX11_isSo X dep bc bs 239 93 [(0, xR 169), (1, xI w), (2, xI x), (3, xI m), (4, xI l), (5, xI n), (6, xI k), (7, xI s)] [] g Q) : zW mX11_isSo X dep bc bs 239 79 [(0, xR 169), (1, xI w), (2, xI x), (3, xI m), (4, xI l), (5, xI n), (6, xI k), (7, xI s)] [] g Q := by
  refine z_iload 7 dX11_isSo_79 rfl ?_
  refine z_bipush dX11_isSo_81 (zi32_d rfl) (by decide) ?_
  refine z_icmp_eq (tgt := 93) dX11_isSo_83 (by decide) (fun c1 => ?_) (fun c1 => ?_)
  ·
    exact k1 c1
  ·
    refine z_iload 7 dX11_isSo_86 rfl ?_
    refine z_bipush dX11_isSo_88 (zi32_d rfl) (by decide) ?_
    refine z_icmp_ne (tgt := 172) dX11_isSo_90 (by decide) (fun c2 => ?_) (fun c2 => ?_)
    ·
      exact k2 c1 c2
    ·
      exact k3 c1 c2

set_option maxRecDepth 20000 in
theorem bX11_isSo_93 {X : zX} {dep bc bs : Nat} (w : Int) (x : Int) (m : Int) (l : Int) (n : Int) (k : Int) (s : Int) {g : zH} {Q : Nat → zH → List zV → Prop} (hk : 0 ≤ k ∧ k < 1170) (hn : 2 ≤ n ∧ n ≤ 80)
    (k1 : ¬ s = 21 → zW mX11_isSo X dep bc bs 239 17 [(0, xR 169), (1, xI w), (2, xI x), (3, xI m), (4, xI l), (5, xI (n + (-1))), (6, xI (k + 1))] [] (zst g 231 ((n + (-1)) - 1) (if (g 231 ((n + (-1)) - 1)) = 0 then if (g 231 (n + (-1))) = 0 then 0 else 1 else 1 : Int)) Q)
    (k2 : s = 21 → zW mX11_isSo X dep bc bs 239 17 [(0, xR 169), (1, xI w), (2, xI x), (3, xI m), (4, xI l), (5, xI (n + (-1))), (6, xI (k + 1))] [] (zst g 231 ((n + (-1)) - 1) (if (g 231 ((n + (-1)) - 1)) = 0 then 0 else if (g 231 (n + (-1))) = 0 then 0 else 1 : Int)) Q) : zW mX11_isSo X dep bc bs 239 93 [(0, xR 169), (1, xI w), (2, xI x), (3, xI m), (4, xI l), (5, xI n), (6, xI k), (7, xI s)] [] g Q := by
  refine z_iincN (lv' := [(5, xI (n + (-1))), (0, xR 169), (1, xI w), (2, xI x), (3, xI m), (4, xI l), (6, xI k), (7, xI s)]) 5 dX11_isSo_93 rfl (by decide) rfl (show -2147483648 ≤ n + (-1) ∧ n + (-1) < 2147483648 from ⟨by omega, by omega⟩).1 (show -2147483648 ≤ n + (-1) ∧ n + (-1) < 2147483648 from ⟨by omega, by omega⟩).2 ?_
  refine z_aload_n 1 dX11_isSo_96 rfl ?_
  refine z_getS (v := 231) (k := 84) (kz := 84) pk11 dX11_isSo_97 (by decide) zb_1208 rfl (zOb.lit (by decide +kernel)) rfl (by decide +kernel) ?_
  refine z_iload 0 dX11_isSo_100 rfl ?_
  refine z_iconst dX11_isSo_102 (zi32_d rfl) ?_
  refine z_isubN dX11_isSo_103 (show -2147483648 ≤ (n + (-1)) - 1 ∧ (n + (-1)) - 1 < 2147483648 from ⟨by omega, by omega⟩).1 (show -2147483648 ≤ (n + (-1)) - 1 ∧ (n + (-1)) - 1 < 2147483648 from ⟨by omega, by omega⟩).2 ?_
  refine z_iload 7 dX11_isSo_104 rfl ?_
  refine z_bipush dX11_isSo_106 (zi32_d rfl) (by decide) ?_
  refine z_icmp_ne (tgt := 141) dX11_isSo_108 (by decide) (fun c1 => ?_) (fun c1 => ?_)
  ·
    refine z_aload_n 1 dX11_isSo_141 rfl ?_
    refine z_getS (v := 231) (k := 84) (kz := 84) pk11 dX11_isSo_142 (by decide) zb_1208 rfl (zOb.lit (by decide +kernel)) rfl (by decide +kernel) ?_
    refine z_iload 0 dX11_isSo_145 rfl ?_
    refine z_iconst dX11_isSo_147 (zi32_d rfl) ?_
    refine z_isubN dX11_isSo_148 (show -2147483648 ≤ (n + (-1)) - 1 ∧ (n + (-1)) - 1 < 2147483648 from ⟨by omega, by omega⟩).1 (show -2147483648 ≤ (n + (-1)) - 1 ∧ (n + (-1)) - 1 < 2147483648 from ⟨by omega, by omega⟩).2 ?_
    refine z_zald dX11_isSo_149 (zOb.lit (by decide +kernel)) (show 0 ≤ ((n + (-1)) - 1) ∧ ((n + (-1)) - 1) < 80 from ⟨by omega, by omega⟩).1 (show 0 ≤ ((n + (-1)) - 1) ∧ ((n + (-1)) - 1) < 80 from ⟨by omega, by omega⟩).2 ?_
    suffices KJ : zW mX11_isSo X dep bc bs 239 168 [(5, xI (n + (-1))), (0, xR 169), (1, xI w), (2, xI x), (3, xI m), (4, xI l), (6, xI k), (7, xI s)] [xI (if (g 231 ((n + (-1)) - 1)) = 0 then if (g 231 (n + (-1))) = 0 then 0 else 1 else 1 : Int), xI ((n + (-1)) - 1), xR 231] g Q by
      refine z_if_ne (tgt := 163) dX11_isSo_150 (by decide) (fun j1 => ?_) (fun j1 => ?_)
      ·
        refine z_iconst dX11_isSo_163 (zi32_d rfl) ?_
        refine z_goto (tgt := 168) dX11_isSo_164 (by decide) ?_
        rw [if_neg j1] at KJ
        exact KJ
      ·
        refine z_aload_n 1 dX11_isSo_153 rfl ?_
        refine z_getS (v := 231) (k := 84) (kz := 84) pk11 dX11_isSo_154 (by decide) zb_1208 rfl (zOb.lit (by decide +kernel)) rfl (by decide +kernel) ?_
        refine z_iload 0 dX11_isSo_157 rfl ?_
        refine z_zald dX11_isSo_159 (zOb.lit (by decide +kernel)) (show 0 ≤ (n + (-1)) ∧ (n + (-1)) < 80 from ⟨by omega, by omega⟩).1 (show 0 ≤ (n + (-1)) ∧ (n + (-1)) < 80 from ⟨by omega, by omega⟩).2 ?_
        refine z_if_eq (tgt := 167) dX11_isSo_160 (by decide) (fun j2 => ?_) (fun j2 => ?_)
        ·
          refine z_iconst dX11_isSo_167 (zi32_d rfl) ?_
          rw [if_pos j1] at KJ
          rw [if_pos j2] at KJ
          exact KJ
        ·
          refine z_iconst dX11_isSo_163 (zi32_d rfl) ?_
          refine z_goto (tgt := 168) dX11_isSo_164 (by decide) ?_
          rw [if_pos j1] at KJ
          rw [if_neg j2] at KJ
          exact KJ
    refine z_zast dX11_isSo_168 (zOb.lit (by decide +kernel)) (show 0 ≤ ((n + (-1)) - 1) ∧ ((n + (-1)) - 1) < 80 from ⟨by omega, by omega⟩).1 (show 0 ≤ ((n + (-1)) - 1) ∧ ((n + (-1)) - 1) < 80 from ⟨by omega, by omega⟩).2 (by repeat (first | (left; rfl) | (right; rfl) | split)) ?_
    refine z_goto (tgt := 338) dX11_isSo_169 (by decide) ?_
    refine z_iincN (lv' := [(6, xI (k + 1)), (5, xI (n + (-1))), (0, xR 169), (1, xI w), (2, xI x), (3, xI m), (4, xI l), (7, xI s)]) 6 dX11_isSo_338 rfl (by decide) rfl (show -2147483648 ≤ k + 1 ∧ k + 1 < 2147483648 from ⟨by omega, by omega⟩).1 (show -2147483648 ≤ k + 1 ∧ k + 1 < 2147483648 from ⟨by omega, by omega⟩).2 ?_
    refine z_goto (tgt := 17) dX11_isSo_341 (by decide) ?_
    refine zW.sub (lv' := [(0, xR 169), (1, xI w), (2, xI x), (3, xI m), (4, xI l), (5, xI (n + (-1))), (6, xI (k + 1))]) [2, 3, 4, 5, 6, 1, 0] rfl ?_
    exact k1 c1
  ·
    refine z_aload_n 1 dX11_isSo_111 rfl ?_
    refine z_getS (v := 231) (k := 84) (kz := 84) pk11 dX11_isSo_112 (by decide) zb_1208 rfl (zOb.lit (by decide +kernel)) rfl (by decide +kernel) ?_
    refine z_iload 0 dX11_isSo_115 rfl ?_
    refine z_iconst dX11_isSo_117 (zi32_d rfl) ?_
    refine z_isubN dX11_isSo_118 (show -2147483648 ≤ (n + (-1)) - 1 ∧ (n + (-1)) - 1 < 2147483648 from ⟨by omega, by omega⟩).1 (show -2147483648 ≤ (n + (-1)) - 1 ∧ (n + (-1)) - 1 < 2147483648 from ⟨by omega, by omega⟩).2 ?_
    refine z_zald dX11_isSo_119 (zOb.lit (by decide +kernel)) (show 0 ≤ ((n + (-1)) - 1) ∧ ((n + (-1)) - 1) < 80 from ⟨by omega, by omega⟩).1 (show 0 ≤ ((n + (-1)) - 1) ∧ ((n + (-1)) - 1) < 80 from ⟨by omega, by omega⟩).2 ?_
    suffices KJ : zW mX11_isSo X dep bc bs 239 168 [(5, xI (n + (-1))), (0, xR 169), (1, xI w), (2, xI x), (3, xI m), (4, xI l), (6, xI k), (7, xI s)] [xI (if (g 231 ((n + (-1)) - 1)) = 0 then 0 else if (g 231 (n + (-1))) = 0 then 0 else 1 : Int), xI ((n + (-1)) - 1), xR 231] g Q by
      refine z_if_eq (tgt := 137) dX11_isSo_120 (by decide) (fun j1 => ?_) (fun j1 => ?_)
      ·
        refine z_iconst dX11_isSo_137 (zi32_d rfl) ?_
        refine z_goto (tgt := 168) dX11_isSo_138 (by decide) ?_
        rw [if_pos j1] at KJ
        exact KJ
      ·
        refine z_aload_n 1 dX11_isSo_123 rfl ?_
        refine z_getS (v := 231) (k := 84) (kz := 84) pk11 dX11_isSo_124 (by decide) zb_1208 rfl (zOb.lit (by decide +kernel)) rfl (by decide +kernel) ?_
        refine z_iload 0 dX11_isSo_127 rfl ?_
        refine z_zald dX11_isSo_129 (zOb.lit (by decide +kernel)) (show 0 ≤ (n + (-1)) ∧ (n + (-1)) < 80 from ⟨by omega, by omega⟩).1 (show 0 ≤ (n + (-1)) ∧ (n + (-1)) < 80 from ⟨by omega, by omega⟩).2 ?_
        refine z_if_eq (tgt := 137) dX11_isSo_130 (by decide) (fun j2 => ?_) (fun j2 => ?_)
        ·
          refine z_iconst dX11_isSo_137 (zi32_d rfl) ?_
          refine z_goto (tgt := 168) dX11_isSo_138 (by decide) ?_
          rw [if_neg j1] at KJ
          rw [if_pos j2] at KJ
          exact KJ
        ·
          refine z_iconst dX11_isSo_133 (zi32_d rfl) ?_
          refine z_goto (tgt := 168) dX11_isSo_134 (by decide) ?_
          rw [if_neg j1] at KJ
          rw [if_neg j2] at KJ
          exact KJ
    refine z_zast dX11_isSo_168 (zOb.lit (by decide +kernel)) (show 0 ≤ ((n + (-1)) - 1) ∧ ((n + (-1)) - 1) < 80 from ⟨by omega, by omega⟩).1 (show 0 ≤ ((n + (-1)) - 1) ∧ ((n + (-1)) - 1) < 80 from ⟨by omega, by omega⟩).2 (by repeat (first | (left; rfl) | (right; rfl) | split)) ?_
    refine z_goto (tgt := 338) dX11_isSo_169 (by decide) ?_
    refine z_iincN (lv' := [(6, xI (k + 1)), (5, xI (n + (-1))), (0, xR 169), (1, xI w), (2, xI x), (3, xI m), (4, xI l), (7, xI s)]) 6 dX11_isSo_338 rfl (by decide) rfl (show -2147483648 ≤ k + 1 ∧ k + 1 < 2147483648 from ⟨by omega, by omega⟩).1 (show -2147483648 ≤ k + 1 ∧ k + 1 < 2147483648 from ⟨by omega, by omega⟩).2 ?_
    refine z_goto (tgt := 17) dX11_isSo_341 (by decide) ?_
    refine zW.sub (lv' := [(0, xR 169), (1, xI w), (2, xI x), (3, xI m), (4, xI l), (5, xI (n + (-1))), (6, xI (k + 1))]) [2, 3, 4, 5, 6, 1, 0] rfl ?_
    exact k2 c1

set_option maxRecDepth 20000 in
theorem bX11_isSo_172 {X : zX} {dep bc bs : Nat} (w : Int) (x : Int) (m : Int) (l : Int) (n : Int) (k : Int) (s : Int) {g : zH} {Q : Nat → zH → List zV → Prop} (hm : 0 ≤ g 169 25 ∧ g 169 25 ≤ 60) (hx : 0 ≤ m ∧ m < 60) (hl : 0 ≤ l ∧ l < 4) (hb : -3120 ≤ g 214 m ∧ g 214 m < 520) (hd : 0 ≤ g 205 l ∧ g 205 l ≤ 3639) (hw : 0 ≤ w ∧ w < 8) (hxx : 0 ≤ x ∧ x < 180) (h1 : 0 ≤ g 198 x ∧ g 198 x ≤ g 199 x ∧ g 199 x ≤ 130) (hk : 0 ≤ k ∧ k < 1170) (hn : 0 ≤ n ∧ n < 80) (hs : 0 ≤ s ∧ s < 12) (hdep : 2 ≤ dep)
    (k1 : 4 ≤ s → zW mX11_isSo X dep bc bs 239 236 [(0, xR 169), (1, xI w), (2, xI x), (3, xI m), (4, xI l), (5, xI n), (6, xI k), (7, xI s)] [] g Q)
    (k2 : ¬ (4 ≤ s) → ¬ s = 3 → zW mX11_isSo X dep bc bs 239 17 [(0, xR 169), (1, xI w), (2, xI x), (3, xI m), (4, xI l), (5, xI (n + 1)), (6, xI (k + 1))] [] (zst g 231 n (if (g 217 (((6 * m) + 2) + s)) = 1 then 1 else 0 : Int)) Q)
    (k3 : ¬ (4 ≤ s) → s = 3 → zW mX11_isSo X dep bc bs 239 17 [(0, xR 169), (1, xI w), (2, xI x), (3, xI m), (4, xI l), (5, xI (n + 1)), (6, xI (k + 1))] [] (zst g 231 n (if (zcnt (mBro g m) (g 169 25).toNat) = 0 then 1 else 0 : Int)) Q) : zW mX11_isSo X dep bc bs 239 172 [(0, xR 169), (1, xI w), (2, xI x), (3, xI m), (4, xI l), (5, xI n), (6, xI k), (7, xI s)] [] g Q := by
  refine z_iload 7 dX11_isSo_172 rfl ?_
  refine z_iconst dX11_isSo_174 (zi32_d rfl) ?_
  refine z_icmp_ge (tgt := 236) dX11_isSo_175 (by decide) (fun c1 => ?_) (fun c1 => ?_)
  ·
    exact k1 c1
  ·
    refine z_aload_n 0 dX11_isSo_178 rfl ?_
    refine z_getS (v := 231) (k := 84) (kz := 84) pk11 dX11_isSo_179 (by decide) zb_1208 rfl (zOb.lit (by decide +kernel)) rfl (by decide +kernel) ?_
    refine z_iload 5 dX11_isSo_182 rfl ?_
    refine z_iload 7 dX11_isSo_184 rfl ?_
    refine z_iconst dX11_isSo_186 (zi32_d rfl) ?_
    refine z_icmp_ne (tgt := 206) dX11_isSo_187 (by decide) (fun c2 => ?_) (fun c2 => ?_)
    ·
      refine z_aload_n 0 dX11_isSo_206 rfl ?_
      refine z_getS (v := 217) (k := 70) (kz := 70) pk11 dX11_isSo_207 (by decide) zb_1194 rfl (zOb.lit (by decide +kernel)) rfl (by decide +kernel) ?_
      refine z_bipush dX11_isSo_210 (zi32_d rfl) (by decide) ?_
      refine z_iload_n 3 dX11_isSo_212 rfl ?_
      refine z_imulN dX11_isSo_213 (show -2147483648 ≤ 6 * m ∧ 6 * m < 2147483648 from ⟨by omega, by omega⟩).1 (show -2147483648 ≤ 6 * m ∧ 6 * m < 2147483648 from ⟨by omega, by omega⟩).2 ?_
      refine z_iconst dX11_isSo_214 (zi32_d rfl) ?_
      refine z_iaddN dX11_isSo_215 (show -2147483648 ≤ (6 * m) + 2 ∧ (6 * m) + 2 < 2147483648 from ⟨by omega, by omega⟩).1 (show -2147483648 ≤ (6 * m) + 2 ∧ (6 * m) + 2 < 2147483648 from ⟨by omega, by omega⟩).2 ?_
      refine z_iload 7 dX11_isSo_216 rfl ?_
      refine z_iaddN dX11_isSo_218 (show -2147483648 ≤ ((6 * m) + 2) + s ∧ ((6 * m) + 2) + s < 2147483648 from ⟨by omega, by omega⟩).1 (show -2147483648 ≤ ((6 * m) + 2) + s ∧ ((6 * m) + 2) + s < 2147483648 from ⟨by omega, by omega⟩).2 ?_
      refine z_iald dX11_isSo_219 (zOb.lit (by decide +kernel)) (show 0 ≤ (((6 * m) + 2) + s) ∧ (((6 * m) + 2) + s) < 360 from ⟨by omega, by omega⟩).1 (show 0 ≤ (((6 * m) + 2) + s) ∧ (((6 * m) + 2) + s) < 360 from ⟨by omega, by omega⟩).2 ?_
      refine z_iconst dX11_isSo_220 (zi32_d rfl) ?_
      suffices KJ : zW mX11_isSo X dep bc bs 239 229 [(0, xR 169), (1, xI w), (2, xI x), (3, xI m), (4, xI l), (5, xI n), (6, xI k), (7, xI s)] [xI (if (g 217 (((6 * m) + 2) + s)) = 1 then 1 else 0 : Int), xI n, xR 231] g Q by
        refine z_icmp_ne (tgt := 228) dX11_isSo_221 (by decide) (fun j1 => ?_) (fun j1 => ?_)
        ·
          refine z_iconst dX11_isSo_228 (zi32_d rfl) ?_
          rw [if_neg j1] at KJ
          exact KJ
        ·
          refine z_iconst dX11_isSo_224 (zi32_d rfl) ?_
          refine z_goto (tgt := 229) dX11_isSo_225 (by decide) ?_
          rw [if_pos j1] at KJ
          exact KJ
      refine z_zast dX11_isSo_229 (zOb.lit (by decide +kernel)) hn.1 hn.2 (by repeat (first | (left; rfl) | (right; rfl) | split)) ?_
      refine z_iincN (lv' := [(5, xI (n + 1)), (0, xR 169), (1, xI w), (2, xI x), (3, xI m), (4, xI l), (6, xI k), (7, xI s)]) 5 dX11_isSo_230 rfl (by decide) rfl (show -2147483648 ≤ n + 1 ∧ n + 1 < 2147483648 from ⟨by omega, by omega⟩).1 (show -2147483648 ≤ n + 1 ∧ n + 1 < 2147483648 from ⟨by omega, by omega⟩).2 ?_
      refine z_goto (tgt := 338) dX11_isSo_233 (by decide) ?_
      refine z_iincN (lv' := [(6, xI (k + 1)), (5, xI (n + 1)), (0, xR 169), (1, xI w), (2, xI x), (3, xI m), (4, xI l), (7, xI s)]) 6 dX11_isSo_338 rfl (by decide) rfl (show -2147483648 ≤ k + 1 ∧ k + 1 < 2147483648 from ⟨by omega, by omega⟩).1 (show -2147483648 ≤ k + 1 ∧ k + 1 < 2147483648 from ⟨by omega, by omega⟩).2 ?_
      refine z_goto (tgt := 17) dX11_isSo_341 (by decide) ?_
      refine zW.sub (lv' := [(0, xR 169), (1, xI w), (2, xI x), (3, xI m), (4, xI l), (5, xI (n + 1)), (6, xI (k + 1))]) [2, 3, 4, 5, 6, 1, 0] rfl ?_
      exact k2 c1 c2
    ·
      refine z_aload_n 0 dX11_isSo_190 rfl ?_
      refine z_iload_n 3 dX11_isSo_191 rfl ?_
      refine z_invF (ci := 11) (N := 97) (as := [xI m]) (st := [xI n, xR 231]) (ra := [xI m]) (dep' := dep - 1) (rs := [xI (zcnt (mBro g m) (g 169 25).toNat)]) (h' := g) (f_X11_brothersOf m (h := g) hm hx (by omega)) dX11_isSo_192 nX11_brothersOf zb_1615 zb_1617 zb_59 zb_92 (zOb.lit (by decide +kernel)) rfl (by omega) zne_I (Nat.le_of_ble_eq_true rfl) (Nat.le_of_ble_eq_true rfl) rfl ?_
      suffices KJ : zW mX11_isSo X dep bc bs 239 229 [(0, xR 169), (1, xI w), (2, xI x), (3, xI m), (4, xI l), (5, xI n), (6, xI k), (7, xI s)] [xI (if (zcnt (mBro g m) (g 169 25).toNat) = 0 then 1 else 0 : Int), xI n, xR 231] g Q by
        refine z_if_ne (tgt := 202) dX11_isSo_195 (by decide) (fun j1 => ?_) (fun j1 => ?_)
        ·
          refine z_iconst dX11_isSo_202 (zi32_d rfl) ?_
          refine z_goto (tgt := 229) dX11_isSo_203 (by decide) ?_
          rw [if_neg j1] at KJ
          exact KJ
        ·
          refine z_iconst dX11_isSo_198 (zi32_d rfl) ?_
          refine z_goto (tgt := 229) dX11_isSo_199 (by decide) ?_
          rw [if_pos j1] at KJ
          exact KJ
      refine z_zast dX11_isSo_229 (zOb.lit (by decide +kernel)) hn.1 hn.2 (by repeat (first | (left; rfl) | (right; rfl) | split)) ?_
      refine z_iincN (lv' := [(5, xI (n + 1)), (0, xR 169), (1, xI w), (2, xI x), (3, xI m), (4, xI l), (6, xI k), (7, xI s)]) 5 dX11_isSo_230 rfl (by decide) rfl (show -2147483648 ≤ n + 1 ∧ n + 1 < 2147483648 from ⟨by omega, by omega⟩).1 (show -2147483648 ≤ n + 1 ∧ n + 1 < 2147483648 from ⟨by omega, by omega⟩).2 ?_
      refine z_goto (tgt := 338) dX11_isSo_233 (by decide) ?_
      refine z_iincN (lv' := [(6, xI (k + 1)), (5, xI (n + 1)), (0, xR 169), (1, xI w), (2, xI x), (3, xI m), (4, xI l), (7, xI s)]) 6 dX11_isSo_338 rfl (by decide) rfl (show -2147483648 ≤ k + 1 ∧ k + 1 < 2147483648 from ⟨by omega, by omega⟩).1 (show -2147483648 ≤ k + 1 ∧ k + 1 < 2147483648 from ⟨by omega, by omega⟩).2 ?_
      refine z_goto (tgt := 17) dX11_isSo_341 (by decide) ?_
      refine zW.sub (lv' := [(0, xR 169), (1, xI w), (2, xI x), (3, xI m), (4, xI l), (5, xI (n + 1)), (6, xI (k + 1))]) [2, 3, 4, 5, 6, 1, 0] rfl ?_
      exact k3 c1 c2

set_option maxRecDepth 20000 in
theorem bX11_isSo_236 {X : zX} {dep bc bs : Nat} (w : Int) (x : Int) (m : Int) (l : Int) (n : Int) (k : Int) (s : Int) {g : zH} {Q : Nat → zH → List zV → Prop} (hm : 0 ≤ g 169 25 ∧ g 169 25 ≤ 60) (hx : 0 ≤ m ∧ m < 60) (hl : 0 ≤ l ∧ l < 4) (hb : -3120 ≤ g 214 m ∧ g 214 m < 520) (hd : 0 ≤ g 205 l ∧ g 205 l ≤ 3639) (hw : 0 ≤ w ∧ w < 8) (hxx : 0 ≤ x ∧ x < 180) (h1 : 0 ≤ g 198 x ∧ g 198 x ≤ g 199 x ∧ g 199 x ≤ 130) (hk : 0 ≤ k ∧ k < 1170) (hn : 0 ≤ n ∧ n < 80) (hdep : 3 ≤ dep)
    (k1 : zW mX11_isSo X dep bc bs 239 17 [(0, xR 169), (1, xI w), (2, xI x), (3, xI m), (4, xI l), (5, xI (n + 1)), (6, xI (k + 1))] [] (zst g 231 n (if (g 202 k) = 60 then if (g 203 k) ≤ (mnum g s m l) then 0 else 1 else if (g 202 k) = 61 then if (mnum g s m l) = (g 203 k) then 1 else 0 else if (mnum g s m l) ≤ (g 203 k) then 0 else 1 : Int)) Q) : zW mX11_isSo X dep bc bs 239 236 [(0, xR 169), (1, xI w), (2, xI x), (3, xI m), (4, xI l), (5, xI n), (6, xI k), (7, xI s)] [] g Q := by
  refine z_aload_n 0 dX11_isSo_236 rfl ?_
  refine z_iload 7 dX11_isSo_237 rfl ?_
  refine z_iload_n 3 dX11_isSo_239 rfl ?_
  refine z_iload 4 dX11_isSo_240 rfl ?_
  refine z_invF (ci := 11) (N := 97) (as := [xI s, xI m, xI l]) (st := []) (ra := [xI l, xI m, xI s]) (dep' := dep - 1) (rs := [xI (mnum g s m l)]) (h' := g) (f_X11_numberOf s m l (h := g) hm hx hl hb hd (by omega)) dX11_isSo_242 nX11_numberOf zb_1651 zb_1653 zb_67 zb_92 (zOb.lit (by decide +kernel)) rfl (by omega) zne_I (Nat.le_of_ble_eq_true rfl) (Nat.le_of_ble_eq_true rfl) rfl ?_
  refine z_istore (lv' := [(8, xI (mnum g s m l)), (0, xR 169), (1, xI w), (2, xI x), (3, xI m), (4, xI l), (5, xI n), (6, xI k), (7, xI s)]) dX11_isSo_245 (by decide) rfl ?_
  refine z_aload_n 1 dX11_isSo_247 rfl ?_
  refine z_getS (v := 231) (k := 84) (kz := 84) pk11 dX11_isSo_248 (by decide) zb_1208 rfl (zOb.lit (by decide +kernel)) rfl (by decide +kernel) ?_
  refine z_iload 6 dX11_isSo_251 rfl ?_
  refine z_aload_n 1 dX11_isSo_253 rfl ?_
  refine z_getS (v := 202) (k := 42) (kz := 42) pk11 dX11_isSo_254 (by decide) zb_1166 rfl (zOb.lit (by decide +kernel)) rfl (by decide +kernel) ?_
  refine z_iload 7 dX11_isSo_257 rfl ?_
  refine z_iald dX11_isSo_259 (zOb.lit (by decide +kernel)) hk.1 hk.2 ?_
  refine z_bipush dX11_isSo_260 (zi32_d rfl) (by decide) ?_
  suffices KJ : zW mX11_isSo X dep bc bs 239 334 [(8, xI (mnum g s m l)), (0, xR 169), (1, xI w), (2, xI x), (3, xI m), (4, xI l), (5, xI n), (6, xI k), (7, xI s)] [xI (if (g 202 k) = 60 then if (g 203 k) ≤ (mnum g s m l) then 0 else 1 else if (g 202 k) = 61 then if (mnum g s m l) = (g 203 k) then 1 else 0 else if (mnum g s m l) ≤ (g 203 k) then 0 else 1 : Int), xI n, xR 231] g Q by
    refine z_icmp_ne (tgt := 285) dX11_isSo_262 (by decide) (fun j1 => ?_) (fun j1 => ?_)
    ·
      refine z_aload_n 1 dX11_isSo_285 rfl ?_
      refine z_getS (v := 202) (k := 42) (kz := 42) pk11 dX11_isSo_286 (by decide) zb_1166 rfl (zOb.lit (by decide +kernel)) rfl (by decide +kernel) ?_
      refine z_iload 7 dX11_isSo_289 rfl ?_
      refine z_iald dX11_isSo_291 (zOb.lit (by decide +kernel)) (show 0 ≤ k ∧ k < 1170 from ⟨by omega, by omega⟩).1 (show 0 ≤ k ∧ k < 1170 from ⟨by omega, by omega⟩).2 ?_
      refine z_bipush dX11_isSo_292 (zi32_d rfl) (by decide) ?_
      refine z_icmp_ne (tgt := 317) dX11_isSo_294 (by decide) (fun j2 => ?_) (fun j2 => ?_)
      ·
        refine z_iload 0 dX11_isSo_317 rfl ?_
        refine z_aload_n 1 dX11_isSo_319 rfl ?_
        refine z_getS (v := 203) (k := 43) (kz := 43) pk11 dX11_isSo_320 (by decide) zb_1167 rfl (zOb.lit (by decide +kernel)) rfl (by decide +kernel) ?_
        refine z_iload 7 dX11_isSo_323 rfl ?_
        refine z_iald dX11_isSo_325 (zOb.lit (by decide +kernel)) (show 0 ≤ k ∧ k < 1170 from ⟨by omega, by omega⟩).1 (show 0 ≤ k ∧ k < 1170 from ⟨by omega, by omega⟩).2 ?_
        refine z_icmp_le (tgt := 333) dX11_isSo_326 (by decide) (fun j3 => ?_) (fun j3 => ?_)
        ·
          refine z_iconst dX11_isSo_333 (zi32_d rfl) ?_
          rw [if_neg j1] at KJ
          rw [if_neg j2] at KJ
          rw [if_pos j3] at KJ
          exact KJ
        ·
          refine z_iconst dX11_isSo_329 (zi32_d rfl) ?_
          refine z_goto (tgt := 334) dX11_isSo_330 (by decide) ?_
          rw [if_neg j1] at KJ
          rw [if_neg j2] at KJ
          rw [if_neg j3] at KJ
          exact KJ
      ·
        refine z_iload 0 dX11_isSo_297 rfl ?_
        refine z_aload_n 1 dX11_isSo_299 rfl ?_
        refine z_getS (v := 203) (k := 43) (kz := 43) pk11 dX11_isSo_300 (by decide) zb_1167 rfl (zOb.lit (by decide +kernel)) rfl (by decide +kernel) ?_
        refine z_iload 7 dX11_isSo_303 rfl ?_
        refine z_iald dX11_isSo_305 (zOb.lit (by decide +kernel)) (show 0 ≤ k ∧ k < 1170 from ⟨by omega, by omega⟩).1 (show 0 ≤ k ∧ k < 1170 from ⟨by omega, by omega⟩).2 ?_
        refine z_icmp_ne (tgt := 313) dX11_isSo_306 (by decide) (fun j3 => ?_) (fun j3 => ?_)
        ·
          refine z_iconst dX11_isSo_313 (zi32_d rfl) ?_
          refine z_goto (tgt := 334) dX11_isSo_314 (by decide) ?_
          rw [if_neg j1] at KJ
          rw [if_pos j2] at KJ
          rw [if_neg j3] at KJ
          exact KJ
        ·
          refine z_iconst dX11_isSo_309 (zi32_d rfl) ?_
          refine z_goto (tgt := 334) dX11_isSo_310 (by decide) ?_
          rw [if_neg j1] at KJ
          rw [if_pos j2] at KJ
          rw [if_pos j3] at KJ
          exact KJ
    ·
      refine z_iload 0 dX11_isSo_265 rfl ?_
      refine z_aload_n 1 dX11_isSo_267 rfl ?_
      refine z_getS (v := 203) (k := 43) (kz := 43) pk11 dX11_isSo_268 (by decide) zb_1167 rfl (zOb.lit (by decide +kernel)) rfl (by decide +kernel) ?_
      refine z_iload 7 dX11_isSo_271 rfl ?_
      refine z_iald dX11_isSo_273 (zOb.lit (by decide +kernel)) (show 0 ≤ k ∧ k < 1170 from ⟨by omega, by omega⟩).1 (show 0 ≤ k ∧ k < 1170 from ⟨by omega, by omega⟩).2 ?_
      refine z_icmp_ge (tgt := 281) dX11_isSo_274 (by decide) (fun j2 => ?_) (fun j2 => ?_)
      ·
        refine z_iconst dX11_isSo_281 (zi32_d rfl) ?_
        refine z_goto (tgt := 334) dX11_isSo_282 (by decide) ?_
        rw [if_pos j1] at KJ
        rw [if_pos j2] at KJ
        exact KJ
      ·
        refine z_iconst dX11_isSo_277 (zi32_d rfl) ?_
        refine z_goto (tgt := 334) dX11_isSo_278 (by decide) ?_
        rw [if_pos j1] at KJ
        rw [if_neg j2] at KJ
        exact KJ
  refine z_zast dX11_isSo_334 (zOb.lit (by decide +kernel)) hn.1 hn.2 (by repeat (first | (left; rfl) | (right; rfl) | split)) ?_
  refine z_iincN (lv' := [(5, xI (n + 1)), (8, xI (mnum g s m l)), (0, xR 169), (1, xI w), (2, xI x), (3, xI m), (4, xI l), (6, xI k), (7, xI s)]) 6 dX11_isSo_335 rfl (by decide) rfl (show -2147483648 ≤ n + 1 ∧ n + 1 < 2147483648 from ⟨by omega, by omega⟩).1 (show -2147483648 ≤ n + 1 ∧ n + 1 < 2147483648 from ⟨by omega, by omega⟩).2 ?_
  refine z_iincN (lv' := [(6, xI (k + 1)), (5, xI (n + 1)), (8, xI (mnum g s m l)), (0, xR 169), (1, xI w), (2, xI x), (3, xI m), (4, xI l), (7, xI s)]) 7 dX11_isSo_338 rfl (by decide) rfl (show -2147483648 ≤ k + 1 ∧ k + 1 < 2147483648 from ⟨by omega, by omega⟩).1 (show -2147483648 ≤ k + 1 ∧ k + 1 < 2147483648 from ⟨by omega, by omega⟩).2 ?_
  refine z_goto (tgt := 17) dX11_isSo_341 (by decide) ?_
  refine zW.sub (lv' := [(0, xR 169), (1, xI w), (2, xI x), (3, xI m), (4, xI l), (5, xI (n + 1)), (6, xI (k + 1))]) [3, 4, 5, 6, 7, 1, 0] rfl ?_
  exact k1

set_option maxRecDepth 20000 in
theorem bX11_isSo_17 {X : zX} {dep bc bs : Nat} (w : Int) (x : Int) (m : Int) (l : Int) (n : Int) (k : Int) {g : zH} {Q : Nat → zH → List zV → Prop} (hm : 0 ≤ g 169 25 ∧ g 169 25 ≤ 60) (hx : 0 ≤ m ∧ m < 60) (hl : 0 ≤ l ∧ l < 4) (hb : -3120 ≤ g 214 m ∧ g 214 m < 520) (hd : 0 ≤ g 205 l ∧ g 205 l ≤ 3639) (hw : 0 ≤ w ∧ w < 8) (hxx : 0 ≤ x ∧ x < 180) (h1 : 0 ≤ g 198 x ∧ g 198 x ≤ g 199 x ∧ g 199 x ≤ 130) (hk : 0 ≤ k ∧ k ≤ 1170) (hn : 0 ≤ n ∧ n ≤ 80) (hc : 130 * w + g 199 x ≤ k ∨ (g 201 k = 20 ∧ 1 ≤ n) ∨ ((g 201 k = 21 ∨ g 201 k = 22) ∧ 2 ≤ n) ∨ (0 ≤ g 201 k ∧ g 201 k < 12 ∧ n < 80)) (hdep : 3 ≤ dep)
    (k1 : ((130 * w) + (g 199 x)) ≤ k → Q 239 g [xI (if n = 0 then 1 else if (g 231 0) = 0 then 0 else 1 : Int)])
    (k2 : ¬ (((130 * w) + (g 199 x)) ≤ k) → ¬ (g 201 k) = 20 → (g 201 k) = 21 → ¬ (g 201 k) = 21 → zW mX11_isSo X dep bc bs 239 17 [(0, xR 169), (1, xI w), (2, xI x), (3, xI m), (4, xI l), (5, xI (n + (-1))), (6, xI (k + 1))] [] (zst g 231 ((n + (-1)) - 1) (if (g 231 ((n + (-1)) - 1)) = 0 then if (g 231 (n + (-1))) = 0 then 0 else 1 else 1 : Int)) Q)
    (k3 : ¬ (((130 * w) + (g 199 x)) ≤ k) → ¬ (g 201 k) = 20 → (g 201 k) = 21 → (g 201 k) = 21 → zW mX11_isSo X dep bc bs 239 17 [(0, xR 169), (1, xI w), (2, xI x), (3, xI m), (4, xI l), (5, xI (n + (-1))), (6, xI (k + 1))] [] (zst g 231 ((n + (-1)) - 1) (if (g 231 ((n + (-1)) - 1)) = 0 then 0 else if (g 231 (n + (-1))) = 0 then 0 else 1 : Int)) Q)
    (k4 : ¬ (((130 * w) + (g 199 x)) ≤ k) → ¬ (g 201 k) = 20 → ¬ ((g 201 k) = 21) → ¬ (g 201 k) = 22 → 4 ≤ (g 201 k) → zW mX11_isSo X dep bc bs 239 17 [(0, xR 169), (1, xI w), (2, xI x), (3, xI m), (4, xI l), (5, xI (n + 1)), (6, xI (k + 1))] [] (zst g 231 n (if (g 202 k) = 60 then if (g 203 k) ≤ (mnum g (g 201 k) m l) then 0 else 1 else if (g 202 k) = 61 then if (mnum g (g 201 k) m l) = (g 203 k) then 1 else 0 else if (mnum g (g 201 k) m l) ≤ (g 203 k) then 0 else 1 : Int)) Q)
    (k5 : ¬ (((130 * w) + (g 199 x)) ≤ k) → ¬ (g 201 k) = 20 → ¬ ((g 201 k) = 21) → ¬ (g 201 k) = 22 → ¬ (4 ≤ (g 201 k)) → ¬ (g 201 k) = 3 → zW mX11_isSo X dep bc bs 239 17 [(0, xR 169), (1, xI w), (2, xI x), (3, xI m), (4, xI l), (5, xI (n + 1)), (6, xI (k + 1))] [] (zst g 231 n (if (g 217 (((6 * m) + 2) + (g 201 k))) = 1 then 1 else 0 : Int)) Q)
    (k6 : ¬ (((130 * w) + (g 199 x)) ≤ k) → ¬ (g 201 k) = 20 → ¬ ((g 201 k) = 21) → ¬ (g 201 k) = 22 → ¬ (4 ≤ (g 201 k)) → (g 201 k) = 3 → zW mX11_isSo X dep bc bs 239 17 [(0, xR 169), (1, xI w), (2, xI x), (3, xI m), (4, xI l), (5, xI (n + 1)), (6, xI (k + 1))] [] (zst g 231 n (if (zcnt (mBro g m) (g 169 25).toNat) = 0 then 1 else 0 : Int)) Q)
    (k7 : ¬ (((130 * w) + (g 199 x)) ≤ k) → ¬ (g 201 k) = 20 → ¬ ((g 201 k) = 21) → (g 201 k) = 22 → ¬ (g 201 k) = 21 → zW mX11_isSo X dep bc bs 239 17 [(0, xR 169), (1, xI w), (2, xI x), (3, xI m), (4, xI l), (5, xI (n + (-1))), (6, xI (k + 1))] [] (zst g 231 ((n + (-1)) - 1) (if (g 231 ((n + (-1)) - 1)) = 0 then if (g 231 (n + (-1))) = 0 then 0 else 1 else 1 : Int)) Q)
    (k8 : ¬ (((130 * w) + (g 199 x)) ≤ k) → ¬ (g 201 k) = 20 → ¬ ((g 201 k) = 21) → (g 201 k) = 22 → (g 201 k) = 21 → zW mX11_isSo X dep bc bs 239 17 [(0, xR 169), (1, xI w), (2, xI x), (3, xI m), (4, xI l), (5, xI (n + (-1))), (6, xI (k + 1))] [] (zst g 231 ((n + (-1)) - 1) (if (g 231 ((n + (-1)) - 1)) = 0 then 0 else if (g 231 (n + (-1))) = 0 then 0 else 1 : Int)) Q)
    (k9 : ¬ (((130 * w) + (g 199 x)) ≤ k) → (g 201 k) = 20 → zW mX11_isSo X dep bc bs 239 17 [(0, xR 169), (1, xI w), (2, xI x), (3, xI m), (4, xI l), (5, xI n), (6, xI (k + 1))] [] (zst g 231 (n - 1) (if (g 231 (n - 1)) = 0 then 1 else 0 : Int)) Q) : zW mX11_isSo X dep bc bs 239 17 [(0, xR 169), (1, xI w), (2, xI x), (3, xI m), (4, xI l), (5, xI n), (6, xI k)] [] g Q := by
  refine bX11_isSo_17a w x m l n k hm hx hl hb hd hw hxx h1 hk hn (by clear k1 k2 k3 k4 k5 k6 k7 k8 k9; omega) ?_ ?_ ?_
  · exact k1
  · intro c1 c2
    refine bX11_isSo_79 w x m l n k _ ?_ ?_ ?_
    · intro c3
      refine bX11_isSo_93 w x m l n k _ (by clear k1 k2 k3 k4 k5 k6 k7 k8 k9; omega) (by clear k1 k2 k3 k4 k5 k6 k7 k8 k9; omega) ?_ ?_
      · exact k2 c1 c2 c3
      · exact k3 c1 c2 c3
    · intro c3 c4
      refine bX11_isSo_172 w x m l n k _ hm hx hl hb hd hw hxx h1 (by clear k1 k2 k3 k4 k5 k6 k7 k8 k9; omega) (by clear k1 k2 k3 k4 k5 k6 k7 k8 k9; omega) (by clear k1 k2 k3 k4 k5 k6 k7 k8 k9; omega) (by clear k1 k2 k3 k4 k5 k6 k7 k8 k9; omega) ?_ ?_ ?_
      · intro c5
        refine bX11_isSo_236 w x m l n k _ hm hx hl hb hd hw hxx h1 (by clear k1 k2 k3 k4 k5 k6 k7 k8 k9; omega) (by clear k1 k2 k3 k4 k5 k6 k7 k8 k9; omega) hdep ?_
        exact k4 c1 c2 c3 c4 c5
      · exact k5 c1 c2 c3 c4
      · exact k6 c1 c2 c3 c4
    · intro c3 c4
      refine bX11_isSo_93 w x m l n k _ (by clear k1 k2 k3 k4 k5 k6 k7 k8 k9; omega) (by clear k1 k2 k3 k4 k5 k6 k7 k8 k9; omega) ?_ ?_
      · exact k7 c1 c2 c3 c4
      · exact k8 c1 c2 c3 c4
  · exact k9


theorem mBro_ag {S : List Int} {h g : zH} (ha : zag S h g) (h1 : (215 : Int) ∉ S) (h2 : (173 : Int) ∉ S) : mBro g = mBro h := by
  funext m b
  unfold mBro
  rw [ha 215 b h1, ha 173 m h2, ha 173 b h2]
theorem mSer_ag {S : List Int} {h g : zH} (ha : zag S h g) (h1 : (230 : Int) ∉ S) : mSer g = mSer h := by
  funext l b
  unfold mSer
  exact propext ⟨fun ⟨k, k1, k2⟩ => ⟨k, k1, by rw [← ha 230 _ h1]; exact k2⟩, fun ⟨k, k1, k2⟩ => ⟨k, k1, by rw [ha 230 _ h1]; exact k2⟩⟩
theorem mnum_ag {S : List Int} {h g : zH} (ha : zag S h g) (hS : ∀ o ∈ [(214 : Int), 205, 217, 218, 215, 173, 230, 169, 172], o ∉ S) : mnum g = mnum h := by
  funext w m l
  unfold mnum
  rw [mBro_ag ha (hS _ (by decide)) (hS _ (by decide)), mSer_ag ha (hS _ (by decide)), ha 214 _ (hS _ (by decide)), ha 205 _ (hS _ (by decide)), ha 217 _ (hS _ (by decide)), ha 217 _ (hS _ (by decide)), ha 217 _ (hS _ (by decide)), ha 218 _ (hS _ (by decide)), ha 169 _ (hS _ (by decide)), ha 172 _ (hS _ (by decide))]
/-- what a step tells of a man: 1 where it is so -/
noncomputable def mat (h : zH) (k m l : Int) : Int :=
  if 4 ≤ h 201 k then (if h 202 k = 60 then if h 203 k ≤ mnum h (h 201 k) m l then 0 else 1 else if h 202 k = 61 then if mnum h (h 201 k) m l = h 203 k then 1 else 0 else if mnum h (h 201 k) m l ≤ h 203 k then 0 else 1)
  else if h 201 k = 3 then (if zcnt (mBro h m) (h 169 25).toNat = 0 then 1 else 0) else (if h 217 (6 * m + 2 + h 201 k) = 1 then 1 else 0)
/-- the steps' pile: how high, and what lies there -/
def mdp (h : zH) (a : Int) : Nat → Int
  | 0 => 0
  | j + 1 => mdp h a j + (if h 201 (a + j) = 20 then 0 else if h 201 (a + j) = 21 ∨ h 201 (a + j) = 22 then -1 else 1)
noncomputable def mstk (h : zH) (m l a : Int) : Nat → Int → Int
  | 0, _ => 0
  | j + 1, q =>
    if h 201 (a + j) = 20 then (if q = mdp h a j - 1 then (if mstk h m l a j (mdp h a j - 1) = 0 then 1 else 0) else mstk h m l a j q)
    else if h 201 (a + j) = 21 then (if q = mdp h a j - 2 then (if mstk h m l a j (mdp h a j - 2) = 0 then 0 else if mstk h m l a j (mdp h a j - 1) = 0 then 0 else 1) else mstk h m l a j q)
    else if h 201 (a + j) = 22 then (if q = mdp h a j - 2 then (if mstk h m l a j (mdp h a j - 2) = 0 then if mstk h m l a j (mdp h a j - 1) = 0 then 0 else 1 else 1) else mstk h m l a j q)
    else if q = mdp h a j then mat h (a + j) m l else mstk h m l a j q
/-- steps that can be answered -/
def mGood (h : zH) (a : Int) (N : Nat) : Prop := ∀ j : Nat, j < N → (0 ≤ mdp h a j ∧ mdp h a j ≤ 80) ∧ ((h 201 (a + j) = 20 ∧ 1 ≤ mdp h a j) ∨ ((h 201 (a + j) = 21 ∨ h 201 (a + j) = 22) ∧ 2 ≤ mdp h a j) ∨ (0 ≤ h 201 (a + j) ∧ h 201 (a + j) < 12 ∧ mdp h a j < 80))
def mSo (h : zH) (w x m l : Int) : Prop := mdp h (130 * w + h 198 x) (h 199 x - h 198 x).toNat = 0 ∨ mstk h m l (130 * w + h 198 x) (h 199 x - h 198 x).toNat 0 ≠ 0
def mPer (h : zH) (m l : Int) : Prop := (0 ≤ h 169 25 ∧ h 169 25 ≤ 60) ∧ (0 ≤ m ∧ m < 60) ∧ (0 ≤ l ∧ l < 4) ∧ (-3120 ≤ h 214 m ∧ h 214 m < 520) ∧ 0 ≤ h 205 l ∧ h 205 l ≤ 3639
theorem mdp_in {h : zH} {a : Int} {N : Nat} (hg : mGood h a N) (j : Nat) (hj : j ≤ N) : 0 ≤ mdp h a j ∧ mdp h a j ≤ 80 := by
  match j, hj with
  | 0, _ => exact ⟨Int.le_refl _, by unfold mdp; omega⟩
  | j + 1, hj =>
    have := hg j (by omega)
    unfold mdp
    (repeat' split) <;> omega
theorem f_X11_isSo {X : zX} {dep : Nat} (w x m l : Int) {h : zH} (hp : mPer h m l) (hw : 0 ≤ w ∧ w < 8) (hx : 0 ≤ x ∧ x < 180) (h1 : 0 ≤ h 198 x ∧ h 198 x ≤ h 199 x ∧ h 199 x ≤ 130) (hg : mGood h (130 * w + h 198 x) (h 199 x - h 198 x).toNat) (hdep : 3 ≤ dep) :
    zW mX11_isSo X dep 0 0 239 0 (zar 0 [xR 169, xI w, xI x, xI m, xI l]) [] h (zQI (fun v g => zag [231] h g ∧ v = zb (mSo h w x m l))) := by
  refine bX11_isSo_0 w x m l hw hx h1 ?_
  generalize ea : 130 * w + h 198 x = a at hg ⊢
  generalize eN : (h 199 x - h 198 x).toNat = N at hg
  have main : ∀ (r j : Nat) (g : zH), j + r = N → zag [231] h g → (∀ q : Int, 0 ≤ q → q < mdp h a j → g 231 q = mstk h m l a j q) → zW mX11_isSo X dep 0 0 239 17 [(0, xR 169), (1, xI w), (2, xI x), (3, xI m), (4, xI l), (5, xI (mdp h a j)), (6, xI (a + j))] [] g (zQI (fun v g => zag [231] h g ∧ v = zb (mSo h w x m l))) := by
    intro r
    induction r with
    | zero =>
      intro j g hk ha hs
      obtain rfl : j = N := by omega
      have hn := mdp_in hg j (Nat.le_refl _)
      have e1 := ha 198 x (by decide)
      have e2 := ha 199 x (by decide)
      refine bX11_isSo_17 w x m l _ _ (by rw [ha 169 25 (by decide)]; exact hp.1) hp.2.1 hp.2.2.1 (by rw [ha 214 m (by decide)]; exact hp.2.2.2.1) (by rw [ha 205 l (by decide)]; exact hp.2.2.2.2) hw hx (by rw [e1, e2]; exact h1) (by omega) hn (Or.inl (by omega)) hdep ?_ ?_ ?_ ?_ ?_ ?_ ?_ ?_ ?_
      · intro c
        refine ⟨rfl, _, rfl, ha, ?_⟩
        unfold mSo zb
        rw [ea, eN]
        by_cases z : mdp h a j = 0
        · rw [if_pos z, if_pos (Or.inl z)]
        · rw [if_neg z, hs 0 (by omega) (by omega)]
          by_cases y : mstk h m l a j 0 = 0
          · rw [if_pos y, if_neg (fun q => q.elim z (fun q => q y))]
          · rw [if_neg y, if_pos (Or.inr y)]
      all_goals
        intro c
        exfalso
        omega
    | succ r ih =>
      intro j g hk ha hs
      have hn := mdp_in hg j (by omega)
      have hj := hg j (by omega)
      have e1 := ha 198 x (by decide)
      have e2 := ha 199 x (by decide)
      have e3 := ha 201 (a + j) (by decide)
      have e4 := ha 202 (a + j) (by decide)
      have e5 := ha 203 (a + j) (by decide)
      have go : ∀ (q0 v n' : Int), n' = mdp h a (j + 1) → (∀ q : Int, 0 ≤ q → q < mdp h a (j + 1) → mstk h m l a (j + 1) q = if q = q0 then v else mstk h m l a j q) → (∀ q : Int, 0 ≤ q → q < mdp h a (j + 1) → q ≠ q0 → q < mdp h a j) →
          zW mX11_isSo X dep 0 0 239 17 [(0, xR 169), (1, xI w), (2, xI x), (3, xI m), (4, xI l), (5, xI n'), (6, xI (a + j + 1))] [] (zst g 231 q0 v) (zQI (fun v g => zag [231] h g ∧ v = zb (mSo h w x m l))) := fun q0 v n' en hv hlt => by
        have := ih (j + 1) (zst g 231 q0 v) (by omega) (ha.st (by decide) _ _) (fun q q1 q2 => by
          rw [zst_or, hv q q1 q2]
          by_cases e : q = q0
          · rw [if_pos e, if_pos e]
          · rw [if_neg e, if_neg e]
            exact hs q q1 (hlt q q1 q2 e))
        rw [show a + ((j + 1 : Nat) : Int) = a + j + 1 by omega, ← en] at this
        exact this
      have ds : mdp h a (j + 1) = mdp h a j + (if h 201 (a + j) = 20 then 0 else if h 201 (a + j) = 21 ∨ h 201 (a + j) = 22 then -1 else 1) := rfl
      have em : mnum g = mnum h := mnum_ag ha (by decide)
      have eb : mBro g = mBro h := mBro_ag ha (by decide) (by decide)
      have em1 := ha 169 25 (by decide)
      refine bX11_isSo_17 w x m l _ _ (by rw [ha 169 25 (by decide)]; exact hp.1) hp.2.1 hp.2.2.1 (by rw [ha 214 m (by decide)]; exact hp.2.2.2.1) (by rw [ha 205 l (by decide)]; exact hp.2.2.2.2) hw hx (by rw [e1, e2]; exact h1) (by omega) hn (by rw [e3]; exact Or.inr (by omega)) hdep ?_ ?_ ?_ ?_ ?_ ?_ ?_ ?_ ?_
      · intro c
        exfalso
        omega
      · intro c1 c2 c3 c4
        exact absurd c3 c4
      · intro c1 c2 c3 c4
        rw [e3] at c2 c3
        rw [if_neg c2, if_pos (Or.inl c3)] at ds
        rw [show mdp h a j + -1 - 1 = mdp h a j - 2 by omega, show mdp h a j + -1 = mdp h a j - 1 by omega, hs (mdp h a j - 2) (by omega) (by omega), hs (mdp h a j - 1) (by omega) (by omega)]
        exact go _ _ _ (by omega) (fun q q1 q2 => by show (if _ then _ else _) = _; rw [if_neg c2, if_pos c3]) (fun q q1 q2 q3 => by omega)
      · intro c1 c2 c3 c4 c5
        rw [e3] at c2 c3 c4 c5
        rw [if_neg c2, if_neg (by omega)] at ds
        rw [e3, e4, e5, em]
        refine go _ _ _ (by omega) (fun q q1 q2 => ?_) (fun q q1 q2 q3 => by omega)
        show (if _ then _ else _) = _
        rw [if_neg c2, if_neg c3, if_neg c4]
        unfold mat
        rw [if_pos c5]
      · intro c1 c2 c3 c4 c5 c6
        rw [e3] at c2 c3 c4 c5 c6
        rw [if_neg c2, if_neg (by omega)] at ds
        rw [e3, ha 217 _ (by decide)]
        refine go _ _ _ (by omega) (fun q q1 q2 => ?_) (fun q q1 q2 q3 => by omega)
        show (if _ then _ else _) = _
        rw [if_neg c2, if_neg c3, if_neg c4]
        unfold mat
        rw [if_neg c5, if_neg c6]
      · intro c1 c2 c3 c4 c5 c6
        rw [e3] at c2 c3 c4 c5 c6
        rw [if_neg c2, if_neg (by omega)] at ds
        rw [eb, em1]
        refine go _ _ _ (by omega) (fun q q1 q2 => ?_) (fun q q1 q2 q3 => by omega)
        show (if _ then _ else _) = _
        rw [if_neg c2, if_neg c3, if_neg c4]
        unfold mat
        rw [if_neg c5, if_pos c6]
      · intro c1 c2 c3 c4 c5
        rw [e3] at c2 c3 c4
        rw [if_neg c2, if_pos (Or.inr c4)] at ds
        rw [show mdp h a j + -1 - 1 = mdp h a j - 2 by omega, show mdp h a j + -1 = mdp h a j - 1 by omega, hs (mdp h a j - 2) (by omega) (by omega), hs (mdp h a j - 1) (by omega) (by omega)]
        exact go _ _ _ (by omega) (fun q q1 q2 => by show (if _ then _ else _) = _; rw [if_neg c2, if_neg c3, if_pos c4]) (fun q q1 q2 q3 => by omega)
      · intro c1 c2 c3 c4 c5
        exfalso
        omega
      · intro c1 c2
        rw [e3] at c2
        rw [if_pos c2] at ds
        rw [hs (mdp h a j - 1) (by omega) (by omega)]
        exact go _ _ _ (by omega) (fun q q1 q2 => by show (if _ then _ else _) = _; rw [if_pos c2]) (fun q q1 q2 q3 => by omega)
  have e0 := main N 0 h (by omega) (zag.rf _ _) (fun q q1 q2 => by have : mdp h a 0 = 0 := rfl; omega)
  rw [show a + ((0 : Nat) : Int) = a by omega] at e0
  exact e0
