/-! the model: laws, chains, rolls -/
set_option maxRecDepth 20000 in
theorem bX11_lawFor_0 {X : zX} {dep bc bs : Nat} (d : Int) (t : Int) {h : zH} {Q : Nat → zH → List zV → Prop}
    (k1 : zW mX11_lawFor X dep bc bs 239 5 [(0, xR 169), (1, xI d), (2, xI t), (3, xI (-1)), (4, xI 0)] [] h Q) : zW mX11_lawFor X dep bc bs 239 0 [(0, xR 169), (1, xI d), (2, xI t)] [] h Q := by
  refine z_iconst dX11_lawFor_0 (zi32_d rfl) ?_
  refine z_istore_n (lv' := [(3, xI (-1)), (0, xR 169), (1, xI d), (2, xI t)]) dX11_lawFor_1 (by decide) rfl ?_
  refine z_iconst dX11_lawFor_2 (zi32_d rfl) ?_
  refine z_istore (lv' := [(4, xI 0), (3, xI (-1)), (0, xR 169), (1, xI d), (2, xI t)]) dX11_lawFor_3 (by decide) rfl ?_
  refine zW.sub (lv' := [(0, xR 169), (1, xI d), (2, xI t), (3, xI (-1)), (4, xI 0)]) [2, 3, 4, 1, 0] rfl ?_
  exact k1

set_option maxRecDepth 20000 in
theorem bX11_lawFor_5 {X : zX} {dep bc bs : Nat} (d : Int) (t : Int) (y : Int) (k : Int) {h : zH} {Q : Nat → zH → List zV → Prop} (hw : 0 ≤ h 169 45 ∧ h 169 45 ≤ 8) (hk : 0 ≤ k) (hy : -1 ≤ y ∧ y < 8)
    (k1 : (h 169 45) ≤ k → Q 239 h [xI y])
    (k2 : ¬ ((h 169 45) ≤ k) → t < (h 191 k) → zW mX11_lawFor X dep bc bs 239 5 [(0, xR 169), (1, xI d), (2, xI t), (3, xI y), (4, xI (k + 1))] [] h Q)
    (k3 : ¬ ((h 169 45) ≤ k) → ¬ (t < (h 191 k)) → d < (h 190 k) → zW mX11_lawFor X dep bc bs 239 5 [(0, xR 169), (1, xI d), (2, xI t), (3, xI y), (4, xI (k + 1))] [] h Q)
    (k4 : ¬ ((h 169 45) ≤ k) → ¬ (t < (h 191 k)) → ¬ (d < (h 190 k)) → y < 0 → zW mX11_lawFor X dep bc bs 239 5 [(0, xR 169), (1, xI d), (2, xI t), (3, xI k), (4, xI (k + 1))] [] h Q)
    (k5 : ¬ ((h 169 45) ≤ k) → ¬ (t < (h 191 k)) → ¬ (d < (h 190 k)) → ¬ (y < 0) → (h 190 k) < (h 190 y) → zW mX11_lawFor X dep bc bs 239 5 [(0, xR 169), (1, xI d), (2, xI t), (3, xI y), (4, xI (k + 1))] [] h Q)
    (k6 : ¬ ((h 169 45) ≤ k) → ¬ (t < (h 191 k)) → ¬ (d < (h 190 k)) → ¬ (y < 0) → ¬ ((h 190 k) < (h 190 y)) → zW mX11_lawFor X dep bc bs 239 5 [(0, xR 169), (1, xI d), (2, xI t), (3, xI k), (4, xI (k + 1))] [] h Q) : zW mX11_lawFor X dep bc bs 239 5 [(0, xR 169), (1, xI d), (2, xI t), (3, xI y), (4, xI k)] [] h Q := by
  refine z_iload 4 dX11_lawFor_5 rfl ?_
  refine z_aload_n 0 dX11_lawFor_7 rfl ?_
  refine z_getI (k := 45) (kz := 45) pk11 dX11_lawFor_8 (by decide) zb_1169 rfl (zOb.lit (by decide +kernel)) rfl ?_
  refine z_icmp_ge (tgt := 65) dX11_lawFor_11 (by decide) (fun c1 => ?_) (fun c1 => ?_)
  ·
    refine z_iload_n 3 dX11_lawFor_65 rfl ?_
    exact z_iret dX11_lawFor_66 rfl (k1 c1)
  ·
    refine z_aload_n 0 dX11_lawFor_14 rfl ?_
    refine z_getS (v := 191) (k := 31) (kz := 31) pk11 dX11_lawFor_15 (by decide) zb_1155 rfl (zOb.lit (by decide +kernel)) rfl (by decide +kernel) ?_
    refine z_iload 4 dX11_lawFor_18 rfl ?_
    refine z_iald dX11_lawFor_20 (zOb.lit (by decide +kernel)) (show 0 ≤ k ∧ k < 9 from ⟨by omega, by omega⟩).1 (show 0 ≤ k ∧ k < 9 from ⟨by omega, by omega⟩).2 ?_
    refine z_iload_n 2 dX11_lawFor_21 rfl ?_
    refine z_icmp_gt (tgt := 59) dX11_lawFor_22 (by decide) (fun c2 => ?_) (fun c2 => ?_)
    ·
      refine z_iincN (lv' := [(4, xI (k + 1)), (0, xR 169), (1, xI d), (2, xI t), (3, xI y)]) 4 dX11_lawFor_59 rfl (by decide) rfl (show -2147483648 ≤ k + 1 ∧ k + 1 < 2147483648 from ⟨by omega, by omega⟩).1 (show -2147483648 ≤ k + 1 ∧ k + 1 < 2147483648 from ⟨by omega, by omega⟩).2 ?_
      refine z_goto (tgt := 5) dX11_lawFor_62 (by decide) ?_
      refine zW.sub (lv' := [(0, xR 169), (1, xI d), (2, xI t), (3, xI y), (4, xI (k + 1))]) [1, 2, 3, 4, 0] rfl ?_
      exact k2 c1 c2
    ·
      refine z_aload_n 0 dX11_lawFor_25 rfl ?_
      refine z_getS (v := 190) (k := 30) (kz := 30) pk11 dX11_lawFor_26 (by decide) zb_1154 rfl (zOb.lit (by decide +kernel)) rfl (by decide +kernel) ?_
      refine z_iload 4 dX11_lawFor_29 rfl ?_
      refine z_iald dX11_lawFor_31 (zOb.lit (by decide +kernel)) (show 0 ≤ k ∧ k < 9 from ⟨by omega, by omega⟩).1 (show 0 ≤ k ∧ k < 9 from ⟨by omega, by omega⟩).2 ?_
      refine z_iload_n 1 dX11_lawFor_32 rfl ?_
      refine z_icmp_gt (tgt := 59) dX11_lawFor_33 (by decide) (fun c3 => ?_) (fun c3 => ?_)
      ·
        refine z_iincN (lv' := [(4, xI (k + 1)), (0, xR 169), (1, xI d), (2, xI t), (3, xI y)]) 4 dX11_lawFor_59 rfl (by decide) rfl (show -2147483648 ≤ k + 1 ∧ k + 1 < 2147483648 from ⟨by omega, by omega⟩).1 (show -2147483648 ≤ k + 1 ∧ k + 1 < 2147483648 from ⟨by omega, by omega⟩).2 ?_
        refine z_goto (tgt := 5) dX11_lawFor_62 (by decide) ?_
        refine zW.sub (lv' := [(0, xR 169), (1, xI d), (2, xI t), (3, xI y), (4, xI (k + 1))]) [1, 2, 3, 4, 0] rfl ?_
        exact k3 c1 c2 c3
      ·
        refine z_iload_n 3 dX11_lawFor_36 rfl ?_
        refine z_if_lt (tgt := 56) dX11_lawFor_37 (by decide) (fun c4 => ?_) (fun c4 => ?_)
        ·
          refine z_iload 4 dX11_lawFor_56 rfl ?_
          refine z_istore_n (lv' := [(3, xI k), (0, xR 169), (1, xI d), (2, xI t), (4, xI k)]) dX11_lawFor_58 (by decide) rfl ?_
          refine z_iincN (lv' := [(4, xI (k + 1)), (3, xI k), (0, xR 169), (1, xI d), (2, xI t)]) 4 dX11_lawFor_59 rfl (by decide) rfl (show -2147483648 ≤ k + 1 ∧ k + 1 < 2147483648 from ⟨by omega, by omega⟩).1 (show -2147483648 ≤ k + 1 ∧ k + 1 < 2147483648 from ⟨by omega, by omega⟩).2 ?_
          refine z_goto (tgt := 5) dX11_lawFor_62 (by decide) ?_
          refine zW.sub (lv' := [(0, xR 169), (1, xI d), (2, xI t), (3, xI k), (4, xI (k + 1))]) [2, 3, 4, 1, 0] rfl ?_
          exact k4 c1 c2 c3 c4
        ·
          refine z_aload_n 0 dX11_lawFor_40 rfl ?_
          refine z_getS (v := 190) (k := 30) (kz := 30) pk11 dX11_lawFor_41 (by decide) zb_1154 rfl (zOb.lit (by decide +kernel)) rfl (by decide +kernel) ?_
          refine z_iload 4 dX11_lawFor_44 rfl ?_
          refine z_iald dX11_lawFor_46 (zOb.lit (by decide +kernel)) (show 0 ≤ k ∧ k < 9 from ⟨by omega, by omega⟩).1 (show 0 ≤ k ∧ k < 9 from ⟨by omega, by omega⟩).2 ?_
          refine z_aload_n 0 dX11_lawFor_47 rfl ?_
          refine z_getS (v := 190) (k := 30) (kz := 30) pk11 dX11_lawFor_48 (by decide) zb_1154 rfl (zOb.lit (by decide +kernel)) rfl (by decide +kernel) ?_
          refine z_iload_n 3 dX11_lawFor_51 rfl ?_
          refine z_iald dX11_lawFor_52 (zOb.lit (by decide +kernel)) (show 0 ≤ y ∧ y < 9 from ⟨by omega, by omega⟩).1 (show 0 ≤ y ∧ y < 9 from ⟨by omega, by omega⟩).2 ?_
          refine z_icmp_lt (tgt := 59) dX11_lawFor_53 (by decide) (fun c5 => ?_) (fun c5 => ?_)
          ·
            refine z_iincN (lv' := [(4, xI (k + 1)), (0, xR 169), (1, xI d), (2, xI t), (3, xI y)]) 4 dX11_lawFor_59 rfl (by decide) rfl (show -2147483648 ≤ k + 1 ∧ k + 1 < 2147483648 from ⟨by omega, by omega⟩).1 (show -2147483648 ≤ k + 1 ∧ k + 1 < 2147483648 from ⟨by omega, by omega⟩).2 ?_
            refine z_goto (tgt := 5) dX11_lawFor_62 (by decide) ?_
            refine zW.sub (lv' := [(0, xR 169), (1, xI d), (2, xI t), (3, xI y), (4, xI (k + 1))]) [1, 2, 3, 4, 0] rfl ?_
            exact k5 c1 c2 c3 c4 c5
          ·
            refine z_iload 4 dX11_lawFor_56 rfl ?_
            refine z_istore_n (lv' := [(3, xI k), (0, xR 169), (1, xI d), (2, xI t), (4, xI k)]) dX11_lawFor_58 (by decide) rfl ?_
            refine z_iincN (lv' := [(4, xI (k + 1)), (3, xI k), (0, xR 169), (1, xI d), (2, xI t)]) 4 dX11_lawFor_59 rfl (by decide) rfl (show -2147483648 ≤ k + 1 ∧ k + 1 < 2147483648 from ⟨by omega, by omega⟩).1 (show -2147483648 ≤ k + 1 ∧ k + 1 < 2147483648 from ⟨by omega, by omega⟩).2 ?_
            refine z_goto (tgt := 5) dX11_lawFor_62 (by decide) ?_
            refine zW.sub (lv' := [(0, xR 169), (1, xI d), (2, xI t), (3, xI k), (4, xI (k + 1))]) [2, 3, 4, 1, 0] rfl ?_
            exact k6 c1 c2 c3 c4 c5

set_option maxRecDepth 20000 in
theorem bX11_sentBy_0 {X : zX} {dep bc bs : Nat} (l : Int) (m : Int) (t : Int) {h : zH} {Q : Nat → zH → List zV → Prop}
    (k1 : zW mX11_sentBy X dep bc bs 239 3 [(0, xR 169), (1, xI l), (2, xI m), (3, xI t), (4, xI 0)] [] h Q) : zW mX11_sentBy X dep bc bs 239 0 [(0, xR 169), (1, xI l), (2, xI m), (3, xI t)] [] h Q := by
  refine z_iconst dX11_sentBy_0 (zi32_d rfl) ?_
  refine z_istore (lv' := [(4, xI 0), (0, xR 169), (1, xI l), (2, xI m), (3, xI t)]) dX11_sentBy_1 (by decide) rfl ?_
  refine zW.sub (lv' := [(0, xR 169), (1, xI l), (2, xI m), (3, xI t), (4, xI 0)]) [1, 2, 3, 4, 0] rfl ?_
  exact k1

set_option maxRecDepth 20000 in
theorem bX11_sentBy_3 {X : zX} {dep bc bs : Nat} (l : Int) (m : Int) (t : Int) (k : Int) {h : zH} {Q : Nat → zH → List zV → Prop} (hs : 0 ≤ h 169 85 ∧ h 169 85 ≤ 60) (hk : 0 ≤ k)
    (k1 : (h 169 85) ≤ k → Q 239 h [xI (-1)])
    (k2 : ¬ ((h 169 85) ≤ k) → ¬ (h 224 k) = l → zW mX11_sentBy X dep bc bs 239 3 [(0, xR 169), (1, xI l), (2, xI m), (3, xI t), (4, xI (k + 1))] [] h Q)
    (k3 : ¬ ((h 169 85) ≤ k) → (h 224 k) = l → ¬ (h 225 k) = m → zW mX11_sentBy X dep bc bs 239 3 [(0, xR 169), (1, xI l), (2, xI m), (3, xI t), (4, xI (k + 1))] [] h Q)
    (k4 : ¬ ((h 169 85) ≤ k) → (h 224 k) = l → (h 225 k) = m → t < (h 227 k) → zW mX11_sentBy X dep bc bs 239 3 [(0, xR 169), (1, xI l), (2, xI m), (3, xI t), (4, xI (k + 1))] [] h Q)
    (k5 : ¬ ((h 169 85) ≤ k) → (h 224 k) = l → (h 225 k) = m → ¬ (t < (h 227 k)) → Q 239 h [xI (h 226 k)]) : zW mX11_sentBy X dep bc bs 239 3 [(0, xR 169), (1, xI l), (2, xI m), (3, xI t), (4, xI k)] [] h Q := by
  refine z_iload 4 dX11_sentBy_3 rfl ?_
  refine z_aload_n 0 dX11_sentBy_5 rfl ?_
  refine z_getI (k := 85) (kz := 85) pk11 dX11_sentBy_6 (by decide) zb_1209 rfl (zOb.lit (by decide +kernel)) rfl ?_
  refine z_icmp_ge (tgt := 59) dX11_sentBy_9 (by decide) (fun c1 => ?_) (fun c1 => ?_)
  ·
    refine z_iconst dX11_sentBy_59 (zi32_d rfl) ?_
    exact z_iret dX11_sentBy_60 rfl (k1 c1)
  ·
    refine z_aload_n 0 dX11_sentBy_12 rfl ?_
    refine z_getS (v := 224) (k := 77) (kz := 77) pk11 dX11_sentBy_13 (by decide) zb_1201 rfl (zOb.lit (by decide +kernel)) rfl (by decide +kernel) ?_
    refine z_iload 4 dX11_sentBy_16 rfl ?_
    refine z_iald dX11_sentBy_18 (zOb.lit (by decide +kernel)) (show 0 ≤ k ∧ k < 60 from ⟨by omega, by omega⟩).1 (show 0 ≤ k ∧ k < 60 from ⟨by omega, by omega⟩).2 ?_
    refine z_iload_n 1 dX11_sentBy_19 rfl ?_
    refine z_icmp_ne (tgt := 53) dX11_sentBy_20 (by decide) (fun c2 => ?_) (fun c2 => ?_)
    ·
      refine z_iincN (lv' := [(4, xI (k + 1)), (0, xR 169), (1, xI l), (2, xI m), (3, xI t)]) 4 dX11_sentBy_53 rfl (by decide) rfl (show -2147483648 ≤ k + 1 ∧ k + 1 < 2147483648 from ⟨by omega, by omega⟩).1 (show -2147483648 ≤ k + 1 ∧ k + 1 < 2147483648 from ⟨by omega, by omega⟩).2 ?_
      refine z_goto (tgt := 3) dX11_sentBy_56 (by decide) ?_
      refine zW.sub (lv' := [(0, xR 169), (1, xI l), (2, xI m), (3, xI t), (4, xI (k + 1))]) [1, 2, 3, 4, 0] rfl ?_
      exact k2 c1 c2
    ·
      refine z_aload_n 0 dX11_sentBy_23 rfl ?_
      refine z_getS (v := 225) (k := 78) (kz := 78) pk11 dX11_sentBy_24 (by decide) zb_1202 rfl (zOb.lit (by decide +kernel)) rfl (by decide +kernel) ?_
      refine z_iload 4 dX11_sentBy_27 rfl ?_
      refine z_iald dX11_sentBy_29 (zOb.lit (by decide +kernel)) (show 0 ≤ k ∧ k < 60 from ⟨by omega, by omega⟩).1 (show 0 ≤ k ∧ k < 60 from ⟨by omega, by omega⟩).2 ?_
      refine z_iload_n 2 dX11_sentBy_30 rfl ?_
      refine z_icmp_ne (tgt := 53) dX11_sentBy_31 (by decide) (fun c3 => ?_) (fun c3 => ?_)
      ·
        refine z_iincN (lv' := [(4, xI (k + 1)), (0, xR 169), (1, xI l), (2, xI m), (3, xI t)]) 4 dX11_sentBy_53 rfl (by decide) rfl (show -2147483648 ≤ k + 1 ∧ k + 1 < 2147483648 from ⟨by omega, by omega⟩).1 (show -2147483648 ≤ k + 1 ∧ k + 1 < 2147483648 from ⟨by omega, by omega⟩).2 ?_
        refine z_goto (tgt := 3) dX11_sentBy_56 (by decide) ?_
        refine zW.sub (lv' := [(0, xR 169), (1, xI l), (2, xI m), (3, xI t), (4, xI (k + 1))]) [1, 2, 3, 4, 0] rfl ?_
        exact k3 c1 c2 c3
      ·
        refine z_aload_n 0 dX11_sentBy_34 rfl ?_
        refine z_getS (v := 227) (k := 80) (kz := 80) pk11 dX11_sentBy_35 (by decide) zb_1204 rfl (zOb.lit (by decide +kernel)) rfl (by decide +kernel) ?_
        refine z_iload 4 dX11_sentBy_38 rfl ?_
        refine z_iald dX11_sentBy_40 (zOb.lit (by decide +kernel)) (show 0 ≤ k ∧ k < 60 from ⟨by omega, by omega⟩).1 (show 0 ≤ k ∧ k < 60 from ⟨by omega, by omega⟩).2 ?_
        refine z_iload_n 3 dX11_sentBy_41 rfl ?_
        refine z_icmp_gt (tgt := 53) dX11_sentBy_42 (by decide) (fun c4 => ?_) (fun c4 => ?_)
        ·
          refine z_iincN (lv' := [(4, xI (k + 1)), (0, xR 169), (1, xI l), (2, xI m), (3, xI t)]) 4 dX11_sentBy_53 rfl (by decide) rfl (show -2147483648 ≤ k + 1 ∧ k + 1 < 2147483648 from ⟨by omega, by omega⟩).1 (show -2147483648 ≤ k + 1 ∧ k + 1 < 2147483648 from ⟨by omega, by omega⟩).2 ?_
          refine z_goto (tgt := 3) dX11_sentBy_56 (by decide) ?_
          refine zW.sub (lv' := [(0, xR 169), (1, xI l), (2, xI m), (3, xI t), (4, xI (k + 1))]) [1, 2, 3, 4, 0] rfl ?_
          exact k4 c1 c2 c3 c4
        ·
          refine z_aload_n 0 dX11_sentBy_45 rfl ?_
          refine z_getS (v := 226) (k := 79) (kz := 79) pk11 dX11_sentBy_46 (by decide) zb_1203 rfl (zOb.lit (by decide +kernel)) rfl (by decide +kernel) ?_
          refine z_iload 4 dX11_sentBy_49 rfl ?_
          refine z_iald dX11_sentBy_51 (zOb.lit (by decide +kernel)) (show 0 ≤ k ∧ k < 60 from ⟨by omega, by omega⟩).1 (show 0 ≤ k ∧ k < 60 from ⟨by omega, by omega⟩).2 ?_
          exact z_iret dX11_sentBy_52 rfl (k5 c1 c2 c3 c4)

set_option maxRecDepth 20000 in
theorem bX11_wasSent_0 {X : zX} {dep bc bs : Nat} (l : Int) (m : Int) {h : zH} {Q : Nat → zH → List zV → Prop}
    (k1 : zW mX11_wasSent X dep bc bs 239 2 [(0, xR 169), (1, xI l), (2, xI m), (3, xI 0)] [] h Q) : zW mX11_wasSent X dep bc bs 239 0 [(0, xR 169), (1, xI l), (2, xI m)] [] h Q := by
  refine z_iconst dX11_wasSent_0 (zi32_d rfl) ?_
  refine z_istore_n (lv' := [(3, xI 0), (0, xR 169), (1, xI l), (2, xI m)]) dX11_wasSent_1 (by decide) rfl ?_
  refine zW.sub (lv' := [(0, xR 169), (1, xI l), (2, xI m), (3, xI 0)]) [1, 2, 3, 0] rfl ?_
  exact k1

set_option maxRecDepth 20000 in
theorem bX11_wasSent_2 {X : zX} {dep bc bs : Nat} (l : Int) (m : Int) (k : Int) {h : zH} {Q : Nat → zH → List zV → Prop} (hs : 0 ≤ h 169 85 ∧ h 169 85 ≤ 60) (hk : 0 ≤ k)
    (k1 : (h 169 85) ≤ k → Q 239 h [xI 0])
    (k2 : ¬ ((h 169 85) ≤ k) → ¬ (h 224 k) = l → zW mX11_wasSent X dep bc bs 239 2 [(0, xR 169), (1, xI l), (2, xI m), (3, xI (k + 1))] [] h Q)
    (k3 : ¬ ((h 169 85) ≤ k) → (h 224 k) = l → ¬ (h 226 k) = m → zW mX11_wasSent X dep bc bs 239 2 [(0, xR 169), (1, xI l), (2, xI m), (3, xI (k + 1))] [] h Q)
    (k4 : ¬ ((h 169 85) ≤ k) → (h 224 k) = l → (h 226 k) = m → Q 239 h [xI 1]) : zW mX11_wasSent X dep bc bs 239 2 [(0, xR 169), (1, xI l), (2, xI m), (3, xI k)] [] h Q := by
  refine z_iload_n 3 dX11_wasSent_2 rfl ?_
  refine z_aload_n 0 dX11_wasSent_3 rfl ?_
  refine z_getI (k := 85) (kz := 85) pk11 dX11_wasSent_4 (by decide) zb_1209 rfl (zOb.lit (by decide +kernel)) rfl ?_
  refine z_icmp_ge (tgt := 38) dX11_wasSent_7 (by decide) (fun c1 => ?_) (fun c1 => ?_)
  ·
    refine z_iconst dX11_wasSent_38 (zi32_d rfl) ?_
    exact z_zret dX11_wasSent_39 rfl (Or.inl rfl) (k1 c1)
  ·
    refine z_aload_n 0 dX11_wasSent_10 rfl ?_
    refine z_getS (v := 224) (k := 77) (kz := 77) pk11 dX11_wasSent_11 (by decide) zb_1201 rfl (zOb.lit (by decide +kernel)) rfl (by decide +kernel) ?_
    refine z_iload_n 3 dX11_wasSent_14 rfl ?_
    refine z_iald dX11_wasSent_15 (zOb.lit (by decide +kernel)) (show 0 ≤ k ∧ k < 60 from ⟨by omega, by omega⟩).1 (show 0 ≤ k ∧ k < 60 from ⟨by omega, by omega⟩).2 ?_
    refine z_iload_n 1 dX11_wasSent_16 rfl ?_
    refine z_icmp_ne (tgt := 32) dX11_wasSent_17 (by decide) (fun c2 => ?_) (fun c2 => ?_)
    ·
      refine z_iincN (lv' := [(3, xI (k + 1)), (0, xR 169), (1, xI l), (2, xI m)]) 3 dX11_wasSent_32 rfl (by decide) rfl (show -2147483648 ≤ k + 1 ∧ k + 1 < 2147483648 from ⟨by omega, by omega⟩).1 (show -2147483648 ≤ k + 1 ∧ k + 1 < 2147483648 from ⟨by omega, by omega⟩).2 ?_
      refine z_goto (tgt := 2) dX11_wasSent_35 (by decide) ?_
      refine zW.sub (lv' := [(0, xR 169), (1, xI l), (2, xI m), (3, xI (k + 1))]) [1, 2, 3, 0] rfl ?_
      exact k2 c1 c2
    ·
      refine z_aload_n 0 dX11_wasSent_20 rfl ?_
      refine z_getS (v := 226) (k := 79) (kz := 79) pk11 dX11_wasSent_21 (by decide) zb_1203 rfl (zOb.lit (by decide +kernel)) rfl (by decide +kernel) ?_
      refine z_iload_n 3 dX11_wasSent_24 rfl ?_
      refine z_iald dX11_wasSent_25 (zOb.lit (by decide +kernel)) (show 0 ≤ k ∧ k < 60 from ⟨by omega, by omega⟩).1 (show 0 ≤ k ∧ k < 60 from ⟨by omega, by omega⟩).2 ?_
      refine z_iload_n 2 dX11_wasSent_26 rfl ?_
      refine z_icmp_ne (tgt := 32) dX11_wasSent_27 (by decide) (fun c3 => ?_) (fun c3 => ?_)
      ·
        refine z_iincN (lv' := [(3, xI (k + 1)), (0, xR 169), (1, xI l), (2, xI m)]) 3 dX11_wasSent_32 rfl (by decide) rfl (show -2147483648 ≤ k + 1 ∧ k + 1 < 2147483648 from ⟨by omega, by omega⟩).1 (show -2147483648 ≤ k + 1 ∧ k + 1 < 2147483648 from ⟨by omega, by omega⟩).2 ?_
        refine z_goto (tgt := 2) dX11_wasSent_35 (by decide) ?_
        refine zW.sub (lv' := [(0, xR 169), (1, xI l), (2, xI m), (3, xI (k + 1))]) [1, 2, 3, 0] rfl ?_
        exact k3 c1 c2 c3
      ·
        refine z_iconst dX11_wasSent_30 (zi32_d rfl) ?_
        exact z_zret dX11_wasSent_31 rfl (Or.inr rfl) (k4 c1 c2 c3)


/-- the law for a day, as known on a day t: the last of the latest -/
def mbest (h : zH) (d t : Int) : Nat → Int
  | 0 => -1
  | k + 1 => if h 191 k ≤ t ∧ h 190 k ≤ d ∧ (mbest h d t k < 0 ∨ h 190 (mbest h d t k) ≤ h 190 k) then k else mbest h d t k
theorem mbest_in (h : zH) (d t : Int) : ∀ k : Nat, -1 ≤ mbest h d t k ∧ mbest h d t k < k
  | 0 => by
    show (-1 : Int) ≤ -1 ∧ (-1 : Int) < ((0 : Nat) : Int)
    omega
  | k + 1 => by
    have := mbest_in h d t k
    unfold mbest
    split <;> omega
theorem mbest_st (h : zH) (o k x d t : Int) (ho : o ≠ 190 ∧ o ≠ 191) : ∀ n : Nat, mbest (zst h o k x) d t n = mbest h d t n
  | 0 => rfl
  | n + 1 => by
    unfold mbest
    rw [mbest_st h o k x d t ho n, zst_ne (Or.inl (by omega)), zst_ne (Or.inl (by omega)), zst_ne (Or.inl (by omega))]
def mlaw (h : zH) (d t : Int) : Int := mbest h d t (h 169 45).toNat
theorem mlaw_st (h : zH) (o k x d t : Int) (ho : o ≠ 190 ∧ o ≠ 191 ∧ (o ≠ 169 ∨ k ≠ 45)) : mlaw (zst h o k x) d t = mlaw h d t := by
  unfold mlaw
  rw [mbest_st h o k x d t ⟨ho.1, ho.2.1⟩, zst_ne (by omega)]
theorem mlaw_ag {S : List Int} {h g : zH} (ha : zag S h g) (hS : ∀ o ∈ [(190 : Int), 191, 169], o ∉ S) (d t : Int) : mlaw g d t = mlaw h d t := by
  unfold mlaw
  rw [ha 169 _ (hS _ (by decide))]
  generalize (h 169 45).toNat = N
  induction N with
  | zero => rfl
  | succ N ihN =>
    unfold mbest
    rw [ihN, ha 190 _ (hS _ (by decide)), ha 190 _ (hS _ (by decide)), ha 191 _ (hS _ (by decide))]
theorem mlaw_in {h : zH} (hw : 0 ≤ h 169 45 ∧ h 169 45 ≤ 8) (d t : Int) : -1 ≤ mlaw h d t ∧ mlaw h d t < h 169 45 := by
  have := mbest_in h d t (h 169 45).toNat
  unfold mlaw
  omega
theorem f_X11_lawFor {X : zX} {dep : Nat} (d t : Int) {h : zH} (hw : 0 ≤ h 169 45 ∧ h 169 45 ≤ 8) : zW mX11_lawFor X dep 0 0 239 0 (zar 0 [xR 169, xI d, xI t]) [] h (zF h [xI (mlaw h d t)]) := by
  unfold mlaw
  refine bX11_lawFor_0 d t ?_
  have main : ∀ (j k : Nat), (k : Int) + j = h 169 45 → zW mX11_lawFor X dep 0 0 239 5 [(0, xR 169), (1, xI d), (2, xI t), (3, xI (mbest h d t k)), (4, xI k)] [] h (zF h [xI (mbest h d t (h 169 45).toNat)]) := by
    intro j
    induction j with
    | zero =>
      intro k hk
      have i1 := mbest_in h d t k
      refine bX11_lawFor_5 d t _ k hw (by omega) (by omega) ?_ ?_ ?_ ?_ ?_ ?_
      · intro c
        rw [show (h 169 45).toNat = k by omega]
        exact ⟨rfl, rfl, rfl⟩
      all_goals
        intro c
        exfalso
        omega
    | succ j ih =>
      intro k hk
      have i1 := mbest_in h d t k
      have go := ih (k + 1) (by omega)
      rw [show ((k + 1 : Nat) : Int) = (k : Int) + 1 by omega] at go
      have no : ¬ (h 191 k ≤ t ∧ h 190 k ≤ d ∧ (mbest h d t k < 0 ∨ h 190 (mbest h d t k) ≤ h 190 k)) → zW mX11_lawFor X dep 0 0 239 5 [(0, xR 169), (1, xI d), (2, xI t), (3, xI (mbest h d t k)), (4, xI ((k : Int) + 1))] [] h (zF h [xI (mbest h d t (h 169 45).toNat)]) := fun c => by
        rw [show mbest h d t (k + 1) = mbest h d t k from if_neg c] at go
        exact go
      have yes : (h 191 k ≤ t ∧ h 190 k ≤ d ∧ (mbest h d t k < 0 ∨ h 190 (mbest h d t k) ≤ h 190 k)) → zW mX11_lawFor X dep 0 0 239 5 [(0, xR 169), (1, xI d), (2, xI t), (3, xI k), (4, xI ((k : Int) + 1))] [] h (zF h [xI (mbest h d t (h 169 45).toNat)]) := fun c => by
        rw [show mbest h d t (k + 1) = k from if_pos c] at go
        exact go
      refine bX11_lawFor_5 d t _ k hw (by omega) (by omega) ?_ ?_ ?_ ?_ ?_ ?_
      · intro c
        exfalso
        omega
      · intro c1 c2
        exact no (by omega)
      · intro c1 c2 c3
        exact no (by omega)
      · intro c1 c2 c3 c4
        exact yes ⟨by omega, by omega, Or.inl c4⟩
      · intro c1 c2 c3 c4 c5
        exact no (by omega)
      · intro c1 c2 c3 c4 c5
        exact yes ⟨by omega, by omega, Or.inr (by omega)⟩
  exact main (h 169 45).toNat 0 (by omega)
/-- whom one sent in a lot, as known on a day -/
def msb (h : zH) (l m t : Int) : Nat → Int → Int
  | 0, _ => -1
  | n + 1, k => if h 224 k = l ∧ h 225 k = m ∧ h 227 k ≤ t then h 226 k else msb h l m t n (k + 1)
def msent (h : zH) (l m t : Int) : Int := msb h l m t (h 169 85).toNat 0
theorem f_X11_sentBy {X : zX} {dep : Nat} (l m t : Int) {h : zH} (hs : 0 ≤ h 169 85 ∧ h 169 85 ≤ 60) : zW mX11_sentBy X dep 0 0 239 0 (zar 0 [xR 169, xI l, xI m, xI t]) [] h (zF h [xI (msent h l m t)]) := by
  refine bX11_sentBy_0 l m t ?_
  have main : ∀ (j : Nat) (k : Int), 0 ≤ k → k + j = h 169 85 → zW mX11_sentBy X dep 0 0 239 3 [(0, xR 169), (1, xI l), (2, xI m), (3, xI t), (4, xI k)] [] h (zF h [xI (msb h l m t j k)]) := by
    intro j
    induction j with
    | zero =>
      intro k h0 hk
      refine bX11_sentBy_3 l m t k hs h0 ?_ ?_ ?_ ?_ ?_
      · intro c
        exact ⟨rfl, rfl, rfl⟩
      all_goals
        intro c
        exfalso
        omega
    | succ j ih =>
      intro k h0 hk
      have go := ih (k + 1) (by omega) (by omega)
      have no : ¬ (h 224 k = l ∧ h 225 k = m ∧ h 227 k ≤ t) → zW mX11_sentBy X dep 0 0 239 3 [(0, xR 169), (1, xI l), (2, xI m), (3, xI t), (4, xI (k + 1))] [] h (zF h [xI (msb h l m t (j + 1) k)]) := fun c => by
        rw [show msb h l m t (j + 1) k = msb h l m t j (k + 1) from if_neg c]
        exact go
      refine bX11_sentBy_3 l m t k hs h0 ?_ ?_ ?_ ?_ ?_
      · intro c
        exfalso
        omega
      · intro c1 c2
        exact no (fun z => c2 z.1)
      · intro c1 c2 c3
        exact no (fun z => c3 z.2.1)
      · intro c1 c2 c3 c4
        exact no (by omega)
      · intro c1 c2 c3 c4
        rw [show msb h l m t (j + 1) k = h 226 k from if_pos ⟨c2, c3, by omega⟩]
        exact ⟨rfl, rfl, rfl⟩
  exact main (h 169 85).toNat 0 (Int.le_refl _) (by omega)
/-- whether one was sent in a lot -/
def mws (h : zH) (l m : Int) : Prop := ∃ k : Int, (0 ≤ k ∧ k < h 169 85) ∧ h 224 k = l ∧ h 226 k = m
theorem f_X11_wasSent {X : zX} {dep : Nat} (l m : Int) {h : zH} (hs : 0 ≤ h 169 85 ∧ h 169 85 ≤ 60) : zW mX11_wasSent X dep 0 0 239 0 (zar 0 [xR 169, xI l, xI m]) [] h (zF h [xI (zb (mws h l m))]) := by
  refine bX11_wasSent_0 l m ?_
  have main : ∀ (j : Nat) (k : Int), 0 ≤ k → k + j = h 169 85 → (∀ i : Int, 0 ≤ i → i < k → ¬ (h 224 i = l ∧ h 226 i = m)) → zW mX11_wasSent X dep 0 0 239 2 [(0, xR 169), (1, xI l), (2, xI m), (3, xI k)] [] h (zF h [xI (zb (mws h l m))]) := by
    intro j
    induction j with
    | zero =>
      intro k h0 hk hn
      refine bX11_wasSent_2 l m k hs h0 ?_ ?_ ?_ ?_
      · intro c
        rw [zb_f (fun ⟨i, i1, i2⟩ => hn i i1.1 (by omega) i2)]
        exact ⟨rfl, rfl, rfl⟩
      all_goals
        intro c
        exfalso
        omega
    | succ j ih =>
      intro k h0 hk hn
      have no : ¬ (h 224 k = l ∧ h 226 k = m) → zW mX11_wasSent X dep 0 0 239 2 [(0, xR 169), (1, xI l), (2, xI m), (3, xI (k + 1))] [] h (zF h [xI (zb (mws h l m))]) := fun c => ih (k + 1) (by omega) (by omega) (fun i i0 i1 => by
        by_cases e : i = k
        · rw [e]
          exact c
        · exact hn i i0 (by omega))
      refine bX11_wasSent_2 l m k hs h0 ?_ ?_ ?_ ?_
      · intro c
        exfalso
        omega
      · intro c1 c2
        exact no (fun z => c2 z.1)
      · intro c1 c2 c3
        exact no (fun z => c3 z.2)
      · intro c1 c2 c3
        rw [zb_t ⟨k, ⟨h0, by omega⟩, c2, c3⟩]
        exact ⟨rfl, rfl, rfl⟩
  exact main (h 169 85).toNat 0 (Int.le_refl _) (by omega) (fun i i0 i1 => by omega)

set_option maxRecDepth 20000 in
theorem bX11_chain_0 {X : zX} {dep bc bs : Nat} (l : Int) (t : Int) {h : zH} {Q : Nat → zH → List zV → Prop}
    (k1 : zW mX11_chain X dep bc bs 239 2 [(0, xR 169), (1, xI l), (2, xI t), (3, xI 0)] [] h Q) : zW mX11_chain X dep bc bs 239 0 [(0, xR 169), (1, xI l), (2, xI t)] [] h Q := by
  refine z_iconst dX11_chain_0 (zi32_d rfl) ?_
  refine z_istore_n (lv' := [(3, xI 0), (0, xR 169), (1, xI l), (2, xI t)]) dX11_chain_1 (by decide) rfl ?_
  refine zW.sub (lv' := [(0, xR 169), (1, xI l), (2, xI t), (3, xI 0)]) [1, 2, 3, 0] rfl ?_
  exact k1

set_option maxRecDepth 20000 in
theorem bX11_chain_2 {X : zX} {dep bc bs : Nat} (l : Int) (t : Int) (m : Int) {g : zH} {Q : Nat → zH → List zV → Prop} (hl : 0 ≤ l ∧ l < 4) (hx : 0 ≤ m)
    (k1 : 60 ≤ m → zW mX11_chain X dep bc bs 239 40 [(0, xR 169), (1, xI l), (2, xI t), (3, xI 0)] [] g Q)
    (k2 : ¬ (60 ≤ m) → zW mX11_chain X dep bc bs 239 2 [(0, xR 169), (1, xI l), (2, xI t), (3, xI (m + 1))] [] (zst (zst g 230 ((60 * l) + m) 0) 229 ((60 * l) + m) (-1)) Q) : zW mX11_chain X dep bc bs 239 2 [(0, xR 169), (1, xI l), (2, xI t), (3, xI m)] [] g Q := by
  refine z_iload_n 3 dX11_chain_2 rfl ?_
  refine z_bipush dX11_chain_3 (zi32_d rfl) (by decide) ?_
  refine z_icmp_ge (tgt := 38) dX11_chain_5 (by decide) (fun c1 => ?_) (fun c1 => ?_)
  ·
    refine z_iconst dX11_chain_38 (zi32_d rfl) ?_
    refine z_istore_n (lv' := [(3, xI 0), (0, xR 169), (1, xI l), (2, xI t)]) dX11_chain_39 (by decide) rfl ?_
    refine zW.sub (lv' := [(0, xR 169), (1, xI l), (2, xI t), (3, xI 0)]) [1, 2, 3, 0] rfl ?_
    exact k1 c1
  ·
    refine z_aload_n 0 dX11_chain_8 rfl ?_
    refine z_getS (v := 230) (k := 83) (kz := 83) pk11 dX11_chain_9 (by decide) zb_1207 rfl (zOb.lit (by decide +kernel)) rfl (by decide +kernel) ?_
    refine z_bipush dX11_chain_12 (zi32_d rfl) (by decide) ?_
    refine z_iload_n 1 dX11_chain_14 rfl ?_
    refine z_imulN dX11_chain_15 (show -2147483648 ≤ 60 * l ∧ 60 * l < 2147483648 from ⟨by omega, by omega⟩).1 (show -2147483648 ≤ 60 * l ∧ 60 * l < 2147483648 from ⟨by omega, by omega⟩).2 ?_
    refine z_iload_n 3 dX11_chain_16 rfl ?_
    refine z_iaddN dX11_chain_17 (show -2147483648 ≤ (60 * l) + m ∧ (60 * l) + m < 2147483648 from ⟨by omega, by omega⟩).1 (show -2147483648 ≤ (60 * l) + m ∧ (60 * l) + m < 2147483648 from ⟨by omega, by omega⟩).2 ?_
    refine z_iconst dX11_chain_18 (zi32_d rfl) ?_
    refine z_zast dX11_chain_19 (zOb.lit (by decide +kernel)) (show 0 ≤ ((60 * l) + m) ∧ ((60 * l) + m) < 240 from ⟨by omega, by omega⟩).1 (show 0 ≤ ((60 * l) + m) ∧ ((60 * l) + m) < 240 from ⟨by omega, by omega⟩).2 (Or.inl rfl) ?_
    refine z_aload_n 0 dX11_chain_20 rfl ?_
    refine z_getS (v := 229) (k := 82) (kz := 82) pk11 dX11_chain_21 (by decide) zb_1206 rfl (zOb.lit (by decide +kernel)) rfl (by decide +kernel) ?_
    refine z_bipush dX11_chain_24 (zi32_d rfl) (by decide) ?_
    refine z_iload_n 1 dX11_chain_26 rfl ?_
    refine z_imulN dX11_chain_27 (show -2147483648 ≤ 60 * l ∧ 60 * l < 2147483648 from ⟨by omega, by omega⟩).1 (show -2147483648 ≤ 60 * l ∧ 60 * l < 2147483648 from ⟨by omega, by omega⟩).2 ?_
    refine z_iload_n 3 dX11_chain_28 rfl ?_
    refine z_iaddN dX11_chain_29 (show -2147483648 ≤ (60 * l) + m ∧ (60 * l) + m < 2147483648 from ⟨by omega, by omega⟩).1 (show -2147483648 ≤ (60 * l) + m ∧ (60 * l) + m < 2147483648 from ⟨by omega, by omega⟩).2 ?_
    refine z_iconst dX11_chain_30 (zi32_d rfl) ?_
    refine z_iast dX11_chain_31 (zOb.lit (by decide +kernel)) (show 0 ≤ ((60 * l) + m) ∧ ((60 * l) + m) < 240 from ⟨by omega, by omega⟩).1 (show 0 ≤ ((60 * l) + m) ∧ ((60 * l) + m) < 240 from ⟨by omega, by omega⟩).2 ?_
    refine z_iincN (lv' := [(3, xI (m + 1)), (0, xR 169), (1, xI l), (2, xI t)]) 3 dX11_chain_32 rfl (by decide) rfl (show -2147483648 ≤ m + 1 ∧ m + 1 < 2147483648 from ⟨by omega, by omega⟩).1 (show -2147483648 ≤ m + 1 ∧ m + 1 < 2147483648 from ⟨by omega, by omega⟩).2 ?_
    refine z_goto (tgt := 2) dX11_chain_35 (by decide) ?_
    refine zW.sub (lv' := [(0, xR 169), (1, xI l), (2, xI t), (3, xI (m + 1))]) [1, 2, 3, 0] rfl ?_
    exact k2 c1

set_option maxRecDepth 20000 in
theorem bX11_chain_40 {X : zX} {dep bc bs : Nat} (l : Int) (t : Int) (m : Int) {g : zH} {Q : Nat → zH → List zV → Prop} (hm : 0 ≤ g 169 25 ∧ g 169 25 ≤ 60) (hl : 0 ≤ l ∧ l < 4) (hs : 0 ≤ g 169 85 ∧ g 169 85 ≤ 60) (hx : 0 ≤ m) (hdep : 1 ≤ dep)
    (k1 : (g 169 25) ≤ m → Q 239 g [])
    (k2 : ¬ ((g 169 25) ≤ m) → (g 219 ((60 * l) + m)) = 5 → zW mX11_chain X dep bc bs 239 78 [(0, xR 169), (1, xI l), (2, xI t), (3, xI m), (4, xI m), (5, xI (msent g l m t))] [] g Q)
    (k3 : ¬ ((g 169 25) ≤ m) → ¬ ((g 219 ((60 * l) + m)) = 5) → zW mX11_chain X dep bc bs 239 40 [(0, xR 169), (1, xI l), (2, xI t), (3, xI (m + 1))] [] g Q) : zW mX11_chain X dep bc bs 239 40 [(0, xR 169), (1, xI l), (2, xI t), (3, xI m)] [] g Q := by
  refine z_iload_n 3 dX11_chain_40 rfl ?_
  refine z_aload_n 0 dX11_chain_41 rfl ?_
  refine z_getI (k := 25) (kz := 25) pk11 dX11_chain_42 (by decide) zb_1149 rfl (zOb.lit (by decide +kernel)) rfl ?_
  refine z_icmp_ge (tgt := 132) dX11_chain_45 (by decide) (fun c1 => ?_) (fun c1 => ?_)
  ·
    exact z_ret dX11_chain_132 rfl (k1 c1)
  ·
    refine z_aload_n 0 dX11_chain_48 rfl ?_
    refine z_getS (v := 219) (k := 72) (kz := 72) pk11 dX11_chain_49 (by decide) zb_1196 rfl (zOb.lit (by decide +kernel)) rfl (by decide +kernel) ?_
    refine z_bipush dX11_chain_52 (zi32_d rfl) (by decide) ?_
    refine z_iload_n 1 dX11_chain_54 rfl ?_
    refine z_imulN dX11_chain_55 (show -2147483648 ≤ 60 * l ∧ 60 * l < 2147483648 from ⟨by omega, by omega⟩).1 (show -2147483648 ≤ 60 * l ∧ 60 * l < 2147483648 from ⟨by omega, by omega⟩).2 ?_
    refine z_iload_n 3 dX11_chain_56 rfl ?_
    refine z_iaddN dX11_chain_57 (show -2147483648 ≤ (60 * l) + m ∧ (60 * l) + m < 2147483648 from ⟨by omega, by omega⟩).1 (show -2147483648 ≤ (60 * l) + m ∧ (60 * l) + m < 2147483648 from ⟨by omega, by omega⟩).2 ?_
    refine z_iald dX11_chain_58 (zOb.lit (by decide +kernel)) (show 0 ≤ ((60 * l) + m) ∧ ((60 * l) + m) < 240 from ⟨by omega, by omega⟩).1 (show 0 ≤ ((60 * l) + m) ∧ ((60 * l) + m) < 240 from ⟨by omega, by omega⟩).2 ?_
    refine z_iconst dX11_chain_59 (zi32_d rfl) ?_
    refine z_icmp_eq (tgt := 66) dX11_chain_60 (by decide) (fun c2 => ?_) (fun c2 => ?_)
    ·
      refine z_iload_n 3 dX11_chain_66 rfl ?_
      refine z_istore (lv' := [(4, xI m), (0, xR 169), (1, xI l), (2, xI t), (3, xI m)]) dX11_chain_67 (by decide) rfl ?_
      refine z_aload_n 1 dX11_chain_69 rfl ?_
      refine z_iload_n 2 dX11_chain_70 rfl ?_
      refine z_iload_n 4 dX11_chain_71 rfl ?_
      refine z_iload_n 3 dX11_chain_72 rfl ?_
      refine z_invF (ci := 11) (N := 97) (as := [xI l, xI m, xI t]) (st := []) (ra := [xI t, xI m, xI l]) (dep' := dep - 1) (rs := [xI (msent g l m t)]) (h' := g) (f_X11_sentBy l m t (h := g) hs) dX11_chain_73 nX11_sentBy zb_1683 zb_1685 zb_75 zb_92 (zOb.lit (by decide +kernel)) rfl (by omega) zne_I (Nat.le_of_ble_eq_true rfl) (Nat.le_of_ble_eq_true rfl) rfl ?_
      refine z_istore (lv' := [(5, xI (msent g l m t)), (4, xI m), (0, xR 169), (1, xI l), (2, xI t), (3, xI m)]) dX11_chain_76 (by decide) rfl ?_
      refine zW.sub (lv' := [(0, xR 169), (1, xI l), (2, xI t), (3, xI m), (4, xI m), (5, xI (msent g l m t))]) [2, 3, 4, 5, 1, 0] rfl ?_
      exact k2 c1 c2
    ·
      refine z_goto (tgt := 126) dX11_chain_63 (by decide) ?_
      refine z_iincN (lv' := [(3, xI (m + 1)), (0, xR 169), (1, xI l), (2, xI t)]) 3 dX11_chain_126 rfl (by decide) rfl (show -2147483648 ≤ m + 1 ∧ m + 1 < 2147483648 from ⟨by omega, by omega⟩).1 (show -2147483648 ≤ m + 1 ∧ m + 1 < 2147483648 from ⟨by omega, by omega⟩).2 ?_
      refine z_goto (tgt := 40) dX11_chain_129 (by decide) ?_
      refine zW.sub (lv' := [(0, xR 169), (1, xI l), (2, xI t), (3, xI (m + 1))]) [1, 2, 3, 0] rfl ?_
      exact k3 c1 c2

set_option maxRecDepth 20000 in
theorem bX11_chain_78 {X : zX} {dep bc bs : Nat} (l : Int) (t : Int) (m : Int) (e : Int) (n : Int) {g : zH} {Q : Nat → zH → List zV → Prop} (hs : 0 ≤ g 169 85 ∧ g 169 85 ≤ 60) (hl : 0 ≤ l ∧ l < 4) (hx : 0 ≤ m ∧ m < 60) (he : 0 ≤ e ∧ e < 60) (hdep : 1 ≤ dep)
    (k1 : n < 0 → zW mX11_chain X dep bc bs 239 40 [(0, xR 169), (1, xI l), (2, xI t), (3, xI (m + 1))] [] (zst (zst g 229 ((60 * l) + m) e) 230 ((60 * l) + e) 1) Q)
    (k2 : ¬ (n < 0) → zW mX11_chain X dep bc bs 239 78 [(0, xR 169), (1, xI l), (2, xI t), (3, xI m), (4, xI n), (5, xI (msent g l n t))] [] g Q) : zW mX11_chain X dep bc bs 239 78 [(0, xR 169), (1, xI l), (2, xI t), (3, xI m), (4, xI e), (5, xI n)] [] g Q := by
  refine z_iload 5 dX11_chain_78 rfl ?_
  refine z_if_lt (tgt := 100) dX11_chain_80 (by decide) (fun c1 => ?_) (fun c1 => ?_)
  ·
    refine z_aload_n 0 dX11_chain_100 rfl ?_
    refine z_getS (v := 229) (k := 82) (kz := 82) pk11 dX11_chain_101 (by decide) zb_1206 rfl (zOb.lit (by decide +kernel)) rfl (by decide +kernel) ?_
    refine z_bipush dX11_chain_104 (zi32_d rfl) (by decide) ?_
    refine z_iload_n 1 dX11_chain_106 rfl ?_
    refine z_imulN dX11_chain_107 (show -2147483648 ≤ 60 * l ∧ 60 * l < 2147483648 from ⟨by omega, by omega⟩).1 (show -2147483648 ≤ 60 * l ∧ 60 * l < 2147483648 from ⟨by omega, by omega⟩).2 ?_
    refine z_iload_n 3 dX11_chain_108 rfl ?_
    refine z_iaddN dX11_chain_109 (show -2147483648 ≤ (60 * l) + m ∧ (60 * l) + m < 2147483648 from ⟨by omega, by omega⟩).1 (show -2147483648 ≤ (60 * l) + m ∧ (60 * l) + m < 2147483648 from ⟨by omega, by omega⟩).2 ?_
    refine z_iload 4 dX11_chain_110 rfl ?_
    refine z_iast dX11_chain_112 (zOb.lit (by decide +kernel)) (show 0 ≤ ((60 * l) + m) ∧ ((60 * l) + m) < 240 from ⟨by omega, by omega⟩).1 (show 0 ≤ ((60 * l) + m) ∧ ((60 * l) + m) < 240 from ⟨by omega, by omega⟩).2 ?_
    refine z_aload_n 0 dX11_chain_113 rfl ?_
    refine z_getS (v := 230) (k := 83) (kz := 83) pk11 dX11_chain_114 (by decide) zb_1207 rfl (zOb.lit (by decide +kernel)) rfl (by decide +kernel) ?_
    refine z_bipush dX11_chain_117 (zi32_d rfl) (by decide) ?_
    refine z_iload_n 1 dX11_chain_119 rfl ?_
    refine z_imulN dX11_chain_120 (show -2147483648 ≤ 60 * l ∧ 60 * l < 2147483648 from ⟨by omega, by omega⟩).1 (show -2147483648 ≤ 60 * l ∧ 60 * l < 2147483648 from ⟨by omega, by omega⟩).2 ?_
    refine z_iload 4 dX11_chain_121 rfl ?_
    refine z_iaddN dX11_chain_123 (show -2147483648 ≤ (60 * l) + e ∧ (60 * l) + e < 2147483648 from ⟨by omega, by omega⟩).1 (show -2147483648 ≤ (60 * l) + e ∧ (60 * l) + e < 2147483648 from ⟨by omega, by omega⟩).2 ?_
    refine z_iconst dX11_chain_124 (zi32_d rfl) ?_
    refine z_zast dX11_chain_125 (zOb.lit (by decide +kernel)) (show 0 ≤ ((60 * l) + e) ∧ ((60 * l) + e) < 240 from ⟨by omega, by omega⟩).1 (show 0 ≤ ((60 * l) + e) ∧ ((60 * l) + e) < 240 from ⟨by omega, by omega⟩).2 (Or.inr rfl) ?_
    refine z_iincN (lv' := [(3, xI (m + 1)), (0, xR 169), (1, xI l), (2, xI t), (4, xI e), (5, xI n)]) 3 dX11_chain_126 rfl (by decide) rfl (show -2147483648 ≤ m + 1 ∧ m + 1 < 2147483648 from ⟨by omega, by omega⟩).1 (show -2147483648 ≤ m + 1 ∧ m + 1 < 2147483648 from ⟨by omega, by omega⟩).2 ?_
    refine z_goto (tgt := 40) dX11_chain_129 (by decide) ?_
    refine zW.sub (lv' := [(0, xR 169), (1, xI l), (2, xI t), (3, xI (m + 1))]) [1, 2, 3, 0] rfl ?_
    exact k1 c1
  ·
    refine z_iload 5 dX11_chain_83 rfl ?_
    refine z_istore (lv' := [(4, xI n), (0, xR 169), (1, xI l), (2, xI t), (3, xI m), (5, xI n)]) dX11_chain_85 (by decide) rfl ?_
    refine z_aload_n 1 dX11_chain_87 rfl ?_
    refine z_iload_n 2 dX11_chain_88 rfl ?_
    refine z_iload 0 dX11_chain_89 rfl ?_
    refine z_iload_n 3 dX11_chain_91 rfl ?_
    refine z_invF (ci := 11) (N := 97) (as := [xI l, xI n, xI t]) (st := []) (ra := [xI t, xI n, xI l]) (dep' := dep - 1) (rs := [xI (msent g l n t)]) (h' := g) (f_X11_sentBy l n t (h := g) hs) dX11_chain_92 nX11_sentBy zb_1683 zb_1685 zb_75 zb_92 (zOb.lit (by decide +kernel)) rfl (by omega) zne_I (Nat.le_of_ble_eq_true rfl) (Nat.le_of_ble_eq_true rfl) rfl ?_
    refine z_istore (lv' := [(5, xI (msent g l n t)), (4, xI n), (0, xR 169), (1, xI l), (2, xI t), (3, xI m)]) dX11_chain_95 (by decide) rfl ?_
    refine z_goto (tgt := 78) dX11_chain_97 (by decide) ?_
    refine zW.sub (lv' := [(0, xR 169), (1, xI l), (2, xI t), (3, xI m), (4, xI n), (5, xI (msent g l n t))]) [2, 3, 4, 5, 1, 0] rfl ?_
    exact k2 c1

set_option maxRecDepth 20000 in
theorem bX11_roll_0 {X : zX} {dep bc bs : Nat} (u : Int) (t : Int) {h : zH} {Q : Nat → zH → List zV → Prop}
    (k1 : zW mX11_roll X dep bc bs 239 2 [(0, xR 169), (1, xI u), (2, xI t)] [xI t, xR 169] h Q) : zW mX11_roll X dep bc bs 239 0 [(0, xR 169), (1, xI u), (2, xI t)] [] h Q := by
  refine z_aload_n 0 dX11_roll_0 rfl ?_
  refine z_iload_n 2 dX11_roll_1 rfl ?_
  exact k1

set_option maxRecDepth 20000 in
theorem rX11_roll_2 {X : zX} {dep bc bs : Nat} (u : Int) (t : Int) {h : zH} {Q : Nat → zH → List zV → Prop} {P : zH → Prop}
    (hZ : zW mX11_people X (dep - 1) 0 0 239 0 (zar 0 [xR 169, xI t]) [] h (zQ0 P)) (hdep : 1 ≤ dep)
    (k : ∀ g : zH, P g → zW mX11_roll X dep bc bs 239 5 [(0, xR 169), (1, xI u), (2, xI t)] [] g Q) : zW mX11_roll X dep bc bs 239 2 [(0, xR 169), (1, xI u), (2, xI t)] [xI t, xR 169] h Q :=
  z_invQ0 (ci := 11) (N := 97) (as := [xI t]) (st := []) (ra := [xI t]) hZ dX11_roll_2 nX11_people zb_1599 zb_1601 zb_57 zb_92 (zOb.lit (by decide +kernel)) rfl (by omega) (Nat.le_of_ble_eq_true rfl) (Nat.le_of_ble_eq_true rfl) rfl (fun g hg => k g hg)

set_option maxRecDepth 20000 in
theorem bX11_roll_5 {X : zX} {dep bc bs : Nat} (u : Int) (t : Int) {g : zH} {Q : Nat → zH → List zV → Prop}
    (k1 : zW mX11_roll X dep bc bs 239 7 [(0, xR 169), (1, xI u), (2, xI t), (3, xI 0)] [] g Q) : zW mX11_roll X dep bc bs 239 5 [(0, xR 169), (1, xI u), (2, xI t)] [] g Q := by
  refine z_iconst dX11_roll_5 (zi32_d rfl) ?_
  refine z_istore_n (lv' := [(3, xI 0), (0, xR 169), (1, xI u), (2, xI t)]) dX11_roll_6 (by decide) rfl ?_
  refine zW.sub (lv' := [(0, xR 169), (1, xI u), (2, xI t), (3, xI 0)]) [1, 2, 3, 0] rfl ?_
  exact k1

set_option maxRecDepth 20000 in
theorem bX11_roll_7 {X : zX} {dep bc bs : Nat} (u : Int) (t : Int) (l : Int) {g : zH} {Q : Nat → zH → List zV → Prop} (hl : 0 ≤ l) (hu : u < 4)
    (k1 : u < l → Q 239 g [])
    (k2 : ¬ (u < l) → zW mX11_roll X dep bc bs 239 20 [(0, xR 169), (1, xI u), (2, xI t), (3, xI l)] [xI t, xI (g 205 l), xR 169] g Q) : zW mX11_roll X dep bc bs 239 7 [(0, xR 169), (1, xI u), (2, xI t), (3, xI l)] [] g Q := by
  refine z_iload_n 3 dX11_roll_7 rfl ?_
  refine z_iload_n 1 dX11_roll_8 rfl ?_
  refine z_icmp_gt (tgt := 194) dX11_roll_9 (by decide) (fun c1 => ?_) (fun c1 => ?_)
  ·
    exact z_ret dX11_roll_194 rfl (k1 c1)
  ·
    refine z_aload_n 0 dX11_roll_12 rfl ?_
    refine z_aload_n 0 dX11_roll_13 rfl ?_
    refine z_getS (v := 205) (k := 57) (kz := 57) pk11 dX11_roll_14 (by decide) zb_1181 rfl (zOb.lit (by decide +kernel)) rfl (by decide +kernel) ?_
    refine z_iload_n 3 dX11_roll_17 rfl ?_
    refine z_iald dX11_roll_18 (zOb.lit (by decide +kernel)) (show 0 ≤ l ∧ l < 4 from ⟨by omega, by omega⟩).1 (show 0 ≤ l ∧ l < 4 from ⟨by omega, by omega⟩).2 ?_
    refine z_iload_n 2 dX11_roll_19 rfl ?_
    exact k2 c1

set_option maxRecDepth 20000 in
theorem rX11_roll_20 {X : zX} {dep bc bs : Nat} (u : Int) (t : Int) (l : Int) (d : Int) {g : zH} {Q : Nat → zH → List zV → Prop} {P : zH → Prop}
    (hZ : zW mX11_hold X (dep - 1) 0 0 239 0 (zar 0 [xR 169, xI d, xI t]) [] g (zQ0 P)) (hdep : 1 ≤ dep)
    (k : ∀ g : zH, P g → zW mX11_roll X dep bc bs 239 23 [(0, xR 169), (1, xI u), (2, xI t), (3, xI l)] [] g Q) : zW mX11_roll X dep bc bs 239 20 [(0, xR 169), (1, xI u), (2, xI t), (3, xI l)] [xI t, xI d, xR 169] g Q :=
  z_invQ0 (ci := 11) (N := 97) (as := [xI d, xI t]) (st := []) (ra := [xI t, xI d]) hZ dX11_roll_20 nX11_hold zb_1631 zb_1633 zb_62 zb_92 (zOb.lit (by decide +kernel)) rfl (by omega) (Nat.le_of_ble_eq_true rfl) (Nat.le_of_ble_eq_true rfl) rfl (fun g hg => k g hg)

set_option maxRecDepth 20000 in
theorem bX11_roll_23 {X : zX} {dep bc bs : Nat} (u : Int) (t : Int) (l : Int) {g : zH} {Q : Nat → zH → List zV → Prop} (hl : 0 ≤ l ∧ l < 4) (hw : 0 ≤ g 169 45 ∧ g 169 45 ≤ 8) (hdep : 1 ≤ dep)
    (k1 : zW mX11_roll X dep bc bs 239 39 [(0, xR 169), (1, xI u), (2, xI t), (3, xI l), (4, xI (mlaw g (g 205 l) t)), (5, xI 0)] [] g Q) : zW mX11_roll X dep bc bs 239 23 [(0, xR 169), (1, xI u), (2, xI t), (3, xI l)] [] g Q := by
  refine z_aload_n 0 dX11_roll_23 rfl ?_
  refine z_aload_n 0 dX11_roll_24 rfl ?_
  refine z_getS (v := 205) (k := 57) (kz := 57) pk11 dX11_roll_25 (by decide) zb_1181 rfl (zOb.lit (by decide +kernel)) rfl (by decide +kernel) ?_
  refine z_iload_n 3 dX11_roll_28 rfl ?_
  refine z_iald dX11_roll_29 (zOb.lit (by decide +kernel)) hl.1 hl.2 ?_
  refine z_iload_n 2 dX11_roll_30 rfl ?_
  refine z_invF (ci := 11) (N := 97) (as := [xI (g 205 l), xI t]) (st := []) (ra := [xI t, xI (g 205 l)]) (dep' := dep - 1) (rs := [xI (mlaw g (g 205 l) t)]) (h' := g) (f_X11_lawFor (g 205 l) t (h := g) hw) dX11_roll_31 nX11_lawFor zb_1635 zb_1637 zb_63 zb_92 (zOb.lit (by decide +kernel)) rfl (by omega) zne_I (Nat.le_of_ble_eq_true rfl) (Nat.le_of_ble_eq_true rfl) rfl ?_
  refine z_istore (lv' := [(4, xI (mlaw g (g 205 l) t)), (0, xR 169), (1, xI u), (2, xI t), (3, xI l)]) dX11_roll_34 (by decide) rfl ?_
  refine z_iconst dX11_roll_36 (zi32_d rfl) ?_
  refine z_istore (lv' := [(5, xI 0), (4, xI (mlaw g (g 205 l) t)), (0, xR 169), (1, xI u), (2, xI t), (3, xI l)]) dX11_roll_37 (by decide) rfl ?_
  refine zW.sub (lv' := [(0, xR 169), (1, xI u), (2, xI t), (3, xI l), (4, xI (mlaw g (g 205 l) t)), (5, xI 0)]) [2, 3, 4, 5, 1, 0] rfl ?_
  exact k1

set_option maxRecDepth 20000 in
theorem bX11_roll_39 {X : zX} {dep bc bs : Nat} (u : Int) (t : Int) (l : Int) (w : Int) (m : Int) {g : zH} {Q : Nat → zH → List zV → Prop}
    (k1 : (g 169 25) ≤ m → zW mX11_roll X dep bc bs 239 63 [(0, xR 169), (1, xI u), (2, xI t), (3, xI l)] [] g Q)
    (k2 : ¬ ((g 169 25) ≤ m) → zW mX11_roll X dep bc bs 239 54 [(0, xR 169), (1, xI u), (2, xI t), (3, xI l), (4, xI w), (5, xI m)] [xI m, xI w, xI l, xR 169] g Q) : zW mX11_roll X dep bc bs 239 39 [(0, xR 169), (1, xI u), (2, xI t), (3, xI l), (4, xI w), (5, xI m)] [] g Q := by
  refine z_iload 5 dX11_roll_39 rfl ?_
  refine z_aload_n 0 dX11_roll_41 rfl ?_
  refine z_getI (k := 25) (kz := 25) pk11 dX11_roll_42 (by decide) zb_1149 rfl (zOb.lit (by decide +kernel)) rfl ?_
  refine z_icmp_ge (tgt := 63) dX11_roll_45 (by decide) (fun c1 => ?_) (fun c1 => ?_)
  ·
    refine zW.sub (lv' := [(0, xR 169), (1, xI u), (2, xI t), (3, xI l)]) [0, 1, 2, 3] rfl ?_
    exact k1 c1
  ·
    refine z_aload_n 0 dX11_roll_48 rfl ?_
    refine z_iload_n 3 dX11_roll_49 rfl ?_
    refine z_iload 4 dX11_roll_50 rfl ?_
    refine z_iload 5 dX11_roll_52 rfl ?_
    exact k2 c1

set_option maxRecDepth 20000 in
theorem rX11_roll_54 {X : zX} {dep bc bs : Nat} (u : Int) (t : Int) (l : Int) (w : Int) (m : Int) {g : zH} {Q : Nat → zH → List zV → Prop} {P : zH → Prop}
    (hZ : zW mX11_judge X (dep - 1) 0 0 239 0 (zar 0 [xR 169, xI l, xI w, xI m]) [] g (zQ0 P)) (hdep : 1 ≤ dep)
    (k : ∀ g : zH, P g → zW mX11_roll X dep bc bs 239 57 [(0, xR 169), (1, xI u), (2, xI t), (3, xI l), (4, xI w), (5, xI m)] [] g Q) : zW mX11_roll X dep bc bs 239 54 [(0, xR 169), (1, xI u), (2, xI t), (3, xI l), (4, xI w), (5, xI m)] [xI m, xI w, xI l, xR 169] g Q :=
  z_invQ0 (ci := 11) (N := 97) (as := [xI l, xI w, xI m]) (st := []) (ra := [xI m, xI w, xI l]) hZ dX11_roll_54 nX11_judge zb_1639 zb_1641 zb_64 zb_92 (zOb.lit (by decide +kernel)) rfl (by omega) (Nat.le_of_ble_eq_true rfl) (Nat.le_of_ble_eq_true rfl) rfl (fun g hg => k g hg)

set_option maxRecDepth 20000 in
theorem bX11_roll_57 {X : zX} {dep bc bs : Nat} (u : Int) (t : Int) (l : Int) (w : Int) (m : Int) {g : zH} {Q : Nat → zH → List zV → Prop} (hx : 0 ≤ m ∧ m < 60)
    (k1 : zW mX11_roll X dep bc bs 239 39 [(0, xR 169), (1, xI u), (2, xI t), (3, xI l), (4, xI w), (5, xI (m + 1))] [] g Q) : zW mX11_roll X dep bc bs 239 57 [(0, xR 169), (1, xI u), (2, xI t), (3, xI l), (4, xI w), (5, xI m)] [] g Q := by
  refine z_iincN (lv' := [(5, xI (m + 1)), (0, xR 169), (1, xI u), (2, xI t), (3, xI l), (4, xI w)]) 5 dX11_roll_57 rfl (by decide) rfl (show -2147483648 ≤ m + 1 ∧ m + 1 < 2147483648 from ⟨by omega, by omega⟩).1 (show -2147483648 ≤ m + 1 ∧ m + 1 < 2147483648 from ⟨by omega, by omega⟩).2 ?_
  refine z_goto (tgt := 39) dX11_roll_60 (by decide) ?_
  refine zW.sub (lv' := [(0, xR 169), (1, xI u), (2, xI t), (3, xI l), (4, xI w), (5, xI (m + 1))]) [1, 2, 3, 4, 5, 0] rfl ?_
  exact k1

set_option maxRecDepth 20000 in
theorem bX11_roll_63 {X : zX} {dep bc bs : Nat} (u : Int) (t : Int) (l : Int) {g : zH} {Q : Nat → zH → List zV → Prop}
    (k1 : zW mX11_roll X dep bc bs 239 65 [(0, xR 169), (1, xI u), (2, xI t), (3, xI l)] [xI l, xR 169] g Q) : zW mX11_roll X dep bc bs 239 63 [(0, xR 169), (1, xI u), (2, xI t), (3, xI l)] [] g Q := by
  refine z_aload_n 0 dX11_roll_63 rfl ?_
  refine z_iload_n 3 dX11_roll_64 rfl ?_
  exact k1

set_option maxRecDepth 20000 in
theorem rX11_roll_65 {X : zX} {dep bc bs : Nat} (u : Int) (t : Int) (l : Int) {g : zH} {Q : Nat → zH → List zV → Prop} {P : zH → Prop}
    (hZ : zW mX11_share X (dep - 1) 0 0 239 0 (zar 0 [xR 169, xI l]) [] g (zQ0 P)) (hdep : 1 ≤ dep)
    (k : ∀ g : zH, P g → zW mX11_roll X dep bc bs 239 68 [(0, xR 169), (1, xI u), (2, xI t), (3, xI l)] [] g Q) : zW mX11_roll X dep bc bs 239 65 [(0, xR 169), (1, xI u), (2, xI t), (3, xI l)] [xI l, xR 169] g Q :=
  z_invQ0 (ci := 11) (N := 97) (as := [xI l]) (st := []) (ra := [xI l]) hZ dX11_roll_65 nX11_share zb_1659 zb_1661 zb_69 zb_92 (zOb.lit (by decide +kernel)) rfl (by omega) (Nat.le_of_ble_eq_true rfl) (Nat.le_of_ble_eq_true rfl) rfl (fun g hg => k g hg)

set_option maxRecDepth 20000 in
theorem bX11_roll_68 {X : zX} {dep bc bs : Nat} (u : Int) (t : Int) (l : Int) {g : zH} {Q : Nat → zH → List zV → Prop}
    (k1 : zW mX11_roll X dep bc bs 239 71 [(0, xR 169), (1, xI u), (2, xI t), (3, xI l), (5, xI 0)] [] g Q) : zW mX11_roll X dep bc bs 239 68 [(0, xR 169), (1, xI u), (2, xI t), (3, xI l)] [] g Q := by
  refine z_iconst dX11_roll_68 (zi32_d rfl) ?_
  refine z_istore (lv' := [(5, xI 0), (0, xR 169), (1, xI u), (2, xI t), (3, xI l)]) dX11_roll_69 (by decide) rfl ?_
  refine zW.sub (lv' := [(0, xR 169), (1, xI u), (2, xI t), (3, xI l), (5, xI 0)]) [1, 2, 3, 4, 0] rfl ?_
  exact k1

set_option maxRecDepth 20000 in
theorem bX11_roll_71 {X : zX} {dep bc bs : Nat} (u : Int) (t : Int) (l : Int) (m : Int) {g : zH} {Q : Nat → zH → List zV → Prop} (hm : 0 ≤ g 169 25 ∧ g 169 25 ≤ 60) (hl : 0 ≤ l ∧ l < 4) (hx : 0 ≤ m) (hdep : 1 ≤ dep)
    (k1 : (g 169 25) ≤ m → zW mX11_roll X dep bc bs 239 117 [(0, xR 169), (1, xI u), (2, xI t), (3, xI l), (5, xI 0)] [] g Q)
    (k2 : ¬ ((g 169 25) ≤ m) → ¬ (4 ≤ g 219 (60 * l + m)) → zW mX11_roll X dep bc bs 239 71 [(0, xR 169), (1, xI u), (2, xI t), (3, xI l), (5, xI (m + 1))] [] (zst g 222 m (-1)) Q)
    (k3 : ¬ ((g 169 25) ≤ m) → 4 ≤ g 219 (60 * l + m) → zW mX11_roll X dep bc bs 239 100 [(0, xR 169), (1, xI u), (2, xI t), (3, xI l), (5, xI m)] [xI m, xI l, xR 169, xI m, xR 222] g Q) : zW mX11_roll X dep bc bs 239 71 [(0, xR 169), (1, xI u), (2, xI t), (3, xI l), (5, xI m)] [] g Q := by
  refine z_iload 4 dX11_roll_71 rfl ?_
  refine z_aload_n 0 dX11_roll_73 rfl ?_
  refine z_getI (k := 25) (kz := 25) pk11 dX11_roll_74 (by decide) zb_1149 rfl (zOb.lit (by decide +kernel)) rfl ?_
  refine z_icmp_ge (tgt := 114) dX11_roll_77 (by decide) (fun c1 => ?_) (fun c1 => ?_)
  ·
    refine z_iconst dX11_roll_114 (zi32_d rfl) ?_
    refine z_istore (lv' := [(5, xI 0), (0, xR 169), (1, xI u), (2, xI t), (3, xI l)]) dX11_roll_115 (by decide) rfl ?_
    refine zW.sub (lv' := [(0, xR 169), (1, xI u), (2, xI t), (3, xI l), (5, xI 0)]) [1, 2, 3, 4, 0] rfl ?_
    exact k1 c1
  ·
    refine z_aload_n 0 dX11_roll_80 rfl ?_
    refine z_getS (v := 222) (k := 75) (kz := 75) pk11 dX11_roll_81 (by decide) zb_1199 rfl (zOb.lit (by decide +kernel)) rfl (by decide +kernel) ?_
    refine z_iload 4 dX11_roll_84 rfl ?_
    refine z_aload_n 0 dX11_roll_86 rfl ?_
    refine z_iload_n 3 dX11_roll_87 rfl ?_
    refine z_iload 4 dX11_roll_88 rfl ?_
    refine z_invF (ci := 11) (N := 97) (as := [xI l, xI m]) (st := [xI m, xR 222]) (ra := [xI m, xI l]) (dep' := dep - 1) (rs := [xI (zb (4 ≤ g 219 (60 * l + m)))]) (h' := g) (f_X11_isListed l m (h := g) hl (show 0 ≤ m ∧ m < 60 from ⟨by omega, by omega⟩)) dX11_roll_90 nX11_isListed zb_1663 zb_1665 zb_70 zb_92 (zOb.lit (by decide +kernel)) rfl (by omega) zne_I (Nat.le_of_ble_eq_true rfl) (Nat.le_of_ble_eq_true rfl) rfl ?_
    refine z_ifB_eq (C := 4 ≤ g 219 (60 * l + m)) (tgt := 106) dX11_roll_93 (by decide) (fun c2 => ?_) (fun c2 => ?_)
    ·
      refine z_iconst dX11_roll_106 (zi32_d rfl) ?_
      refine z_iast dX11_roll_107 (zOb.lit (by decide +kernel)) (show 0 ≤ m ∧ m < 60 from ⟨by omega, by omega⟩).1 (show 0 ≤ m ∧ m < 60 from ⟨by omega, by omega⟩).2 ?_
      refine z_iincN (lv' := [(5, xI (m + 1)), (0, xR 169), (1, xI u), (2, xI t), (3, xI l)]) 4 dX11_roll_108 rfl (by decide) rfl (show -2147483648 ≤ m + 1 ∧ m + 1 < 2147483648 from ⟨by omega, by omega⟩).1 (show -2147483648 ≤ m + 1 ∧ m + 1 < 2147483648 from ⟨by omega, by omega⟩).2 ?_
      refine z_goto (tgt := 71) dX11_roll_111 (by decide) ?_
      refine zW.sub (lv' := [(0, xR 169), (1, xI u), (2, xI t), (3, xI l), (5, xI (m + 1))]) [1, 2, 3, 4, 0] rfl ?_
      exact k2 c1 c2
    ·
      refine z_aload_n 0 dX11_roll_96 rfl ?_
      refine z_iload_n 3 dX11_roll_97 rfl ?_
      refine z_iload 4 dX11_roll_98 rfl ?_
      exact k3 c1 c2

set_option maxRecDepth 20000 in
theorem rX11_roll_100 {X : zX} {dep bc bs : Nat} (u : Int) (t : Int) (l : Int) (m : Int) {g : zH} {Q : Nat → zH → List zV → Prop} {P : Int → zH → Prop}
    (hZ : zW mX11_placeOf X (dep - 1) 0 0 239 0 (zar 0 [xR 169, xI l, xI m]) [] g (zQI P)) (hdep : 1 ≤ dep)
    (k : ∀ (v : Int) (g : zH), P v g → zW mX11_roll X dep bc bs 239 103 [(0, xR 169), (1, xI u), (2, xI t), (3, xI l), (5, xI m)] [xI v, xI m, xR 222] g Q) : zW mX11_roll X dep bc bs 239 100 [(0, xR 169), (1, xI u), (2, xI t), (3, xI l), (5, xI m)] [xI m, xI l, xR 169, xI m, xR 222] g Q :=
  z_invQI (ci := 11) (N := 97) (as := [xI l, xI m]) (st := [xI m, xR 222]) (ra := [xI m, xI l]) hZ dX11_roll_100 nX11_placeOf zb_1667 zb_1669 zb_71 zb_92 (zOb.lit (by decide +kernel)) rfl (by omega) (Nat.le_of_ble_eq_true rfl) (Nat.le_of_ble_eq_true rfl) rfl (fun v g hg => k v g hg)

set_option maxRecDepth 20000 in
theorem bX11_roll_103 {X : zX} {dep bc bs : Nat} (u : Int) (t : Int) (l : Int) (m : Int) (v : Int) {g : zH} {Q : Nat → zH → List zV → Prop} (hx : 0 ≤ m ∧ m < 60)
    (k1 : zW mX11_roll X dep bc bs 239 71 [(0, xR 169), (1, xI u), (2, xI t), (3, xI l), (5, xI (m + 1))] [] (zst g 222 m v) Q) : zW mX11_roll X dep bc bs 239 103 [(0, xR 169), (1, xI u), (2, xI t), (3, xI l), (5, xI m)] [xI v, xI m, xR 222] g Q := by
  refine z_goto (tgt := 107) dX11_roll_103 (by decide) ?_
  refine z_iast dX11_roll_107 (zOb.lit (by decide +kernel)) hx.1 hx.2 ?_
  refine z_iincN (lv' := [(5, xI (m + 1)), (0, xR 169), (1, xI u), (2, xI t), (3, xI l)]) 4 dX11_roll_108 rfl (by decide) rfl (show -2147483648 ≤ m + 1 ∧ m + 1 < 2147483648 from ⟨by omega, by omega⟩).1 (show -2147483648 ≤ m + 1 ∧ m + 1 < 2147483648 from ⟨by omega, by omega⟩).2 ?_
  refine z_goto (tgt := 71) dX11_roll_111 (by decide) ?_
  refine zW.sub (lv' := [(0, xR 169), (1, xI u), (2, xI t), (3, xI l), (5, xI (m + 1))]) [1, 2, 3, 4, 0] rfl ?_
  exact k1

set_option maxRecDepth 20000 in
theorem bX11_roll_117 {X : zX} {dep bc bs : Nat} (u : Int) (t : Int) (l : Int) (m : Int) {g : zH} {Q : Nat → zH → List zV → Prop} (hm : 0 ≤ g 169 25 ∧ g 169 25 ≤ 60) (hl : 0 ≤ l ∧ l < 4) (hx : 0 ≤ m) (hp : g 169 25 ≤ m ∨ (0 ≤ g 172 m ∧ g 172 m < 8))
    (k1 : (g 169 25) ≤ m → zW mX11_roll X dep bc bs 239 185 [(0, xR 169), (1, xI u), (2, xI t), (3, xI l), (5, xI m)] [xI t, xI l, xR 169] g Q)
    (k2 : ¬ ((g 169 25) ≤ m) → (g 222 m) < 0 → zW mX11_roll X dep bc bs 239 117 [(0, xR 169), (1, xI u), (2, xI t), (3, xI l), (5, xI (m + 1))] [] g Q)
    (k3 : ¬ ((g 169 25) ≤ m) → ¬ ((g 222 m) < 0) → (g 223 ((8 * l) + (g 172 m))) ≤ (g 222 m) → zW mX11_roll X dep bc bs 239 117 [(0, xR 169), (1, xI u), (2, xI t), (3, xI l), (5, xI (m + 1))] [] g Q)
    (k4 : ¬ ((g 169 25) ≤ m) → ¬ ((g 222 m) < 0) → ¬ ((g 223 ((8 * l) + (g 172 m))) ≤ (g 222 m)) → zW mX11_roll X dep bc bs 239 117 [(0, xR 169), (1, xI u), (2, xI t), (3, xI l), (5, xI (m + 1))] [] (zst g 219 ((60 * l) + m) 5) Q) : zW mX11_roll X dep bc bs 239 117 [(0, xR 169), (1, xI u), (2, xI t), (3, xI l), (5, xI m)] [] g Q := by
  refine z_iload 4 dX11_roll_117 rfl ?_
  refine z_aload_n 0 dX11_roll_119 rfl ?_
  refine z_getI (k := 25) (kz := 25) pk11 dX11_roll_120 (by decide) zb_1149 rfl (zOb.lit (by decide +kernel)) rfl ?_
  refine z_icmp_ge (tgt := 182) dX11_roll_123 (by decide) (fun c1 => ?_) (fun c1 => ?_)
  ·
    refine z_aload_n 0 dX11_roll_182 rfl ?_
    refine z_iload_n 3 dX11_roll_183 rfl ?_
    refine z_iload_n 2 dX11_roll_184 rfl ?_
    exact k1 c1
  ·
    refine z_aload_n 0 dX11_roll_126 rfl ?_
    refine z_getS (v := 222) (k := 75) (kz := 75) pk11 dX11_roll_127 (by decide) zb_1199 rfl (zOb.lit (by decide +kernel)) rfl (by decide +kernel) ?_
    refine z_iload 4 dX11_roll_130 rfl ?_
    refine z_iald dX11_roll_132 (zOb.lit (by decide +kernel)) (show 0 ≤ m ∧ m < 60 from ⟨by omega, by omega⟩).1 (show 0 ≤ m ∧ m < 60 from ⟨by omega, by omega⟩).2 ?_
    refine z_if_lt (tgt := 176) dX11_roll_133 (by decide) (fun c2 => ?_) (fun c2 => ?_)
    ·
      refine z_iincN (lv' := [(5, xI (m + 1)), (0, xR 169), (1, xI u), (2, xI t), (3, xI l)]) 4 dX11_roll_176 rfl (by decide) rfl (show -2147483648 ≤ m + 1 ∧ m + 1 < 2147483648 from ⟨by omega, by omega⟩).1 (show -2147483648 ≤ m + 1 ∧ m + 1 < 2147483648 from ⟨by omega, by omega⟩).2 ?_
      refine z_goto (tgt := 117) dX11_roll_179 (by decide) ?_
      refine zW.sub (lv' := [(0, xR 169), (1, xI u), (2, xI t), (3, xI l), (5, xI (m + 1))]) [1, 2, 3, 4, 0] rfl ?_
      exact k2 c1 c2
    ·
      refine z_aload_n 0 dX11_roll_136 rfl ?_
      refine z_getS (v := 222) (k := 75) (kz := 75) pk11 dX11_roll_137 (by decide) zb_1199 rfl (zOb.lit (by decide +kernel)) rfl (by decide +kernel) ?_
      refine z_iload 4 dX11_roll_140 rfl ?_
      refine z_iald dX11_roll_142 (zOb.lit (by decide +kernel)) (show 0 ≤ m ∧ m < 60 from ⟨by omega, by omega⟩).1 (show 0 ≤ m ∧ m < 60 from ⟨by omega, by omega⟩).2 ?_
      refine z_aload_n 0 dX11_roll_143 rfl ?_
      refine z_getS (v := 223) (k := 76) (kz := 76) pk11 dX11_roll_144 (by decide) zb_1200 rfl (zOb.lit (by decide +kernel)) rfl (by decide +kernel) ?_
      refine z_bipush dX11_roll_147 (zi32_d rfl) (by decide) ?_
      refine z_iload_n 3 dX11_roll_149 rfl ?_
      refine z_imulN dX11_roll_150 (show -2147483648 ≤ 8 * l ∧ 8 * l < 2147483648 from ⟨by omega, by omega⟩).1 (show -2147483648 ≤ 8 * l ∧ 8 * l < 2147483648 from ⟨by omega, by omega⟩).2 ?_
      refine z_aload_n 0 dX11_roll_151 rfl ?_
      refine z_getS (v := 172) (k := 7) (kz := 7) pk11 dX11_roll_152 (by decide) zb_1131 rfl (zOb.lit (by decide +kernel)) rfl (by decide +kernel) ?_
      refine z_iload 4 dX11_roll_155 rfl ?_
      refine z_iald dX11_roll_157 (zOb.lit (by decide +kernel)) (show 0 ≤ m ∧ m < 60 from ⟨by omega, by omega⟩).1 (show 0 ≤ m ∧ m < 60 from ⟨by omega, by omega⟩).2 ?_
      refine z_iaddN dX11_roll_158 (show -2147483648 ≤ (8 * l) + (g 172 m) ∧ (8 * l) + (g 172 m) < 2147483648 from ⟨by omega, by omega⟩).1 (show -2147483648 ≤ (8 * l) + (g 172 m) ∧ (8 * l) + (g 172 m) < 2147483648 from ⟨by omega, by omega⟩).2 ?_
      refine z_iald dX11_roll_159 (zOb.lit (by decide +kernel)) (show 0 ≤ ((8 * l) + (g 172 m)) ∧ ((8 * l) + (g 172 m)) < 32 from ⟨by omega, by omega⟩).1 (show 0 ≤ ((8 * l) + (g 172 m)) ∧ ((8 * l) + (g 172 m)) < 32 from ⟨by omega, by omega⟩).2 ?_
      refine z_icmp_ge (tgt := 176) dX11_roll_160 (by decide) (fun c3 => ?_) (fun c3 => ?_)
      ·
        refine z_iincN (lv' := [(5, xI (m + 1)), (0, xR 169), (1, xI u), (2, xI t), (3, xI l)]) 4 dX11_roll_176 rfl (by decide) rfl (show -2147483648 ≤ m + 1 ∧ m + 1 < 2147483648 from ⟨by omega, by omega⟩).1 (show -2147483648 ≤ m + 1 ∧ m + 1 < 2147483648 from ⟨by omega, by omega⟩).2 ?_
        refine z_goto (tgt := 117) dX11_roll_179 (by decide) ?_
        refine zW.sub (lv' := [(0, xR 169), (1, xI u), (2, xI t), (3, xI l), (5, xI (m + 1))]) [1, 2, 3, 4, 0] rfl ?_
        exact k3 c1 c2 c3
      ·
        refine z_aload_n 0 dX11_roll_163 rfl ?_
        refine z_getS (v := 219) (k := 72) (kz := 72) pk11 dX11_roll_164 (by decide) zb_1196 rfl (zOb.lit (by decide +kernel)) rfl (by decide +kernel) ?_
        refine z_bipush dX11_roll_167 (zi32_d rfl) (by decide) ?_
        refine z_iload_n 3 dX11_roll_169 rfl ?_
        refine z_imulN dX11_roll_170 (show -2147483648 ≤ 60 * l ∧ 60 * l < 2147483648 from ⟨by omega, by omega⟩).1 (show -2147483648 ≤ 60 * l ∧ 60 * l < 2147483648 from ⟨by omega, by omega⟩).2 ?_
        refine z_iload 4 dX11_roll_171 rfl ?_
        refine z_iaddN dX11_roll_173 (show -2147483648 ≤ (60 * l) + m ∧ (60 * l) + m < 2147483648 from ⟨by omega, by omega⟩).1 (show -2147483648 ≤ (60 * l) + m ∧ (60 * l) + m < 2147483648 from ⟨by omega, by omega⟩).2 ?_
        refine z_iconst dX11_roll_174 (zi32_d rfl) ?_
        refine z_iast dX11_roll_175 (zOb.lit (by decide +kernel)) (show 0 ≤ ((60 * l) + m) ∧ ((60 * l) + m) < 240 from ⟨by omega, by omega⟩).1 (show 0 ≤ ((60 * l) + m) ∧ ((60 * l) + m) < 240 from ⟨by omega, by omega⟩).2 ?_
        refine z_iincN (lv' := [(5, xI (m + 1)), (0, xR 169), (1, xI u), (2, xI t), (3, xI l)]) 4 dX11_roll_176 rfl (by decide) rfl (show -2147483648 ≤ m + 1 ∧ m + 1 < 2147483648 from ⟨by omega, by omega⟩).1 (show -2147483648 ≤ m + 1 ∧ m + 1 < 2147483648 from ⟨by omega, by omega⟩).2 ?_
        refine z_goto (tgt := 117) dX11_roll_179 (by decide) ?_
        refine zW.sub (lv' := [(0, xR 169), (1, xI u), (2, xI t), (3, xI l), (5, xI (m + 1))]) [1, 2, 3, 4, 0] rfl ?_
        exact k4 c1 c2 c3

set_option maxRecDepth 20000 in
theorem rX11_roll_185 {X : zX} {dep bc bs : Nat} (u : Int) (t : Int) (l : Int) (m : Int) {g : zH} {Q : Nat → zH → List zV → Prop} {P : zH → Prop}
    (hZ : zW mX11_chain X (dep - 1) 0 0 239 0 (zar 0 [xR 169, xI l, xI t]) [] g (zQ0 P)) (hdep : 1 ≤ dep)
    (k : ∀ g : zH, P g → zW mX11_roll X dep bc bs 239 188 [(0, xR 169), (1, xI u), (2, xI t), (3, xI l), (5, xI m)] [] g Q) : zW mX11_roll X dep bc bs 239 185 [(0, xR 169), (1, xI u), (2, xI t), (3, xI l), (5, xI m)] [xI t, xI l, xR 169] g Q :=
  z_invQ0 (ci := 11) (N := 97) (as := [xI l, xI t]) (st := []) (ra := [xI t, xI l]) hZ dX11_roll_185 nX11_chain zb_1679 zb_1681 zb_74 zb_92 (zOb.lit (by decide +kernel)) rfl (by omega) (Nat.le_of_ble_eq_true rfl) (Nat.le_of_ble_eq_true rfl) rfl (fun g hg => k g hg)

set_option maxRecDepth 20000 in
theorem bX11_roll_188 {X : zX} {dep bc bs : Nat} (u : Int) (t : Int) (l : Int) (m : Int) {g : zH} {Q : Nat → zH → List zV → Prop} (hl : 0 ≤ l ∧ l < 4)
    (k1 : zW mX11_roll X dep bc bs 239 7 [(0, xR 169), (1, xI u), (2, xI t), (3, xI (l + 1))] [] g Q) : zW mX11_roll X dep bc bs 239 188 [(0, xR 169), (1, xI u), (2, xI t), (3, xI l), (5, xI m)] [] g Q := by
  refine z_iincN (lv' := [(3, xI (l + 1)), (0, xR 169), (1, xI u), (2, xI t), (5, xI m)]) 3 dX11_roll_188 rfl (by decide) rfl (show -2147483648 ≤ l + 1 ∧ l + 1 < 2147483648 from ⟨by omega, by omega⟩).1 (show -2147483648 ≤ l + 1 ∧ l + 1 < 2147483648 from ⟨by omega, by omega⟩).2 ?_
  refine z_goto (tgt := 7) dX11_roll_191 (by decide) ?_
  refine zW.sub (lv' := [(0, xR 169), (1, xI u), (2, xI t), (3, xI (l + 1))]) [1, 2, 3, 0] rfl ?_
  exact k1


/-- what is kept of those who were sent: in a lot nobody is sent who has sent before -/
def mSeOK (h : zH) : Prop := (0 ≤ h 169 85 ∧ h 169 85 ≤ 60) ∧ ∀ k : Int, 0 ≤ k → k < h 169 85 → (0 ≤ h 225 k ∧ h 225 k < h 169 25) ∧ (0 ≤ h 226 k ∧ h 226 k < h 169 25) ∧ ∀ j : Int, 0 ≤ j → j ≤ k → h 224 j = h 224 k → h 225 j ≠ h 226 k
theorem msb_at (h : zH) (l m t : Int) : ∀ (n : Nat) (k : Int), msb h l m t n k = -1 ∨ ∃ i : Int, (k ≤ i ∧ i < k + n) ∧ h 224 i = l ∧ h 225 i = m ∧ h 227 i ≤ t ∧ msb h l m t n k = h 226 i
  | 0, _ => Or.inl rfl
  | n + 1, k => by
    by_cases c : h 224 k = l ∧ h 225 k = m ∧ h 227 k ≤ t
    · exact Or.inr ⟨k, by omega, c.1, c.2.1, c.2.2, if_pos c⟩
    · rw [show msb h l m t (n + 1) k = msb h l m t n (k + 1) from if_neg c]
      rcases msb_at h l m t n (k + 1) with e | ⟨i, i1, i2⟩
      · exact Or.inl e
      · exact Or.inr ⟨i, by omega, i2⟩
/-- the end of a chain, and how far it may go -/
def mch (h : zH) (l t : Int) : Nat → Int → Int
  | 0, m => m
  | n + 1, m => if msent h l m t < 0 then m else mch h l t n (msent h l m t)
theorem mch_in {h : zH} (hs : mSeOK h) (l t : Int) : ∀ (n : Nat) (m : Int), 0 ≤ m → m < h 169 25 → 0 ≤ mch h l t n m ∧ mch h l t n m < h 169 25
  | 0, m, h0, h1 => ⟨h0, h1⟩
  | n + 1, m, h0, h1 => by
    unfold mch
    split
    · exact ⟨h0, h1⟩
    · rename_i c
      rcases msb_at h l m t (h 169 85).toNat 0 with e | ⟨i, i1, i2, i3, i4, i5⟩
      · unfold msent at c
        omega
      · have := hs.1
        have := (hs.2 i (by omega) (by omega)).2.1
        exact mch_in hs l t n _ (by unfold msent; omega) (by unfold msent; omega)
theorem msb_ag {S : List Int} {h g : zH} (ha : zag S h g) (hS : ∀ o ∈ [(224 : Int), 225, 226, 227], o ∉ S) (l m t : Int) : ∀ (n : Nat) (k : Int), msb g l m t n k = msb h l m t n k
  | 0, _ => rfl
  | n + 1, k => by
    unfold msb
    rw [ha 224 _ (hS _ (by decide)), ha 225 _ (hS _ (by decide)), ha 226 _ (hS _ (by decide)), ha 227 _ (hS _ (by decide)), msb_ag ha hS l m t n (k + 1)]
theorem msent_ag {S : List Int} {h g : zH} (ha : zag S h g) (hS : ∀ o ∈ [(224 : Int), 225, 226, 227, 169], o ∉ S) (l m t : Int) : msent g l m t = msent h l m t := by
  unfold msent
  rw [ha 169 _ (hS _ (by decide)), msb_ag ha (fun o ho => hS o (by revert o; decide))]
abbrev mCS : List Int := [229, 230]
/-- the chains of a lot followed: servers of the first j men, who serves -/
def mChj (h : zH) (l t : Int) (j : Int) (g : zH) : Prop := zag mCS h g ∧ (∀ q : Int, q < 60 * l ∨ 60 * l + 60 ≤ q → g 229 q = h 229 q ∧ g 230 q = h 230 q) ∧ (∀ m : Int, 0 ≤ m → m < 60 → g 229 (60 * l + m) = if m < j ∧ h 219 (60 * l + m) = 5 then mch h l t 60 m else -1) ∧ ∀ b : Int, 0 ≤ b → b < 60 → (g 230 (60 * l + b) ≠ 0 ↔ ∃ m : Int, (0 ≤ m ∧ m < j) ∧ h 219 (60 * l + m) = 5 ∧ mch h l t 60 m = b)
def mChn (h : zH) (l t : Int) (g : zH) : Prop := mChj h l t (h 169 25) g
theorem l_X11_chain_2 {X : zX} {dep : Nat} {Q : Nat → zH → List zV → Prop} (l t : Int) {h : zH} (hl : 0 ≤ l ∧ l < 4)
    (kx : ∀ g : zH, mChj h l t 0 g → zW mX11_chain X dep 0 0 239 40 [(0, xR 169), (1, xI l), (2, xI t), (3, xI 0)] [] g Q) :
    ∀ (k : Nat) (i : Int) (g : zH), 0 ≤ i → i + k = 60 → zag mCS h g → (∀ q : Int, q < 60 * l ∨ 60 * l + 60 ≤ q → g 229 q = h 229 q ∧ g 230 q = h 230 q) → (∀ m : Int, 0 ≤ m → m < i → g 229 (60 * l + m) = -1 ∧ g 230 (60 * l + m) = 0) → zW mX11_chain X dep 0 0 239 2 [(0, xR 169), (1, xI l), (2, xI t), (3, xI i)] [] g Q := by
  intro k
  induction k with
  | zero =>
    intro i g h0 hk ha hf hi
    refine bX11_chain_2 l t i hl h0 ?_ ?_
    · intro c
      refine kx g ⟨ha, hf, fun m m0 m1 => ?_, fun b b0 b1 => ⟨fun z => absurd (hi b b0 (by omega)).2 z, fun ⟨m, m1, _⟩ => by omega⟩⟩
      rw [if_neg (by omega)]
      exact (hi m m0 (by omega)).1
    · intro c
      exfalso
      omega
  | succ k ih =>
    intro i g h0 hk ha hf hi
    refine bX11_chain_2 l t i hl h0 ?_ ?_
    · intro c
      exfalso
      omega
    · intro c
      refine ih (i + 1) _ (by omega) (by omega) ((ha.st (by decide) _ _).st (by decide) _ _) (fun q hq => ?_) (fun m m0 m1 => ?_)
      · rw [zst_ne (o := 229) (o' := 229) (Or.inr (by omega)), zst_ne (o := 230) (o' := 229) (Or.inl (by decide)), zst_ne (o := 229) (o' := 230) (Or.inl (by decide)), zst_ne (o := 230) (o' := 230) (Or.inr (by omega))]
        exact hf q hq
      · rw [zst_or, zst_ne (o := 230) (o' := 229) (Or.inl (by decide)), zst_ne (o := 229) (o' := 230) (Or.inl (by decide)), zst_or]
        by_cases e : m = i
        · rw [if_pos (by omega), if_pos (by omega)]
          exact ⟨rfl, rfl⟩
        · rw [if_neg (by omega), if_neg (by omega)]
          exact hi m m0 (by omega)
theorem l_X11_chain_78 {X : zX} {dep : Nat} {Q : Nat → zH → List zV → Prop} (l t m : Int) {h g : zH} (hs : mSeOK h) (hm : 0 ≤ h 169 25 ∧ h 169 25 ≤ 60) (hl : 0 ≤ l ∧ l < 4) (hx : 0 ≤ m ∧ m < 60) (ha : zag mCS h g) (hdep : 1 ≤ dep) (z : Int)
    (kx : (0 ≤ z ∧ z < h 169 25) → zW mX11_chain X dep 0 0 239 40 [(0, xR 169), (1, xI l), (2, xI t), (3, xI (m + 1))] [] (zst (zst g 229 ((60 * l) + m) z) 230 ((60 * l) + z) 1) Q) :
    ∀ (n : Nat) (e q : Int), (0 ≤ e ∧ e < h 169 25) → h 169 85 ≤ q + n → (∀ k : Int, 0 ≤ k → k < h 169 85 → h 224 k = l → h 225 k = e → q ≤ k) → mch h l t n e = z → zW mX11_chain X dep 0 0 239 78 [(0, xR 169), (1, xI l), (2, xI t), (3, xI m), (4, xI e), (5, xI (msent h l e t))] [] g Q := by
  have e85 := ha 169 85 (by decide)
  intro n
  induction n with
  | zero =>
    intro e q he hq hlow hz
    have neg : msent h l e t < 0 := by
      rcases msb_at h l e t (h 169 85).toNat 0 with c | ⟨i, i1, i2, i3, i4, i5⟩
      · unfold msent
        omega
      · have := hs.1
        have := hlow i (by omega) (by omega) i2 i3
        omega
    refine bX11_chain_78 l t m e _ (by rw [e85]; exact hs.1) hl hx (by omega) hdep ?_ ?_
    · intro c
      have : e = z := hz
      rw [this]
      exact kx (by omega)
    · intro c
      exact absurd neg c
  | succ n ih =>
    intro e q he hq hlow hz
    refine bX11_chain_78 l t m e _ (by rw [e85]; exact hs.1) hl hx (by omega) hdep ?_ ?_
    · intro c
      have : e = z := by
        rw [← hz]
        exact (if_pos c : mch h l t (n + 1) e = e).symm
      rw [this]
      exact kx (by omega)
    · intro c
      have hz' : mch h l t n (msent h l e t) = z := by
        rw [← hz]
        exact (if_neg c : mch h l t (n + 1) e = mch h l t n (msent h l e t)).symm
      rcases msb_at h l e t (h 169 85).toNat 0 with c2 | ⟨i, i1, i2, i3, i4, i5⟩
      · unfold msent at c
        omega
      · have hb := hs.1
        have hi := hs.2 i (by omega) (by omega)
        have hq2 := hlow i (by omega) (by omega) i2 i3
        rw [msent_ag ha (by decide)]
        refine ih (msent h l e t) (i + 1) (by unfold msent; omega) (by omega) (fun k k0 k1 k2 k3 => ?_) hz'
        by_cases c3 : k ≤ i
        · exfalso
          refine hi.2.2 k k0 c3 (by rw [k2, i2]) ?_
          rw [k3, ← i5]
          rfl
        · omega
theorem l_X11_chain_40 {X : zX} {dep : Nat} (l t : Int) {h : zH} (hs : mSeOK h) (hm : 0 ≤ h 169 25 ∧ h 169 25 ≤ 60) (hl : 0 ≤ l ∧ l < 4) (hdep : 1 ≤ dep) :
    ∀ (k : Nat) (i : Int) (g : zH), 0 ≤ i → i + k = h 169 25 → mChj h l t i g → zW mX11_chain X dep 0 0 239 40 [(0, xR 169), (1, xI l), (2, xI t), (3, xI i)] [] g (zQ0 (mChn h l t)) := by
  intro k
  induction k with
  | zero =>
    intro i g h0 hk hg
    have e3 := hg.1 169 25 (by decide)
    have e4 := hg.1 169 85 (by decide)
    refine bX11_chain_40 l t i (by rw [e3]; exact hm) hl (by rw [e4]; exact hs.1) h0 hdep ?_ ?_ ?_
    · intro c
      refine ⟨rfl, rfl, ?_⟩
      unfold mChn
      rw [show h 169 25 = i by omega]
      exact hg
    all_goals
      intro c
      exfalso
      omega
  | succ k ih =>
    intro i g h0 hk hg
    obtain ⟨ha, hf, hv, hw⟩ := hg
    have e3 := ha 169 25 (by decide)
    have e4 := ha 169 85 (by decide)
    have e5 := ha 219 (60 * l + i) (by decide)
    refine bX11_chain_40 l t i (by rw [e3]; exact hm) hl (by rw [e4]; exact hs.1) h0 hdep ?_ ?_ ?_
    · intro c
      exfalso
      omega
    · intro c1 c2
      rw [e5] at c2
      rw [msent_ag ha (by decide)]
      refine l_X11_chain_78 l t i hs hm hl (by omega) ha hdep (mch h l t 60 i) (fun hz => ?_) 60 i 0 (by omega) (by have := hs.1; omega) (fun k k0 _ _ _ => k0) rfl
      refine ih (i + 1) _ (by omega) (by omega) ⟨(ha.st (by decide) _ _).st (by decide) _ _, fun q hq => ?_, fun m m0 m1 => ?_, fun b b0 b1 => ?_⟩
      · rw [zst_ne (o := 230) (o' := 229) (Or.inl (by decide)), zst_ne (o := 229) (o' := 229) (Or.inr (by omega)), zst_ne (o := 230) (o' := 230) (Or.inr (by omega)), zst_ne (o := 229) (o' := 230) (Or.inl (by decide))]
        exact hf q hq
      · rw [zst_ne (o := 230) (o' := 229) (Or.inl (by decide)), zst_or]
        by_cases e : m = i
        · rw [if_pos (by omega), e, if_pos ⟨by omega, c2⟩]
        · rw [if_neg (by omega), hv m m0 m1]
          by_cases d : m < i ∧ h 219 (60 * l + m) = 5
          · rw [if_pos d, if_pos ⟨by omega, d.2⟩]
          · rw [if_neg d, if_neg (by omega)]
      · rw [zst_or, zst_ne (o := 229) (o' := 230) (Or.inl (by decide))]
        by_cases e : b = mch h l t 60 i
        · rw [if_pos (by omega)]
          exact ⟨fun _ => ⟨i, by omega, c2, e.symm⟩, fun _ => by decide⟩
        · rw [if_neg (by omega), hw b b0 b1]
          refine ⟨fun ⟨m, m1, m2, m3⟩ => ⟨m, by omega, m2, m3⟩, fun ⟨m, m1, m2, m3⟩ => ⟨m, ⟨m1.1, ?_⟩, m2, m3⟩⟩
          by_cases d : m = i
          · rw [d] at m3
            exact absurd m3.symm e
          · omega
    · intro c1 c2
      rw [e5] at c2
      refine ih (i + 1) g (by omega) (by omega) ⟨ha, hf, fun m m0 m1 => ?_, fun b b0 b1 => ?_⟩
      · rw [hv m m0 m1]
        by_cases d : m < i ∧ h 219 (60 * l + m) = 5
        · rw [if_pos d, if_pos ⟨by omega, d.2⟩]
        · rw [if_neg d, if_neg (fun z => d ⟨?_, z.2⟩)]
          by_cases e : m = i
          · rw [e] at z
            exact absurd z.2 c2
          · omega
      · rw [hw b b0 b1]
        refine ⟨fun ⟨m, m1, m2, m3⟩ => ⟨m, by omega, m2, m3⟩, fun ⟨m, m1, m2, m3⟩ => ⟨m, ⟨m1.1, ?_⟩, m2, m3⟩⟩
        by_cases d : m = i
        · rw [d] at m2
          exact absurd m2 c2
        · omega
theorem f_X11_chain {X : zX} {dep : Nat} (l t : Int) {h : zH} (hs : mSeOK h) (hm : 0 ≤ h 169 25 ∧ h 169 25 ≤ 60) (hl : 0 ≤ l ∧ l < 4) (hdep : 1 ≤ dep) : zW mX11_chain X dep 0 0 239 0 (zar 0 [xR 169, xI l, xI t]) [] h (zQ0 (mChn h l t)) := by
  refine bX11_chain_0 l t ?_
  refine l_X11_chain_2 l t hl (fun g hg => ?_) 60 0 h (by omega) (by omega) (zag.rf _ _) (fun _ _ => ⟨rfl, rfl⟩) (fun m m0 m1 => by omega)
  exact l_X11_chain_40 l t hs hm hl hdep (h 169 25).toNat 0 g (by omega) (by omega) hg
/-- what drawing a roll reads and never writes -/
def mClOK (h : zH) (w : Int) : Prop := ∀ i : Int, 0 ≤ i → i < h 195 w → h 196 (20 * w + i) = 3 → 0 ≤ h 197 (20 * w + i) ∧ h 197 (20 * w + i) ≤ 9
def mMen (h : zH) : Prop := ∀ m : Int, 0 ≤ m → m < h 169 25 → (0 ≤ h 171 m ∧ h 171 m < 26) ∧ 0 ≤ h 172 m ∧ h 172 m < 8
def mLaws (h : zH) : Prop := (0 ≤ h 169 45 ∧ h 169 45 ≤ 8) ∧ ∀ w : Int, 0 ≤ w → w < h 169 45 → mLOK h w ∧ mClOK h w
def mLots (h : zH) : Prop := (0 ≤ h 169 65 ∧ h 169 65 ≤ 4) ∧ ∀ l : Int, 0 ≤ l → l < 4 → (0 ≤ h 205 l ∧ h 205 l ≤ 3639) ∧ (0 ≤ h 206 l ∧ h 206 l ≤ 60) ∧ (∀ k : Int, 0 ≤ k → k < 52 → 0 ≤ h 208 (52 * l + k) ∧ h 208 (52 * l + k) < 52) ∧ ∀ k : Int, 0 ≤ k → k < 26 → 0 ≤ h 209 (26 * l + k) ∧ h 209 (26 * l + k) < 26
def mBase (h : zH) : Prop := (0 ≤ h 169 25 ∧ h 169 25 ≤ 60) ∧ mMen h ∧ mSaOK h ∧ mBiOK h ∧ mFaOK h ∧ mExOK h ∧ mSeOK h ∧ mLaws h ∧ mLots h
abbrev mDS : List Int := [217, 218, 219, 220, 221, 222, 223, 231, 232]
abbrev mRS : List Int := [213, 214, 215, 216, 217, 218, 219, 220, 221, 222, 223, 229, 230, 231, 232]
abbrev mRB : List Int := [171, 172, 174, 175, 177, 178, 183, 187, 188, 195, 196, 197, 198, 199, 201, 205, 206, 208, 209, 224, 225, 226]
abbrev mKB : List Int := [25, 26, 27, 28, 29, 45, 65, 85]
theorem mdp_of {h g : zH} (e : ∀ k : Int, g 201 k = h 201 k) (a : Int) : ∀ n : Nat, mdp g a n = mdp h a n
  | 0 => rfl
  | n + 1 => by
    unfold mdp
    rw [mdp_of e a n, e]
theorem mGood_of {h g : zH} (e : ∀ k : Int, g 201 k = h 201 k) (a : Int) (n : Nat) : mGood g a n = mGood h a n := by
  unfold mGood
  simp only [mdp_of e, e]
theorem mBase_of {h g : zH} (ha : ∀ o : Int, o ∈ mRB → ∀ k : Int, g o k = h o k) (hk : ∀ k : Int, k ∈ mKB → g 169 k = h 169 k) (hb : mBase h) : mBase g := by
  obtain ⟨b1, b2, b3, b4, b5, b6, b7, b8, b9⟩ := hb
  have k25 := hk 25 (by decide)
  have k26 := hk 26 (by decide)
  have k27 := hk 27 (by decide)
  have k28 := hk 28 (by decide)
  have k29 := hk 29 (by decide)
  have k45 := hk 45 (by decide)
  have k65 := hk 65 (by decide)
  have k85 := hk 85 (by decide)
  have e171 := ha 171 (by decide)
  have e172 := ha 172 (by decide)
  have e174 := ha 174 (by decide)
  have e175 := ha 175 (by decide)
  have e177 := ha 177 (by decide)
  have e178 := ha 178 (by decide)
  have e183 := ha 183 (by decide)
  have e187 := ha 187 (by decide)
  have e188 := ha 188 (by decide)
  have e195 := ha 195 (by decide)
  have e196 := ha 196 (by decide)
  have e197 := ha 197 (by decide)
  have e198 := ha 198 (by decide)
  have e199 := ha 199 (by decide)
  have e201 := ha 201 (by decide)
  have e205 := ha 205 (by decide)
  have e206 := ha 206 (by decide)
  have e208 := ha 208 (by decide)
  have e209 := ha 209 (by decide)
  have e224 := ha 224 (by decide)
  have e225 := ha 225 (by decide)
  have e226 := ha 226 (by decide)
  refine ⟨?_, ?_, ?_, ?_, ?_, ?_, ?_, ?_, ?_⟩
  · rw [k25]
    exact b1
  · unfold mMen
    simp only [k25, e171, e172]
    exact b2
  · unfold mSaOK
    simp only [k25, k29, e187, e188]
    exact b3
  · unfold mBiOK
    simp only [k25, k26, e174, e175]
    exact b4
  · unfold mFaOK
    simp only [k25, k27, e177, e178]
    exact b5
  · unfold mExOK
    simp only [k25, k28, e183]
    exact b6
  · unfold mSeOK
    simp only [k25, k85, e224, e225, e226]
    exact b7
  · unfold mLaws mLOK mClOK
    simp only [k45, e195, e196, e197, e198, e199, mGood_of e201]
    exact b8
  · unfold mLots
    simp only [k65, e205, e206, e208, e209]
    exact b9
theorem mBase_ag {h g : zH} (ha : zag mRS h g) (hb : mBase h) : mBase g :=
  mBase_of (fun o ho k => ha o k (by revert o; decide)) (fun k _ => ha 169 k (by decide)) hb
theorem mBase_st {h : zH} (hb : mBase h) (o k x : Int) (ho : o ∉ mRB) (hk : o ≠ 169 ∨ k ∉ mKB) : mBase (zst h o k x) :=
  mBase_of (fun q hq j => zst_ne (Or.inl (fun e => ho (e ▸ hq)))) (fun j hj => zst_ne (hk.elim (fun z => Or.inl (fun e => z e.symm)) (fun z => Or.inr (fun e => z (e ▸ hj))))) hb
def mAl (h : zH) : Prop := ∀ m : Int, 0 ≤ m → m < h 169 25 → h 215 m = 0 ∨ (-3120 ≤ h 214 m ∧ h 214 m < 520)
theorem zlw_hit {C : Int → Prop} {K V f : Int → Int} {q : Int} : ∀ n : Nat, zlw C K (fun _ => 1) (fun _ => 0) n q = 0 ∨ ∃ k : Int, (0 ≤ k ∧ k < n) ∧ zlw C K V f n q = V k
  | 0 => Or.inl rfl
  | r + 1 => by
    by_cases c : C r
    · rw [zlw_t c, zlw_t c]
      by_cases e : q = K r
      · rw [if_pos e, if_pos e]
        exact Or.inr ⟨r, by omega, rfl⟩
      · rw [if_neg e, if_neg e]
        exact (zlw_hit r).imp id (fun ⟨k, k1, k2⟩ => ⟨k, by omega, k2⟩)
    · rw [zlw_f c, zlw_f c]
      exact (zlw_hit r).imp id (fun ⟨k, k1, k2⟩ => ⟨k, by omega, k2⟩)
theorem mPeo_bo {h g : zH} {t : Int} (hb : mBiOK h) (hp : mPeo h t g) (m : Int) (m0 : 0 ≤ m) (m1 : m < h 169 25) : g 216 m = 0 ∨ (-3120 ≤ g 214 m ∧ g 214 m < 520) := by
  obtain ⟨p1, p2, p3⟩ := hp.2.2 m m0 m1
  have b1 := hb.1
  rcases zlw_hit (C := fun r => h 176 r ≤ t) (K := h 174) (V := h 175) (f := h 214) (q := m) (h 169 26).toNat with e | ⟨k, k1, k2⟩
  · rw [← p1] at e
    exact Or.inl e
  · rw [← p2] at k2
    have := (hb.2 k k1.1 (by omega)).2
    exact Or.inr (by omega)
theorem mPeo_al {h g : zH} {t : Int} (hb : mBiOK h) (hp : mPeo h t g) : mAl g := fun m m0 m1 => by
  have e3 := hp.1 169 25 (by decide)
  rw [e3] at m1
  rcases mPeo_bo hb hp m m0 m1 with e | e
  · rw [(hp.2.2 m m0 m1).2.2, zb_f (fun z => z.2 e)]
    exact Or.inl rfl
  · exact Or.inr e
theorem mjs_ag {S : List Int} {h g : zH} (ha : zag S h g) (hS : ∀ o ∈ mRd, o ∉ S) (l w m : Int) : mjs g l w m = mjs h l w m := by
  unfold mjs
  rw [mline_ag ha hS, mline_ag ha hS, ha 215 _ (hS _ (by decide)), ha 214 _ (hS _ (by decide)), ha 205 _ (hS _ (by decide)), ha 192 _ (hS _ (by decide)), ha 193 _ (hS _ (by decide))]
theorem mjt_ag {S : List Int} {h g : zH} (ha : zag S h g) (hS : ∀ o ∈ mRd, o ∉ S) (l w m : Int) : mjt g l w m = mjt h l w m := by
  unfold mjt
  rw [mjs_ag ha hS, mline_ag ha hS, mline_ag ha hS, mline_ag ha hS]
theorem mjc_ag {S : List Int} {h g : zH} (ha : zag S h g) (hS : ∀ o ∈ mRd, o ∉ S) (l w m : Int) : mjc g l w m = mjc h l w m := by
  unfold mjc
  rw [mjs_ag ha hS, mline_ag ha hS, ha 197 _ (hS _ (by decide))]
theorem mjs_in (h : zH) (l w m : Int) : 0 ≤ mjs h l w m ∧ mjs h l w m ≤ 4 := by
  unfold mjs
  (repeat' split) <;> omega
theorem mjs_4 {h : zH} {l w m : Int} (e : mjs h l w m = 4) : h 215 m ≠ 0 := fun z => by
  unfold mjs at e
  rw [if_pos z] at e
  omega
theorem mlf_kd (h : zH) (w kd m l : Int) : ∀ (n : Nat) (i : Int), mlf h w kd m l n i = -1 ∨ ∃ j : Int, (i ≤ j ∧ j < i + n) ∧ mlf h w kd m l n i = 20 * w + j ∧ h 196 (20 * w + j) = kd ∧ mSo h w (20 * w + j) m l
  | 0, _ => Or.inl rfl
  | n + 1, i => by
    by_cases c : h 196 (20 * w + i) = kd ∧ mSo h w (20 * w + i) m l
    · rw [show mlf h w kd m l (n + 1) i = 20 * w + i from if_pos c]
      exact Or.inr ⟨i, by omega, rfl, c⟩
    · rw [show mlf h w kd m l (n + 1) i = mlf h w kd m l n (i + 1) from if_neg c]
      rcases mlf_kd h w kd m l n (i + 1) with e | ⟨j, j1, j2⟩
      · exact Or.inl e
      · exact Or.inr ⟨j, by omega, j2⟩
theorem mjc_in {h : zH} {l w m : Int} (hl : 0 ≤ w → mLOK h w ∧ mClOK h w) : 0 ≤ mjc h l w m ∧ mjc h l w m ≤ 9 := by
  unfold mjc
  split
  · rename_i c
    by_cases d : w < 0
    · have : mline h w 3 m l = -1 := if_pos d
      omega
    · have ew : mline h w 3 m l = mlf h w 3 m l (h 195 w).toNat 0 := if_neg d
      have ok := hl (by omega)
      have o1 := ok.1.1
      rcases mlf_kd h w 3 m l (h 195 w).toNat 0 with e | ⟨j, j1, j2, j3, _⟩
      · omega
      · rw [ew, j2]
        exact ok.2 j (by omega) (by omega) j3
  · omega
/-- judged, the first j men -/
def mJn (h : zH) (l w j : Int) (g : zH) : Prop := zag mJS h g ∧ ∀ m : Int, 0 ≤ m → m < j → g 219 (60 * l + m) = mjs h l w m ∧ g 220 (60 * l + m) = mjt h l w m ∧ g 221 (60 * l + m) = mjc h l w m
theorem l_X11_roll_39 {X : zX} {dep : Nat} {Q : Nat → zH → List zV → Prop} (u t l w : Int) {h : zH} (hm : 0 ≤ h 169 25 ∧ h 169 25 ≤ 60) (hl : 0 ≤ l ∧ l < 4) (hal : mAl h) (hd : 0 ≤ h 205 l ∧ h 205 l ≤ 3639) (hw : w < 8) (hok : 0 ≤ w → mLOK h w) (hdep : 6 ≤ dep)
    (kx : ∀ g : zH, mJn h l w (h 169 25) g → zW mX11_roll X dep 0 0 239 63 [(0, xR 169), (1, xI u), (2, xI t), (3, xI l)] [] g Q) :
    ∀ (k : Nat) (i : Int) (g : zH), 0 ≤ i → i + k = h 169 25 → mJn h l w i g → zW mX11_roll X dep 0 0 239 39 [(0, xR 169), (1, xI u), (2, xI t), (3, xI l), (4, xI w), (5, xI i)] [] g Q := by
  intro k
  induction k with
  | zero =>
    intro i g h0 hk hg
    have e3 := hg.1 169 25 (by decide)
    refine bX11_roll_39 u t l w i ?_ ?_
    · intro c
      refine kx g ?_
      rw [show h 169 25 = i by omega]
      exact hg
    · intro c
      exfalso
      omega
  | succ k ih =>
    intro i g h0 hk hg
    have a := hg.1
    have e3 := a 169 25 (by decide)
    refine bX11_roll_39 u t l w i (fun c => by exfalso; omega) (fun _ => ?_)
    have q1 := hal i h0 (by omega)
    refine rX11_roll_54 u t l w i (f_X11_judge l w i (by rw [e3]; exact hm) (by omega) hl (by rw [a 215 i (by decide), a 214 i (by decide)]; exact q1) (by rw [a 205 l (by decide)]; exact hd) hw (fun z => mLOK_ag a (by decide) (hok z)) (by omega)) (by omega) (fun f hf => ?_)
    obtain ⟨b1, b2, b3, b4, b5⟩ := hf
    rw [mjs_ag a (by decide)] at b3
    rw [mjt_ag a (by decide)] at b4
    rw [mjc_ag a (by decide)] at b5
    refine bX11_roll_57 u t l w i (by omega) ?_
    refine ih (i + 1) f (by omega) (by omega) ⟨a.tr b1, fun m m0 m1 => ?_⟩
    by_cases d : m = i
    · rw [d]
      exact ⟨b3, b4, b5⟩
    · have e := b2 (60 * l + m) (by omega)
      rw [e.1, e.2.1, e.2.2]
      exact hg.2 m m0 (by omega)
/-- places told, the first j men -/
def mPl (h : zH) (l j : Int) (g : zH) : Prop := zag [222] h g ∧ ∀ m : Int, 0 ≤ m → m < j → g 222 m = @ite Int (mli h l m) (Classical.propDecidable _) (zcnt (mah h l m) (h 169 25).toNat) (-1)
theorem mah_eq {h g : zH} {l : Int} (h5 : ∀ k : Int, mli g l k ↔ mli h l k) (a : ∀ o ∈ [(171 : Int), 172, 208, 209, 214, 221], ∀ k : Int, g o k = h o k) (m : Int) : mah g l m = mah h l m := by
  funext q
  have e1 := a 171 (by decide)
  have e2 := a 172 (by decide)
  have e3 := a 208 (by decide)
  have e4 := a 209 (by decide)
  have e5 := a 214 (by decide)
  have e6 := a 221 (by decide)
  unfold mah mbf
  rw [propext (h5 q)]
  simp only [e1, e2, e3, e4, e5, e6]
theorem mKey_ag {S : List Int} {h g : zH} (ha : zag S h g) (hS : ∀ o ∈ [(171 : Int), 208, 209, 214, 221], o ∉ S) {l q : Int} (hk : mKey h l q) : mKey g l q := by
  unfold mKey
  rw [ha 171 _ (hS _ (by decide)), ha 208 _ (hS _ (by decide)), ha 209 _ (hS _ (by decide)), ha 214 _ (hS _ (by decide)), ha 221 _ (hS _ (by decide))]
  exact hk
theorem l_X11_roll_71 {X : zX} {dep : Nat} {Q : Nat → zH → List zV → Prop} (u t l : Int) {h : zH} (hm : 0 ≤ h 169 25 ∧ h 169 25 ≤ 60) (hl : 0 ≤ l ∧ l < 4) (hky : ∀ q : Int, 0 ≤ q → q < h 169 25 → mli h l q → mKey h l q) (hdep : 3 ≤ dep)
    (kx : ∀ g : zH, mPl h l (h 169 25) g → zW mX11_roll X dep 0 0 239 117 [(0, xR 169), (1, xI u), (2, xI t), (3, xI l), (5, xI 0)] [] g Q) :
    ∀ (k : Nat) (i : Int) (g : zH), 0 ≤ i → i + k = h 169 25 → mPl h l i g → zW mX11_roll X dep 0 0 239 71 [(0, xR 169), (1, xI u), (2, xI t), (3, xI l), (5, xI i)] [] g Q := by
  intro k
  induction k with
  | zero =>
    intro i g h0 hk hg
    have e3 := hg.1 169 25 (by decide)
    refine bX11_roll_71 u t l i (by rw [e3]; exact hm) hl h0 (by omega) ?_ ?_ ?_
    · intro c
      refine kx g ?_
      rw [show h 169 25 = i by omega]
      exact hg
    all_goals
      intro c
      exfalso
      omega
  | succ k ih =>
    intro i g h0 hk hg
    have a := hg.1
    have e3 := a 169 25 (by decide)
    have go : ∀ v : Int, v = @ite Int (mli h l i) (Classical.propDecidable _) (zcnt (mah h l i) (h 169 25).toNat) (-1) → zW mX11_roll X dep 0 0 239 71 [(0, xR 169), (1, xI u), (2, xI t), (3, xI l), (5, xI (i + 1))] [] (zst g 222 i v) Q := fun v hv => by
      refine ih (i + 1) _ (by omega) (by omega) ⟨a.st (by decide) _ _, fun m m0 m1 => ?_⟩
      rw [zst_or]
      by_cases d : m = i
      · rw [if_pos d, d]
        exact hv
      · rw [if_neg d]
        exact hg.2 m m0 (by omega)
    refine bX11_roll_71 u t l i (by rw [e3]; exact hm) hl h0 (by omega) ?_ ?_ ?_
    · intro c
      exfalso
      omega
    · intro _ c
      refine go _ ?_
      rw [if_neg (fun z => c ((mli_ag a (by decide) l i).mpr z))]
    · intro _ c
      have c' : mli h l i := (mli_ag a (by decide) l i).mp c
      refine rX11_roll_100 u t l i (P := fun v g' => g' = g ∧ v = zcnt (mah h l i) (h 169 25).toNat) ((f_X11_placeOf l i (by rw [e3]; exact hm) hl (by omega) (mKey_ag a (by decide) (hky i h0 (by omega) c')) (fun q q0 q1 q2 => mKey_ag a (by decide) (hky q q0 (by rw [← e3]; exact q1) ((mli_ag a (by decide) l q).mp q2))) (by omega)).weaken (fun n' h' rs hq => ?_)) (by omega) (fun v f hf => ?_)
      · obtain ⟨rfl, rfl, rfl⟩ := hq
        refine ⟨rfl, _, rfl, rfl, ?_⟩
        rw [e3, mah_eq (fun k => mli_ag a (by decide) l k) (fun o ho k => a o k (by revert o; decide))]
      · obtain ⟨rfl, hv⟩ := hf
        refine bX11_roll_103 u t l i v (by omega) (go v ?_)
        rw [if_pos c']
        exact hv
/-- called, the first j men -/
def mCa (h : zH) (l j : Int) (g : zH) : Prop := zag [219] h g ∧ (∀ q : Int, q < 60 * l ∨ 60 * l + j ≤ q → g 219 q = h 219 q) ∧ ∀ m : Int, 0 ≤ m → m < j → g 219 (60 * l + m) = if 0 ≤ h 222 m ∧ h 222 m < h 223 (8 * l + h 172 m) then 5 else h 219 (60 * l + m)
theorem l_X11_roll_117 {X : zX} {dep : Nat} {Q : Nat → zH → List zV → Prop} (u t l : Int) {h : zH} (hm : 0 ≤ h 169 25 ∧ h 169 25 ≤ 60) (hl : 0 ≤ l ∧ l < 4) (hp : ∀ m : Int, 0 ≤ m → m < h 169 25 → 0 ≤ h 172 m ∧ h 172 m < 8)
    (kx : ∀ (g : zH) (i : Int), mCa h l (h 169 25) g → zW mX11_roll X dep 0 0 239 185 [(0, xR 169), (1, xI u), (2, xI t), (3, xI l), (5, xI i)] [xI t, xI l, xR 169] g Q) :
    ∀ (k : Nat) (i : Int) (g : zH), 0 ≤ i → i + k = h 169 25 → mCa h l i g → zW mX11_roll X dep 0 0 239 117 [(0, xR 169), (1, xI u), (2, xI t), (3, xI l), (5, xI i)] [] g Q := by
  intro k
  induction k with
  | zero =>
    intro i g h0 hk hg
    have e3 := hg.1 169 25 (by decide)
    refine bX11_roll_117 u t l i (by rw [e3]; exact hm) hl h0 (Or.inl (by omega)) ?_ ?_ ?_ ?_
    · intro c
      refine kx g i ?_
      rw [show h 169 25 = i by omega]
      exact hg
    all_goals
      intro c
      exfalso
      omega
  | succ k ih =>
    intro i g h0 hk hg
    obtain ⟨a, hf, hv⟩ := hg
    have e3 := a 169 25 (by decide)
    have e4 := a 172 i (by decide)
    have e5 := a 222 i (by decide)
    have e6 := a 223 (8 * l + h 172 i) (by decide)
    have no : ¬ (0 ≤ h 222 i ∧ h 222 i < h 223 (8 * l + h 172 i)) → zW mX11_roll X dep 0 0 239 117 [(0, xR 169), (1, xI u), (2, xI t), (3, xI l), (5, xI (i + 1))] [] g Q := fun c => by
      refine ih (i + 1) g (by omega) (by omega) ⟨a, fun q hq => hf q (by omega), fun m m0 m1 => ?_⟩
      by_cases d : m = i
      · rw [d, if_neg c]
        exact hf _ (by omega)
      · exact hv m m0 (by omega)
    refine bX11_roll_117 u t l i (by rw [e3]; exact hm) hl h0 (by rw [e4]; exact Or.inr (hp i h0 (by omega))) ?_ ?_ ?_ ?_
    · intro c
      exfalso
      omega
    · intro _ c
      exact no (by omega)
    · intro _ c1 c2
      rw [e4, e5, e6] at c2
      exact no (by omega)
    · intro _ c1 c2
      rw [e4, e5, e6] at c2
      rw [e5] at c1
      refine ih (i + 1) _ (by omega) (by omega) ⟨a.st (by decide) _ _, fun q hq => ?_, fun m m0 m1 => ?_⟩
      · rw [zst_ne (Or.inr (by omega))]
        exact hf q (by omega)
      · rw [zst_or]
        by_cases d : m = i
        · rw [if_pos (by omega), d, if_pos (by omega)]
        · rw [if_neg (by omega)]
          exact hv m m0 (by omega)
/-- a man on a roll that is drawn, as the model has it -/
def mDm (e : zH) (l w m : Int) : Prop := (mli e l m ↔ mjs e l w m = 4) ∧ e 220 (60 * l + m) = mjt e l w m ∧ e 221 (60 * l + m) = mjc e l w m ∧ e 219 (60 * l + m) = (if mjs e l w m = 4 then (if mquo e l (e 172 m) ≤ zcnt (mah e l m) (e 169 25).toNat then 4 else 5) else mjs e l w m) ∧ e 222 m = if mjs e l w m = 4 then zcnt (mah e l m) (e 169 25).toNat else -1
def mHv (h : zH) (day t : Int) (g : zH) : Prop := (∀ q : Int, 0 ≤ q → q < 360 → g 217 q = zlw (fun r => h 182 r ≤ t ∧ h 180 r ≤ day ∧ day ≤ h 181 r) (fun r => 6 * h 177 r + h 178 r) (h 179) (fun _ => 0) (h 169 27).toNat q) ∧ ∀ m : Int, 0 ≤ m → m < 60 → g 218 m = zlw (fun r => h 186 r ≤ t ∧ h 186 r ≤ day) (h 183) (h 185) (fun _ => 0) (h 169 28).toNat m
def mDrawn (f : zH) (l t : Int) (e : zH) : Prop := zag mDS f e ∧ mHv f (f 205 l) t e ∧ (∀ m : Int, 0 ≤ m → m < f 169 25 → mDm e l (mlaw f (f 205 l) t) m) ∧ ∀ p : Int, 0 ≤ p → p < 8 → e 223 (8 * l + p) = mquo e l p
theorem mquo_eq {h g : zH} {l : Int} (h5 : ∀ k : Int, mli g l k ↔ mli h l k) (h4 : ∀ k : Int, g 172 k = h 172 k) (h3 : g 169 25 = h 169 25) (h1 : g 206 l = h 206 l) (p : Int) : mquo g l p = mquo h l p := by
  have la : ∀ n, mla g l n = mla h l n := fun n => zcnt_ag h5 n
  have lp : ∀ p n, mlp g l p n = mlp h l p n := fun p n => zcnt_ag (fun k => by rw [h5 k, h4 k]) n
  have c : mcl g l = mcl h l := by unfold mcl; rw [h1, h3, la]
  have q0 : mq0 g l = mq0 h l := funext fun p => by unfold mq0; rw [h3, la, lp, c]
  have r0 : mr0 g l = mr0 h l := funext fun p => by unfold mr0; rw [h3, la, lp, c]
  unfold mquo mleft
  rw [q0, r0, c]
theorem mDrawn_of {f f2 g1 g2 g3 e : zH} {l t w : Int} (hl : 0 ≤ l ∧ l < 4) (hm : 0 ≤ f 169 25 ∧ f 169 25 ≤ 60) (hp : ∀ m : Int, 0 ≤ m → m < f 169 25 → 0 ≤ f 172 m ∧ f 172 m < 8) (ew : w = mlaw f (f 205 l) t) (ha : zag [217, 218] f f2) (hv : mHv f (f 205 l) t f2) (hj : mJn f2 l w (f2 169 25) g1) (hs : mShd g1 l g2) (hq : mPl g2 l (g2 169 25) g3) (hc : mCa g3 l (g3 169 25) e) : mDrawn f l t e := by
  have a2 : zag mDS f2 e := (hj.1.mono (by decide)).tr ((hs.1.mono (by decide)).tr ((hq.1.mono (by decide)).tr (hc.1.mono (by decide))))
  have a3 : zag [219, 220, 221, 222, 223, 231, 232] f2 e := (hj.1.mono (by decide)).tr ((hs.1.mono (by decide)).tr ((hq.1.mono (by decide)).tr (hc.1.mono (by decide))))
  have a4 : zag [219, 222, 223, 232] g1 e := (hs.1.mono (by decide)).tr ((hq.1.mono (by decide)).tr (hc.1.mono (by decide)))
  have m2 := ha 169 25 (by decide)
  have m1 := hj.1 169 25 (by decide)
  have ms := hs.1 169 25 (by decide)
  have mq := hq.1 169 25 (by decide)
  have me := hc.1 169 25 (by decide)
  have s21 : ∀ k : Int, g2 219 k = g1 219 k := fun k => hs.1 219 k (by decide)
  have s32 : ∀ k : Int, g3 219 k = g2 219 k := fun k => hq.1 219 k (by decide)
  have lis : ∀ k : Int, mli e l k ↔ mli g1 l k := fun k => by
    unfold mli
    by_cases c : 0 ≤ k ∧ k < g3 169 25
    · rw [hc.2.2 k c.1 c.2]
      have q1 := hq.2 k c.1 (by omega)
      have q2 := hq.1 222 k
      by_cases d : 0 ≤ g3 222 k ∧ g3 222 k < g3 223 (8 * l + g3 172 k)
      · rw [if_pos d]
        have : mli g2 l k := by
          by_cases z : mli g2 l k
          · exact z
          · rw [if_neg z] at q1
            omega
        unfold mli at this
        rw [s21] at this
        omega
      · rw [if_neg d, s32, s21]
    · rw [hc.2.1 (60 * l + k) (by omega), s32, s21]
  have li2 : ∀ k : Int, mli g2 l k ↔ mli g1 l k := fun k => by
    unfold mli
    rw [s21]
  refine ⟨(ha.mono (by decide)).tr a2, ⟨fun q q0 q1 => ?_, fun m q0 q1 => ?_⟩, fun m m0 mm => ?_, fun p p0 p1 => ?_⟩
  · rw [a3 217 q (by decide)]
    exact hv.1 q q0 q1
  · rw [a3 218 m (by decide)]
    exact hv.2 m q0 q1
  · rw [← ew]
    have j1 := hj.2 m m0 (by omega)
    have ji := mjs_in f2 l w m
    have i4 : mli g1 l m ↔ mjs f2 l w m = 4 := by
      unfold mli
      rw [j1.1]
      omega
    have eq := mquo_eq lis (fun k => a4 172 k (by decide)) (a4 169 25 (by decide)) (a4 206 l (by decide))
    have ea1 : mah e l m = mah g1 l m := mah_eq lis (fun o ho k => a4 o k (by revert o; decide)) m
    have ea2 : mah g2 l m = mah g1 l m := mah_eq li2 (fun o ho k => hs.1 o k (by revert o; decide)) m
    have hx := hp m m0 mm
    have e172 : e 172 m = f 172 m := (a2 172 m (by decide)).trans (ha 172 m (by decide))
    have e172' : g3 172 m = f 172 m := (hc.1 172 m (by decide)).symm.trans e172
    have q3 := hq.2 m m0 (by omega)
    have c3 := hc.2.2 m m0 (by omega)
    have e223 : g3 223 (8 * l + f 172 m) = mquo g1 l (f 172 m) := (hq.1 223 _ (by decide)).trans (hs.2 _ hx.1 hx.2)
    have emen : (e 169 25).toNat = (g2 169 25).toNat := by rw [me, mq]
    unfold mDm
    rw [mjs_ag a3 (by decide), mjt_ag a3 (by decide), mjc_ag a3 (by decide), lis m, a4 220 _ (by decide), a4 221 _ (by decide), ea1, eq, e172, emen, hc.1 222 m (by decide), c3, e172', e223, s32, s21, j1.1, q3, ea2]
    refine ⟨i4, j1.2.1, j1.2.2, ?_, ?_⟩
    · have zc := zcnt_in (mah g1 l m) (g2 169 25).toNat
      by_cases z : mjs f2 l w m = 4
      · have z2 : mli g2 l m := (li2 m).mpr (i4.mpr z)
        rw [if_pos z2, if_pos z]
        by_cases y : mquo g1 l (f 172 m) ≤ zcnt (mah g1 l m) (g2 169 25).toNat
        · rw [if_pos y, if_neg (by omega)]
          exact z
        · rw [if_neg y, if_pos (by omega)]
      · have z2 : ¬ mli g2 l m := fun y => z (i4.mp ((li2 m).mp y))
        rw [if_neg z2, if_neg z, if_neg (by omega)]
    · by_cases z : mjs f2 l w m = 4
      · rw [if_pos ((li2 m).mpr (i4.mpr z)), if_pos z]
      · rw [if_neg (fun y => z (i4.mp ((li2 m).mp y))), if_neg z]
  · rw [mquo_eq lis (fun k => a4 172 k (by decide)) (a4 169 25 (by decide)) (a4 206 l (by decide)), hc.1 223 _ (by decide), hq.1 223 _ (by decide)]
    exact hs.2 p p0 p1
/-- the rolls of the first n lots drawn, one behind the other -/
def mRolls (p : zH) (t : Int) : Nat → zH → Prop
  | 0, g => g = p
  | n + 1, g => ∃ f e : zH, mRolls p t n f ∧ mDrawn f n t e ∧ mChn e n t g
abbrev mRo : List Int := [217, 218, 219, 220, 221, 222, 223, 229, 230, 231, 232]
theorem mRolls_ag {p : zH} {t : Int} : ∀ {n : Nat} {g : zH}, mRolls p t n g → zag mRo p g
  | 0, _, h => by
    rw [show _ = p from h]
    exact zag.rf _ _
  | n + 1, _, ⟨_, _, h1, h2, h3⟩ => (mRolls_ag h1).tr ((h2.1.mono (by decide)).tr (h3.1.mono (by decide)))
def mRolled (h : zH) (u t : Int) (g : zH) : Prop := ∃ p : zH, mPeo h t p ∧ mRolls p t (u + 1).toNat g
theorem mRolled_ag {h g : zH} {u t : Int} : mRolled h u t g → zag mRS h g := fun ⟨_, h1, h2⟩ => (h1.1.mono (by decide)).tr ((mRolls_ag h2).mono (by decide))
theorem mKey_of {f2 g1 g2 : zH} {l w : Int} (hb : mBase f2) (hl : 0 ≤ l ∧ l < 4) (hal : mAl f2) (hw : w < f2 169 45) (hj : mJn f2 l w (f2 169 25) g1) (hs : mShd g1 l g2) : ∀ q : Int, 0 ≤ q → q < g2 169 25 → mli g2 l q → mKey g2 l q := fun q q0 q1 q2 => by
  obtain ⟨b1, b2, b3, b4, b5, b6, b7, b8, b9⟩ := hb
  have a : zag [219, 220, 221, 223, 231, 232] f2 g2 := (hj.1.mono (by decide)).tr (hs.1.mono (by decide))
  have m2 := a 169 25 (by decide)
  have j1 := hj.2 q q0 (by omega)
  have ji := mjs_in f2 l w q
  have e219 := hs.1 219 (60 * l + q) (by decide)
  have e221 := hs.1 221 (60 * l + q) (by decide)
  unfold mli at q2
  have j4 : mjs f2 l w q = 4 := by omega
  have al := hal q q0 (by omega)
  have there := mjs_4 j4
  have lo := (b9.2 l hl.1 hl.2).2.2
  have mn := b2 q q0 (by omega)
  have cl := mjc_in (l := l) (m := q) (fun z : 0 ≤ w => b8.2 w z hw)
  unfold mKey
  rw [a 214 q (by decide), a 171 q (by decide), a 208 _ (by decide), a 209 _ (by decide), e221, j1.2.2]
  refine ⟨by omega, mn.1, cl, lo.1 _ (by omega) (by omega), lo.2 _ mn.1.1 mn.1.2⟩
theorem l_X11_roll_7 {X : zX} {dep : Nat} (u t : Int) {p : zH} (hb : mBase p) (hal : mAl p) (hu : -1 ≤ u ∧ u < 4) (hdep : 6 ≤ dep) :
    ∀ (k n : Nat) (g : zH), (n : Int) + k = u + 1 → mRolls p t n g → zW mX11_roll X dep 0 0 239 7 [(0, xR 169), (1, xI u), (2, xI t), (3, xI n)] [] g (zQ0 (mRolls p t (u + 1).toNat)) := by
  intro k
  induction k with
  | zero =>
    intro n g hk hg
    refine bX11_roll_7 u t n (by omega) hu.2 (fun c => ?_) (fun c => ?_)
    · refine ⟨rfl, rfl, ?_⟩
      rw [show (u + 1).toNat = n by omega]
      exact hg
    · exfalso
      omega
  | succ k ih =>
    intro n g hk hg
    have ag := mRolls_ag hg
    have hbg : mBase g := mBase_ag (ag.mono (by decide)) hb
    have alg : mAl g := by
      unfold mAl
      simp only [ag 169 _ (by decide), ag 214 _ (by decide), ag 215 _ (by decide)]
      exact hal
    refine bX11_roll_7 u t n (by omega) hu.2 (fun c => by exfalso; omega) (fun _ => ?_)
    have hl : 0 ≤ (n : Int) ∧ (n : Int) < 4 := by omega
    refine rX11_roll_20 u t n (g 205 n) (f_X11_hold (g 205 n) t hbg.1 hbg.2.2.2.2.1 hbg.2.2.2.2.2.1 (by omega)) (by omega) (fun f2 hf2 => ?_)
    have b2 : mBase f2 := mBase_ag (hf2.1.mono (by decide)) hbg
    have al2 : mAl f2 := by
      unfold mAl
      simp only [hf2.1 169 _ (by decide), hf2.1 214 _ (by decide), hf2.1 215 _ (by decide)]
      exact alg
    obtain ⟨c1, c2, c3, c4, c5, c6, c7, c8, c9⟩ := id b2
    have lo := c9.2 n hl.1 hl.2
    refine bX11_roll_23 u t n hl c8.1 (by omega) ?_
    have c81 := c8.1
    have wi := mlaw_in c8.1 (f2 205 n) t
    have ew : mlaw f2 (f2 205 n) t = mlaw g (g 205 n) t := by
      rw [hf2.1 205 _ (by decide), mlaw_ag hf2.1 (by decide)]
    refine l_X11_roll_39 u t n _ c1 hl al2 lo.1 (by omega) (fun z => (c8.2 _ z (by omega)).1) hdep (fun g1 hg1 => ?_) (f2 169 25).toNat 0 f2 (by omega) (by omega) ⟨zag.rf _ _, fun m m0 m1 => by omega⟩
    refine bX11_roll_63 u t n ?_
    have m1 := hg1.1 169 25 (by decide)
    refine rX11_roll_65 u t n (f_X11_share n (by rw [m1]; exact c1) hl (by rw [hg1.1 206 _ (by decide)]; exact lo.2.1) (by omega)) (by omega) (fun g2 hg2 => ?_)
    refine bX11_roll_68 u t n ?_
    have ms := hg2.1 169 25 (by decide)
    refine l_X11_roll_71 u t n (by rw [ms, m1]; exact c1) hl (mKey_of b2 hl al2 (by omega) hg1 hg2) (by omega) (fun g3 hg3 => ?_) (g2 169 25).toNat 0 g2 (by omega) (by omega) ⟨zag.rf _ _, fun m m0 m1 => by omega⟩
    have mq := hg3.1 169 25 (by decide)
    have a23 : zag [219, 220, 221, 222, 223, 231, 232] f2 g3 := (hg1.1.mono (by decide)).tr ((hg2.1.mono (by decide)).tr (hg3.1.mono (by decide)))
    refine l_X11_roll_117 u t n (by rw [mq, ms, m1]; exact c1) hl (fun m m0 mm => by rw [a23 172 m (by decide)]; exact (c2 m m0 (by omega)).2) (fun e i he => ?_) (g3 169 25).toNat 0 g3 (by omega) (by omega) ⟨zag.rf _ _, fun _ _ => rfl, fun m m0 m1 => by omega⟩
    have hD : mDrawn g n t e := mDrawn_of hl hbg.1 (fun m m0 mm => (hbg.2.1 m m0 mm).2) ew hf2.1 hf2.2 hg1 hg2 hg3 he
    have be : mBase e := mBase_ag (hD.1.mono (by decide)) hbg
    refine rX11_roll_185 u t n i (f_X11_chain n t be.2.2.2.2.2.2.1 be.1 hl (by omega)) (by omega) (fun g4 hg4 => ?_)
    refine bX11_roll_188 u t n i hl ?_
    have go := ih (n + 1) g4 (by omega) ⟨g, e, hg, hD, hg4⟩
    rw [show ((n + 1 : Nat) : Int) = (n : Int) + 1 by omega] at go
    exact go
theorem f_X11_roll {X : zX} {dep : Nat} (u t : Int) {h : zH} (hb : mBase h) (hu : -1 ≤ u ∧ u < 4) (hdep : 6 ≤ dep) : zW mX11_roll X dep 0 0 239 0 (zar 0 [xR 169, xI u, xI t]) [] h (zQ0 (mRolled h u t)) := by
  refine bX11_roll_0 u t ?_
  refine rX11_roll_2 u t (f_X11_people t hb.1 hb.2.2.1 hb.2.2.2.1) (by omega) (fun p hp => ?_)
  refine bX11_roll_5 u t ?_
  refine (l_X11_roll_7 u t (mBase_ag (hp.1.mono (by decide)) hb) (mPeo_al hb.2.2.2.1 hp) hu hdep (u + 1).toNat 0 p (by omega) rfl).weaken (fun n' h' rs hq => ?_)
  exact ⟨hq.1, hq.2.1, p, hp, hq.2.2⟩
