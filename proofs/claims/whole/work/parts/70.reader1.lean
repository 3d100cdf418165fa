/-! reading a COND -/
set_option maxRecDepth 20000 in
theorem bX5_readToken_0 {X : zX} {dep bc bs : Nat} {h : zH} {Q : Nat → zH → List zV → Prop} (hc : -1 ≤ h 24 4 ∧ h 24 4 + 1 < h 25 4 ∧ h 25 4 ≤ 301)
    (k1 : (h 25 4) ≤ ((h 24 4) + 1) → Q 239 h [])
    (k2 : ¬ ((h 25 4) ≤ ((h 24 4) + 1)) → Q 239 (zst (zst (zst h 24 4 ((h 24 4) + 1)) 24 5 (h 26 ((h 24 4) + 1))) 24 6 (h 29 ((h 24 4) + 1))) []) : zW mX5_readToken X dep bc bs 239 0 [(0, xR 24)] [] h Q := by
  refine z_aload_n 0 dX5_readToken_0 rfl ?_
  refine z_getI (k := 4) (kz := 4) pk5 dX5_readToken_1 (by decide) zb_329 rfl (zOb.lit (by decide +kernel)) rfl ?_
  refine z_iconst dX5_readToken_4 (zi32_d rfl) ?_
  refine z_iaddN dX5_readToken_5 (show -2147483648 ≤ (h 24 4) + 1 ∧ (h 24 4) + 1 < 2147483648 from ⟨by omega, by omega⟩).1 (show -2147483648 ≤ (h 24 4) + 1 ∧ (h 24 4) + 1 < 2147483648 from ⟨by omega, by omega⟩).2 ?_
  refine z_aload_n 0 dX5_readToken_6 rfl ?_
  refine z_getS (v := 25) (k := 0) (kz := 0) pk5 dX5_readToken_7 (by decide) zb_323 rfl (zOb.lit (by decide +kernel)) rfl (by decide +kernel) ?_
  refine z_getI (k := 4) (kz := 4) pk8 dX5_readToken_10 (by decide) zb_250 rfl (zOb.lit (by decide +kernel)) rfl ?_
  refine z_icmp_ge (tgt := 58) dX5_readToken_13 (by decide) (fun c1 => ?_) (fun c1 => ?_)
  ·
    exact z_ret dX5_readToken_58 rfl (k1 c1)
  ·
    refine z_aload_n 0 dX5_readToken_16 rfl ?_
    refine z_dup dX5_readToken_17 zt2 ?_
    refine z_getI (k := 4) (kz := 4) pk5 dX5_readToken_18 (by decide) zb_329 rfl (zOb.lit (by decide +kernel)) rfl ?_
    refine z_iconst dX5_readToken_21 (zi32_d rfl) ?_
    refine z_iaddN dX5_readToken_22 (show -2147483648 ≤ (h 24 4) + 1 ∧ (h 24 4) + 1 < 2147483648 from ⟨by omega, by omega⟩).1 (show -2147483648 ≤ (h 24 4) + 1 ∧ (h 24 4) + 1 < 2147483648 from ⟨by omega, by omega⟩).2 ?_
    refine z_putI (k := 4) (kz := 4) pk5 dX5_readToken_23 (by decide) zb_329 rfl (zFit_int _) (zOb.lit (by decide +kernel)) rfl ?_
    refine z_aload_n 0 dX5_readToken_26 rfl ?_
    refine z_aload_n 0 dX5_readToken_27 rfl ?_
    refine z_getS (v := 25) (k := 0) (kz := 0) pk5 dX5_readToken_28 (by decide) zb_323 rfl (zOb.lit (by decide +kernel)) rfl (by decide +kernel) ?_
    refine z_getS (v := 26) (k := 0) (kz := 0) pk8 dX5_readToken_31 (by decide) zb_242 rfl (zOb.lit (by decide +kernel)) rfl (by decide +kernel) ?_
    refine z_aload_n 0 dX5_readToken_34 rfl ?_
    refine z_getIV (v := ((h 24 4) + 1)) (k := 4) (kz := 4) pk5 dX5_readToken_35 (by decide) zb_329 rfl (zOb.lit (by decide +kernel)) rfl (zst_self _ _ _ _) ?_
    refine z_ialdV (v := (h 26 ((h 24 4) + 1))) dX5_readToken_38 (zOb.lit (by decide +kernel)) (show 0 ≤ ((h 24 4) + 1) ∧ ((h 24 4) + 1) < 301 from ⟨by omega, by omega⟩).1 (show 0 ≤ ((h 24 4) + 1) ∧ ((h 24 4) + 1) < 301 from ⟨by omega, by omega⟩).2 (zst_ne (Or.inl (by decide))) ?_
    refine z_putI (k := 5) (kz := 5) pk5 dX5_readToken_39 (by decide) zb_330 rfl (zFit_int _) (zOb.lit (by decide +kernel)) rfl ?_
    refine z_aload_n 0 dX5_readToken_42 rfl ?_
    refine z_aload_n 0 dX5_readToken_43 rfl ?_
    refine z_getS (v := 25) (k := 0) (kz := 0) pk5 dX5_readToken_44 (by decide) zb_323 rfl (zOb.lit (by decide +kernel)) rfl (by decide +kernel) ?_
    refine z_getS (v := 29) (k := 3) (kz := 3) pk8 dX5_readToken_47 (by decide) zb_248 rfl (zOb.lit (by decide +kernel)) rfl (by decide +kernel) ?_
    refine z_aload_n 0 dX5_readToken_50 rfl ?_
    refine z_getIV (v := ((h 24 4) + 1)) (k := 4) (kz := 4) pk5 dX5_readToken_51 (by decide) zb_329 rfl (zOb.lit (by decide +kernel)) rfl ((zst_ne (Or.inr (by decide))).trans (zst_self _ _ _ _)) ?_
    refine z_aaldWV (v := (h 29 ((h 24 4) + 1))) dX5_readToken_54 (zOb.lit (by decide +kernel)) (show 0 ≤ ((h 24 4) + 1) ∧ ((h 24 4) + 1) < 301 from ⟨by omega, by omega⟩).1 (show 0 ≤ ((h 24 4) + 1) ∧ ((h 24 4) + 1) < 301 from ⟨by omega, by omega⟩).2 ((zst_ne (Or.inl (by decide))).trans (zst_ne (Or.inl (by decide)))) ?_
    refine z_putI (k := 6) (kz := 6) pk5 dX5_readToken_55 (by decide) zb_331 rfl (zFit_obj _ _) (zOb.lit (by decide +kernel)) rfl ?_
    exact z_ret dX5_readToken_58 rfl (k2 c1)

set_option maxRecDepth 20000 in
theorem bX5_fail_0 {X : zX} {dep bc bs : Nat} (k : Int) {h : zH} {Q : Nat → zH → List zV → Prop} (hc : 0 ≤ h 24 4 ∧ h 24 4 < h 25 4 ∧ h 25 4 ≤ 301)
    (k1 : (h 24 4) < 0 → Q 239 (zst (zst h 24 2 k) 24 3 0) [xI 0])
    (k2 : ¬ ((h 24 4) < 0) → (h 24 4) < (h 25 4) → Q 239 (zst (zst h 24 2 k) 24 3 (h 27 (h 24 4))) [xI 0])
    (k3 : ¬ ((h 24 4) < 0) → ¬ ((h 24 4) < (h 25 4)) → Q 239 (zst (zst h 24 2 k) 24 3 0) [xI 0]) : zW mX5_fail X dep bc bs 239 0 [(0, xR 24), (1, xI k)] [] h Q := by
  refine z_aload_n 0 dX5_fail_0 rfl ?_
  refine z_iload_n 1 dX5_fail_1 rfl ?_
  refine z_putI (k := 2) (kz := 2) pk5 dX5_fail_2 (by decide) zb_325 rfl (zFit_int _) (zOb.lit (by decide +kernel)) rfl ?_
  refine z_aload_n 0 dX5_fail_5 rfl ?_
  refine z_aload_n 0 dX5_fail_6 rfl ?_
  refine z_getIV (v := (h 24 4)) (k := 4) (kz := 4) pk5 dX5_fail_7 (by decide) zb_329 rfl (zOb.lit (by decide +kernel)) rfl (zst_ne (Or.inr (by decide))) ?_
  refine z_if_lt (tgt := 27) dX5_fail_10 (by decide) (fun c1 => ?_) (fun c1 => ?_)
  ·
    refine z_iconst dX5_fail_27 (zi32_d rfl) ?_
    refine z_goto (tgt := 43) dX5_fail_28 (by decide) ?_
    refine z_putI (k := 3) (kz := 3) pk5 dX5_fail_43 (by decide) zb_327 rfl (zFit_int _) (zOb.lit (by decide +kernel)) rfl ?_
    refine z_iconst dX5_fail_46 (zi32_d rfl) ?_
    exact z_zret dX5_fail_47 rfl (Or.inl rfl) (k1 c1)
  ·
    refine z_aload_n 0 dX5_fail_13 rfl ?_
    refine z_getIV (v := (h 24 4)) (k := 4) (kz := 4) pk5 dX5_fail_14 (by decide) zb_329 rfl (zOb.lit (by decide +kernel)) rfl (zst_ne (Or.inr (by decide))) ?_
    refine z_aload_n 0 dX5_fail_17 rfl ?_
    refine z_getS (v := 25) (k := 0) (kz := 0) pk5 dX5_fail_18 (by decide) zb_323 rfl (zOb.lit (by decide +kernel)) rfl (by decide +kernel) ?_
    refine z_getIV (v := (h 25 4)) (k := 4) (kz := 4) pk8 dX5_fail_21 (by decide) zb_250 rfl (zOb.lit (by decide +kernel)) rfl (zst_ne (Or.inl (by decide))) ?_
    refine z_icmp_lt (tgt := 31) dX5_fail_24 (by decide) (fun c2 => ?_) (fun c2 => ?_)
    ·
      refine z_aload_n 0 dX5_fail_31 rfl ?_
      refine z_getS (v := 25) (k := 0) (kz := 0) pk5 dX5_fail_32 (by decide) zb_323 rfl (zOb.lit (by decide +kernel)) rfl (by decide +kernel) ?_
      refine z_getS (v := 27) (k := 1) (kz := 1) pk8 dX5_fail_35 (by decide) zb_244 rfl (zOb.lit (by decide +kernel)) rfl (by decide +kernel) ?_
      refine z_aload_n 0 dX5_fail_38 rfl ?_
      refine z_getIV (v := (h 24 4)) (k := 4) (kz := 4) pk5 dX5_fail_39 (by decide) zb_329 rfl (zOb.lit (by decide +kernel)) rfl (zst_ne (Or.inr (by decide))) ?_
      refine z_ialdV (v := (h 27 (h 24 4))) dX5_fail_42 (zOb.lit (by decide +kernel)) (show 0 ≤ (h 24 4) ∧ (h 24 4) < 301 from ⟨by omega, by omega⟩).1 (show 0 ≤ (h 24 4) ∧ (h 24 4) < 301 from ⟨by omega, by omega⟩).2 (zst_ne (Or.inl (by decide))) ?_
      refine z_putI (k := 3) (kz := 3) pk5 dX5_fail_43 (by decide) zb_327 rfl (zFit_int _) (zOb.lit (by decide +kernel)) rfl ?_
      refine z_iconst dX5_fail_46 (zi32_d rfl) ?_
      exact z_zret dX5_fail_47 rfl (Or.inl rfl) (k2 c1 c2)
    ·
      refine z_iconst dX5_fail_27 (zi32_d rfl) ?_
      refine z_goto (tgt := 43) dX5_fail_28 (by decide) ?_
      refine z_putI (k := 3) (kz := 3) pk5 dX5_fail_43 (by decide) zb_327 rfl (zFit_int _) (zOb.lit (by decide +kernel)) rfl ?_
      refine z_iconst dX5_fail_46 (zi32_d rfl) ?_
      exact z_zret dX5_fail_47 rfl (Or.inl rfl) (k3 c1 c2)

set_option maxRecDepth 20000 in
theorem bX5_readSign_0 {X : zX} {dep bc bs : Nat} (w : Int) {h : zH} {Q : Nat → zH → List zV → Prop}
    (k1 : (h 24 5) = w → zW mX5_readSign X dep bc bs 239 15 [(0, xR 24), (1, xI w)] [xR 24] h Q)
    (k2 : ¬ ((h 24 5) = w) → zW mX5_readSign X dep bc bs 239 10 [(0, xR 24), (1, xI w)] [xI 1, xR 24] h Q) : zW mX5_readSign X dep bc bs 239 0 [(0, xR 24), (1, xI w)] [] h Q := by
  refine z_aload_n 0 dX5_readSign_0 rfl ?_
  refine z_getI (k := 5) (kz := 5) pk5 dX5_readSign_1 (by decide) zb_330 rfl (zOb.lit (by decide +kernel)) rfl ?_
  refine z_iload_n 1 dX5_readSign_4 rfl ?_
  refine z_icmp_eq (tgt := 14) dX5_readSign_5 (by decide) (fun c1 => ?_) (fun c1 => ?_)
  ·
    refine z_aload_n 0 dX5_readSign_14 rfl ?_
    exact k1 c1
  ·
    refine z_aload_n 0 dX5_readSign_8 rfl ?_
    refine z_iconst dX5_readSign_9 (zi32_d rfl) ?_
    exact k2 c1

set_option maxRecDepth 20000 in
theorem rX5_readSign_10 {X : zX} {dep bc bs : Nat} (w : Int) {h : zH} {Q : Nat → zH → List zV → Prop} {P : Int → zH → Prop}
    (hZ : zW mX5_fail X (dep - 1) 0 0 239 0 (zar 0 [xR 24, xI 1]) [] h (zQI P)) (hdep : 1 ≤ dep)
    (k : ∀ (v : Int) (g : zH), P v g → zW mX5_readSign X dep bc bs 239 13 [(0, xR 24), (1, xI w)] [xI v] g Q) : zW mX5_readSign X dep bc bs 239 10 [(0, xR 24), (1, xI w)] [xI 1, xR 24] h Q :=
  z_invQI (ci := 5) (N := 8) (as := [xI 1]) (st := []) (ra := [xI 1]) hZ dX5_readSign_10 nX5_fail zb_693 zb_695 zb_5 zb_86 (zOb.lit (by decide +kernel)) rfl (by omega) (Nat.le_of_ble_eq_true rfl) (Nat.le_of_ble_eq_true rfl) rfl (fun v g hg => k v g hg)

set_option maxRecDepth 20000 in
theorem bX5_readSign_13 {X : zX} {dep bc bs : Nat} (w : Int) (v : Int) {h : zH} {Q : Nat → zH → List zV → Prop} (hv : v = 0 ∨ v = 1)
    (k1 : Q 239 h [xI v]) : zW mX5_readSign X dep bc bs 239 13 [(0, xR 24), (1, xI w)] [xI v] h Q := by
  exact z_zret dX5_readSign_13 rfl hv (k1)

set_option maxRecDepth 20000 in
theorem rX5_readSign_15 {X : zX} {dep bc bs : Nat} (w : Int) {h : zH} {Q : Nat → zH → List zV → Prop} {P : zH → Prop}
    (hZ : zW mX5_readToken X (dep - 1) 0 0 239 0 (zar 0 [xR 24]) [] h (zQ0 P)) (hdep : 1 ≤ dep)
    (k : ∀ g : zH, P g → zW mX5_readSign X dep bc bs 239 18 [(0, xR 24), (1, xI w)] [] g Q) : zW mX5_readSign X dep bc bs 239 15 [(0, xR 24), (1, xI w)] [xR 24] h Q :=
  z_invQ0 (ci := 5) (N := 8) (as := []) (st := []) (ra := []) hZ dX5_readSign_15 nX5_readToken zb_685 zb_687 zb_3 zb_86 (zOb.lit (by decide +kernel)) rfl (by omega) (Nat.le_of_ble_eq_true rfl) (Nat.le_of_ble_eq_true rfl) rfl (fun g hg => k g hg)

set_option maxRecDepth 20000 in
theorem bX5_readSign_18 {X : zX} {dep bc bs : Nat} (w : Int) {h : zH} {Q : Nat → zH → List zV → Prop}
    (k1 : Q 239 h [xI 1]) : zW mX5_readSign X dep bc bs 239 18 [(0, xR 24), (1, xI w)] [] h Q := by
  refine z_iconst dX5_readSign_18 (zi32_d rfl) ?_
  exact z_zret dX5_readSign_19 rfl (Or.inr rfl) (k1)

set_option maxRecDepth 20000 in
theorem bX5_readNumber_0 {X : zX} {dep bc bs : Nat} (a : Int) (b : Int) {h : zH} {Q : Nat → zH → List zV → Prop} (hc : 0 ≤ h 24 4 ∧ h 24 4 < 301)
    (k1 : (h 24 5) = 2 → (h 28 (h 24 4)) < a → zW mX5_readNumber X dep bc bs 239 41 [(3, xI (h 28 (h 24 4))), (0, xR 24), (1, xI a), (2, xI b)] [xI 2, xR 24] h Q)
    (k2 : (h 24 5) = 2 → ¬ ((h 28 (h 24 4)) < a) → (h 28 (h 24 4)) ≤ b → zW mX5_readNumber X dep bc bs 239 48 [(3, xI (h 28 (h 24 4))), (0, xR 24), (1, xI a), (2, xI b)] [xR 24] h Q)
    (k3 : (h 24 5) = 2 → ¬ ((h 28 (h 24 4)) < a) → ¬ ((h 28 (h 24 4)) ≤ b) → zW mX5_readNumber X dep bc bs 239 41 [(3, xI (h 28 (h 24 4))), (0, xR 24), (1, xI a), (2, xI b)] [xI 2, xR 24] h Q)
    (k4 : ¬ ((h 24 5) = 2) → zW mX5_readNumber X dep bc bs 239 10 [(0, xR 24), (1, xI a), (2, xI b)] [xI 1, xR 24] h Q) : zW mX5_readNumber X dep bc bs 239 0 [(0, xR 24), (1, xI a), (2, xI b)] [] h Q := by
  refine z_aload_n 0 dX5_readNumber_0 rfl ?_
  refine z_getI (k := 5) (kz := 5) pk5 dX5_readNumber_1 (by decide) zb_330 rfl (zOb.lit (by decide +kernel)) rfl ?_
  refine z_iconst dX5_readNumber_4 (zi32_d rfl) ?_
  refine z_icmp_eq (tgt := 16) dX5_readNumber_5 (by decide) (fun c1 => ?_) (fun c1 => ?_)
  ·
    refine z_aload_n 0 dX5_readNumber_16 rfl ?_
    refine z_getS (v := 25) (k := 0) (kz := 0) pk5 dX5_readNumber_17 (by decide) zb_323 rfl (zOb.lit (by decide +kernel)) rfl (by decide +kernel) ?_
    refine z_getS (v := 28) (k := 2) (kz := 2) pk8 dX5_readNumber_20 (by decide) zb_246 rfl (zOb.lit (by decide +kernel)) rfl (by decide +kernel) ?_
    refine z_aload_n 0 dX5_readNumber_23 rfl ?_
    refine z_getI (k := 4) (kz := 4) pk5 dX5_readNumber_24 (by decide) zb_329 rfl (zOb.lit (by decide +kernel)) rfl ?_
    refine z_iald dX5_readNumber_27 (zOb.lit (by decide +kernel)) (show 0 ≤ (h 24 4) ∧ (h 24 4) < 301 from ⟨by omega, by omega⟩).1 (show 0 ≤ (h 24 4) ∧ (h 24 4) < 301 from ⟨by omega, by omega⟩).2 ?_
    refine z_istore_n (lv' := [(3, xI (h 28 (h 24 4))), (0, xR 24), (1, xI a), (2, xI b)]) dX5_readNumber_28 (by decide) rfl ?_
    refine z_iload_n 0 dX5_readNumber_29 rfl ?_
    refine z_iload_n 2 dX5_readNumber_30 rfl ?_
    refine z_icmp_lt (tgt := 39) dX5_readNumber_31 (by decide) (fun c2 => ?_) (fun c2 => ?_)
    ·
      refine z_aload_n 1 dX5_readNumber_39 rfl ?_
      refine z_iconst dX5_readNumber_40 (zi32_d rfl) ?_
      exact k1 c1 c2
    ·
      refine z_iload_n 0 dX5_readNumber_34 rfl ?_
      refine z_iload_n 3 dX5_readNumber_35 rfl ?_
      refine z_icmp_le (tgt := 47) dX5_readNumber_36 (by decide) (fun c3 => ?_) (fun c3 => ?_)
      ·
        refine z_aload_n 1 dX5_readNumber_47 rfl ?_
        exact k2 c1 c2 c3
      ·
        refine z_aload_n 1 dX5_readNumber_39 rfl ?_
        refine z_iconst dX5_readNumber_40 (zi32_d rfl) ?_
        exact k3 c1 c2 c3
  ·
    refine z_aload_n 0 dX5_readNumber_8 rfl ?_
    refine z_iconst dX5_readNumber_9 (zi32_d rfl) ?_
    exact k4 c1

set_option maxRecDepth 20000 in
theorem rX5_readNumber_10 {X : zX} {dep bc bs : Nat} (a : Int) (b : Int) {h : zH} {Q : Nat → zH → List zV → Prop} {P : Int → zH → Prop}
    (hZ : zW mX5_fail X (dep - 1) 0 0 239 0 (zar 0 [xR 24, xI 1]) [] h (zQI P)) (hdep : 1 ≤ dep)
    (k : ∀ (v : Int) (g : zH), P v g → zW mX5_readNumber X dep bc bs 239 13 [(0, xR 24), (1, xI a), (2, xI b)] [xI v] g Q) : zW mX5_readNumber X dep bc bs 239 10 [(0, xR 24), (1, xI a), (2, xI b)] [xI 1, xR 24] h Q :=
  z_invQI (ci := 5) (N := 8) (as := [xI 1]) (st := []) (ra := [xI 1]) hZ dX5_readNumber_10 nX5_fail zb_693 zb_695 zb_5 zb_86 (zOb.lit (by decide +kernel)) rfl (by omega) (Nat.le_of_ble_eq_true rfl) (Nat.le_of_ble_eq_true rfl) rfl (fun v g hg => k v g hg)

set_option maxRecDepth 20000 in
theorem bX5_readNumber_13 {X : zX} {dep bc bs : Nat} (a : Int) (b : Int) (v : Int) {h : zH} {Q : Nat → zH → List zV → Prop}
    (k1 : Q 239 h [xI (-1)]) : zW mX5_readNumber X dep bc bs 239 13 [(0, xR 24), (1, xI a), (2, xI b)] [xI v] h Q := by
  refine z_pop dX5_readNumber_13 zt0 ?_
  refine z_iconst dX5_readNumber_14 (zi32_d rfl) ?_
  exact z_iret dX5_readNumber_15 rfl (k1)

set_option maxRecDepth 20000 in
theorem rX5_readNumber_41 {X : zX} {dep bc bs : Nat} (a : Int) (b : Int) (y : Int) {h : zH} {Q : Nat → zH → List zV → Prop} {P : Int → zH → Prop}
    (hZ : zW mX5_fail X (dep - 1) 0 0 239 0 (zar 0 [xR 24, xI 2]) [] h (zQI P)) (hdep : 1 ≤ dep)
    (k : ∀ (v : Int) (g : zH), P v g → zW mX5_readNumber X dep bc bs 239 44 [(0, xR 24), (1, xI a), (2, xI b), (3, xI y)] [xI v] g Q) : zW mX5_readNumber X dep bc bs 239 41 [(0, xR 24), (1, xI a), (2, xI b), (3, xI y)] [xI 2, xR 24] h Q :=
  z_invQI (ci := 5) (N := 8) (as := [xI 2]) (st := []) (ra := [xI 2]) hZ dX5_readNumber_41 nX5_fail zb_693 zb_695 zb_5 zb_86 (zOb.lit (by decide +kernel)) rfl (by omega) (Nat.le_of_ble_eq_true rfl) (Nat.le_of_ble_eq_true rfl) rfl (fun v g hg => k v g hg)

set_option maxRecDepth 20000 in
theorem bX5_readNumber_44 {X : zX} {dep bc bs : Nat} (a : Int) (b : Int) (y : Int) (v : Int) {h : zH} {Q : Nat → zH → List zV → Prop}
    (k1 : Q 239 h [xI (-1)]) : zW mX5_readNumber X dep bc bs 239 44 [(0, xR 24), (1, xI a), (2, xI b), (3, xI y)] [xI v] h Q := by
  refine z_pop dX5_readNumber_44 zt0 ?_
  refine z_iconst dX5_readNumber_45 (zi32_d rfl) ?_
  exact z_iret dX5_readNumber_46 rfl (k1)

set_option maxRecDepth 20000 in
theorem rX5_readNumber_48 {X : zX} {dep bc bs : Nat} (a : Int) (b : Int) (y : Int) {h : zH} {Q : Nat → zH → List zV → Prop} {P : zH → Prop}
    (hZ : zW mX5_readToken X (dep - 1) 0 0 239 0 (zar 0 [xR 24]) [] h (zQ0 P)) (hdep : 1 ≤ dep)
    (k : ∀ g : zH, P g → zW mX5_readNumber X dep bc bs 239 51 [(0, xR 24), (1, xI a), (2, xI b), (3, xI y)] [] g Q) : zW mX5_readNumber X dep bc bs 239 48 [(0, xR 24), (1, xI a), (2, xI b), (3, xI y)] [xR 24] h Q :=
  z_invQ0 (ci := 5) (N := 8) (as := []) (st := []) (ra := []) hZ dX5_readNumber_48 nX5_readToken zb_685 zb_687 zb_3 zb_86 (zOb.lit (by decide +kernel)) rfl (by omega) (Nat.le_of_ble_eq_true rfl) (Nat.le_of_ble_eq_true rfl) rfl (fun g hg => k g hg)

set_option maxRecDepth 20000 in
theorem bX5_readNumber_51 {X : zX} {dep bc bs : Nat} (a : Int) (b : Int) (y : Int) {h : zH} {Q : Nat → zH → List zV → Prop}
    (k1 : Q 239 h [xI y]) : zW mX5_readNumber X dep bc bs 239 51 [(0, xR 24), (1, xI a), (2, xI b), (3, xI y)] [] h Q := by
  refine z_iload_n 3 dX5_readNumber_51 rfl ?_
  exact z_iret dX5_readNumber_52 rfl (k1)

set_option maxRecDepth 20000 in
theorem bX5_readQuestion_0 {X : zX} {dep bc bs : Nat} (q : Int) (L : Int) {h : zH} {Q : Nat → zH → List zV → Prop} (hq : 1000000 ≤ q ∧ q < 1000022) (hL : zLawO L) (hl : h 24 1 = L)
    (k1 : (zWn q) = (-1) → (h 24 5) = 60 → zW mX5_readQuestion X dep bc bs 239 60 [(2, xI (h 24 5)), (0, xR 24), (1, xR q)] [xR 24] h Q)
    (k2 : (zWn q) = (-1) → ¬ ((h 24 5) = 60) → (h 24 5) = 61 → zW mX5_readQuestion X dep bc bs 239 60 [(2, xI (h 24 5)), (0, xR 24), (1, xR q)] [xR 24] h Q)
    (k3 : (zWn q) = (-1) → ¬ ((h 24 5) = 60) → ¬ ((h 24 5) = 61) → (h 24 5) = 62 → zW mX5_readQuestion X dep bc bs 239 60 [(2, xI (h 24 5)), (0, xR 24), (1, xR q)] [xR 24] h Q)
    (k4 : (zWn q) = (-1) → ¬ ((h 24 5) = 60) → ¬ ((h 24 5) = 61) → ¬ ((h 24 5) = 62) → zW mX5_readQuestion X dep bc bs 239 55 [(2, xI (h 24 5)), (0, xR 24), (1, xR q)] [xI 1, xR 24] h Q)
    (k5 : ¬ ((zWn q) = (-1)) → zW mX5_readQuestion X dep bc bs 239 22 [(0, xR 24), (1, xR q)] [xI (zWn q), xI 61, xI (zWa q), xR L] h Q) : zW mX5_readQuestion X dep bc bs 239 0 [(0, xR 24), (1, xR q)] [] h Q := by
  refine z_aload_n 1 dX5_readQuestion_0 rfl ?_
  refine z_getWf (RX9, "answer", "I", zWan) (List.mem_of_getElem? (i := 2) rfl) hq dX5_readQuestion_1 zb_1790 ?_
  show zW mX5_readQuestion X dep bc bs 239 4 [(0, xR 24), (1, xR q)] [xI (zWn q)] h Q
  refine z_iconst dX5_readQuestion_4 (zi32_d rfl) ?_
  refine z_icmp_eq (tgt := 30) dX5_readQuestion_5 (by decide) (fun c1 => ?_) (fun c1 => ?_)
  ·
    refine z_aload_n 0 dX5_readQuestion_30 rfl ?_
    refine z_getI (k := 5) (kz := 5) pk5 dX5_readQuestion_31 (by decide) zb_330 rfl (zOb.lit (by decide +kernel)) rfl ?_
    refine z_istore_n (lv' := [(2, xI (h 24 5)), (0, xR 24), (1, xR q)]) dX5_readQuestion_34 (by decide) rfl ?_
    refine z_iload_n 0 dX5_readQuestion_35 rfl ?_
    refine z_bipush dX5_readQuestion_36 (zi32_d rfl) (by decide) ?_
    refine z_icmp_eq (tgt := 59) dX5_readQuestion_38 (by decide) (fun c2 => ?_) (fun c2 => ?_)
    ·
      refine z_aload_n 1 dX5_readQuestion_59 rfl ?_
      exact k1 c1 c2
    ·
      refine z_iload_n 0 dX5_readQuestion_41 rfl ?_
      refine z_bipush dX5_readQuestion_42 (zi32_d rfl) (by decide) ?_
      refine z_icmp_eq (tgt := 59) dX5_readQuestion_44 (by decide) (fun c3 => ?_) (fun c3 => ?_)
      ·
        refine z_aload_n 1 dX5_readQuestion_59 rfl ?_
        exact k2 c1 c2 c3
      ·
        refine z_iload_n 0 dX5_readQuestion_47 rfl ?_
        refine z_bipush dX5_readQuestion_48 (zi32_d rfl) (by decide) ?_
        refine z_icmp_eq (tgt := 59) dX5_readQuestion_50 (by decide) (fun c4 => ?_) (fun c4 => ?_)
        ·
          refine z_aload_n 1 dX5_readQuestion_59 rfl ?_
          exact k3 c1 c2 c3 c4
        ·
          refine z_aload_n 1 dX5_readQuestion_53 rfl ?_
          refine z_iconst dX5_readQuestion_54 (zi32_d rfl) ?_
          exact k4 c1 c2 c3 c4
  ·
    refine z_aload_n 0 dX5_readQuestion_8 rfl ?_
    refine z_getD (v := L) (k := 1) (kz := 1) pk5 dX5_readQuestion_9 (by decide) zb_324 rfl (zOb.lit (by decide +kernel)) rfl hl ?_
    refine z_aload_n 1 dX5_readQuestion_12 rfl ?_
    refine z_getWf (RX9, "asks", "I", zWas) (List.mem_of_getElem? (i := 1) rfl) hq dX5_readQuestion_13 zb_1789 ?_
    show zW mX5_readQuestion X dep bc bs 239 16 [(0, xR 24), (1, xR q)] [xI (zWa q), xR L] h Q
    refine z_bipush dX5_readQuestion_16 (zi32_d rfl) (by decide) ?_
    refine z_aload_n 1 dX5_readQuestion_18 rfl ?_
    refine z_getWf (RX9, "answer", "I", zWan) (List.mem_of_getElem? (i := 2) rfl) hq dX5_readQuestion_19 zb_1790 ?_
    show zW mX5_readQuestion X dep bc bs 239 22 [(0, xR 24), (1, xR q)] [xI (zWn q), xI 61, xI (zWa q), xR L] h Q
    exact k5 c1

set_option maxRecDepth 20000 in
theorem rX5_readQuestion_22 {X : zX} {dep bc bs : Nat} (q : Int) (L : Int) {h : zH} {Q : Nat → zH → List zV → Prop} {P : Int → zH → Prop} (hL : zLawO L)
    (hZ : zW mX1_question X (dep - 1) 0 0 239 0 (zar 0 [xI (zWa q), xI 61, xI (zWn q)]) [] h (zQI P)) (hdep : 1 ≤ dep)
    (k : ∀ (v : Int) (g : zH), P v g → zW mX5_readQuestion X dep bc bs 239 25 [(0, xR 24), (1, xR q)] [xI v, xR L] g Q) : zW mX5_readQuestion X dep bc bs 239 22 [(0, xR 24), (1, xR q)] [xI (zWn q), xI 61, xI (zWa q), xR L] h Q :=
  z_invSQI (as := [xI (zWa q), xI 61, xI (zWn q)]) (st := [xR L]) (ra := [xI (zWn q), xI 61, xI (zWa q)]) hZ dX5_readQuestion_22 nX1_question zb_755 zb_756 zb_88 (by omega) (Nat.le_of_ble_eq_true rfl) (Nat.le_of_ble_eq_true rfl) rfl (fun v g hg => k v g hg)

set_option maxRecDepth 20000 in
theorem rX5_readQuestion_25 {X : zX} {dep bc bs : Nat} (q : Int) (L : Int) (v : Int) {h : zH} {Q : Nat → zH → List zV → Prop} {P : zH → Prop} (hL : zLawO L)
    (hZ : zW mX1_addStep X (dep - 1) 0 0 239 0 (zar 0 [xR L, xI v]) [] h (zQ0 P)) (hdep : 1 ≤ dep)
    (k : ∀ g : zH, P g → zW mX5_readQuestion X dep bc bs 239 28 [(0, xR 24), (1, xR q)] [] g Q) : zW mX5_readQuestion X dep bc bs 239 25 [(0, xR 24), (1, xR q)] [xI v, xR L] h Q :=
  z_invQ0 (ci := 1) (N := 13) (as := [xI v]) (st := []) (ra := [xI v]) hZ dX5_readQuestion_25 nX1_addStep zb_758 zb_759 zb_760 zb_88 hL.1 rfl (by omega) (Nat.le_of_ble_eq_true rfl) (Nat.le_of_ble_eq_true rfl) rfl (fun g hg => k g hg)

set_option maxRecDepth 20000 in
theorem bX5_readQuestion_28 {X : zX} {dep bc bs : Nat} (q : Int) {h : zH} {Q : Nat → zH → List zV → Prop}
    (k1 : Q 239 h [xI 1]) : zW mX5_readQuestion X dep bc bs 239 28 [(0, xR 24), (1, xR q)] [] h Q := by
  refine z_iconst dX5_readQuestion_28 (zi32_d rfl) ?_
  exact z_zret dX5_readQuestion_29 rfl (Or.inr rfl) (k1)

set_option maxRecDepth 20000 in
theorem rX5_readQuestion_55 {X : zX} {dep bc bs : Nat} (q : Int) (s : Int) {h : zH} {Q : Nat → zH → List zV → Prop} {P : Int → zH → Prop}
    (hZ : zW mX5_fail X (dep - 1) 0 0 239 0 (zar 0 [xR 24, xI 1]) [] h (zQI P)) (hdep : 1 ≤ dep)
    (k : ∀ (v : Int) (g : zH), P v g → zW mX5_readQuestion X dep bc bs 239 58 [(0, xR 24), (1, xR q), (2, xI s)] [xI v] g Q) : zW mX5_readQuestion X dep bc bs 239 55 [(0, xR 24), (1, xR q), (2, xI s)] [xI 1, xR 24] h Q :=
  z_invQI (ci := 5) (N := 8) (as := [xI 1]) (st := []) (ra := [xI 1]) hZ dX5_readQuestion_55 nX5_fail zb_693 zb_695 zb_5 zb_86 (zOb.lit (by decide +kernel)) rfl (by omega) (Nat.le_of_ble_eq_true rfl) (Nat.le_of_ble_eq_true rfl) rfl (fun v g hg => k v g hg)

set_option maxRecDepth 20000 in
theorem bX5_readQuestion_58 {X : zX} {dep bc bs : Nat} (q : Int) (s : Int) (v : Int) {h : zH} {Q : Nat → zH → List zV → Prop} (hv : v = 0 ∨ v = 1)
    (k1 : Q 239 h [xI v]) : zW mX5_readQuestion X dep bc bs 239 58 [(0, xR 24), (1, xR q), (2, xI s)] [xI v] h Q := by
  exact z_zret dX5_readQuestion_58 rfl hv (k1)

set_option maxRecDepth 20000 in
theorem rX5_readQuestion_60 {X : zX} {dep bc bs : Nat} (q : Int) (s : Int) {h : zH} {Q : Nat → zH → List zV → Prop} {P : zH → Prop}
    (hZ : zW mX5_readToken X (dep - 1) 0 0 239 0 (zar 0 [xR 24]) [] h (zQ0 P)) (hdep : 1 ≤ dep)
    (k : ∀ g : zH, P g → zW mX5_readQuestion X dep bc bs 239 63 [(0, xR 24), (1, xR q), (2, xI s)] [] g Q) : zW mX5_readQuestion X dep bc bs 239 60 [(0, xR 24), (1, xR q), (2, xI s)] [xR 24] h Q :=
  z_invQ0 (ci := 5) (N := 8) (as := []) (st := []) (ra := []) hZ dX5_readQuestion_60 nX5_readToken zb_685 zb_687 zb_3 zb_86 (zOb.lit (by decide +kernel)) rfl (by omega) (Nat.le_of_ble_eq_true rfl) (Nat.le_of_ble_eq_true rfl) rfl (fun g hg => k g hg)

set_option maxRecDepth 20000 in
theorem bX5_readQuestion_63 {X : zX} {dep bc bs : Nat} (q : Int) (s : Int) (L : Int) {h : zH} {Q : Nat → zH → List zV → Prop} (hq : 1000000 ≤ q ∧ q < 1000022) (hL : zLawO L) (hl : h 24 1 = L) (hc : 0 ≤ h 24 4 ∧ h 24 4 < 301)
    (k1 : (h 24 5) = 2 → zW mX5_readQuestion X dep bc bs 239 98 [(0, xR 24), (1, xR q), (2, xI s)] [xI (h 28 (h 24 4)), xI s, xI (zWa q), xR L] h Q)
    (k2 : ¬ ((h 24 5) = 2) → zW mX5_readQuestion X dep bc bs 239 73 [(0, xR 24), (1, xR q), (2, xI s)] [xI 1, xR 24] h Q) : zW mX5_readQuestion X dep bc bs 239 63 [(0, xR 24), (1, xR q), (2, xI s)] [] h Q := by
  refine z_aload_n 0 dX5_readQuestion_63 rfl ?_
  refine z_getI (k := 5) (kz := 5) pk5 dX5_readQuestion_64 (by decide) zb_330 rfl (zOb.lit (by decide +kernel)) rfl ?_
  refine z_iconst dX5_readQuestion_67 (zi32_d rfl) ?_
  refine z_icmp_eq (tgt := 77) dX5_readQuestion_68 (by decide) (fun c1 => ?_) (fun c1 => ?_)
  ·
    refine z_aload_n 0 dX5_readQuestion_77 rfl ?_
    refine z_getD (v := L) (k := 1) (kz := 1) pk5 dX5_readQuestion_78 (by decide) zb_324 rfl (zOb.lit (by decide +kernel)) rfl hl ?_
    refine z_aload_n 1 dX5_readQuestion_81 rfl ?_
    refine z_getWf (RX9, "asks", "I", zWas) (List.mem_of_getElem? (i := 1) rfl) hq dX5_readQuestion_82 zb_1789 ?_
    show zW mX5_readQuestion X dep bc bs 239 85 [(0, xR 24), (1, xR q), (2, xI s)] [xI (zWa q), xR L] h Q
    refine z_iload_n 2 dX5_readQuestion_85 rfl ?_
    refine z_aload_n 0 dX5_readQuestion_86 rfl ?_
    refine z_getS (v := 25) (k := 0) (kz := 0) pk5 dX5_readQuestion_87 (by decide) zb_323 rfl (zOb.lit (by decide +kernel)) rfl (by decide +kernel) ?_
    refine z_getS (v := 28) (k := 2) (kz := 2) pk8 dX5_readQuestion_90 (by decide) zb_246 rfl (zOb.lit (by decide +kernel)) rfl (by decide +kernel) ?_
    refine z_aload_n 0 dX5_readQuestion_93 rfl ?_
    refine z_getI (k := 4) (kz := 4) pk5 dX5_readQuestion_94 (by decide) zb_329 rfl (zOb.lit (by decide +kernel)) rfl ?_
    refine z_iald dX5_readQuestion_97 (zOb.lit (by decide +kernel)) (show 0 ≤ (h 24 4) ∧ (h 24 4) < 301 from ⟨by omega, by omega⟩).1 (show 0 ≤ (h 24 4) ∧ (h 24 4) < 301 from ⟨by omega, by omega⟩).2 ?_
    exact k1 c1
  ·
    refine z_aload_n 0 dX5_readQuestion_71 rfl ?_
    refine z_iconst dX5_readQuestion_72 (zi32_d rfl) ?_
    exact k2 c1

set_option maxRecDepth 20000 in
theorem rX5_readQuestion_73 {X : zX} {dep bc bs : Nat} (q : Int) (s : Int) {h : zH} {Q : Nat → zH → List zV → Prop} {P : Int → zH → Prop}
    (hZ : zW mX5_fail X (dep - 1) 0 0 239 0 (zar 0 [xR 24, xI 1]) [] h (zQI P)) (hdep : 1 ≤ dep)
    (k : ∀ (v : Int) (g : zH), P v g → zW mX5_readQuestion X dep bc bs 239 76 [(0, xR 24), (1, xR q), (2, xI s)] [xI v] g Q) : zW mX5_readQuestion X dep bc bs 239 73 [(0, xR 24), (1, xR q), (2, xI s)] [xI 1, xR 24] h Q :=
  z_invQI (ci := 5) (N := 8) (as := [xI 1]) (st := []) (ra := [xI 1]) hZ dX5_readQuestion_73 nX5_fail zb_693 zb_695 zb_5 zb_86 (zOb.lit (by decide +kernel)) rfl (by omega) (Nat.le_of_ble_eq_true rfl) (Nat.le_of_ble_eq_true rfl) rfl (fun v g hg => k v g hg)

set_option maxRecDepth 20000 in
theorem bX5_readQuestion_76 {X : zX} {dep bc bs : Nat} (q : Int) (s : Int) (v : Int) {h : zH} {Q : Nat → zH → List zV → Prop} (hv : v = 0 ∨ v = 1)
    (k1 : Q 239 h [xI v]) : zW mX5_readQuestion X dep bc bs 239 76 [(0, xR 24), (1, xR q), (2, xI s)] [xI v] h Q := by
  exact z_zret dX5_readQuestion_76 rfl hv (k1)

set_option maxRecDepth 20000 in
theorem rX5_readQuestion_98 {X : zX} {dep bc bs : Nat} (q : Int) (s : Int) (t : Int) (L : Int) {h : zH} {Q : Nat → zH → List zV → Prop} {P : Int → zH → Prop} (hL : zLawO L)
    (hZ : zW mX1_question X (dep - 1) 0 0 239 0 (zar 0 [xI (zWa q), xI s, xI t]) [] h (zQI P)) (hdep : 1 ≤ dep)
    (k : ∀ (v : Int) (g : zH), P v g → zW mX5_readQuestion X dep bc bs 239 101 [(0, xR 24), (1, xR q), (2, xI s)] [xI v, xR L] g Q) : zW mX5_readQuestion X dep bc bs 239 98 [(0, xR 24), (1, xR q), (2, xI s)] [xI t, xI s, xI (zWa q), xR L] h Q :=
  z_invSQI (as := [xI (zWa q), xI s, xI t]) (st := [xR L]) (ra := [xI t, xI s, xI (zWa q)]) hZ dX5_readQuestion_98 nX1_question zb_755 zb_756 zb_88 (by omega) (Nat.le_of_ble_eq_true rfl) (Nat.le_of_ble_eq_true rfl) rfl (fun v g hg => k v g hg)

set_option maxRecDepth 20000 in
theorem rX5_readQuestion_101 {X : zX} {dep bc bs : Nat} (q : Int) (s : Int) (L : Int) (v : Int) {h : zH} {Q : Nat → zH → List zV → Prop} {P : zH → Prop} (hL : zLawO L)
    (hZ : zW mX1_addStep X (dep - 1) 0 0 239 0 (zar 0 [xR L, xI v]) [] h (zQ0 P)) (hdep : 1 ≤ dep)
    (k : ∀ g : zH, P g → zW mX5_readQuestion X dep bc bs 239 104 [(0, xR 24), (1, xR q), (2, xI s)] [] g Q) : zW mX5_readQuestion X dep bc bs 239 101 [(0, xR 24), (1, xR q), (2, xI s)] [xI v, xR L] h Q :=
  z_invQ0 (ci := 1) (N := 13) (as := [xI v]) (st := []) (ra := [xI v]) hZ dX5_readQuestion_101 nX1_addStep zb_758 zb_759 zb_760 zb_88 hL.1 rfl (by omega) (Nat.le_of_ble_eq_true rfl) (Nat.le_of_ble_eq_true rfl) rfl (fun g hg => k g hg)

set_option maxRecDepth 20000 in
theorem bX5_readQuestion_104 {X : zX} {dep bc bs : Nat} (q : Int) (s : Int) {h : zH} {Q : Nat → zH → List zV → Prop}
    (k1 : zW mX5_readQuestion X dep bc bs 239 105 [(0, xR 24), (1, xR q), (2, xI s)] [xR 24] h Q) : zW mX5_readQuestion X dep bc bs 239 104 [(0, xR 24), (1, xR q), (2, xI s)] [] h Q := by
  refine z_aload_n 0 dX5_readQuestion_104 rfl ?_
  exact k1

set_option maxRecDepth 20000 in
theorem rX5_readQuestion_105 {X : zX} {dep bc bs : Nat} (q : Int) (s : Int) {h : zH} {Q : Nat → zH → List zV → Prop} {P : zH → Prop}
    (hZ : zW mX5_readToken X (dep - 1) 0 0 239 0 (zar 0 [xR 24]) [] h (zQ0 P)) (hdep : 1 ≤ dep)
    (k : ∀ g : zH, P g → zW mX5_readQuestion X dep bc bs 239 108 [(0, xR 24), (1, xR q), (2, xI s)] [] g Q) : zW mX5_readQuestion X dep bc bs 239 105 [(0, xR 24), (1, xR q), (2, xI s)] [xR 24] h Q :=
  z_invQ0 (ci := 5) (N := 8) (as := []) (st := []) (ra := []) hZ dX5_readQuestion_105 nX5_readToken zb_685 zb_687 zb_3 zb_86 (zOb.lit (by decide +kernel)) rfl (by omega) (Nat.le_of_ble_eq_true rfl) (Nat.le_of_ble_eq_true rfl) rfl (fun g hg => k g hg)

set_option maxRecDepth 20000 in
theorem bX5_readQuestion_108 {X : zX} {dep bc bs : Nat} (q : Int) (s : Int) {h : zH} {Q : Nat → zH → List zV → Prop}
    (k1 : Q 239 h [xI 1]) : zW mX5_readQuestion X dep bc bs 239 108 [(0, xR 24), (1, xR q), (2, xI s)] [] h Q := by
  refine z_iconst dX5_readQuestion_108 (zi32_d rfl) ?_
  exact z_zret dX5_readQuestion_109 rfl (Or.inr rfl) (k1)

set_option maxRecDepth 20000 in
theorem bX5_readOne_0 {X : zX} {dep bc bs : Nat} (w : Int) {h : zH} {Q : Nat → zH → List zV → Prop} (hw : zWd (h 24 6))
    (k1 : (h 24 6) < 0 → (h 24 6) = 1000007 → zW mX5_readOne X dep bc bs 239 49 [(0, xR 24), (1, xI w), (2, xR (h 24 6)), (3, xI 0)] [] h Q)
    (k2 : (h 24 6) < 0 → ¬ ((h 24 6) = 1000007) → (h 24 5) = 40 → zW mX5_readOne X dep bc bs 239 49 [(0, xR 24), (1, xI w), (2, xR (h 24 6)), (3, xI 0)] [] h Q)
    (k3 : (h 24 6) < 0 → ¬ ((h 24 6) = 1000007) → ¬ ((h 24 5) = 40) → zW mX5_readOne X dep bc bs 239 45 [(3, xI 0), (2, xR (h 24 6)), (0, xR 24), (1, xI w)] [xI 1, xR 24] h Q)
    (k4 : ¬ ((h 24 6) < 0) → (zWa (h 24 6)) = (-1) → (h 24 6) = 1000007 → zW mX5_readOne X dep bc bs 239 49 [(0, xR 24), (1, xI w), (2, xR (h 24 6)), (3, xI 0)] [] h Q)
    (k5 : ¬ ((h 24 6) < 0) → (zWa (h 24 6)) = (-1) → ¬ ((h 24 6) = 1000007) → (h 24 5) = 40 → zW mX5_readOne X dep bc bs 239 49 [(0, xR 24), (1, xI w), (2, xR (h 24 6)), (3, xI 0)] [] h Q)
    (k6 : ¬ ((h 24 6) < 0) → (zWa (h 24 6)) = (-1) → ¬ ((h 24 6) = 1000007) → ¬ ((h 24 5) = 40) → zW mX5_readOne X dep bc bs 239 45 [(3, xI 0), (2, xR (h 24 6)), (0, xR 24), (1, xI w)] [xI 1, xR 24] h Q)
    (k7 : ¬ ((h 24 6) < 0) → ¬ ((zWa (h 24 6)) = (-1)) → zW mX5_readOne X dep bc bs 239 49 [(0, xR 24), (1, xI w), (2, xR (h 24 6)), (3, xI 1)] [] h Q) : zW mX5_readOne X dep bc bs 239 0 [(0, xR 24), (1, xI w)] [] h Q := by
  refine z_aload_n 0 dX5_readOne_0 rfl ?_
  refine z_getD (v := (h 24 6)) (k := 6) (kz := 6) pk5 dX5_readOne_1 (by decide) zb_331 rfl (zOb.lit (by decide +kernel)) rfl rfl ?_
  refine z_astore_n (lv' := [(2, xR (h 24 6)), (0, xR 24), (1, xI w)]) dX5_readOne_4 (by decide) rfl ?_
  refine z_aload_n 0 dX5_readOne_5 rfl ?_
  refine z_ifnull (tgt := 21) dX5_readOne_6 (by decide) (fun c1 => ?_) (fun c1 => ?_)
  ·
    refine z_iconst dX5_readOne_21 (zi32_d rfl) ?_
    refine z_istore_n (lv' := [(3, xI 0), (2, xR (h 24 6)), (0, xR 24), (1, xI w)]) dX5_readOne_22 (by decide) rfl ?_
    refine z_iload_n 0 dX5_readOne_23 rfl ?_
    refine z_if_ne (tgt := 49) dX5_readOne_24 (by decide) (fun c => absurd c (by decide)) (fun _ => ?_)
    refine z_aload_n 1 dX5_readOne_27 rfl ?_
    refine z_getW 7 (by decide) dX5_readOne_28 zb_731 ?_
    show zW mX5_readOne X dep bc bs 239 31 [(3, xI 0), (2, xR (h 24 6)), (0, xR 24), (1, xI w)] [xR 1000007, xR (h 24 6)] h Q
    refine z_acmp_eq (tgt := 49) dX5_readOne_31 (by decide) hw (Or.inr ⟨by decide, by decide⟩) (fun c2 => ?_) (fun c2 => ?_)
    ·
      refine zW.sub (lv' := [(0, xR 24), (1, xI w), (2, xR (h 24 6)), (3, xI 0)]) [2, 3, 1, 0] rfl ?_
      exact k1 c1 c2
    ·
      refine z_aload_n 2 dX5_readOne_34 rfl ?_
      refine z_getI (k := 5) (kz := 5) pk5 dX5_readOne_35 (by decide) zb_330 rfl (zOb.lit (by decide +kernel)) rfl ?_
      refine z_bipush dX5_readOne_38 (zi32_d rfl) (by decide) ?_
      refine z_icmp_eq (tgt := 49) dX5_readOne_40 (by decide) (fun c3 => ?_) (fun c3 => ?_)
      ·
        refine zW.sub (lv' := [(0, xR 24), (1, xI w), (2, xR (h 24 6)), (3, xI 0)]) [2, 3, 1, 0] rfl ?_
        exact k2 c1 c2 c3
      ·
        refine z_aload_n 2 dX5_readOne_43 rfl ?_
        refine z_iconst dX5_readOne_44 (zi32_d rfl) ?_
        exact k3 c1 c2 c3
  ·
    refine z_aload_n 0 dX5_readOne_9 rfl ?_
    refine z_getWf (RX9, "asks", "I", zWas) (List.mem_of_getElem? (i := 1) rfl) (show 1000000 ≤ (h 24 6) ∧ (h 24 6) < 1000022 from ⟨by unfold zWd at hw; omega, by unfold zWd at hw; omega⟩) dX5_readOne_10 zb_1789 ?_
    show zW mX5_readOne X dep bc bs 239 13 [(2, xR (h 24 6)), (0, xR 24), (1, xI w)] [xI (zWa (h 24 6))] h Q
    refine z_iconst dX5_readOne_13 (zi32_d rfl) ?_
    refine z_icmp_eq (tgt := 21) dX5_readOne_14 (by decide) (fun c2 => ?_) (fun c2 => ?_)
    ·
      refine z_iconst dX5_readOne_21 (zi32_d rfl) ?_
      refine z_istore_n (lv' := [(3, xI 0), (2, xR (h 24 6)), (0, xR 24), (1, xI w)]) dX5_readOne_22 (by decide) rfl ?_
      refine z_iload_n 0 dX5_readOne_23 rfl ?_
      refine z_if_ne (tgt := 49) dX5_readOne_24 (by decide) (fun c => absurd c (by decide)) (fun _ => ?_)
      refine z_aload_n 1 dX5_readOne_27 rfl ?_
      refine z_getW 7 (by decide) dX5_readOne_28 zb_731 ?_
      show zW mX5_readOne X dep bc bs 239 31 [(3, xI 0), (2, xR (h 24 6)), (0, xR 24), (1, xI w)] [xR 1000007, xR (h 24 6)] h Q
      refine z_acmp_eq (tgt := 49) dX5_readOne_31 (by decide) hw (Or.inr ⟨by decide, by decide⟩) (fun c3 => ?_) (fun c3 => ?_)
      ·
        refine zW.sub (lv' := [(0, xR 24), (1, xI w), (2, xR (h 24 6)), (3, xI 0)]) [2, 3, 1, 0] rfl ?_
        exact k4 c1 c2 c3
      ·
        refine z_aload_n 2 dX5_readOne_34 rfl ?_
        refine z_getI (k := 5) (kz := 5) pk5 dX5_readOne_35 (by decide) zb_330 rfl (zOb.lit (by decide +kernel)) rfl ?_
        refine z_bipush dX5_readOne_38 (zi32_d rfl) (by decide) ?_
        refine z_icmp_eq (tgt := 49) dX5_readOne_40 (by decide) (fun c4 => ?_) (fun c4 => ?_)
        ·
          refine zW.sub (lv' := [(0, xR 24), (1, xI w), (2, xR (h 24 6)), (3, xI 0)]) [2, 3, 1, 0] rfl ?_
          exact k5 c1 c2 c3 c4
        ·
          refine z_aload_n 2 dX5_readOne_43 rfl ?_
          refine z_iconst dX5_readOne_44 (zi32_d rfl) ?_
          exact k6 c1 c2 c3 c4
    ·
      refine z_iconst dX5_readOne_17 (zi32_d rfl) ?_
      refine z_goto (tgt := 22) dX5_readOne_18 (by decide) ?_
      refine z_istore_n (lv' := [(3, xI 1), (2, xR (h 24 6)), (0, xR 24), (1, xI w)]) dX5_readOne_22 (by decide) rfl ?_
      refine z_iload_n 0 dX5_readOne_23 rfl ?_
      refine z_if_ne (tgt := 49) dX5_readOne_24 (by decide) (fun _ => ?_) (fun c => absurd c (by decide))
      refine zW.sub (lv' := [(0, xR 24), (1, xI w), (2, xR (h 24 6)), (3, xI 1)]) [2, 3, 1, 0] rfl ?_
      exact k7 c1 c2

set_option maxRecDepth 20000 in
theorem rX5_readOne_45 {X : zX} {dep bc bs : Nat} (w : Int) (q : Int) (y : Int) {h : zH} {Q : Nat → zH → List zV → Prop} {P : Int → zH → Prop}
    (hZ : zW mX5_fail X (dep - 1) 0 0 239 0 (zar 0 [xR 24, xI 1]) [] h (zQI P)) (hdep : 1 ≤ dep)
    (k : ∀ (v : Int) (g : zH), P v g → zW mX5_readOne X dep bc bs 239 48 [(0, xR 24), (1, xI w), (2, xR q), (3, xI y)] [xI v] g Q) : zW mX5_readOne X dep bc bs 239 45 [(0, xR 24), (1, xI w), (2, xR q), (3, xI y)] [xI 1, xR 24] h Q :=
  z_invQI (ci := 5) (N := 8) (as := [xI 1]) (st := []) (ra := [xI 1]) hZ dX5_readOne_45 nX5_fail zb_693 zb_695 zb_5 zb_86 (zOb.lit (by decide +kernel)) rfl (by omega) (Nat.le_of_ble_eq_true rfl) (Nat.le_of_ble_eq_true rfl) rfl (fun v g hg => k v g hg)

set_option maxRecDepth 20000 in
theorem bX5_readOne_48 {X : zX} {dep bc bs : Nat} (w : Int) (q : Int) (y : Int) (v : Int) {h : zH} {Q : Nat → zH → List zV → Prop} (hv : v = 0 ∨ v = 1)
    (k1 : Q 239 h [xI v]) : zW mX5_readOne X dep bc bs 239 48 [(0, xR 24), (1, xI w), (2, xR q), (3, xI y)] [xI v] h Q := by
  exact z_zret dX5_readOne_48 rfl hv (k1)

set_option maxRecDepth 20000 in
theorem bX5_readOne_49 {X : zX} {dep bc bs : Nat} (w : Int) (q : Int) (y : Int) {h : zH} {Q : Nat → zH → List zV → Prop} (ho : 0 ≤ h 24 7 ∧ h 24 7 ≤ 60)
    (k1 : 60 ≤ (h 24 7) → zW mX5_readOne X dep bc bs 239 66 [(0, xR 24), (1, xI w), (2, xR q), (3, xI y)] [xI 4, xR 24] h Q)
    (k2 : ¬ (60 ≤ (h 24 7)) → w < 12 → zW mX5_readOne X dep bc bs 239 81 [(0, xR 24), (1, xI w), (2, xR q), (3, xI y)] [xR 24] (zst h 24 7 ((h 24 7) + 1)) Q)
    (k3 : ¬ (60 ≤ (h 24 7)) → ¬ (w < 12) → zW mX5_readOne X dep bc bs 239 66 [(0, xR 24), (1, xI w), (2, xR q), (3, xI y)] [xI 4, xR 24] h Q) : zW mX5_readOne X dep bc bs 239 49 [(0, xR 24), (1, xI w), (2, xR q), (3, xI y)] [] h Q := by
  refine z_aload_n 0 dX5_readOne_49 rfl ?_
  refine z_getI (k := 7) (kz := 7) pk5 dX5_readOne_50 (by decide) zb_332 rfl (zOb.lit (by decide +kernel)) rfl ?_
  refine z_bipush dX5_readOne_53 (zi32_d rfl) (by decide) ?_
  refine z_icmp_ge (tgt := 64) dX5_readOne_55 (by decide) (fun c1 => ?_) (fun c1 => ?_)
  ·
    refine z_aload_n 0 dX5_readOne_64 rfl ?_
    refine z_iconst dX5_readOne_65 (zi32_d rfl) ?_
    exact k1 c1
  ·
    refine z_iload_n 1 dX5_readOne_58 rfl ?_
    refine z_bipush dX5_readOne_59 (zi32_d rfl) (by decide) ?_
    refine z_icmp_lt (tgt := 70) dX5_readOne_61 (by decide) (fun c2 => ?_) (fun c2 => ?_)
    ·
      refine z_aload_n 0 dX5_readOne_70 rfl ?_
      refine z_dup dX5_readOne_71 zt2 ?_
      refine z_getI (k := 7) (kz := 7) pk5 dX5_readOne_72 (by decide) zb_332 rfl (zOb.lit (by decide +kernel)) rfl ?_
      refine z_iconst dX5_readOne_75 (zi32_d rfl) ?_
      refine z_iaddN dX5_readOne_76 (show -2147483648 ≤ (h 24 7) + 1 ∧ (h 24 7) + 1 < 2147483648 from ⟨by omega, by omega⟩).1 (show -2147483648 ≤ (h 24 7) + 1 ∧ (h 24 7) + 1 < 2147483648 from ⟨by omega, by omega⟩).2 ?_
      refine z_putI (k := 7) (kz := 7) pk5 dX5_readOne_77 (by decide) zb_332 rfl (zFit_int _) (zOb.lit (by decide +kernel)) rfl ?_
      refine z_aload_n 0 dX5_readOne_80 rfl ?_
      exact k2 c1 c2
    ·
      refine z_aload_n 0 dX5_readOne_64 rfl ?_
      refine z_iconst dX5_readOne_65 (zi32_d rfl) ?_
      exact k3 c1 c2

set_option maxRecDepth 20000 in
theorem rX5_readOne_66 {X : zX} {dep bc bs : Nat} (w : Int) (q : Int) (y : Int) {h : zH} {Q : Nat → zH → List zV → Prop} {P : Int → zH → Prop}
    (hZ : zW mX5_fail X (dep - 1) 0 0 239 0 (zar 0 [xR 24, xI 4]) [] h (zQI P)) (hdep : 1 ≤ dep)
    (k : ∀ (v : Int) (g : zH), P v g → zW mX5_readOne X dep bc bs 239 69 [(0, xR 24), (1, xI w), (2, xR q), (3, xI y)] [xI v] g Q) : zW mX5_readOne X dep bc bs 239 66 [(0, xR 24), (1, xI w), (2, xR q), (3, xI y)] [xI 4, xR 24] h Q :=
  z_invQI (ci := 5) (N := 8) (as := [xI 4]) (st := []) (ra := [xI 4]) hZ dX5_readOne_66 nX5_fail zb_693 zb_695 zb_5 zb_86 (zOb.lit (by decide +kernel)) rfl (by omega) (Nat.le_of_ble_eq_true rfl) (Nat.le_of_ble_eq_true rfl) rfl (fun v g hg => k v g hg)

set_option maxRecDepth 20000 in
theorem bX5_readOne_69 {X : zX} {dep bc bs : Nat} (w : Int) (q : Int) (y : Int) (v : Int) {h : zH} {Q : Nat → zH → List zV → Prop} (hv : v = 0 ∨ v = 1)
    (k1 : Q 239 h [xI v]) : zW mX5_readOne X dep bc bs 239 69 [(0, xR 24), (1, xI w), (2, xR q), (3, xI y)] [xI v] h Q := by
  exact z_zret dX5_readOne_69 rfl hv (k1)

set_option maxRecDepth 20000 in
theorem rX5_readOne_81 {X : zX} {dep bc bs : Nat} (w : Int) (q : Int) (y : Int) {h : zH} {Q : Nat → zH → List zV → Prop} {P : zH → Prop}
    (hZ : zW mX5_readToken X (dep - 1) 0 0 239 0 (zar 0 [xR 24]) [] h (zQ0 P)) (hdep : 1 ≤ dep)
    (k : ∀ g : zH, P g → zW mX5_readOne X dep bc bs 239 84 [(0, xR 24), (1, xI w), (2, xR q), (3, xI y)] [] g Q) : zW mX5_readOne X dep bc bs 239 81 [(0, xR 24), (1, xI w), (2, xR q), (3, xI y)] [xR 24] h Q :=
  z_invQ0 (ci := 5) (N := 8) (as := []) (st := []) (ra := []) hZ dX5_readOne_81 nX5_readToken zb_685 zb_687 zb_3 zb_86 (zOb.lit (by decide +kernel)) rfl (by omega) (Nat.le_of_ble_eq_true rfl) (Nat.le_of_ble_eq_true rfl) rfl (fun g hg => k g hg)

set_option maxRecDepth 20000 in
theorem bX5_readOne_84 {X : zX} {dep bc bs : Nat} (w : Int) (q : Int) (y : Int) {h : zH} {Q : Nat → zH → List zV → Prop} (hq : zWd q) (hw : 0 ≤ w ∧ w < 12)
    (k1 : y = 0 → q = 1000007 → zW mX5_readOne X dep bc bs 239 130 [(0, xR 24), (1, xI w), (2, xR q), (3, xI y)] [xI (w + 1), xR 24] h Q)
    (k2 : y = 0 → ¬ (q = 1000007) → zW mX5_readOne X dep bc bs 239 105 [(0, xR 24), (1, xI w), (2, xR q), (3, xI y)] [xI (w + 1), xR 24] h Q)
    (k3 : ¬ (y = 0) → zW mX5_readOne X dep bc bs 239 90 [(0, xR 24), (1, xI w), (2, xR q), (3, xI y)] [xR q, xR 24] h Q) : zW mX5_readOne X dep bc bs 239 84 [(0, xR 24), (1, xI w), (2, xR q), (3, xI y)] [] h Q := by
  refine z_iload_n 3 dX5_readOne_84 rfl ?_
  refine z_if_eq (tgt := 94) dX5_readOne_85 (by decide) (fun c1 => ?_) (fun c1 => ?_)
  ·
    refine z_aload_n 2 dX5_readOne_94 rfl ?_
    refine z_getW 7 (by decide) dX5_readOne_95 zb_731 ?_
    show zW mX5_readOne X dep bc bs 239 98 [(0, xR 24), (1, xI w), (2, xR q), (3, xI y)] [xR 1000007, xR q] h Q
    refine z_acmp_eq (tgt := 126) dX5_readOne_98 (by decide) hq (Or.inr ⟨by decide, by decide⟩) (fun c2 => ?_) (fun c2 => ?_)
    ·
      refine z_aload_n 0 dX5_readOne_126 rfl ?_
      refine z_iload_n 1 dX5_readOne_127 rfl ?_
      refine z_iconst dX5_readOne_128 (zi32_d rfl) ?_
      refine z_iaddN dX5_readOne_129 (show -2147483648 ≤ w + 1 ∧ w + 1 < 2147483648 from ⟨by omega, by omega⟩).1 (show -2147483648 ≤ w + 1 ∧ w + 1 < 2147483648 from ⟨by omega, by omega⟩).2 ?_
      exact k1 c1 c2
    ·
      refine z_aload_n 0 dX5_readOne_101 rfl ?_
      refine z_iload_n 1 dX5_readOne_102 rfl ?_
      refine z_iconst dX5_readOne_103 (zi32_d rfl) ?_
      refine z_iaddN dX5_readOne_104 (show -2147483648 ≤ w + 1 ∧ w + 1 < 2147483648 from ⟨by omega, by omega⟩).1 (show -2147483648 ≤ w + 1 ∧ w + 1 < 2147483648 from ⟨by omega, by omega⟩).2 ?_
      exact k2 c1 c2
  ·
    refine z_aload_n 0 dX5_readOne_88 rfl ?_
    refine z_aload_n 2 dX5_readOne_89 rfl ?_
    exact k3 c1

set_option maxRecDepth 20000 in
theorem rX5_readOne_90 {X : zX} {dep bc bs : Nat} (w : Int) (q : Int) (y : Int) {h : zH} {Q : Nat → zH → List zV → Prop} {P : Int → zH → Prop}
    (hZ : zW mX5_readQuestion X (dep - 1) 0 0 239 0 (zar 0 [xR 24, xR q]) [] h (zQI P)) (hdep : 1 ≤ dep)
    (k : ∀ (v : Int) (g : zH), P v g → zW mX5_readOne X dep bc bs 239 93 [(0, xR 24), (1, xI w), (2, xR q), (3, xI y)] [xI v] g Q) : zW mX5_readOne X dep bc bs 239 90 [(0, xR 24), (1, xI w), (2, xR q), (3, xI y)] [xR q, xR 24] h Q :=
  z_invQI (ci := 5) (N := 8) (as := [xR q]) (st := []) (ra := [xR q]) hZ dX5_readOne_90 nX5_readQuestion zb_751 zb_753 zb_15 zb_86 (zOb.lit (by decide +kernel)) rfl (by omega) (Nat.le_of_ble_eq_true rfl) (Nat.le_of_ble_eq_true rfl) rfl (fun v g hg => k v g hg)

set_option maxRecDepth 20000 in
theorem bX5_readOne_93 {X : zX} {dep bc bs : Nat} (w : Int) (q : Int) (y : Int) (v : Int) {h : zH} {Q : Nat → zH → List zV → Prop} (hv : v = 0 ∨ v = 1)
    (k1 : Q 239 h [xI v]) : zW mX5_readOne X dep bc bs 239 93 [(0, xR 24), (1, xI w), (2, xR q), (3, xI y)] [xI v] h Q := by
  exact z_zret dX5_readOne_93 rfl hv (k1)

set_option maxRecDepth 20000 in
theorem rX5_readOne_105 {X : zX} {dep bc bs : Nat} (w : Int) (q : Int) (y : Int) {h : zH} {Q : Nat → zH → List zV → Prop} {P : Int → zH → Prop}
    (hZ : zW mX5_readCond X (dep - 1) 0 0 239 0 (zar 0 [xR 24, xI (w + 1)]) [] h (zQI P)) (hdep : 1 ≤ dep)
    (k : ∀ (v : Int) (g : zH), P v g → zW mX5_readOne X dep bc bs 239 108 [(0, xR 24), (1, xI w), (2, xR q), (3, xI y)] [xI v] g Q) : zW mX5_readOne X dep bc bs 239 105 [(0, xR 24), (1, xI w), (2, xR q), (3, xI y)] [xI (w + 1), xR 24] h Q :=
  z_invQI (ci := 5) (N := 8) (as := [xI (w + 1)]) (st := []) (ra := [xI (w + 1)]) hZ dX5_readOne_105 nX5_readCond zb_739 zb_741 zb_12 zb_86 (zOb.lit (by decide +kernel)) rfl (by omega) (Nat.le_of_ble_eq_true rfl) (Nat.le_of_ble_eq_true rfl) rfl (fun v g hg => k v g hg)

set_option maxRecDepth 20000 in
theorem bX5_readOne_108 {X : zX} {dep bc bs : Nat} (w : Int) (q : Int) (y : Int) (v : Int) {h : zH} {Q : Nat → zH → List zV → Prop}
    (k1 : v = 0 → Q 239 h [xI 0])
    (k2 : ¬ (v = 0) → zW mX5_readOne X dep bc bs 239 114 [(0, xR 24), (1, xI w), (2, xR q), (3, xI y)] [xI 41, xR 24] h Q) : zW mX5_readOne X dep bc bs 239 108 [(0, xR 24), (1, xI w), (2, xR q), (3, xI y)] [xI v] h Q := by
  refine z_if_eq (tgt := 124) dX5_readOne_108 (by decide) (fun c1 => ?_) (fun c1 => ?_)
  ·
    refine z_iconst dX5_readOne_124 (zi32_d rfl) ?_
    exact z_zret dX5_readOne_125 rfl (Or.inl rfl) (k1 c1)
  ·
    refine z_aload_n 0 dX5_readOne_111 rfl ?_
    refine z_bipush dX5_readOne_112 (zi32_d rfl) (by decide) ?_
    exact k2 c1

set_option maxRecDepth 20000 in
theorem rX5_readOne_114 {X : zX} {dep bc bs : Nat} (w : Int) (q : Int) (y : Int) {h : zH} {Q : Nat → zH → List zV → Prop} {P : Int → zH → Prop}
    (hZ : zW mX5_readSign X (dep - 1) 0 0 239 0 (zar 0 [xR 24, xI 41]) [] h (zQI P)) (hdep : 1 ≤ dep)
    (k : ∀ (v : Int) (g : zH), P v g → zW mX5_readOne X dep bc bs 239 117 [(0, xR 24), (1, xI w), (2, xR q), (3, xI y)] [xI v] g Q) : zW mX5_readOne X dep bc bs 239 114 [(0, xR 24), (1, xI w), (2, xR q), (3, xI y)] [xI 41, xR 24] h Q :=
  z_invQI (ci := 5) (N := 8) (as := [xI 41]) (st := []) (ra := [xI 41]) hZ dX5_readOne_114 nX5_readSign zb_762 zb_764 zb_16 zb_86 (zOb.lit (by decide +kernel)) rfl (by omega) (Nat.le_of_ble_eq_true rfl) (Nat.le_of_ble_eq_true rfl) rfl (fun v g hg => k v g hg)

set_option maxRecDepth 20000 in
theorem bX5_readOne_117 {X : zX} {dep bc bs : Nat} (w : Int) (q : Int) (y : Int) (v : Int) {h : zH} {Q : Nat → zH → List zV → Prop}
    (k1 : Q 239 h [xI (if v = 0 then 0 else 1 : Int)]) : zW mX5_readOne X dep bc bs 239 117 [(0, xR 24), (1, xI w), (2, xR q), (3, xI y)] [xI v] h Q := by
  suffices KJ : zW mX5_readOne X dep bc bs 239 125 [(0, xR 24), (1, xI w), (2, xR q), (3, xI y)] [xI (if v = 0 then 0 else 1 : Int)] h Q by
    refine z_if_eq (tgt := 124) dX5_readOne_117 (by decide) (fun j1 => ?_) (fun j1 => ?_)
    ·
      refine z_iconst dX5_readOne_124 (zi32_d rfl) ?_
      rw [if_pos j1] at KJ
      exact KJ
    ·
      refine z_iconst dX5_readOne_120 (zi32_d rfl) ?_
      refine z_goto (tgt := 125) dX5_readOne_121 (by decide) ?_
      rw [if_neg j1] at KJ
      exact KJ
  exact z_zret dX5_readOne_125 rfl (by repeat (first | (left; rfl) | (right; rfl) | split)) (k1)

set_option maxRecDepth 20000 in
theorem rX5_readOne_130 {X : zX} {dep bc bs : Nat} (w : Int) (q : Int) (y : Int) {h : zH} {Q : Nat → zH → List zV → Prop} {P : Int → zH → Prop}
    (hZ : zW mX5_readOne X (dep - 1) 0 0 239 0 (zar 0 [xR 24, xI (w + 1)]) [] h (zQI P)) (hdep : 1 ≤ dep)
    (k : ∀ (v : Int) (g : zH), P v g → zW mX5_readOne X dep bc bs 239 133 [(0, xR 24), (1, xI w), (2, xR q), (3, xI y)] [xI v] g Q) : zW mX5_readOne X dep bc bs 239 130 [(0, xR 24), (1, xI w), (2, xR q), (3, xI y)] [xI (w + 1), xR 24] h Q :=
  z_invQI (ci := 5) (N := 8) (as := [xI (w + 1)]) (st := []) (ra := [xI (w + 1)]) hZ dX5_readOne_130 nX5_readOne zb_747 zb_749 zb_14 zb_86 (zOb.lit (by decide +kernel)) rfl (by omega) (Nat.le_of_ble_eq_true rfl) (Nat.le_of_ble_eq_true rfl) rfl (fun v g hg => k v g hg)

set_option maxRecDepth 20000 in
theorem bX5_readOne_133 {X : zX} {dep bc bs : Nat} (w : Int) (q : Int) (y : Int) (v : Int) (L : Int) {h : zH} {Q : Nat → zH → List zV → Prop} (hL : zLawO L) (hl : h 24 1 = L)
    (k1 : ¬ v = 0 → zW mX5_readOne X dep bc bs 239 144 [(0, xR 24), (1, xI w), (2, xR q), (3, xI y)] [xI (-3), xR L] h Q)
    (k2 : v = 0 → Q 239 h [xI 0]) : zW mX5_readOne X dep bc bs 239 133 [(0, xR 24), (1, xI w), (2, xR q), (3, xI y)] [xI v] h Q := by
  refine z_if_ne (tgt := 138) dX5_readOne_133 (by decide) (fun c1 => ?_) (fun c1 => ?_)
  ·
    refine z_aload_n 0 dX5_readOne_138 rfl ?_
    refine z_getD (v := L) (k := 1) (kz := 1) pk5 dX5_readOne_139 (by decide) zb_324 rfl (zOb.lit (by decide +kernel)) rfl hl ?_
    refine z_bipush dX5_readOne_142 (zi32_d rfl) (by decide) ?_
    exact k1 c1
  ·
    refine z_iconst dX5_readOne_136 (zi32_d rfl) ?_
    exact z_zret dX5_readOne_137 rfl (Or.inl rfl) (k2 c1)

set_option maxRecDepth 20000 in
theorem rX5_readOne_144 {X : zX} {dep bc bs : Nat} (w : Int) (q : Int) (y : Int) (L : Int) {h : zH} {Q : Nat → zH → List zV → Prop} {P : zH → Prop} (hL : zLawO L)
    (hZ : zW mX1_addStep X (dep - 1) 0 0 239 0 (zar 0 [xR L, xI (-3)]) [] h (zQ0 P)) (hdep : 1 ≤ dep)
    (k : ∀ g : zH, P g → zW mX5_readOne X dep bc bs 239 147 [(0, xR 24), (1, xI w), (2, xR q), (3, xI y)] [] g Q) : zW mX5_readOne X dep bc bs 239 144 [(0, xR 24), (1, xI w), (2, xR q), (3, xI y)] [xI (-3), xR L] h Q :=
  z_invQ0 (ci := 1) (N := 13) (as := [xI (-3)]) (st := []) (ra := [xI (-3)]) hZ dX5_readOne_144 nX1_addStep zb_758 zb_759 zb_760 zb_88 hL.1 rfl (by omega) (Nat.le_of_ble_eq_true rfl) (Nat.le_of_ble_eq_true rfl) rfl (fun g hg => k g hg)

set_option maxRecDepth 20000 in
theorem bX5_readOne_147 {X : zX} {dep bc bs : Nat} (w : Int) (q : Int) (y : Int) {h : zH} {Q : Nat → zH → List zV → Prop}
    (k1 : Q 239 h [xI 1]) : zW mX5_readOne X dep bc bs 239 147 [(0, xR 24), (1, xI w), (2, xR q), (3, xI y)] [] h Q := by
  refine z_iconst dX5_readOne_147 (zi32_d rfl) ?_
  exact z_zret dX5_readOne_148 rfl (Or.inr rfl) (k1)

set_option maxRecDepth 20000 in
theorem bX5_readAll_0 {X : zX} {dep bc bs : Nat} (w : Int) {h : zH} {Q : Nat → zH → List zV → Prop}
    (k1 : zW mX5_readAll X dep bc bs 239 2 [(0, xR 24), (1, xI w)] [xI w, xR 24] h Q) : zW mX5_readAll X dep bc bs 239 0 [(0, xR 24), (1, xI w)] [] h Q := by
  refine z_aload_n 0 dX5_readAll_0 rfl ?_
  refine z_iload_n 1 dX5_readAll_1 rfl ?_
  exact k1

set_option maxRecDepth 20000 in
theorem rX5_readAll_2 {X : zX} {dep bc bs : Nat} (w : Int) {h : zH} {Q : Nat → zH → List zV → Prop} {P : Int → zH → Prop}
    (hZ : zW mX5_readOne X (dep - 1) 0 0 239 0 (zar 0 [xR 24, xI w]) [] h (zQI P)) (hdep : 1 ≤ dep)
    (k : ∀ (v : Int) (g : zH), P v g → zW mX5_readAll X dep bc bs 239 5 [(0, xR 24), (1, xI w)] [xI v] g Q) : zW mX5_readAll X dep bc bs 239 2 [(0, xR 24), (1, xI w)] [xI w, xR 24] h Q :=
  z_invQI (ci := 5) (N := 8) (as := [xI w]) (st := []) (ra := [xI w]) hZ dX5_readAll_2 nX5_readOne zb_747 zb_749 zb_14 zb_86 (zOb.lit (by decide +kernel)) rfl (by omega) (Nat.le_of_ble_eq_true rfl) (Nat.le_of_ble_eq_true rfl) rfl (fun v g hg => k v g hg)

set_option maxRecDepth 20000 in
theorem bX5_readAll_5 {X : zX} {dep bc bs : Nat} (w : Int) (v : Int) {h : zH} {Q : Nat → zH → List zV → Prop}
    (k1 : ¬ v = 0 → zW mX5_readAll X dep bc bs 239 12 [(0, xR 24), (1, xI w), (2, xI 0)] [] h Q)
    (k2 : v = 0 → Q 239 h [xI 0]) : zW mX5_readAll X dep bc bs 239 5 [(0, xR 24), (1, xI w)] [xI v] h Q := by
  refine z_if_ne (tgt := 10) dX5_readAll_5 (by decide) (fun c1 => ?_) (fun c1 => ?_)
  ·
    refine z_iconst dX5_readAll_10 (zi32_d rfl) ?_
    refine z_istore_n (lv' := [(2, xI 0), (0, xR 24), (1, xI w)]) dX5_readAll_11 (by decide) rfl ?_
    refine zW.sub (lv' := [(0, xR 24), (1, xI w), (2, xI 0)]) [1, 2, 0] rfl ?_
    exact k1 c1
  ·
    refine z_iconst dX5_readAll_8 (zi32_d rfl) ?_
    exact z_zret dX5_readAll_9 rfl (Or.inl rfl) (k2 c1)

set_option maxRecDepth 20000 in
theorem bX5_readAll_12 {X : zX} {dep bc bs : Nat} (w : Int) (n : Int) {h : zH} {Q : Nat → zH → List zV → Prop} (hw : zWd (h 24 6))
    (k1 : 60 ≤ n → Q 239 h [xI 1])
    (k2 : ¬ (60 ≤ n) → ¬ (h 24 6) = 1000010 → Q 239 h [xI 1])
    (k3 : ¬ (60 ≤ n) → (h 24 6) = 1000010 → zW mX5_readAll X dep bc bs 239 29 [(0, xR 24), (1, xI w), (2, xI n)] [xR 24] h Q) : zW mX5_readAll X dep bc bs 239 12 [(0, xR 24), (1, xI w), (2, xI n)] [] h Q := by
  refine z_iload_n 2 dX5_readAll_12 rfl ?_
  refine z_bipush dX5_readAll_13 (zi32_d rfl) (by decide) ?_
  refine z_icmp_ge (tgt := 56) dX5_readAll_15 (by decide) (fun c1 => ?_) (fun c1 => ?_)
  ·
    refine z_iconst dX5_readAll_56 (zi32_d rfl) ?_
    exact z_zret dX5_readAll_57 rfl (Or.inr rfl) (k1 c1)
  ·
    refine z_aload_n 0 dX5_readAll_18 rfl ?_
    refine z_getD (v := (h 24 6)) (k := 6) (kz := 6) pk5 dX5_readAll_19 (by decide) zb_331 rfl (zOb.lit (by decide +kernel)) rfl rfl ?_
    refine z_getW 10 (by decide) dX5_readAll_22 zb_766 ?_
    show zW mX5_readAll X dep bc bs 239 25 [(0, xR 24), (1, xI w), (2, xI n)] [xR 1000010, xR (h 24 6)] h Q
    refine z_acmp_ne (tgt := 56) dX5_readAll_25 (by decide) hw (Or.inr ⟨by decide, by decide⟩) (fun c2 => ?_) (fun c2 => ?_)
    ·
      refine z_iconst dX5_readAll_56 (zi32_d rfl) ?_
      exact z_zret dX5_readAll_57 rfl (Or.inr rfl) (k2 c1 c2)
    ·
      refine z_aload_n 0 dX5_readAll_28 rfl ?_
      exact k3 c1 c2

set_option maxRecDepth 20000 in
theorem rX5_readAll_29 {X : zX} {dep bc bs : Nat} (w : Int) (n : Int) {h : zH} {Q : Nat → zH → List zV → Prop} {P : zH → Prop}
    (hZ : zW mX5_readToken X (dep - 1) 0 0 239 0 (zar 0 [xR 24]) [] h (zQ0 P)) (hdep : 1 ≤ dep)
    (k : ∀ g : zH, P g → zW mX5_readAll X dep bc bs 239 32 [(0, xR 24), (1, xI w), (2, xI n)] [] g Q) : zW mX5_readAll X dep bc bs 239 29 [(0, xR 24), (1, xI w), (2, xI n)] [xR 24] h Q :=
  z_invQ0 (ci := 5) (N := 8) (as := []) (st := []) (ra := []) hZ dX5_readAll_29 nX5_readToken zb_685 zb_687 zb_3 zb_86 (zOb.lit (by decide +kernel)) rfl (by omega) (Nat.le_of_ble_eq_true rfl) (Nat.le_of_ble_eq_true rfl) rfl (fun g hg => k g hg)

set_option maxRecDepth 20000 in
theorem bX5_readAll_32 {X : zX} {dep bc bs : Nat} (w : Int) (n : Int) {h : zH} {Q : Nat → zH → List zV → Prop}
    (k1 : zW mX5_readAll X dep bc bs 239 34 [(0, xR 24), (1, xI w), (2, xI n)] [xI w, xR 24] h Q) : zW mX5_readAll X dep bc bs 239 32 [(0, xR 24), (1, xI w), (2, xI n)] [] h Q := by
  refine z_aload_n 0 dX5_readAll_32 rfl ?_
  refine z_iload_n 1 dX5_readAll_33 rfl ?_
  exact k1

set_option maxRecDepth 20000 in
theorem rX5_readAll_34 {X : zX} {dep bc bs : Nat} (w : Int) (n : Int) {h : zH} {Q : Nat → zH → List zV → Prop} {P : Int → zH → Prop}
    (hZ : zW mX5_readOne X (dep - 1) 0 0 239 0 (zar 0 [xR 24, xI w]) [] h (zQI P)) (hdep : 1 ≤ dep)
    (k : ∀ (v : Int) (g : zH), P v g → zW mX5_readAll X dep bc bs 239 37 [(0, xR 24), (1, xI w), (2, xI n)] [xI v] g Q) : zW mX5_readAll X dep bc bs 239 34 [(0, xR 24), (1, xI w), (2, xI n)] [xI w, xR 24] h Q :=
  z_invQI (ci := 5) (N := 8) (as := [xI w]) (st := []) (ra := [xI w]) hZ dX5_readAll_34 nX5_readOne zb_747 zb_749 zb_14 zb_86 (zOb.lit (by decide +kernel)) rfl (by omega) (Nat.le_of_ble_eq_true rfl) (Nat.le_of_ble_eq_true rfl) rfl (fun v g hg => k v g hg)

set_option maxRecDepth 20000 in
theorem bX5_readAll_37 {X : zX} {dep bc bs : Nat} (w : Int) (n : Int) (v : Int) (L : Int) {h : zH} {Q : Nat → zH → List zV → Prop} (hL : zLawO L) (hl : h 24 1 = L)
    (k1 : ¬ v = 0 → zW mX5_readAll X dep bc bs 239 47 [(0, xR 24), (1, xI w), (2, xI n)] [xI (-1), xR L] h Q)
    (k2 : v = 0 → Q 239 h [xI 0]) : zW mX5_readAll X dep bc bs 239 37 [(0, xR 24), (1, xI w), (2, xI n)] [xI v] h Q := by
  refine z_if_ne (tgt := 42) dX5_readAll_37 (by decide) (fun c1 => ?_) (fun c1 => ?_)
  ·
    refine z_aload_n 0 dX5_readAll_42 rfl ?_
    refine z_getD (v := L) (k := 1) (kz := 1) pk5 dX5_readAll_43 (by decide) zb_324 rfl (zOb.lit (by decide +kernel)) rfl hl ?_
    refine z_iconst dX5_readAll_46 (zi32_d rfl) ?_
    exact k1 c1
  ·
    refine z_iconst dX5_readAll_40 (zi32_d rfl) ?_
    exact z_zret dX5_readAll_41 rfl (Or.inl rfl) (k2 c1)

set_option maxRecDepth 20000 in
theorem rX5_readAll_47 {X : zX} {dep bc bs : Nat} (w : Int) (n : Int) (L : Int) {h : zH} {Q : Nat → zH → List zV → Prop} {P : zH → Prop} (hL : zLawO L)
    (hZ : zW mX1_addStep X (dep - 1) 0 0 239 0 (zar 0 [xR L, xI (-1)]) [] h (zQ0 P)) (hdep : 1 ≤ dep)
    (k : ∀ g : zH, P g → zW mX5_readAll X dep bc bs 239 50 [(0, xR 24), (1, xI w), (2, xI n)] [] g Q) : zW mX5_readAll X dep bc bs 239 47 [(0, xR 24), (1, xI w), (2, xI n)] [xI (-1), xR L] h Q :=
  z_invQ0 (ci := 1) (N := 13) (as := [xI (-1)]) (st := []) (ra := [xI (-1)]) hZ dX5_readAll_47 nX1_addStep zb_758 zb_759 zb_760 zb_88 hL.1 rfl (by omega) (Nat.le_of_ble_eq_true rfl) (Nat.le_of_ble_eq_true rfl) rfl (fun g hg => k g hg)

set_option maxRecDepth 20000 in
theorem bX5_readAll_50 {X : zX} {dep bc bs : Nat} (w : Int) (n : Int) {h : zH} {Q : Nat → zH → List zV → Prop} (hn : 0 ≤ n ∧ n ≤ 60)
    (k1 : zW mX5_readAll X dep bc bs 239 12 [(0, xR 24), (1, xI w), (2, xI (n + 1))] [] h Q) : zW mX5_readAll X dep bc bs 239 50 [(0, xR 24), (1, xI w), (2, xI n)] [] h Q := by
  refine z_iincN (lv' := [(2, xI (n + 1)), (0, xR 24), (1, xI w)]) 2 dX5_readAll_50 rfl (by decide) rfl (show -2147483648 ≤ n + 1 ∧ n + 1 < 2147483648 from ⟨by omega, by omega⟩).1 (show -2147483648 ≤ n + 1 ∧ n + 1 < 2147483648 from ⟨by omega, by omega⟩).2 ?_
  refine z_goto (tgt := 12) dX5_readAll_53 (by decide) ?_
  refine zW.sub (lv' := [(0, xR 24), (1, xI w), (2, xI (n + 1))]) [1, 2, 0] rfl ?_
  exact k1

set_option maxRecDepth 20000 in
theorem bX5_readCond_0 {X : zX} {dep bc bs : Nat} (w : Int) {h : zH} {Q : Nat → zH → List zV → Prop}
    (k1 : zW mX5_readCond X dep bc bs 239 2 [(0, xR 24), (1, xI w)] [xI w, xR 24] h Q) : zW mX5_readCond X dep bc bs 239 0 [(0, xR 24), (1, xI w)] [] h Q := by
  refine z_aload_n 0 dX5_readCond_0 rfl ?_
  refine z_iload_n 1 dX5_readCond_1 rfl ?_
  exact k1

set_option maxRecDepth 20000 in
theorem rX5_readCond_2 {X : zX} {dep bc bs : Nat} (w : Int) {h : zH} {Q : Nat → zH → List zV → Prop} {P : Int → zH → Prop}
    (hZ : zW mX5_readAll X (dep - 1) 0 0 239 0 (zar 0 [xR 24, xI w]) [] h (zQI P)) (hdep : 1 ≤ dep)
    (k : ∀ (v : Int) (g : zH), P v g → zW mX5_readCond X dep bc bs 239 5 [(0, xR 24), (1, xI w)] [xI v] g Q) : zW mX5_readCond X dep bc bs 239 2 [(0, xR 24), (1, xI w)] [xI w, xR 24] h Q :=
  z_invQI (ci := 5) (N := 8) (as := [xI w]) (st := []) (ra := [xI w]) hZ dX5_readCond_2 nX5_readAll zb_743 zb_745 zb_13 zb_86 (zOb.lit (by decide +kernel)) rfl (by omega) (Nat.le_of_ble_eq_true rfl) (Nat.le_of_ble_eq_true rfl) rfl (fun v g hg => k v g hg)

set_option maxRecDepth 20000 in
theorem bX5_readCond_5 {X : zX} {dep bc bs : Nat} (w : Int) (v : Int) {h : zH} {Q : Nat → zH → List zV → Prop}
    (k1 : ¬ v = 0 → zW mX5_readCond X dep bc bs 239 12 [(0, xR 24), (1, xI w), (2, xI 0)] [] h Q)
    (k2 : v = 0 → Q 239 h [xI 0]) : zW mX5_readCond X dep bc bs 239 5 [(0, xR 24), (1, xI w)] [xI v] h Q := by
  refine z_if_ne (tgt := 10) dX5_readCond_5 (by decide) (fun c1 => ?_) (fun c1 => ?_)
  ·
    refine z_iconst dX5_readCond_10 (zi32_d rfl) ?_
    refine z_istore_n (lv' := [(2, xI 0), (0, xR 24), (1, xI w)]) dX5_readCond_11 (by decide) rfl ?_
    refine zW.sub (lv' := [(0, xR 24), (1, xI w), (2, xI 0)]) [1, 2, 0] rfl ?_
    exact k1 c1
  ·
    refine z_iconst dX5_readCond_8 (zi32_d rfl) ?_
    exact z_zret dX5_readCond_9 rfl (Or.inl rfl) (k2 c1)

set_option maxRecDepth 20000 in
theorem bX5_readCond_12 {X : zX} {dep bc bs : Nat} (w : Int) (n : Int) {h : zH} {Q : Nat → zH → List zV → Prop} (hw : zWd (h 24 6))
    (k1 : 60 ≤ n → Q 239 h [xI 1])
    (k2 : ¬ (60 ≤ n) → ¬ (h 24 6) = 1000009 → Q 239 h [xI 1])
    (k3 : ¬ (60 ≤ n) → (h 24 6) = 1000009 → zW mX5_readCond X dep bc bs 239 29 [(0, xR 24), (1, xI w), (2, xI n)] [xR 24] h Q) : zW mX5_readCond X dep bc bs 239 12 [(0, xR 24), (1, xI w), (2, xI n)] [] h Q := by
  refine z_iload_n 2 dX5_readCond_12 rfl ?_
  refine z_bipush dX5_readCond_13 (zi32_d rfl) (by decide) ?_
  refine z_icmp_ge (tgt := 57) dX5_readCond_15 (by decide) (fun c1 => ?_) (fun c1 => ?_)
  ·
    refine z_iconst dX5_readCond_57 (zi32_d rfl) ?_
    exact z_zret dX5_readCond_58 rfl (Or.inr rfl) (k1 c1)
  ·
    refine z_aload_n 0 dX5_readCond_18 rfl ?_
    refine z_getD (v := (h 24 6)) (k := 6) (kz := 6) pk5 dX5_readCond_19 (by decide) zb_331 rfl (zOb.lit (by decide +kernel)) rfl rfl ?_
    refine z_getW 9 (by decide) dX5_readCond_22 zb_768 ?_
    show zW mX5_readCond X dep bc bs 239 25 [(0, xR 24), (1, xI w), (2, xI n)] [xR 1000009, xR (h 24 6)] h Q
    refine z_acmp_ne (tgt := 57) dX5_readCond_25 (by decide) hw (Or.inr ⟨by decide, by decide⟩) (fun c2 => ?_) (fun c2 => ?_)
    ·
      refine z_iconst dX5_readCond_57 (zi32_d rfl) ?_
      exact z_zret dX5_readCond_58 rfl (Or.inr rfl) (k2 c1 c2)
    ·
      refine z_aload_n 0 dX5_readCond_28 rfl ?_
      exact k3 c1 c2

set_option maxRecDepth 20000 in
theorem rX5_readCond_29 {X : zX} {dep bc bs : Nat} (w : Int) (n : Int) {h : zH} {Q : Nat → zH → List zV → Prop} {P : zH → Prop}
    (hZ : zW mX5_readToken X (dep - 1) 0 0 239 0 (zar 0 [xR 24]) [] h (zQ0 P)) (hdep : 1 ≤ dep)
    (k : ∀ g : zH, P g → zW mX5_readCond X dep bc bs 239 32 [(0, xR 24), (1, xI w), (2, xI n)] [] g Q) : zW mX5_readCond X dep bc bs 239 29 [(0, xR 24), (1, xI w), (2, xI n)] [xR 24] h Q :=
  z_invQ0 (ci := 5) (N := 8) (as := []) (st := []) (ra := []) hZ dX5_readCond_29 nX5_readToken zb_685 zb_687 zb_3 zb_86 (zOb.lit (by decide +kernel)) rfl (by omega) (Nat.le_of_ble_eq_true rfl) (Nat.le_of_ble_eq_true rfl) rfl (fun g hg => k g hg)

set_option maxRecDepth 20000 in
theorem bX5_readCond_32 {X : zX} {dep bc bs : Nat} (w : Int) (n : Int) {h : zH} {Q : Nat → zH → List zV → Prop}
    (k1 : zW mX5_readCond X dep bc bs 239 34 [(0, xR 24), (1, xI w), (2, xI n)] [xI w, xR 24] h Q) : zW mX5_readCond X dep bc bs 239 32 [(0, xR 24), (1, xI w), (2, xI n)] [] h Q := by
  refine z_aload_n 0 dX5_readCond_32 rfl ?_
  refine z_iload_n 1 dX5_readCond_33 rfl ?_
  exact k1

set_option maxRecDepth 20000 in
theorem rX5_readCond_34 {X : zX} {dep bc bs : Nat} (w : Int) (n : Int) {h : zH} {Q : Nat → zH → List zV → Prop} {P : Int → zH → Prop}
    (hZ : zW mX5_readAll X (dep - 1) 0 0 239 0 (zar 0 [xR 24, xI w]) [] h (zQI P)) (hdep : 1 ≤ dep)
    (k : ∀ (v : Int) (g : zH), P v g → zW mX5_readCond X dep bc bs 239 37 [(0, xR 24), (1, xI w), (2, xI n)] [xI v] g Q) : zW mX5_readCond X dep bc bs 239 34 [(0, xR 24), (1, xI w), (2, xI n)] [xI w, xR 24] h Q :=
  z_invQI (ci := 5) (N := 8) (as := [xI w]) (st := []) (ra := [xI w]) hZ dX5_readCond_34 nX5_readAll zb_743 zb_745 zb_13 zb_86 (zOb.lit (by decide +kernel)) rfl (by omega) (Nat.le_of_ble_eq_true rfl) (Nat.le_of_ble_eq_true rfl) rfl (fun v g hg => k v g hg)

set_option maxRecDepth 20000 in
theorem bX5_readCond_37 {X : zX} {dep bc bs : Nat} (w : Int) (n : Int) (v : Int) (L : Int) {h : zH} {Q : Nat → zH → List zV → Prop} (hL : zLawO L) (hl : h 24 1 = L)
    (k1 : ¬ v = 0 → zW mX5_readCond X dep bc bs 239 48 [(0, xR 24), (1, xI w), (2, xI n)] [xI (-2), xR L] h Q)
    (k2 : v = 0 → Q 239 h [xI 0]) : zW mX5_readCond X dep bc bs 239 37 [(0, xR 24), (1, xI w), (2, xI n)] [xI v] h Q := by
  refine z_if_ne (tgt := 42) dX5_readCond_37 (by decide) (fun c1 => ?_) (fun c1 => ?_)
  ·
    refine z_aload_n 0 dX5_readCond_42 rfl ?_
    refine z_getD (v := L) (k := 1) (kz := 1) pk5 dX5_readCond_43 (by decide) zb_324 rfl (zOb.lit (by decide +kernel)) rfl hl ?_
    refine z_bipush dX5_readCond_46 (zi32_d rfl) (by decide) ?_
    exact k1 c1
  ·
    refine z_iconst dX5_readCond_40 (zi32_d rfl) ?_
    exact z_zret dX5_readCond_41 rfl (Or.inl rfl) (k2 c1)

set_option maxRecDepth 20000 in
theorem rX5_readCond_48 {X : zX} {dep bc bs : Nat} (w : Int) (n : Int) (L : Int) {h : zH} {Q : Nat → zH → List zV → Prop} {P : zH → Prop} (hL : zLawO L)
    (hZ : zW mX1_addStep X (dep - 1) 0 0 239 0 (zar 0 [xR L, xI (-2)]) [] h (zQ0 P)) (hdep : 1 ≤ dep)
    (k : ∀ g : zH, P g → zW mX5_readCond X dep bc bs 239 51 [(0, xR 24), (1, xI w), (2, xI n)] [] g Q) : zW mX5_readCond X dep bc bs 239 48 [(0, xR 24), (1, xI w), (2, xI n)] [xI (-2), xR L] h Q :=
  z_invQ0 (ci := 1) (N := 13) (as := [xI (-2)]) (st := []) (ra := [xI (-2)]) hZ dX5_readCond_48 nX1_addStep zb_758 zb_759 zb_760 zb_88 hL.1 rfl (by omega) (Nat.le_of_ble_eq_true rfl) (Nat.le_of_ble_eq_true rfl) rfl (fun g hg => k g hg)

set_option maxRecDepth 20000 in
theorem bX5_readCond_51 {X : zX} {dep bc bs : Nat} (w : Int) (n : Int) {h : zH} {Q : Nat → zH → List zV → Prop} (hn : 0 ≤ n ∧ n ≤ 60)
    (k1 : zW mX5_readCond X dep bc bs 239 12 [(0, xR 24), (1, xI w), (2, xI (n + 1))] [] h Q) : zW mX5_readCond X dep bc bs 239 51 [(0, xR 24), (1, xI w), (2, xI n)] [] h Q := by
  refine z_iincN (lv' := [(2, xI (n + 1)), (0, xR 24), (1, xI w)]) 2 dX5_readCond_51 rfl (by decide) rfl (show -2147483648 ≤ n + 1 ∧ n + 1 < 2147483648 from ⟨by omega, by omega⟩).1 (show -2147483648 ≤ n + 1 ∧ n + 1 < 2147483648 from ⟨by omega, by omega⟩).2 ?_
  refine z_goto (tgt := 12) dX5_readCond_54 (by decide) ?_
  refine zW.sub (lv' := [(0, xR 24), (1, xI w), (2, xI (n + 1))]) [1, 2, 0] rfl ?_
  exact k1

theorem zst_id (h : zH) (o k : Int) : zst h o k (h o k) = h := by
  funext o' k'
  unfold zst
  by_cases c : o' = o ∧ k' = k
  · rw [if_pos c, c.1, c.2]
  · rw [if_neg c]
theorem zst_over (h : zH) (o k x y : Int) : zst (zst h o k x) o k y = zst h o k y := by
  funext o' k'
  unfold zst
  by_cases c : o' = o ∧ k' = k
  · rw [if_pos c, if_pos c]
  · rw [if_neg c, if_neg c, if_neg c]
theorem zst_comm (h : zH) {o k o2 k2 : Int} (x y : Int) (hn : o ≠ o2 ∨ k ≠ k2) : zst (zst h o k x) o2 k2 y = zst (zst h o2 k2 y) o k x := by
  funext o' k'
  unfold zst
  by_cases c : o' = o ∧ k' = k
  · by_cases d : o' = o2 ∧ k' = k2
    · exfalso; omega
    · rw [if_neg d, if_pos c, if_pos c]
  · by_cases d : o' = o2 ∧ k' = k2
    · rw [if_pos d, if_neg c, if_pos d]
    · rw [if_neg d, if_neg c, if_neg c, if_neg d]
/-- the reader at token j, o ONES told -/
def zrd (h : zH) (j o : Int) : zH := zst (zst (zst (zst h 24 4 j) 24 5 (h 26 j)) 24 6 (h 29 j)) 24 7 o
theorem zrd_ne (h : zH) (j o : Int) {q : Int} (hq : q ≠ 24) (k : Int) : zrd h j o q k = h q k := by
  unfold zrd
  rw [zst_ne (Or.inl hq), zst_ne (Or.inl hq), zst_ne (Or.inl hq), zst_ne (Or.inl hq)]
theorem zrd_24 (h : zH) (j o k : Int) : zrd h j o 24 k = if k = 7 then o else if k = 6 then h 29 j else if k = 5 then h 26 j else if k = 4 then j else h 24 k := by
  unfold zrd zst
  by_cases c7 : k = 7
  · rw [if_pos ⟨rfl, c7⟩, if_pos c7]
  · rw [if_neg (fun z => c7 z.2), if_neg c7]
    by_cases c6 : k = 6
    · rw [if_pos ⟨rfl, c6⟩, if_pos c6]
    · rw [if_neg (fun z => c6 z.2), if_neg c6]
      by_cases c5 : k = 5
      · rw [if_pos ⟨rfl, c5⟩, if_pos c5]
      · rw [if_neg (fun z => c5 z.2), if_neg c5]
        by_cases c4 : k = 4
        · rw [if_pos ⟨rfl, c4⟩, if_pos c4]
        · rw [if_neg (fun z => c4 z.2), if_neg c4]
theorem zrd_rd (h : zH) (j o j2 o2 : Int) : zrd (zrd h j o) j2 o2 = zrd h j2 o2 := by
  funext q k
  by_cases hq : q = 24
  · subst hq
    rw [zrd_24, zrd_24, zrd_ne h j o (by omega), zrd_ne h j o (by omega), zrd_24]
    repeat' split
    all_goals first | rfl | omega
  · rw [zrd_ne _ _ _ hq, zrd_ne _ _ _ hq, zrd_ne _ _ _ hq]
theorem zrd_st7 (h : zH) (x j o : Int) : zrd (zst h 24 7 x) j o = zrd h j o := by
  funext q k
  by_cases hq : q = 24
  · subst hq
    rw [zrd_24, zrd_24, zst_ne (o' := 26) (Or.inl (by omega)), zst_ne (o' := 29) (Or.inl (by omega))]
    repeat' split
    all_goals first | rfl | exact zst_ne (Or.inr (by omega))
  · rw [zrd_ne _ _ _ hq, zrd_ne _ _ _ hq, zst_ne (Or.inl hq)]
def zstps (h : zH) (L : Int) : List Int → zH
  | [] => h
  | x :: S => zstps (zstp h L x) L S
theorem zstp_ne (h : zH) (L x : Int) {q : Int} (h0 : q ≠ L) (h4 : q ≠ L + 4) (h5 : q ≠ L + 5) (k : Int) : zstp h L x q k = h q k := by
  unfold zstp
  rw [zst_ne (Or.inl h0), zst_ne (Or.inl h4), zst_ne (Or.inl h0), zst_ne (Or.inl h5)]
theorem zstp_L (h : zH) (L x : Int) : zstp h L x L 12 = h L 12 + 1 ∧ ∀ k : Int, k ≠ 5 → k ≠ 12 → zstp h L x L k = h L k := by
  unfold zstp
  refine ⟨?_, fun k h5 h12 => ?_⟩
  · rw [zst_ne (Or.inr (by omega)), zst_ne (Or.inl (by omega)), zst_self]
  · rw [zst_ne (Or.inr h5), zst_ne (Or.inl (by omega)), zst_ne (Or.inr h12), zst_ne (Or.inl (by omega))]
theorem zstps_ne (L : Int) {q : Int} (h0 : q ≠ L) (h4 : q ≠ L + 4) (h5 : q ≠ L + 5) (k : Int) : ∀ (S : List Int) (h : zH), zstps h L S q k = h q k
  | [], _ => rfl
  | x :: S, h => (zstps_ne L h0 h4 h5 k S (zstp h L x)).trans (zstp_ne h L x h0 h4 h5 k)
theorem zstps_L (L : Int) : ∀ (S : List Int) (h : zH), zstps h L S L 12 = h L 12 + S.length ∧ ∀ k : Int, k ≠ 5 → k ≠ 12 → zstps h L S L k = h L k
  | [], h => ⟨by unfold zstps; simp, fun _ _ _ => rfl⟩
  | x :: S, h => by
    have i := zstps_L L S (zstp h L x)
    have e := zstp_L h L x
    refine ⟨?_, fun k h5 h12 => (i.2 k h5 h12).trans (e.2 k h5 h12)⟩
    show zstps (zstp h L x) L S L 12 = _
    rw [i.1, e.1, List.length_cons]
    omega
theorem zstps_app (L : Int) : ∀ (S T : List Int) (h : zH), zstps h L (S ++ T) = zstps (zstps h L S) L T
  | [], _, _ => rfl
  | x :: S, T, h => zstps_app L S T (zstp h L x)
theorem zstp_rd (h : zH) (L x j o : Int) (hL : 30 ≤ L) : zstp (zrd h j o) L x = zrd (zstp h L x) j o := by
  funext q k
  by_cases hq : q = 24
  · subst hq
    rw [zstp_ne _ _ _ (by omega) (by omega) (by omega), zrd_24, zrd_24, zstp_ne _ _ _ (by omega) (by omega) (by omega), zstp_ne _ _ _ (by omega) (by omega) (by omega), zstp_ne _ _ _ (by omega) (by omega) (by omega)]
  · rw [zrd_ne _ _ _ hq]
    unfold zstp
    rw [zrd_ne h j o (show L ≠ 24 by omega), zrd_ne h j o (show L ≠ 24 by omega), zrd_ne h j o (show L ≠ 24 by omega)]
    unfold zst
    rw [zrd_ne _ _ _ hq]
theorem zstps_rd (L j o : Int) (hL : 30 ≤ L) : ∀ (S : List Int) (h : zH), zstps (zrd h j o) L S = zrd (zstps h L S) j o
  | [], _ => rfl
  | x :: S, h => by
    show zstps (zstp (zrd h j o) L x) L S = _
    rw [zstp_rd h L x j o hL, zstps_rd L j o hL S]
    rfl
/-- what a fault leaves -/
abbrev zLS (L : Int) : Int → Prop := fun q => q = 24 ∨ L ≤ q ∧ q ≤ L + 5
def zFt (g : zH) (L k j : Int) (f : zH) : Prop := zap (zLS L) g f ∧ f 24 1 = g 24 1 ∧ f 24 2 = k ∧ f 24 3 = g 27 j
def zTkOK (h : zH) : Prop := (1 ≤ h 25 4 ∧ h 25 4 ≤ 301) ∧ h 26 (h 25 4 - 1) = 0 ∧ h 29 (h 25 4 - 1) = -1 ∧ ∀ j : Int, 0 ≤ j → j < h 25 4 → zWd (h 29 j) ∧ (h 29 j ≠ -1 → h 26 j = 1)
def zAt (h : zH) (L j o : Int) : Prop := h 24 1 = L ∧ (0 ≤ j ∧ j < h 25 4) ∧ h 24 4 = j ∧ h 24 5 = h 26 j ∧ h 24 6 = h 29 j ∧ h 24 7 = o ∧ 0 ≤ o ∧ o ≤ 60
def zLk (h : zH) (L o : Int) : Prop := 0 < h L 6 ∧ h L 6 ≤ 20 ∧ 0 ≤ h L 12 ∧ h L 12 ≤ 2 * o
def zCtx (h : zH) (L j o : Int) : Prop := zAt h L j o ∧ zTkOK h ∧ zLk h L o
abbrev zRes : Type := (Int × Int) ⊕ (Int × Int × List Int)
def zOut (g : zH) (L : Int) (r : zRes) (v : Int) (f : zH) : Prop := match r with
  | .inl e => v = 0 ∧ zFt g L e.1 e.2 f
  | .inr q => v = 1 ∧ f = zrd (zstps g L q.2.2) q.1 q.2.1
def zSeq (S : List Int) : zRes → zRes
  | .inl e => .inl e
  | .inr q => .inr (q.1, q.2.1, S ++ q.2.2)
theorem zAt.rd {h : zH} {L j o : Int} (a : zAt h L j o) : zrd h j o = h := by
  funext q k
  by_cases hq : q = 24
  · subst hq
    rw [zrd_24]
    obtain ⟨-, -, a4, a5, a6, a7, -⟩ := a
    by_cases c7 : k = 7
    · rw [if_pos c7, c7, a7]
    · rw [if_neg c7]
      by_cases c6 : k = 6
      · rw [if_pos c6, c6, a6]
      · rw [if_neg c6]
        by_cases c5 : k = 5
        · rw [if_pos c5, c5, a5]
        · rw [if_neg c5]
          by_cases c4 : k = 4
          · rw [if_pos c4, c4, a4]
          · rw [if_neg c4]
  · rw [zrd_ne _ _ _ hq]
theorem zCtx.mk {g f : zH} {L j o j2 o2 : Int} (a : zCtx g L j o) (hL : 30 ≤ L) (S : List Int) (hf : f = zrd (zstps g L S) j2 o2) (h1 : 0 ≤ j2 ∧ j2 < g 25 4) (h2 : 0 ≤ o2 ∧ o2 ≤ 60) (h3 : g L 12 + S.length ≤ 2 * o2) : zCtx f L j2 o2 ∧ f 26 = g 26 ∧ f 29 = g 29 ∧ f 28 = g 28 ∧ f 27 = g 27 := by
  have ne : ∀ q k : Int, q ≠ 24 → q < 30 → f q k = g q k := fun q k hq hq2 => by
    rw [hf, zrd_ne _ _ _ hq, zstps_ne L (by omega) (by omega) (by omega)]
  have e26 : f 26 = g 26 := funext fun k => ne 26 k (by omega) (by omega)
  have e29 : f 29 = g 29 := funext fun k => ne 29 k (by omega) (by omega)
  have e28 : f 28 = g 28 := funext fun k => ne 28 k (by omega) (by omega)
  have e27 : f 27 = g 27 := funext fun k => ne 27 k (by omega) (by omega)
  have e25 : f 25 4 = g 25 4 := ne 25 4 (by omega) (by omega)
  have l12 : f L 12 = g L 12 + S.length := by rw [hf, zrd_ne _ _ _ (by omega)]; exact (zstps_L L S g).1
  have l6 : f L 6 = g L 6 := by rw [hf, zrd_ne _ _ _ (by omega)]; exact (zstps_L L S g).2 6 (by omega) (by omega)
  have r24 : ∀ k : Int, f 24 k = if k = 7 then o2 else if k = 6 then g 29 j2 else if k = 5 then g 26 j2 else if k = 4 then j2 else g 24 k := fun k => by
    rw [hf, zrd_24, zstps_ne L (by omega) (by omega) (by omega), zstps_ne L (by omega) (by omega) (by omega), zstps_ne L (by omega) (by omega) (by omega)]
  refine ⟨⟨⟨?_, ?_, ?_, ?_, ?_, ?_, h2⟩, ?_, ?_⟩, e26, e29, e28, e27⟩
  · rw [r24 1]; exact a.1.1
  · rw [e25]; exact h1
  · rw [r24 4]; rfl
  · rw [r24 5, e26]; rfl
  · rw [r24 6, e29]; rfl
  · rw [r24 7]; rfl
  · have t := a.2.1
    unfold zTkOK
    rw [e25, e26, e29]
    exact t
  · have t := a.2.2
    unfold zLk at t ⊢
    rw [l12, l6]
    omega
theorem zOut.seq {g f h1 : zH} {L j o j1 o1 v : Int} {S : List Int} {r : zRes} (hL : 30 ≤ L) (h1e : h1 = zrd (zstps g L S) j1 o1) (a : zOut h1 L r v f) : zOut g L (zSeq S r) v f := by
  have ne : ∀ q k : Int, q ≠ 24 → q < 30 → h1 q k = g q k := fun q k hq hq2 => by
    rw [h1e, zrd_ne _ _ _ hq, zstps_ne L (by omega) (by omega) (by omega)]
  cases r with
  | inl e =>
    obtain ⟨a0, a1, a2, a3, a4⟩ := a
    refine ⟨a0, fun q k hq => ?_, ?_, a3, ?_⟩
    · rw [a1 q k hq, h1e, zrd_ne _ _ _ (fun z => hq (Or.inl z)), zstps_ne L (by simp only [zLS] at hq; omega) (by simp only [zLS] at hq; omega) (by simp only [zLS] at hq; omega)]
    · rw [a2, h1e, zrd_24]
      exact zstps_ne L (by omega) (by omega) (by omega) 1 S g
    · rw [a4, ne 27 _ (by omega) (by omega)]
  | inr q =>
    obtain ⟨a0, a1⟩ := a
    refine ⟨a0, ?_⟩
    rw [a1, h1e, zstps_rd L _ _ hL, zrd_rd, ← zstps_app]
theorem zFt.of {g h1 f : zH} {L k j j1 o1 : Int} {S : List Int} (hL : 30 ≤ L) (h1e : h1 = zrd (zstps g L S) j1 o1) (a : zFt h1 L k j f) : zFt g L k j f :=
  (zOut.seq (j := 0) (o := 0) (v := 0) (r := .inl (k, j)) hL h1e ⟨rfl, a⟩).2
theorem f_X5_readToken {X : zX} {dep : Nat} (L j o : Int) {h : zH} (a : zAt h L j o) (hc : j + 1 < h 25 4 ∧ h 25 4 ≤ 301) : zW mX5_readToken X dep 0 0 239 0 (zar 0 [xR 24]) [] h (zQ0 (fun g => g = zrd h (j + 1) o)) := by
  have a4 := a.2.2.1
  refine bX5_readToken_0 (by have := a.2.1; omega) (fun c => absurd c (by omega)) (fun _ => ⟨rfl, rfl, ?_⟩)
  rw [a4]
  unfold zrd
  have e7 : (zst (zst (zst h 24 4 (j + 1)) 24 5 (h 26 (j + 1))) 24 6 (h 29 (j + 1))) 24 7 = o := by
    rw [zst_ne (Or.inr (by omega)), zst_ne (Or.inr (by omega)), zst_ne (Or.inr (by omega))]
    exact a.2.2.2.2.2.1
  exact ((congrArg (zst (zst (zst (zst h 24 4 (j + 1)) 24 5 (h 26 (j + 1))) 24 6 (h 29 (j + 1))) 24 7) e7.symm).trans (zst_id _ _ _)).symm
theorem f_X5_fail {X : zX} {dep : Nat} (L k j o : Int) {h : zH} (a : zAt h L j o) (hc : h 25 4 ≤ 301) : zW mX5_fail X dep 0 0 239 0 (zar 0 [xR 24, xI k]) [] h (zQI (fun v f => v = 0 ∧ zFt h L k j f)) := by
  have a4 := a.2.2.1
  refine bX5_fail_0 k (by have := a.2.1; omega) (fun c => absurd c (by have := a.2.1; omega)) (fun _ _ => ?_) (fun _ c => absurd (by have := a.2.1; omega) c)
  refine ⟨rfl, _, rfl, rfl, ((zap.rf _ h).st (Or.inl rfl) _ _).st (Or.inl rfl) _ _, ?_, ?_, ?_⟩
  · rw [zst_ne (Or.inr (by omega)), zst_ne (Or.inr (by omega))]
  · rw [zst_ne (Or.inr (by omega)), zst_self]
  · rw [zst_self, a4]
/-- a question, asked by the word at token j -/
def zQn (kd wd vl : Int → Int) (j o : Int) : zRes :=
  if zWn (wd j) ≠ -1 then .inr (j + 1, o + 1, [zqs (zWa (wd j)) 61 (zWn (wd j))])
  else if kd (j + 1) ≠ 60 ∧ kd (j + 1) ≠ 61 ∧ kd (j + 1) ≠ 62 then .inl (1, j + 1)
  else if kd (j + 2) ≠ 2 then .inl (1, j + 2)
  else .inr (j + 3, o + 1, [zqs (zWa (wd j)) (kd (j + 1)) (vl (j + 2))])
abbrev zAsk (q : Int) : Prop := ¬ q < 0 ∧ zWa q ≠ -1
/-- reading a COND: 0 a ONE, 1 an ALL, 2 a COND, 3 and 4 what follows a ONE, an ALL -/
def zPx (kd wd vl : Int → Int) : Nat → Nat → Int → Int → Int → zRes
  | 0, _, _, j, _ => .inl (9, j)
  | f + 1, 0, w, j, o =>
    if ¬ zAsk (wd j) ∧ wd j ≠ 1000007 ∧ kd j ≠ 40 then .inl (1, j)
    else if 60 ≤ o ∨ 12 ≤ w then .inl (4, j)
    else if zAsk (wd j) then zQn kd wd vl j o
    else if wd j = 1000007 then (match zPx kd wd vl f 0 (w + 1) (j + 1) (o + 1) with
      | .inl e => .inl e
      | .inr q => .inr (q.1, q.2.1, q.2.2 ++ [-3]))
    else (match zPx kd wd vl f 2 (w + 1) (j + 1) (o + 1) with
      | .inl e => .inl e
      | .inr q => if kd q.1 = 41 then .inr (q.1 + 1, q.2.1, q.2.2) else .inl (1, q.1))
  | f + 1, 1, w, j, o => (match zPx kd wd vl f 0 w j o with
      | .inl e => .inl e
      | .inr q => zSeq q.2.2 (zPx kd wd vl f 3 w q.1 q.2.1))
  | f + 1, 2, w, j, o => (match zPx kd wd vl f 1 w j o with
      | .inl e => .inl e
      | .inr q => zSeq q.2.2 (zPx kd wd vl f 4 w q.1 q.2.1))
  | f + 1, 3, w, j, o => if wd j = 1000010 then (match zPx kd wd vl f 0 w (j + 1) o with
      | .inl e => .inl e
      | .inr q => zSeq (q.2.2 ++ [-1]) (zPx kd wd vl f 3 w q.1 q.2.1)) else .inr (j, o, [])
  | f + 1, _, w, j, o => if wd j = 1000009 then (match zPx kd wd vl f 1 w (j + 1) o with
      | .inl e => .inl e
      | .inr q => zSeq (q.2.2 ++ [-2]) (zPx kd wd vl f 4 w q.1 q.2.1)) else .inr (j, o, [])
theorem zPx_0 (kd wd vl : Int → Int) (f : Nat) (w j o : Int) : zPx kd wd vl (f + 1) 0 w j o = if ¬ zAsk (wd j) ∧ wd j ≠ 1000007 ∧ kd j ≠ 40 then .inl (1, j)
    else if 60 ≤ o ∨ 12 ≤ w then .inl (4, j)
    else if zAsk (wd j) then zQn kd wd vl j o
    else if wd j = 1000007 then (match zPx kd wd vl f 0 (w + 1) (j + 1) (o + 1) with
      | .inl e => .inl e
      | .inr q => .inr (q.1, q.2.1, q.2.2 ++ [-3]))
    else (match zPx kd wd vl f 2 (w + 1) (j + 1) (o + 1) with
      | .inl e => .inl e
      | .inr q => if kd q.1 = 41 then .inr (q.1 + 1, q.2.1, q.2.2) else .inl (1, q.1)) := rfl
theorem zPx_1 (kd wd vl : Int → Int) (f : Nat) (w j o : Int) : zPx kd wd vl (f + 1) 1 w j o = (match zPx kd wd vl f 0 w j o with
      | .inl e => .inl e
      | .inr q => zSeq q.2.2 (zPx kd wd vl f 3 w q.1 q.2.1)) := rfl
theorem zPx_2 (kd wd vl : Int → Int) (f : Nat) (w j o : Int) : zPx kd wd vl (f + 1) 2 w j o = (match zPx kd wd vl f 1 w j o with
      | .inl e => .inl e
      | .inr q => zSeq q.2.2 (zPx kd wd vl f 4 w q.1 q.2.1)) := rfl
theorem zPx_3 (kd wd vl : Int → Int) (f : Nat) (w j o : Int) : zPx kd wd vl (f + 1) 3 w j o = if wd j = 1000010 then (match zPx kd wd vl f 0 w (j + 1) o with
      | .inl e => .inl e
      | .inr q => zSeq (q.2.2 ++ [-1]) (zPx kd wd vl f 3 w q.1 q.2.1)) else .inr (j, o, []) := rfl
theorem zPx_4 (kd wd vl : Int → Int) (f : Nat) (w j o : Int) : zPx kd wd vl (f + 1) 4 w j o = if wd j = 1000009 then (match zPx kd wd vl f 1 w (j + 1) o with
      | .inl e => .inl e
      | .inr q => zSeq (q.2.2 ++ [-2]) (zPx kd wd vl f 4 w q.1 q.2.1)) else .inr (j, o, []) := rfl
/-- what reading answers keeps to -/
def zGd (n t j o : Int) : zRes → Prop
  | .inl e => j ≤ e.2 ∧ e.2 ≤ n
  | .inr q => j + t ≤ q.1 ∧ q.1 ≤ n ∧ o + t ≤ q.2.1 ∧ q.2.1 ≤ 60 ∧ (q.2.2.length : Int) + t ≤ 2 * (q.2.1 - o)
theorem zGd.seq {n t j o j1 o1 : Int} {S : List Int} {r : zRes} (t0 : 0 ≤ t) (h1 : j + t ≤ j1) (h2 : o + t ≤ o1) (h3 : (S.length : Int) + t ≤ 2 * (o1 - o)) (a : zGd n 0 j1 o1 r) : zGd n t j o (zSeq S r) := by
  cases r with
  | inl e =>
    show j ≤ e.2 ∧ e.2 ≤ n
    have b : j1 ≤ e.2 ∧ e.2 ≤ n := a
    omega
  | inr q =>
    have b : j1 + 0 ≤ q.1 ∧ q.1 ≤ n ∧ o1 + 0 ≤ q.2.1 ∧ q.2.1 ≤ 60 ∧ (q.2.2.length : Int) + 0 ≤ 2 * (q.2.1 - o1) := a
    show j + t ≤ q.1 ∧ q.1 ≤ n ∧ o + t ≤ q.2.1 ∧ q.2.1 ≤ 60 ∧ ((S ++ q.2.2).length : Int) + t ≤ 2 * (q.2.1 - o)
    rw [List.length_append]
    omega
theorem zPx_in {kd wd vl : Int → Int} {n : Int} (hk : kd n = 0) (hw : wd n = -1) : ∀ (f : Nat) (m : Nat) (w j o : Int), j ≤ n → o ≤ 60 → m < 5 → zGd n (if m < 3 then 1 else 0) j o (zPx kd wd vl f m w j o)
  | 0, m, w, j, o, hj, ho, hm => ⟨Int.le_refl _, hj⟩
  | f + 1, m, w, j, o, hj, ho, hm => by
    have ih := zPx_in hk hw (vl := vl) f
    have ne : ∀ x : Int, wd x ≠ -1 → x ≤ n → x < n := fun x hx hx2 => by
      rcases Int.lt_or_eq_of_le hx2 with q | q
      · exact q
      · rw [q] at hx; exact absurd hw hx
    have nk : ∀ x : Int, kd x ≠ 0 → x ≤ n → x < n := fun x hx hx2 => by
      rcases Int.lt_or_eq_of_le hx2 with q | q
      · exact q
      · rw [q] at hx; exact absurd hk hx
    rcases (show m = 0 ∨ m = 1 ∨ m = 2 ∨ m = 3 ∨ m = 4 by omega) with rfl | rfl | rfl | rfl | rfl
    · rw [zPx_0]
      show zGd n 1 j o _
      split
      · exact ⟨Int.le_refl _, hj⟩
      · rename_i c1
        split
        · exact ⟨Int.le_refl _, hj⟩
        · rename_i c2
          have jn : j < n := by
            by_cases a : wd j = -1
            · refine nk j (fun z => c1 ⟨fun q => q.1 (by omega), by omega, by omega⟩) hj
            · exact ne j a hj
          split
          · unfold zQn
            generalize zWn (wd j) = zz
            by_cases c3 : zz ≠ -1
            · rw [if_pos c3]
              show j + 1 ≤ j + 1 ∧ j + 1 ≤ n ∧ o + 1 ≤ o + 1 ∧ o + 1 ≤ 60 ∧ (([zqs (zWa (wd j)) 61 zz].length : Nat) : Int) + 1 ≤ 2 * (o + 1 - o)
              rw [List.length_singleton]
              omega
            · rw [if_neg c3]
              by_cases c4 : kd (j + 1) ≠ 60 ∧ kd (j + 1) ≠ 61 ∧ kd (j + 1) ≠ 62
              · rw [if_pos c4]
                show j ≤ j + 1 ∧ j + 1 ≤ n
                omega
              · rw [if_neg c4]
                have j1 := nk (j + 1) (by omega) (by omega)
                by_cases c5 : kd (j + 2) ≠ 2
                · rw [if_pos c5]
                  show j ≤ j + 2 ∧ j + 2 ≤ n
                  omega
                · rw [if_neg c5]
                  have j2 := nk (j + 2) (by omega) (by omega)
                  show j + 1 ≤ j + 3 ∧ j + 3 ≤ n ∧ o + 1 ≤ o + 1 ∧ o + 1 ≤ 60 ∧ (([zqs (zWa (wd j)) (kd (j + 1)) (vl (j + 2))].length : Nat) : Int) + 1 ≤ 2 * (o + 1 - o)
                  rw [List.length_singleton]
                  omega
          · split
            · have i1 := ih 0 (w + 1) (j + 1) (o + 1) (by omega) (by omega) (by omega)
              cases hr : zPx kd wd vl f 0 (w + 1) (j + 1) (o + 1) with
              | inl e =>
                rw [hr] at i1
                have b : j + 1 ≤ e.2 ∧ e.2 ≤ n := i1
                exact ⟨by show j ≤ e.2; omega, b.2⟩
              | inr q =>
                rw [hr] at i1
                have b : j + 1 + 1 ≤ q.1 ∧ q.1 ≤ n ∧ o + 1 + 1 ≤ q.2.1 ∧ q.2.1 ≤ 60 ∧ (q.2.2.length : Int) + 1 ≤ 2 * (q.2.1 - (o + 1)) := i1
                refine ⟨by show j + 1 ≤ q.1; omega, b.2.1, by show o + 1 ≤ q.2.1; omega, b.2.2.2.1, ?_⟩
                show ((q.2.2 ++ [-3]).length : Int) + 1 ≤ 2 * (q.2.1 - o)
                rw [List.length_append, List.length_singleton]
                omega
            · have i1 := ih 2 (w + 1) (j + 1) (o + 1) (by omega) (by omega) (by omega)
              cases hr : zPx kd wd vl f 2 (w + 1) (j + 1) (o + 1) with
              | inl e =>
                rw [hr] at i1
                have b : j + 1 ≤ e.2 ∧ e.2 ≤ n := i1
                exact ⟨by show j ≤ e.2; omega, b.2⟩
              | inr q =>
                rw [hr] at i1
                have b : j + 1 + 1 ≤ q.1 ∧ q.1 ≤ n ∧ o + 1 + 1 ≤ q.2.1 ∧ q.2.1 ≤ 60 ∧ (q.2.2.length : Int) + 1 ≤ 2 * (q.2.1 - (o + 1)) := i1
                show zGd n 1 j o (if kd q.1 = 41 then _ else _)
                split
                · rename_i c5
                  have qn := nk q.1 (by omega) b.2.1
                  exact ⟨by show j + 1 ≤ q.1 + 1; omega, by show q.1 + 1 ≤ n; omega, by show o + 1 ≤ q.2.1; omega, b.2.2.2.1, by show (q.2.2.length : Int) + 1 ≤ 2 * (q.2.1 - o); omega⟩
                · exact ⟨by show j ≤ q.1; omega, b.2.1⟩
    · rw [zPx_1]
      show zGd n 1 j o _
      have i1 := ih 0 w j o hj ho (by omega)
      cases hr : zPx kd wd vl f 0 w j o with
      | inl e => rw [hr] at i1; exact i1
      | inr q =>
        rw [hr] at i1
        have b : j + 1 ≤ q.1 ∧ q.1 ≤ n ∧ o + 1 ≤ q.2.1 ∧ q.2.1 ≤ 60 ∧ (q.2.2.length : Int) + 1 ≤ 2 * (q.2.1 - o) := i1
        exact zGd.seq (by omega) b.1 b.2.2.1 b.2.2.2.2 (ih 3 w q.1 q.2.1 b.2.1 b.2.2.2.1 (by omega))
    · rw [zPx_2]
      show zGd n 1 j o _
      have i1 := ih 1 w j o hj ho (by omega)
      cases hr : zPx kd wd vl f 1 w j o with
      | inl e => rw [hr] at i1; exact i1
      | inr q =>
        rw [hr] at i1
        have b : j + 1 ≤ q.1 ∧ q.1 ≤ n ∧ o + 1 ≤ q.2.1 ∧ q.2.1 ≤ 60 ∧ (q.2.2.length : Int) + 1 ≤ 2 * (q.2.1 - o) := i1
        exact zGd.seq (by omega) b.1 b.2.2.1 b.2.2.2.2 (ih 4 w q.1 q.2.1 b.2.1 b.2.2.2.1 (by omega))
    · rw [zPx_3]
      show zGd n 0 j o _
      split
      · rename_i c1
        have jn := ne j (by omega) hj
        have i1 := ih 0 w (j + 1) o (by omega) ho (by omega)
        cases hr : zPx kd wd vl f 0 w (j + 1) o with
        | inl e =>
          rw [hr] at i1
          have b : j + 1 ≤ e.2 ∧ e.2 ≤ n := i1
          exact ⟨by show j ≤ e.2; omega, b.2⟩
        | inr q =>
          rw [hr] at i1
          have b : j + 1 + 1 ≤ q.1 ∧ q.1 ≤ n ∧ o + 1 ≤ q.2.1 ∧ q.2.1 ≤ 60 ∧ (q.2.2.length : Int) + 1 ≤ 2 * (q.2.1 - o) := i1
          refine zGd.seq (by omega) (by omega) (by omega) ?_ (ih 3 w q.1 q.2.1 b.2.1 b.2.2.2.1 (by omega))
          rw [List.length_append, List.length_singleton]
          omega
      · exact ⟨by show j + 0 ≤ j; omega, hj, by show o + 0 ≤ o; omega, ho, by show ((0 : Nat) : Int) + 0 ≤ 2 * (o - o); omega⟩
    · rw [zPx_4]
      show zGd n 0 j o _
      split
      · rename_i c1
        have jn := ne j (by omega) hj
        have i1 := ih 1 w (j + 1) o (by omega) ho (by omega)
        cases hr : zPx kd wd vl f 1 w (j + 1) o with
        | inl e =>
          rw [hr] at i1
          have b : j + 1 ≤ e.2 ∧ e.2 ≤ n := i1
          exact ⟨by show j ≤ e.2; omega, b.2⟩
        | inr q =>
          rw [hr] at i1
          have b : j + 1 + 1 ≤ q.1 ∧ q.1 ≤ n ∧ o + 1 ≤ q.2.1 ∧ q.2.1 ≤ 60 ∧ (q.2.2.length : Int) + 1 ≤ 2 * (q.2.1 - o) := i1
          refine zGd.seq (by omega) (by omega) (by omega) ?_ (ih 4 w q.1 q.2.1 b.2.1 b.2.2.2.1 (by omega))
          rw [List.length_append, List.length_singleton]
          omega
      · exact ⟨by show j + 0 ≤ j; omega, hj, by show o + 0 ≤ o; omega, ho, by show ((0 : Nat) : Int) + 0 ≤ 2 * (o - o); omega⟩
