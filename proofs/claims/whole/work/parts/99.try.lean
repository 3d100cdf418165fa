/-! reading a COND -/
set_option maxRecDepth 20000 in
theorem bX5_readToken_0 {X : zX} {dep bc bs : Nat} {h : zH} {Q : Nat → zH → List zV → Prop} (hc : -1 ≤ h 24 4 ∧ h 24 4 + 1 < h 25 4 ∧ h 25 4 ≤ 301)
    (k1 : (h 25 4) ≤ ((h 24 4) + 1) → Q 239 h [])
    (k2 : ¬ ((h 25 4) ≤ ((h 24 4) + 1)) → Q 239 (zst (zst (zst h 24 4 ((h 24 4) + 1)) 24 5 (h 26 ((h 24 4) + 1))) 24 6 (h 29 ((h 24 4) + 1))) []) : zW mX5_readToken X dep bc bs 239 0 [(0, xR 24)] [] h Q := by
  refine z_aload_n 0 dX5_readToken_0 rfl ?_
  refine z_getI (k := 4) (kz := 4) pk5 dX5_readToken_1 (by decide) zb_329 rfl (zOb.lit (by decide +kernel)) rfl ?_
  refine z_iconst dX5_readToken_4 (zi32_d rfl) ?_
  refine z_iaddN dX5_readToken_5 (show -2147483648 ≤ (h 24 4) + 1 ∧ (h 24 4) + 1 < 2147483648 from ⟨by omega, by omega⟩).1 (show -2147483648 ≤ (h 24 4) + 1 ∧ (h 24 4) + 1 < 2147483648 from ⟨by omega, by omega⟩).2 ?_
  refine z_aload_n 0 dX5_readToken_6 rfl ?_
  refine z_getS (v := 25) (k := 0) (kz := 0) pk5 dX5_readToken_7 (by decide) zb_323 rfl (zOb.lit (by decide +kernel)) rfl (by decide +kernel) ?_
  refine z_getI (k := 4) (kz := 4) pk8 dX5_readToken_10 (by decide) zb_250 rfl (zOb.lit (by decide +kernel)) rfl ?_
  refine z_icmp_ge (tgt := 58) dX5_readToken_13 (by decide) (fun c1 => ?_) (fun c1 => ?_)
  ·
    exact z_ret dX5_readToken_58 rfl (k1 c1)
  ·
    refine z_aload_n 0 dX5_readToken_16 rfl ?_
    refine z_dup dX5_readToken_17 zt2 ?_
    refine z_getI (k := 4) (kz := 4) pk5 dX5_readToken_18 (by decide) zb_329 rfl (zOb.lit (by decide +kernel)) rfl ?_
    refine z_iconst dX5_readToken_21 (zi32_d rfl) ?_
    refine z_iaddN dX5_readToken_22 (show -2147483648 ≤ (h 24 4) + 1 ∧ (h 24 4) + 1 < 2147483648 from ⟨by omega, by omega⟩).1 (show -2147483648 ≤ (h 24 4) + 1 ∧ (h 24 4) + 1 < 2147483648 from ⟨by omega, by omega⟩).2 ?_
    refine z_putI (k := 4) (kz := 4) pk5 dX5_readToken_23 (by decide) zb_329 rfl (zFit_int _) (zOb.lit (by decide +kernel)) rfl ?_
    refine z_aload_n 0 dX5_readToken_26 rfl ?_
    refine z_aload_n 0 dX5_readToken_27 rfl ?_
    refine z_getS (v := 25) (k := 0) (kz := 0) pk5 dX5_readToken_28 (by decide) zb_323 rfl (zOb.lit (by decide +kernel)) rfl (by decide +kernel) ?_
    refine z_getS (v := 26) (k := 0) (kz := 0) pk8 dX5_readToken_31 (by decide) zb_242 rfl (zOb.lit (by decide +kernel)) rfl (by decide +kernel) ?_
    refine z_aload_n 0 dX5_readToken_34 rfl ?_
    refine z_getIV (v := ((h 24 4) + 1)) (k := 4) (kz := 4) pk5 dX5_readToken_35 (by decide) zb_329 rfl (zOb.lit (by decide +kernel)) rfl (zst_self _ _ _ _) ?_
    refine z_ialdV (v := (h 26 ((h 24 4) + 1))) dX5_readToken_38 (zOb.lit (by decide +kernel)) (show 0 ≤ ((h 24 4) + 1) ∧ ((h 24 4) + 1) < 301 from ⟨by omega, by omega⟩).1 (show 0 ≤ ((h 24 4) + 1) ∧ ((h 24 4) + 1) < 301 from ⟨by omega, by omega⟩).2 (zst_ne (Or.inl (by decide))) ?_
    refine z_putI (k := 5) (kz := 5) pk5 dX5_readToken_39 (by decide) zb_330 rfl (zFit_int _) (zOb.lit (by decide +kernel)) rfl ?_
    refine z_aload_n 0 dX5_readToken_42 rfl ?_
    refine z_aload_n 0 dX5_readToken_43 rfl ?_
    refine z_getS (v := 25) (k := 0) (kz := 0) pk5 dX5_readToken_44 (by decide) zb_323 rfl (zOb.lit (by decide +kernel)) rfl (by decide +kernel) ?_
    refine z_getS (v := 29) (k := 3) (kz := 3) pk8 dX5_readToken_47 (by decide) zb_248 rfl (zOb.lit (by decide +kernel)) rfl (by decide +kernel) ?_
    refine z_aload_n 0 dX5_readToken_50 rfl ?_
    refine z_getIV (v := ((h 24 4) + 1)) (k := 4) (kz := 4) pk5 dX5_readToken_51 (by decide) zb_329 rfl (zOb.lit (by decide +kernel)) rfl ((zst_ne (Or.inr (by decide))).trans (zst_self _ _ _ _)) ?_
    refine z_aaldWV (v := (h 29 ((h 24 4) + 1))) dX5_readToken_54 (zOb.lit (by decide +kernel)) (show 0 ≤ ((h 24 4) + 1) ∧ ((h 24 4) + 1) < 301 from ⟨by omega, by omega⟩).1 (show 0 ≤ ((h 24 4) + 1) ∧ ((h 24 4) + 1) < 301 from ⟨by omega, by omega⟩).2 ((zst_ne (Or.inl (by decide))).trans (zst_ne (Or.inl (by decide)))) ?_
    refine z_putI (k := 6) (kz := 6) pk5 dX5_readToken_55 (by decide) zb_331 rfl (zFit_obj _ _) (zOb.lit (by decide +kernel)) rfl ?_
    exact z_ret dX5_readToken_58 rfl (k2 c1)

set_option maxRecDepth 20000 in
theorem bX5_fail_0 {X : zX} {dep bc bs : Nat} (k : Int) {h : zH} {Q : Nat → zH → List zV → Prop} (hc : 0 ≤ h 24 4 ∧ h 24 4 < h 25 4 ∧ h 25 4 ≤ 301)
    (k1 : (h 24 4) < 0 → Q 239 (zst (zst h 24 2 k) 24 3 0) [xI 0])
    (k2 : ¬ ((h 24 4) < 0) → (h 24 4) < (h 25 4) → Q 239 (zst (zst h 24 2 k) 24 3 (h 27 (h 24 4))) [xI 0])
    (k3 : ¬ ((h 24 4) < 0) → ¬ ((h 24 4) < (h 25 4)) → Q 239 (zst (zst h 24 2 k) 24 3 0) [xI 0]) : zW mX5_fail X dep bc bs 239 0 [(0, xR 24), (1, xI k)] [] h Q := by
  refine z_aload_n 0 dX5_fail_0 rfl ?_
  refine z_iload_n 1 dX5_fail_1 rfl ?_
  refine z_putI (k := 2) (kz := 2) pk5 dX5_fail_2 (by decide) zb_325 rfl (zFit_int _) (zOb.lit (by decide +kernel)) rfl ?_
  refine z_aload_n 0 dX5_fail_5 rfl ?_
  refine z_aload_n 0 dX5_fail_6 rfl ?_
  refine z_getIV (v := (h 24 4)) (k := 4) (kz := 4) pk5 dX5_fail_7 (by decide) zb_329 rfl (zOb.lit (by decide +kernel)) rfl (zst_ne (Or.inr (by decide))) ?_
  refine z_if_lt (tgt := 27) dX5_fail_10 (by decide) (fun c1 => ?_) (fun c1 => ?_)
  ·
    refine z_iconst dX5_fail_27 (zi32_d rfl) ?_
    refine z_goto (tgt := 43) dX5_fail_28 (by decide) ?_
    refine z_putI (k := 3) (kz := 3) pk5 dX5_fail_43 (by decide) zb_327 rfl (zFit_int _) (zOb.lit (by decide +kernel)) rfl ?_
    refine z_iconst dX5_fail_46 (zi32_d rfl) ?_
    exact z_zret dX5_fail_47 rfl (Or.inl rfl) (k1 c1)
  ·
    refine z_aload_n 0 dX5_fail_13 rfl ?_
    refine z_getIV (v := (h 24 4)) (k := 4) (kz := 4) pk5 dX5_fail_14 (by decide) zb_329 rfl (zOb.lit (by decide +kernel)) rfl (zst_ne (Or.inr (by decide))) ?_
    refine z_aload_n 0 dX5_fail_17 rfl ?_
    refine z_getS (v := 25) (k := 0) (kz := 0) pk5 dX5_fail_18 (by decide) zb_323 rfl (zOb.lit (by decide +kernel)) rfl (by decide +kernel) ?_
    refine z_getIV (v := (h 25 4)) (k := 4) (kz := 4) pk8 dX5_fail_21 (by decide) zb_250 rfl (zOb.lit (by decide +kernel)) rfl (zst_ne (Or.inl (by decide))) ?_
    refine z_icmp_lt (tgt := 31) dX5_fail_24 (by decide) (fun c2 => ?_) (fun c2 => ?_)
    ·
      refine z_aload_n 0 dX5_fail_31 rfl ?_
      refine z_getS (v := 25) (k := 0) (kz := 0) pk5 dX5_fail_32 (by decide) zb_323 rfl (zOb.lit (by decide +kernel)) rfl (by decide +kernel) ?_
      refine z_getS (v := 27) (k := 1) (kz := 1) pk8 dX5_fail_35 (by decide) zb_244 rfl (zOb.lit (by decide +kernel)) rfl (by decide +kernel) ?_
      refine z_aload_n 0 dX5_fail_38 rfl ?_
      refine z_getIV (v := (h 24 4)) (k := 4) (kz := 4) pk5 dX5_fail_39 (by decide) zb_329 rfl (zOb.lit (by decide +kernel)) rfl (zst_ne (Or.inr (by decide))) ?_
      refine z_ialdV (v := (h 27 (h 24 4))) dX5_fail_42 (zOb.lit (by decide +kernel)) (show 0 ≤ (h 24 4) ∧ (h 24 4) < 301 from ⟨by omega, by omega⟩).1 (show 0 ≤ (h 24 4) ∧ (h 24 4) < 301 from ⟨by omega, by omega⟩).2 (zst_ne (Or.inl (by decide))) ?_
      refine z_putI (k := 3) (kz := 3) pk5 dX5_fail_43 (by decide) zb_327 rfl (zFit_int _) (zOb.lit (by decide +kernel)) rfl ?_
      refine z_iconst dX5_fail_46 (zi32_d rfl) ?_
      exact z_zret dX5_fail_47 rfl (Or.inl rfl) (k2 c1 c2)
    ·
      refine z_iconst dX5_fail_27 (zi32_d rfl) ?_
      refine z_goto (tgt := 43) dX5_fail_28 (by decide) ?_
      refine z_putI (k := 3) (kz := 3) pk5 dX5_fail_43 (by decide) zb_327 rfl (zFit_int _) (zOb.lit (by decide +kernel)) rfl ?_
      refine z_iconst dX5_fail_46 (zi32_d rfl) ?_
      exact z_zret dX5_fail_47 rfl (Or.inl rfl) (k3 c1 c2)

set_option maxRecDepth 20000 in
theorem bX5_readSign_0 {X : zX} {dep bc bs : Nat} (w : Int) {h : zH} {Q : Nat → zH → List zV → Prop}
    (k1 : (h 24 5) = w → zW mX5_readSign X dep bc bs 239 15 [(0, xR 24), (1, xI w)] [xR 24] h Q)
    (k2 : ¬ ((h 24 5) = w) → zW mX5_readSign X dep bc bs 239 10 [(0, xR 24), (1, xI w)] [xI 1, xR 24] h Q) : zW mX5_readSign X dep bc bs 239 0 [(0, xR 24), (1, xI w)] [] h Q := by
  refine z_aload_n 0 dX5_readSign_0 rfl ?_
  refine z_getI (k := 5) (kz := 5) pk5 dX5_readSign_1 (by decide) zb_330 rfl (zOb.lit (by decide +kernel)) rfl ?_
  refine z_iload_n 1 dX5_readSign_4 rfl ?_
  refine z_icmp_eq (tgt := 14) dX5_readSign_5 (by decide) (fun c1 => ?_) (fun c1 => ?_)
  ·
    refine z_aload_n 0 dX5_readSign_14 rfl ?_
    exact k1 c1
  ·
    refine z_aload_n 0 dX5_readSign_8 rfl ?_
    refine z_iconst dX5_readSign_9 (zi32_d rfl) ?_
    exact k2 c1

set_option maxRecDepth 20000 in
theorem rX5_readSign_10 {X : zX} {dep bc bs : Nat} (w : Int) {h : zH} {Q : Nat → zH → List zV → Prop} {P : Int → zH → Prop}
    (hZ : zW mX5_fail X (dep - 1) 0 0 239 0 (zar 0 [xR 24, xI 1]) [] h (zQI P)) (hdep : 1 ≤ dep)
    (k : ∀ (v : Int) (g : zH), P v g → zW mX5_readSign X dep bc bs 239 13 [(0, xR 24), (1, xI w)] [xI v] g Q) : zW mX5_readSign X dep bc bs 239 10 [(0, xR 24), (1, xI w)] [xI 1, xR 24] h Q :=
  z_invQI (ci := 5) (N := 8) (as := [xI 1]) (st := []) (ra := [xI 1]) hZ dX5_readSign_10 nX5_fail zb_693 zb_695 zb_5 zb_86 (zOb.lit (by decide +kernel)) rfl (by omega) (Nat.le_of_ble_eq_true rfl) (Nat.le_of_ble_eq_true rfl) rfl (fun v g hg => k v g hg)

set_option maxRecDepth 20000 in
theorem bX5_readSign_13 {X : zX} {dep bc bs : Nat} (w : Int) (v : Int) {h : zH} {Q : Nat → zH → List zV → Prop} (hv : v = 0 ∨ v = 1)
    (k1 : Q 239 h [xI v]) : zW mX5_readSign X dep bc bs 239 13 [(0, xR 24), (1, xI w)] [xI v] h Q := by
  exact z_zret dX5_readSign_13 rfl hv (k1)

set_option maxRecDepth 20000 in
theorem rX5_readSign_15 {X : zX} {dep bc bs : Nat} (w : Int) {h : zH} {Q : Nat → zH → List zV → Prop} {P : zH → Prop}
    (hZ : zW mX5_readToken X (dep - 1) 0 0 239 0 (zar 0 [xR 24]) [] h (zQ0 P)) (hdep : 1 ≤ dep)
    (k : ∀ g : zH, P g → zW mX5_readSign X dep bc bs 239 18 [(0, xR 24), (1, xI w)] [] g Q) : zW mX5_readSign X dep bc bs 239 15 [(0, xR 24), (1, xI w)] [xR 24] h Q :=
  z_invQ0 (ci := 5) (N := 8) (as := []) (st := []) (ra := []) hZ dX5_readSign_15 nX5_readToken zb_685 zb_687 zb_3 zb_86 (zOb.lit (by decide +kernel)) rfl (by omega) (Nat.le_of_ble_eq_true rfl) (Nat.le_of_ble_eq_true rfl) rfl (fun g hg => k g hg)

set_option maxRecDepth 20000 in
theorem bX5_readSign_18 {X : zX} {dep bc bs : Nat} (w : Int) {h : zH} {Q : Nat → zH → List zV → Prop}
    (k1 : Q 239 h [xI 1]) : zW mX5_readSign X dep bc bs 239 18 [(0, xR 24), (1, xI w)] [] h Q := by
  refine z_iconst dX5_readSign_18 (zi32_d rfl) ?_
  exact z_zret dX5_readSign_19 rfl (Or.inr rfl) (k1)

set_option maxRecDepth 20000 in
theorem bX5_readNumber_0 {X : zX} {dep bc bs : Nat} (a : Int) (b : Int) {h : zH} {Q : Nat → zH → List zV → Prop} (hc : 0 ≤ h 24 4 ∧ h 24 4 < 301)
    (k1 : (h 24 5) = 2 → (h 28 (h 24 4)) < a → zW mX5_readNumber X dep bc bs 239 41 [(3, xI (h 28 (h 24 4))), (0, xR 24), (1, xI a), (2, xI b)] [xI 2, xR 24] h Q)
    (k2 : (h 24 5) = 2 → ¬ ((h 28 (h 24 4)) < a) → (h 28 (h 24 4)) ≤ b → zW mX5_readNumber X dep bc bs 239 48 [(3, xI (h 28 (h 24 4))), (0, xR 24), (1, xI a), (2, xI b)] [xR 24] h Q)
    (k3 : (h 24 5) = 2 → ¬ ((h 28 (h 24 4)) < a) → ¬ ((h 28 (h 24 4)) ≤ b) → zW mX5_readNumber X dep bc bs 239 41 [(3, xI (h 28 (h 24 4))), (0, xR 24), (1, xI a), (2, xI b)] [xI 2, xR 24] h Q)
    (k4 : ¬ ((h 24 5) = 2) → zW mX5_readNumber X dep bc bs 239 10 [(0, xR 24), (1, xI a), (2, xI b)] [xI 1, xR 24] h Q) : zW mX5_readNumber X dep bc bs 239 0 [(0, xR 24), (1, xI a), (2, xI b)] [] h Q := by
  refine z_aload_n 0 dX5_readNumber_0 rfl ?_
  refine z_getI (k := 5) (kz := 5) pk5 dX5_readNumber_1 (by decide) zb_330 rfl (zOb.lit (by decide +kernel)) rfl ?_
  refine z_iconst dX5_readNumber_4 (zi32_d rfl) ?_
  refine z_icmp_eq (tgt := 16) dX5_readNumber_5 (by decide) (fun c1 => ?_) (fun c1 => ?_)
  ·
    refine z_aload_n 0 dX5_readNumber_16 rfl ?_
    refine z_getS (v := 25) (k := 0) (kz := 0) pk5 dX5_readNumber_17 (by decide) zb_323 rfl (zOb.lit (by decide +kernel)) rfl (by decide +kernel) ?_
    refine z_getS (v := 28) (k := 2) (kz := 2) pk8 dX5_readNumber_20 (by decide) zb_246 rfl (zOb.lit (by decide +kernel)) rfl (by decide +kernel) ?_
    refine z_aload_n 0 dX5_readNumber_23 rfl ?_
    refine z_getI (k := 4) (kz := 4) pk5 dX5_readNumber_24 (by decide) zb_329 rfl (zOb.lit (by decide +kernel)) rfl ?_
    refine z_iald dX5_readNumber_27 (zOb.lit (by decide +kernel)) (show 0 ≤ (h 24 4) ∧ (h 24 4) < 301 from ⟨by omega, by omega⟩).1 (show 0 ≤ (h 24 4) ∧ (h 24 4) < 301 from ⟨by omega, by omega⟩).2 ?_
    refine z_istore_n (lv' := [(3, xI (h 28 (h 24 4))), (0, xR 24), (1, xI a), (2, xI b)]) dX5_readNumber_28 (by decide) rfl ?_
    refine z_iload_n 0 dX5_readNumber_29 rfl ?_
    refine z_iload_n 2 dX5_readNumber_30 rfl ?_
    refine z_icmp_lt (tgt := 39) dX5_readNumber_31 (by decide) (fun c2 => ?_) (fun c2 => ?_)
    ·
      refine z_aload_n 1 dX5_readNumber_39 rfl ?_
      refine z_iconst dX5_readNumber_40 (zi32_d rfl) ?_
      exact k1 c1 c2
    ·
      refine z_iload_n 0 dX5_readNumber_34 rfl ?_
      refine z_iload_n 3 dX5_readNumber_35 rfl ?_
      refine z_icmp_le (tgt := 47) dX5_readNumber_36 (by decide) (fun c3 => ?_) (fun c3 => ?_)
      ·
        refine z_aload_n 1 dX5_readNumber_47 rfl ?_
        exact k2 c1 c2 c3
      ·
        refine z_aload_n 1 dX5_readNumber_39 rfl ?_
        refine z_iconst dX5_readNumber_40 (zi32_d rfl) ?_
        exact k3 c1 c2 c3
  ·
    refine z_aload_n 0 dX5_readNumber_8 rfl ?_
    refine z_iconst dX5_readNumber_9 (zi32_d rfl) ?_
    exact k4 c1

set_option maxRecDepth 20000 in
theorem rX5_readNumber_10 {X : zX} {dep bc bs : Nat} (a : Int) (b : Int) {h : zH} {Q : Nat → zH → List zV → Prop} {P : Int → zH → Prop}
    (hZ : zW mX5_fail X (dep - 1) 0 0 239 0 (zar 0 [xR 24, xI 1]) [] h (zQI P)) (hdep : 1 ≤ dep)
    (k : ∀ (v : Int) (g : zH), P v g → zW mX5_readNumber X dep bc bs 239 13 [(0, xR 24), (1, xI a), (2, xI b)] [xI v] g Q) : zW mX5_readNumber X dep bc bs 239 10 [(0, xR 24), (1, xI a), (2, xI b)] [xI 1, xR 24] h Q :=
  z_invQI (ci := 5) (N := 8) (as := [xI 1]) (st := []) (ra := [xI 1]) hZ dX5_readNumber_10 nX5_fail zb_693 zb_695 zb_5 zb_86 (zOb.lit (by decide +kernel)) rfl (by omega) (Nat.le_of_ble_eq_true rfl) (Nat.le_of_ble_eq_true rfl) rfl (fun v g hg => k v g hg)

set_option maxRecDepth 20000 in
theorem bX5_readNumber_13 {X : zX} {dep bc bs : Nat} (a : Int) (b : Int) (v : Int) {h : zH} {Q : Nat → zH → List zV → Prop}
    (k1 : Q 239 h [xI (-1)]) : zW mX5_readNumber X dep bc bs 239 13 [(0, xR 24), (1, xI a), (2, xI b)] [xI v] h Q := by
  refine z_pop dX5_readNumber_13 zt0 ?_
  refine z_iconst dX5_readNumber_14 (zi32_d rfl) ?_
  exact z_iret dX5_readNumber_15 rfl (k1)

set_option maxRecDepth 20000 in
theorem rX5_readNumber_41 {X : zX} {dep bc bs : Nat} (a : Int) (b : Int) (y : Int) {h : zH} {Q : Nat → zH → List zV → Prop} {P : Int → zH → Prop}
    (hZ : zW mX5_fail X (dep - 1) 0 0 239 0 (zar 0 [xR 24, xI 2]) [] h (zQI P)) (hdep : 1 ≤ dep)
    (k : ∀ (v : Int) (g : zH), P v g → zW mX5_readNumber X dep bc bs 239 44 [(0, xR 24), (1, xI a), (2, xI b), (3, xI y)] [xI v] g Q) : zW mX5_readNumber X dep bc bs 239 41 [(0, xR 24), (1, xI a), (2, xI b), (3, xI y)] [xI 2, xR 24] h Q :=
  z_invQI (ci := 5) (N := 8) (as := [xI 2]) (st := []) (ra := [xI 2]) hZ dX5_readNumber_41 nX5_fail zb_693 zb_695 zb_5 zb_86 (zOb.lit (by decide +kernel)) rfl (by omega) (Nat.le_of_ble_eq_true rfl) (Nat.le_of_ble_eq_true rfl) rfl (fun v g hg => k v g hg)

set_option maxRecDepth 20000 in
theorem bX5_readNumber_44 {X : zX} {dep bc bs : Nat} (a : Int) (b : Int) (y : Int) (v : Int) {h : zH} {Q : Nat → zH → List zV → Prop}
    (k1 : Q 239 h [xI (-1)]) : zW mX5_readNumber X dep bc bs 239 44 [(0, xR 24), (1, xI a), (2, xI b), (3, xI y)] [xI v] h Q := by
  refine z_pop dX5_readNumber_44 zt0 ?_
  refine z_iconst dX5_readNumber_45 (zi32_d rfl) ?_
  exact z_iret dX5_readNumber_46 rfl (k1)

set_option maxRecDepth 20000 in
theorem rX5_readNumber_48 {X : zX} {dep bc bs : Nat} (a : Int) (b : Int) (y : Int) {h : zH} {Q : Nat → zH → List zV → Prop} {P : zH → Prop}
    (hZ : zW mX5_readToken X (dep - 1) 0 0 239 0 (zar 0 [xR 24]) [] h (zQ0 P)) (hdep : 1 ≤ dep)
    (k : ∀ g : zH, P g → zW mX5_readNumber X dep bc bs 239 51 [(0, xR 24), (1, xI a), (2, xI b), (3, xI y)] [] g Q) : zW mX5_readNumber X dep bc bs 239 48 [(0, xR 24), (1, xI a), (2, xI b), (3, xI y)] [xR 24] h Q :=
  z_invQ0 (ci := 5) (N := 8) (as := []) (st := []) (ra := []) hZ dX5_readNumber_48 nX5_readToken zb_685 zb_687 zb_3 zb_86 (zOb.lit (by decide +kernel)) rfl (by omega) (Nat.le_of_ble_eq_true rfl) (Nat.le_of_ble_eq_true rfl) rfl (fun g hg => k g hg)

set_option maxRecDepth 20000 in
theorem bX5_readNumber_51 {X : zX} {dep bc bs : Nat} (a : Int) (b : Int) (y : Int) {h : zH} {Q : Nat → zH → List zV → Prop}
    (k1 : Q 239 h [xI y]) : zW mX5_readNumber X dep bc bs 239 51 [(0, xR 24), (1, xI a), (2, xI b), (3, xI y)] [] h Q := by
  refine z_iload_n 3 dX5_readNumber_51 rfl ?_
  exact z_iret dX5_readNumber_52 rfl (k1)

set_option maxRecDepth 20000 in
theorem bX5_readQuestion_0 {X : zX} {dep bc bs : Nat} (q : Int) (L : Int) {h : zH} {Q : Nat → zH → List zV → Prop} (hq : 1000000 ≤ q ∧ q < 1000022) (hL : zLawO L) (hl : h 24 1 = L)
    (k1 : (zWn q) = (-1) → (h 24 5) = 60 → zW mX5_readQuestion X dep bc bs 239 60 [(2, xI (h 24 5)), (0, xR 24), (1, xR q)] [xR 24] h Q)
    (k2 : (zWn q) = (-1) → ¬ ((h 24 5) = 60) → (h 24 5) = 61 → zW mX5_readQuestion X dep bc bs 239 60 [(2, xI (h 24 5)), (0, xR 24), (1, xR q)] [xR 24] h Q)
    (k3 : (zWn q) = (-1) → ¬ ((h 24 5) = 60) → ¬ ((h 24 5) = 61) → (h 24 5) = 62 → zW mX5_readQuestion X dep bc bs 239 60 [(2, xI (h 24 5)), (0, xR 24), (1, xR q)] [xR 24] h Q)
    (k4 : (zWn q) = (-1) → ¬ ((h 24 5) = 60) → ¬ ((h 24 5) = 61) → ¬ ((h 24 5) = 62) → zW mX5_readQuestion X dep bc bs 239 55 [(2, xI (h 24 5)), (0, xR 24), (1, xR q)] [xI 1, xR 24] h Q)
    (k5 : ¬ ((zWn q) = (-1)) → zW mX5_readQuestion X dep bc bs 239 22 [(0, xR 24), (1, xR q)] [xI (zWn q), xI 61, xI (zWa q), xR L] h Q) : zW mX5_readQuestion X dep bc bs 239 0 [(0, xR 24), (1, xR q)] [] h Q := by
  refine z_aload_n 1 dX5_readQuestion_0 rfl ?_
  refine z_getWf (RX9, "answer", "I", zWan) (List.mem_of_getElem? (i := 2) rfl) hq dX5_readQuestion_1 zb_1790 ?_
  show zW mX5_readQuestion X dep bc bs 239 4 [(0, xR 24), (1, xR q)] [xI (zWn q)] h Q
  refine z_iconst dX5_readQuestion_4 (zi32_d rfl) ?_
  refine z_icmp_eq (tgt := 30) dX5_readQuestion_5 (by decide) (fun c1 => ?_) (fun c1 => ?_)
  ·
    refine z_aload_n 0 dX5_readQuestion_30 rfl ?_
    refine z_getI (k := 5) (kz := 5) pk5 dX5_readQuestion_31 (by decide) zb_330 rfl (zOb.lit (by decide +kernel)) rfl ?_
    refine z_istore_n (lv' := [(2, xI (h 24 5)), (0, xR 24), (1, xR q)]) dX5_readQuestion_34 (by decide) rfl ?_
    refine z_iload_n 0 dX5_readQuestion_35 rfl ?_
    refine z_bipush dX5_readQuestion_36 (zi32_d rfl) (by decide) ?_
    refine z_icmp_eq (tgt := 59) dX5_readQuestion_38 (by decide) (fun c2 => ?_) (fun c2 => ?_)
    ·
      refine z_aload_n 1 dX5_readQuestion_59 rfl ?_
      exact k1 c1 c2
    ·
      refine z_iload_n 0 dX5_readQuestion_41 rfl ?_
      refine z_bipush dX5_readQuestion_42 (zi32_d rfl) (by decide) ?_
      refine z_icmp_eq (tgt := 59) dX5_readQuestion_44 (by decide) (fun c3 => ?_) (fun c3 => ?_)
      ·
        refine z_aload_n 1 dX5_readQuestion_59 rfl ?_
        exact k2 c1 c2 c3
      ·
        refine z_iload_n 0 dX5_readQuestion_47 rfl ?_
        refine z_bipush dX5_readQuestion_48 (zi32_d rfl) (by decide) ?_
        refine z_icmp_eq (tgt := 59) dX5_readQuestion_50 (by decide) (fun c4 => ?_) (fun c4 => ?_)
        ·
          refine z_aload_n 1 dX5_readQuestion_59 rfl ?_
          exact k3 c1 c2 c3 c4
        ·
          refine z_aload_n 1 dX5_readQuestion_53 rfl ?_
          refine z_iconst dX5_readQuestion_54 (zi32_d rfl) ?_
          exact k4 c1 c2 c3 c4
  ·
    refine z_aload_n 0 dX5_readQuestion_8 rfl ?_
    refine z_getD (v := L) (k := 1) (kz := 1) pk5 dX5_readQuestion_9 (by decide) zb_324 rfl (zOb.lit (by decide +kernel)) rfl hl ?_
    refine z_aload_n 1 dX5_readQuestion_12 rfl ?_
    refine z_getWf (RX9, "asks", "I", zWas) (List.mem_of_getElem? (i := 1) rfl) hq dX5_readQuestion_13 zb_1789 ?_
    show zW mX5_readQuestion X dep bc bs 239 16 [(0, xR 24), (1, xR q)] [xI (zWa q), xR L] h Q
    refine z_bipush dX5_readQuestion_16 (zi32_d rfl) (by decide) ?_
    refine z_aload_n 1 dX5_readQuestion_18 rfl ?_
    refine z_getWf (RX9, "answer", "I", zWan) (List.mem_of_getElem? (i := 2) rfl) hq dX5_readQuestion_19 zb_1790 ?_
    show zW mX5_readQuestion X dep bc bs 239 22 [(0, xR 24), (1, xR q)] [xI (zWn q), xI 61, xI (zWa q), xR L] h Q
    exact k5 c1

set_option maxRecDepth 20000 in
theorem rX5_readQuestion_22 {X : zX} {dep bc bs : Nat} (q : Int) (L : Int) {h : zH} {Q : Nat → zH → List zV → Prop} {P : Int → zH → Prop} (hL : zLawO L)
    (hZ : zW mX1_question X (dep - 1) 0 0 239 0 (zar 0 [xI (zWa q), xI 61, xI (zWn q)]) [] h (zQI P)) (hdep : 1 ≤ dep)
    (k : ∀ (v : Int) (g : zH), P v g → zW mX5_readQuestion X dep bc bs 239 25 [(0, xR 24), (1, xR q)] [xI v, xR L] g Q) : zW mX5_readQuestion X dep bc bs 239 22 [(0, xR 24), (1, xR q)] [xI (zWn q), xI 61, xI (zWa q), xR L] h Q :=
  z_invSQI (as := [xI (zWa q), xI 61, xI (zWn q)]) (st := [xR L]) (ra := [xI (zWn q), xI 61, xI (zWa q)]) hZ dX5_readQuestion_22 nX1_question zb_755 zb_756 zb_88 (by omega) (Nat.le_of_ble_eq_true rfl) (Nat.le_of_ble_eq_true rfl) rfl (fun v g hg => k v g hg)

set_option maxRecDepth 20000 in
theorem rX5_readQuestion_25 {X : zX} {dep bc bs : Nat} (q : Int) (L : Int) (v : Int) {h : zH} {Q : Nat → zH → List zV → Prop} {P : zH → Prop} (hL : zLawO L)
    (hZ : zW mX1_addStep X (dep - 1) 0 0 239 0 (zar 0 [xR L, xI v]) [] h (zQ0 P)) (hdep : 1 ≤ dep)
    (k : ∀ g : zH, P g → zW mX5_readQuestion X dep bc bs 239 28 [(0, xR 24), (1, xR q)] [] g Q) : zW mX5_readQuestion X dep bc bs 239 25 [(0, xR 24), (1, xR q)] [xI v, xR L] h Q :=
  z_invQ0 (ci := 1) (N := 13) (as := [xI v]) (st := []) (ra := [xI v]) hZ dX5_readQuestion_25 nX1_addStep zb_758 zb_759 zb_760 zb_88 hL.1 rfl (by omega) (Nat.le_of_ble_eq_true rfl) (Nat.le_of_ble_eq_true rfl) rfl (fun g hg => k g hg)

set_option maxRecDepth 20000 in
theorem bX5_readQuestion_28 {X : zX} {dep bc bs : Nat} (q : Int) {h : zH} {Q : Nat → zH → List zV → Prop}
    (k1 : Q 239 h [xI 1]) : zW mX5_readQuestion X dep bc bs 239 28 [(0, xR 24), (1, xR q)] [] h Q := by
  refine z_iconst dX5_readQuestion_28 (zi32_d rfl) ?_
  exact z_zret dX5_readQuestion_29 rfl (Or.inr rfl) (k1)

set_option maxRecDepth 20000 in
theorem rX5_readQuestion_55 {X : zX} {dep bc bs : Nat} (q : Int) (s : Int) {h : zH} {Q : Nat → zH → List zV → Prop} {P : Int → zH → Prop}
    (hZ : zW mX5_fail X (dep - 1) 0 0 239 0 (zar 0 [xR 24, xI 1]) [] h (zQI P)) (hdep : 1 ≤ dep)
    (k : ∀ (v : Int) (g : zH), P v g → zW mX5_readQuestion X dep bc bs 239 58 [(0, xR 24), (1, xR q), (2, xI s)] [xI v] g Q) : zW mX5_readQuestion X dep bc bs 239 55 [(0, xR 24), (1, xR q), (2, xI s)] [xI 1, xR 24] h Q :=
  z_invQI (ci := 5) (N := 8) (as := [xI 1]) (st := []) (ra := [xI 1]) hZ dX5_readQuestion_55 nX5_fail zb_693 zb_695 zb_5 zb_86 (zOb.lit (by decide +kernel)) rfl (by omega) (Nat.le_of_ble_eq_true rfl) (Nat.le_of_ble_eq_true rfl) rfl (fun v g hg => k v g hg)

set_option maxRecDepth 20000 in
theorem bX5_readQuestion_58 {X : zX} {dep bc bs : Nat} (q : Int) (s : Int) (v : Int) {h : zH} {Q : Nat → zH → List zV → Prop} (hv : v = 0 ∨ v = 1)
    (k1 : Q 239 h [xI v]) : zW mX5_readQuestion X dep bc bs 239 58 [(0, xR 24), (1, xR q), (2, xI s)] [xI v] h Q := by
  exact z_zret dX5_readQuestion_58 rfl hv (k1)

set_option maxRecDepth 20000 in
theorem rX5_readQuestion_60 {X : zX} {dep bc bs : Nat} (q : Int) (s : Int) {h : zH} {Q : Nat → zH → List zV → Prop} {P : zH → Prop}
    (hZ : zW mX5_readToken X (dep - 1) 0 0 239 0 (zar 0 [xR 24]) [] h (zQ0 P)) (hdep : 1 ≤ dep)
    (k : ∀ g : zH, P g → zW mX5_readQuestion X dep bc bs 239 63 [(0, xR 24), (1, xR q), (2, xI s)] [] g Q) : zW mX5_readQuestion X dep bc bs 239 60 [(0, xR 24), (1, xR q), (2, xI s)] [xR 24] h Q :=
  z_invQ0 (ci := 5) (N := 8) (as := []) (st := []) (ra := []) hZ dX5_readQuestion_60 nX5_readToken zb_685 zb_687 zb_3 zb_86 (zOb.lit (by decide +kernel)) rfl (by omega) (Nat.le_of_ble_eq_true rfl) (Nat.le_of_ble_eq_true rfl) rfl (fun g hg => k g hg)

set_option maxRecDepth 20000 in
theorem bX5_readQuestion_63 {X : zX} {dep bc bs : Nat} (q : Int) (s : Int) (L : Int) {h : zH} {Q : Nat → zH → List zV → Prop} (hq : 1000000 ≤ q ∧ q < 1000022) (hL : zLawO L) (hl : h 24 1 = L) (hc : 0 ≤ h 24 4 ∧ h 24 4 < 301)
    (k1 : (h 24 5) = 2 → zW mX5_readQuestion X dep bc bs 239 98 [(0, xR 24), (1, xR q), (2, xI s)] [xI (h 28 (h 24 4)), xI s, xI (zWa q), xR L] h Q)
    (k2 : ¬ ((h 24 5) = 2) → zW mX5_readQuestion X dep bc bs 239 73 [(0, xR 24), (1, xR q), (2, xI s)] [xI 1, xR 24] h Q) : zW mX5_readQuestion X dep bc bs 239 63 [(0, xR 24), (1, xR q), (2, xI s)] [] h Q := by
  refine z_aload_n 0 dX5_readQuestion_63 rfl ?_
  refine z_getI (k := 5) (kz := 5) pk5 dX5_readQuestion_64 (by decide) zb_330 rfl (zOb.lit (by decide +kernel)) rfl ?_
  refine z_iconst dX5_readQuestion_67 (zi32_d rfl) ?_
  refine z_icmp_eq (tgt := 77) dX5_readQuestion_68 (by decide) (fun c1 => ?_) (fun c1 => ?_)
  ·
    refine z_aload_n 0 dX5_readQuestion_77 rfl ?_
    refine z_getD (v := L) (k := 1) (kz := 1) pk5 dX5_readQuestion_78 (by decide) zb_324 rfl (zOb.lit (by decide +kernel)) rfl hl ?_
    refine z_aload_n 1 dX5_readQuestion_81 rfl ?_
    refine z_getWf (RX9, "asks", "I", zWas) (List.mem_of_getElem? (i := 1) rfl) hq dX5_readQuestion_82 zb_1789 ?_
    show zW mX5_readQuestion X dep bc bs 239 85 [(0, xR 24), (1, xR q), (2, xI s)] [xI (zWa q), xR L] h Q
    refine z_iload_n 2 dX5_readQuestion_85 rfl ?_
    refine z_aload_n 0 dX5_readQuestion_86 rfl ?_
    refine z_getS (v := 25) (k := 0) (kz := 0) pk5 dX5_readQuestion_87 (by decide) zb_323 rfl (zOb.lit (by decide +kernel)) rfl (by decide +kernel) ?_
    refine z_getS (v := 28) (k := 2) (kz := 2) pk8 dX5_readQuestion_90 (by decide) zb_246 rfl (zOb.lit (by decide +kernel)) rfl (by decide +kernel) ?_
    refine z_aload_n 0 dX5_readQuestion_93 rfl ?_
    refine z_getI (k := 4) (kz := 4) pk5 dX5_readQuestion_94 (by decide) zb_329 rfl (zOb.lit (by decide +kernel)) rfl ?_
    refine z_iald dX5_readQuestion_97 (zOb.lit (by decide +kernel)) (show 0 ≤ (h 24 4) ∧ (h 24 4) < 301 from ⟨by omega, by omega⟩).1 (show 0 ≤ (h 24 4) ∧ (h 24 4) < 301 from ⟨by omega, by omega⟩).2 ?_
    exact k1 c1
  ·
    refine z_aload_n 0 dX5_readQuestion_71 rfl ?_
    refine z_iconst dX5_readQuestion_72 (zi32_d rfl) ?_
    exact k2 c1

set_option maxRecDepth 20000 in
theorem rX5_readQuestion_73 {X : zX} {dep bc bs : Nat} (q : Int) (s : Int) {h : zH} {Q : Nat → zH → List zV → Prop} {P : Int → zH → Prop}
    (hZ : zW mX5_fail X (dep - 1) 0 0 239 0 (zar 0 [xR 24, xI 1]) [] h (zQI P)) (hdep : 1 ≤ dep)
    (k : ∀ (v : Int) (g : zH), P v g → zW mX5_readQuestion X dep bc bs 239 76 [(0, xR 24), (1, xR q), (2, xI s)] [xI v] g Q) : zW mX5_readQuestion X dep bc bs 239 73 [(0, xR 24), (1, xR q), (2, xI s)] [xI 1, xR 24] h Q :=
  z_invQI (ci := 5) (N := 8) (as := [xI 1]) (st := []) (ra := [xI 1]) hZ dX5_readQuestion_73 nX5_fail zb_693 zb_695 zb_5 zb_86 (zOb.lit (by decide +kernel)) rfl (by omega) (Nat.le_of_ble_eq_true rfl) (Nat.le_of_ble_eq_true rfl) rfl (fun v g hg => k v g hg)

set_option maxRecDepth 20000 in
theorem bX5_readQuestion_76 {X : zX} {dep bc bs : Nat} (q : Int) (s : Int) (v : Int) {h : zH} {Q : Nat → zH → List zV → Prop} (hv : v = 0 ∨ v = 1)
    (k1 : Q 239 h [xI v]) : zW mX5_readQuestion X dep bc bs 239 76 [(0, xR 24), (1, xR q), (2, xI s)] [xI v] h Q := by
  exact z_zret dX5_readQuestion_76 rfl hv (k1)

set_option maxRecDepth 20000 in
theorem rX5_readQuestion_98 {X : zX} {dep bc bs : Nat} (q : Int) (s : Int) (t : Int) (L : Int) {h : zH} {Q : Nat → zH → List zV → Prop} {P : Int → zH → Prop} (hL : zLawO L)
    (hZ : zW mX1_question X (dep - 1) 0 0 239 0 (zar 0 [xI (zWa q), xI s, xI t]) [] h (zQI P)) (hdep : 1 ≤ dep)
    (k : ∀ (v : Int) (g : zH), P v g → zW mX5_readQuestion X dep bc bs 239 101 [(0, xR 24), (1, xR q), (2, xI s)] [xI v, xR L] g Q) : zW mX5_readQuestion X dep bc bs 239 98 [(0, xR 24), (1, xR q), (2, xI s)] [xI t, xI s, xI (zWa q), xR L] h Q :=
  z_invSQI (as := [xI (zWa q), xI s, xI t]) (st := [xR L]) (ra := [xI t, xI s, xI (zWa q)]) hZ dX5_readQuestion_98 nX1_question zb_755 zb_756 zb_88 (by omega) (Nat.le_of_ble_eq_true rfl) (Nat.le_of_ble_eq_true rfl) rfl (fun v g hg => k v g hg)

set_option maxRecDepth 20000 in
theorem rX5_readQuestion_101 {X : zX} {dep bc bs : Nat} (q : Int) (s : Int) (L : Int) (v : Int) {h : zH} {Q : Nat → zH → List zV → Prop} {P : zH → Prop} (hL : zLawO L)
    (hZ : zW mX1_addStep X (dep - 1) 0 0 239 0 (zar 0 [xR L, xI v]) [] h (zQ0 P)) (hdep : 1 ≤ dep)
    (k : ∀ g : zH, P g → zW mX5_readQuestion X dep bc bs 239 104 [(0, xR 24), (1, xR q), (2, xI s)] [] g Q) : zW mX5_readQuestion X dep bc bs 239 101 [(0, xR 24), (1, xR q), (2, xI s)] [xI v, xR L] h Q :=
  z_invQ0 (ci := 1) (N := 13) (as := [xI v]) (st := []) (ra := [xI v]) hZ dX5_readQuestion_101 nX1_addStep zb_758 zb_759 zb_760 zb_88 hL.1 rfl (by omega) (Nat.le_of_ble_eq_true rfl) (Nat.le_of_ble_eq_true rfl) rfl (fun g hg => k g hg)

set_option maxRecDepth 20000 in
theorem bX5_readQuestion_104 {X : zX} {dep bc bs : Nat} (q : Int) (s : Int) {h : zH} {Q : Nat → zH → List zV → Prop}
    (k1 : zW mX5_readQuestion X dep bc bs 239 105 [(0, xR 24), (1, xR q), (2, xI s)] [xR 24] h Q) : zW mX5_readQuestion X dep bc bs 239 104 [(0, xR 24), (1, xR q), (2, xI s)] [] h Q := by
  refine z_aload_n 0 dX5_readQuestion_104 rfl ?_
  exact k1

set_option maxRecDepth 20000 in
theorem rX5_readQuestion_105 {X : zX} {dep bc bs : Nat} (q : Int) (s : Int) {h : zH} {Q : Nat → zH → List zV → Prop} {P : zH → Prop}
    (hZ : zW mX5_readToken X (dep - 1) 0 0 239 0 (zar 0 [xR 24]) [] h (zQ0 P)) (hdep : 1 ≤ dep)
    (k : ∀ g : zH, P g → zW mX5_readQuestion X dep bc bs 239 108 [(0, xR 24), (1, xR q), (2, xI s)] [] g Q) : zW mX5_readQuestion X dep bc bs 239 105 [(0, xR 24), (1, xR q), (2, xI s)] [xR 24] h Q :=
  z_invQ0 (ci := 5) (N := 8) (as := []) (st := []) (ra := []) hZ dX5_readQuestion_105 nX5_readToken zb_685 zb_687 zb_3 zb_86 (zOb.lit (by decide +kernel)) rfl (by omega) (Nat.le_of_ble_eq_true rfl) (Nat.le_of_ble_eq_true rfl) rfl (fun g hg => k g hg)

set_option maxRecDepth 20000 in
theorem bX5_readQuestion_108 {X : zX} {dep bc bs : Nat} (q : Int) (s : Int) {h : zH} {Q : Nat → zH → List zV → Prop}
    (k1 : Q 239 h [xI 1]) : zW mX5_readQuestion X dep bc bs 239 108 [(0, xR 24), (1, xR q), (2, xI s)] [] h Q := by
  refine z_iconst dX5_readQuestion_108 (zi32_d rfl) ?_
  exact z_zret dX5_readQuestion_109 rfl (Or.inr rfl) (k1)

set_option maxRecDepth 20000 in
theorem bX5_readOne_0 {X : zX} {dep bc bs : Nat} (w : Int) {h : zH} {Q : Nat → zH → List zV → Prop} (hw : zWd (h 24 6))
    (k1 : (h 24 6) < 0 → (h 24 6) = 1000007 → zW mX5_readOne X dep bc bs 239 49 [(0, xR 24), (1, xI w), (2, xR (h 24 6)), (3, xI 0)] [] h Q)
    (k2 : (h 24 6) < 0 → ¬ ((h 24 6) = 1000007) → (h 24 5) = 40 → zW mX5_readOne X dep bc bs 239 49 [(0, xR 24), (1, xI w), (2, xR (h 24 6)), (3, xI 0)] [] h Q)
    (k3 : (h 24 6) < 0 → ¬ ((h 24 6) = 1000007) → ¬ ((h 24 5) = 40) → zW mX5_readOne X dep bc bs 239 45 [(3, xI 0), (2, xR (h 24 6)), (0, xR 24), (1, xI w)] [xI 1, xR 24] h Q)
    (k4 : ¬ ((h 24 6) < 0) → (zWa (h 24 6)) = (-1) → (h 24 6) = 1000007 → zW mX5_readOne X dep bc bs 239 49 [(0, xR 24), (1, xI w), (2, xR (h 24 6)), (3, xI 0)] [] h Q)
    (k5 : ¬ ((h 24 6) < 0) → (zWa (h 24 6)) = (-1) → ¬ ((h 24 6) = 1000007) → (h 24 5) = 40 → zW mX5_readOne X dep bc bs 239 49 [(0, xR 24), (1, xI w), (2, xR (h 24 6)), (3, xI 0)] [] h Q)
    (k6 : ¬ ((h 24 6) < 0) → (zWa (h 24 6)) = (-1) → ¬ ((h 24 6) = 1000007) → ¬ ((h 24 5) = 40) → zW mX5_readOne X dep bc bs 239 45 [(3, xI 0), (2, xR (h 24 6)), (0, xR 24), (1, xI w)] [xI 1, xR 24] h Q)
    (k7 : ¬ ((h 24 6) < 0) → ¬ ((zWa (h 24 6)) = (-1)) → zW mX5_readOne X dep bc bs 239 49 [(0, xR 24), (1, xI w), (2, xR (h 24 6)), (3, xI 1)] [] h Q) : zW mX5_readOne X dep bc bs 239 0 [(0, xR 24), (1, xI w)] [] h Q := by
  refine z_aload_n 0 dX5_readOne_0 rfl ?_
  refine z_getD (v := (h 24 6)) (k := 6) (kz := 6) pk5 dX5_readOne_1 (by decide) zb_331 rfl (zOb.lit (by decide +kernel)) rfl rfl ?_
  refine z_astore_n (lv' := [(2, xR (h 24 6)), (0, xR 24), (1, xI w)]) dX5_readOne_4 (by decide) rfl ?_
  refine z_aload_n 0 dX5_readOne_5 rfl ?_
  refine z_ifnull (tgt := 21) dX5_readOne_6 (by decide) (fun c1 => ?_) (fun c1 => ?_)
  ·
    refine z_iconst dX5_readOne_21 (zi32_d rfl) ?_
    refine z_istore_n (lv' := [(3, xI 0), (2, xR (h 24 6)), (0, xR 24), (1, xI w)]) dX5_readOne_22 (by decide) rfl ?_
    refine z_iload_n 0 dX5_readOne_23 rfl ?_
    refine z_if_ne (tgt := 49) dX5_readOne_24 (by decide) (fun c => absurd c (by decide)) (fun _ => ?_)
    refine z_aload_n 1 dX5_readOne_27 rfl ?_
    refine z_getW 7 (by decide) dX5_readOne_28 zb_731 ?_
    show zW mX5_readOne X dep bc bs 239 31 [(3, xI 0), (2, xR (h 24 6)), (0, xR 24), (1, xI w)] [xR 1000007, xR (h 24 6)] h Q
    refine z_acmp_eq (tgt := 49) dX5_readOne_31 (by decide) hw (Or.inr ⟨by decide, by decide⟩) (fun c2 => ?_) (fun c2 => ?_)
    ·
      refine zW.sub (lv' := [(0, xR 24), (1, xI w), (2, xR (h 24 6)), (3, xI 0)]) [2, 3, 1, 0] rfl ?_
      exact k1 c1 c2
    ·
      refine z_aload_n 2 dX5_readOne_34 rfl ?_
      refine z_getI (k := 5) (kz := 5) pk5 dX5_readOne_35 (by decide) zb_330 rfl (zOb.lit (by decide +kernel)) rfl ?_
      refine z_bipush dX5_readOne_38 (zi32_d rfl) (by decide) ?_
      refine z_icmp_eq (tgt := 49) dX5_readOne_40 (by decide) (fun c3 => ?_) (fun c3 => ?_)
      ·
        refine zW.sub (lv' := [(0, xR 24), (1, xI w), (2, xR (h 24 6)), (3, xI 0)]) [2, 3, 1, 0] rfl ?_
        exact k2 c1 c2 c3
      ·
        refine z_aload_n 2 dX5_readOne_43 rfl ?_
        refine z_iconst dX5_readOne_44 (zi32_d rfl) ?_
        exact k3 c1 c2 c3
  ·
    refine z_aload_n 0 dX5_readOne_9 rfl ?_
    refine z_getWf (RX9, "asks", "I", zWas) (List.mem_of_getElem? (i := 1) rfl) (show 1000000 ≤ (h 24 6) ∧ (h 24 6) < 1000022 from ⟨by omega, by omega⟩) dX5_readOne_10 zb_1789 ?_
    show zW mX5_readOne X dep bc bs 239 13 [(2, xR (h 24 6)), (0, xR 24), (1, xI w)] [xI (zWa (h 24 6))] h Q
    refine z_iconst dX5_readOne_13 (zi32_d rfl) ?_
    refine z_icmp_eq (tgt := 21) dX5_readOne_14 (by decide) (fun c2 => ?_) (fun c2 => ?_)
    ·
      refine z_iconst dX5_readOne_21 (zi32_d rfl) ?_
      refine z_istore_n (lv' := [(3, xI 0), (2, xR (h 24 6)), (0, xR 24), (1, xI w)]) dX5_readOne_22 (by decide) rfl ?_
      refine z_iload_n 0 dX5_readOne_23 rfl ?_
      refine z_if_ne (tgt := 49) dX5_readOne_24 (by decide) (fun c => absurd c (by decide)) (fun _ => ?_)
      refine z_aload_n 1 dX5_readOne_27 rfl ?_
      refine z_getW 7 (by decide) dX5_readOne_28 zb_731 ?_
      show zW mX5_readOne X dep bc bs 239 31 [(3, xI 0), (2, xR (h 24 6)), (0, xR 24), (1, xI w)] [xR 1000007, xR (h 24 6)] h Q
      refine z_acmp_eq (tgt := 49) dX5_readOne_31 (by decide) hw (Or.inr ⟨by decide, by decide⟩) (fun c3 => ?_) (fun c3 => ?_)
      ·
        refine zW.sub (lv' := [(0, xR 24), (1, xI w), (2, xR (h 24 6)), (3, xI 0)]) [2, 3, 1, 0] rfl ?_
        exact k4 c1 c2 c3
      ·
        refine z_aload_n 2 dX5_readOne_34 rfl ?_
        refine z_getI (k := 5) (kz := 5) pk5 dX5_readOne_35 (by decide) zb_330 rfl (zOb.lit (by decide +kernel)) rfl ?_
        refine z_bipush dX5_readOne_38 (zi32_d rfl) (by decide) ?_
        refine z_icmp_eq (tgt := 49) dX5_readOne_40 (by decide) (fun c4 => ?_) (fun c4 => ?_)
        ·
          refine zW.sub (lv' := [(0, xR 24), (1, xI w), (2, xR (h 24 6)), (3, xI 0)]) [2, 3, 1, 0] rfl ?_
          exact k5 c1 c2 c3 c4
        ·
          refine z_aload_n 2 dX5_readOne_43 rfl ?_
          refine z_iconst dX5_readOne_44 (zi32_d rfl) ?_
          exact k6 c1 c2 c3 c4
    ·
      refine z_iconst dX5_readOne_17 (zi32_d rfl) ?_
      refine z_goto (tgt := 22) dX5_readOne_18 (by decide) ?_
      refine z_istore_n (lv' := [(3, xI 1), (2, xR (h 24 6)), (0, xR 24), (1, xI w)]) dX5_readOne_22 (by decide) rfl ?_
      refine z_iload_n 0 dX5_readOne_23 rfl ?_
      refine z_if_ne (tgt := 49) dX5_readOne_24 (by decide) (fun _ => ?_) (fun c => absurd c (by decide))
      refine zW.sub (lv' := [(0, xR 24), (1, xI w), (2, xR (h 24 6)), (3, xI 1)]) [2, 3, 1, 0] rfl ?_
      exact k7 c1 c2

set_option maxRecDepth 20000 in
theorem rX5_readOne_45 {X : zX} {dep bc bs : Nat} (w : Int) (q : Int) (y : Int) {h : zH} {Q : Nat → zH → List zV → Prop} {P : Int → zH → Prop}
    (hZ : zW mX5_fail X (dep - 1) 0 0 239 0 (zar 0 [xR 24, xI 1]) [] h (zQI P)) (hdep : 1 ≤ dep)
    (k : ∀ (v : Int) (g : zH), P v g → zW mX5_readOne X dep bc bs 239 48 [(0, xR 24), (1, xI w), (2, xR q), (3, xI y)] [xI v] g Q) : zW mX5_readOne X dep bc bs 239 45 [(0, xR 24), (1, xI w), (2, xR q), (3, xI y)] [xI 1, xR 24] h Q :=
  z_invQI (ci := 5) (N := 8) (as := [xI 1]) (st := []) (ra := [xI 1]) hZ dX5_readOne_45 nX5_fail zb_693 zb_695 zb_5 zb_86 (zOb.lit (by decide +kernel)) rfl (by omega) (Nat.le_of_ble_eq_true rfl) (Nat.le_of_ble_eq_true rfl) rfl (fun v g hg => k v g hg)

set_option maxRecDepth 20000 in
theorem bX5_readOne_48 {X : zX} {dep bc bs : Nat} (w : Int) (q : Int) (y : Int) (v : Int) {h : zH} {Q : Nat → zH → List zV → Prop} (hv : v = 0 ∨ v = 1)
    (k1 : Q 239 h [xI v]) : zW mX5_readOne X dep bc bs 239 48 [(0, xR 24), (1, xI w), (2, xR q), (3, xI y)] [xI v] h Q := by
  exact z_zret dX5_readOne_48 rfl hv (k1)

set_option maxRecDepth 20000 in
theorem bX5_readOne_49 {X : zX} {dep bc bs : Nat} (w : Int) (q : Int) (y : Int) {h : zH} {Q : Nat → zH → List zV → Prop} (ho : 0 ≤ h 24 7 ∧ h 24 7 ≤ 60)
    (k1 : 60 ≤ (h 24 7) → zW mX5_readOne X dep bc bs 239 66 [(0, xR 24), (1, xI w), (2, xR q), (3, xI y)] [xI 4, xR 24] h Q)
    (k2 : ¬ (60 ≤ (h 24 7)) → w < 12 → zW mX5_readOne X dep bc bs 239 81 [(0, xR 24), (1, xI w), (2, xR q), (3, xI y)] [xR 24] (zst h 24 7 ((h 24 7) + 1)) Q)
    (k3 : ¬ (60 ≤ (h 24 7)) → ¬ (w < 12) → zW mX5_readOne X dep bc bs 239 66 [(0, xR 24), (1, xI w), (2, xR q), (3, xI y)] [xI 4, xR 24] h Q) : zW mX5_readOne X dep bc bs 239 49 [(0, xR 24), (1, xI w), (2, xR q), (3, xI y)] [] h Q := by
  refine z_aload_n 0 dX5_readOne_49 rfl ?_
  refine z_getI (k := 7) (kz := 7) pk5 dX5_readOne_50 (by decide) zb_332 rfl (zOb.lit (by decide +kernel)) rfl ?_
  refine z_bipush dX5_readOne_53 (zi32_d rfl) (by decide) ?_
  refine z_icmp_ge (tgt := 64) dX5_readOne_55 (by decide) (fun c1 => ?_) (fun c1 => ?_)
  ·
    refine z_aload_n 0 dX5_readOne_64 rfl ?_
    refine z_iconst dX5_readOne_65 (zi32_d rfl) ?_
    exact k1 c1
  ·
    refine z_iload_n 1 dX5_readOne_58 rfl ?_
    refine z_bipush dX5_readOne_59 (zi32_d rfl) (by decide) ?_
    refine z_icmp_lt (tgt := 70) dX5_readOne_61 (by decide) (fun c2 => ?_) (fun c2 => ?_)
    ·
      refine z_aload_n 0 dX5_readOne_70 rfl ?_
      refine z_dup dX5_readOne_71 zt2 ?_
      refine z_getI (k := 7) (kz := 7) pk5 dX5_readOne_72 (by decide) zb_332 rfl (zOb.lit (by decide +kernel)) rfl ?_
      refine z_iconst dX5_readOne_75 (zi32_d rfl) ?_
      refine z_iaddN dX5_readOne_76 (show -2147483648 ≤ (h 24 7) + 1 ∧ (h 24 7) + 1 < 2147483648 from ⟨by omega, by omega⟩).1 (show -2147483648 ≤ (h 24 7) + 1 ∧ (h 24 7) + 1 < 2147483648 from ⟨by omega, by omega⟩).2 ?_
      refine z_putI (k := 7) (kz := 7) pk5 dX5_readOne_77 (by decide) zb_332 rfl (zFit_int _) (zOb.lit (by decide +kernel)) rfl ?_
      refine z_aload_n 0 dX5_readOne_80 rfl ?_
      exact k2 c1 c2
    ·
      refine z_aload_n 0 dX5_readOne_64 rfl ?_
      refine z_iconst dX5_readOne_65 (zi32_d rfl) ?_
      exact k3 c1 c2

set_option maxRecDepth 20000 in
theorem rX5_readOne_66 {X : zX} {dep bc bs : Nat} (w : Int) (q : Int) (y : Int) {h : zH} {Q : Nat → zH → List zV → Prop} {P : Int → zH → Prop}
    (hZ : zW mX5_fail X (dep - 1) 0 0 239 0 (zar 0 [xR 24, xI 4]) [] h (zQI P)) (hdep : 1 ≤ dep)
    (k : ∀ (v : Int) (g : zH), P v g → zW mX5_readOne X dep bc bs 239 69 [(0, xR 24), (1, xI w), (2, xR q), (3, xI y)] [xI v] g Q) : zW mX5_readOne X dep bc bs 239 66 [(0, xR 24), (1, xI w), (2, xR q), (3, xI y)] [xI 4, xR 24] h Q :=
  z_invQI (ci := 5) (N := 8) (as := [xI 4]) (st := []) (ra := [xI 4]) hZ dX5_readOne_66 nX5_fail zb_693 zb_695 zb_5 zb_86 (zOb.lit (by decide +kernel)) rfl (by omega) (Nat.le_of_ble_eq_true rfl) (Nat.le_of_ble_eq_true rfl) rfl (fun v g hg => k v g hg)

set_option maxRecDepth 20000 in
theorem bX5_readOne_69 {X : zX} {dep bc bs : Nat} (w : Int) (q : Int) (y : Int) (v : Int) {h : zH} {Q : Nat → zH → List zV → Prop} (hv : v = 0 ∨ v = 1)
    (k1 : Q 239 h [xI v]) : zW mX5_readOne X dep bc bs 239 69 [(0, xR 24), (1, xI w), (2, xR q), (3, xI y)] [xI v] h Q := by
  exact z_zret dX5_readOne_69 rfl hv (k1)

set_option maxRecDepth 20000 in
theorem rX5_readOne_81 {X : zX} {dep bc bs : Nat} (w : Int) (q : Int) (y : Int) {h : zH} {Q : Nat → zH → List zV → Prop} {P : zH → Prop}
    (hZ : zW mX5_readToken X (dep - 1) 0 0 239 0 (zar 0 [xR 24]) [] h (zQ0 P)) (hdep : 1 ≤ dep)
    (k : ∀ g : zH, P g → zW mX5_readOne X dep bc bs 239 84 [(0, xR 24), (1, xI w), (2, xR q), (3, xI y)] [] g Q) : zW mX5_readOne X dep bc bs 239 81 [(0, xR 24), (1, xI w), (2, xR q), (3, xI y)] [xR 24] h Q :=
  z_invQ0 (ci := 5) (N := 8) (as := []) (st := []) (ra := []) hZ dX5_readOne_81 nX5_readToken zb_685 zb_687 zb_3 zb_86 (zOb.lit (by decide +kernel)) rfl (by omega) (Nat.le_of_ble_eq_true rfl) (Nat.le_of_ble_eq_true rfl) rfl (fun g hg => k g hg)

set_option maxRecDepth 20000 in
theorem bX5_readOne_84 {X : zX} {dep bc bs : Nat} (w : Int) (q : Int) (y : Int) {h : zH} {Q : Nat → zH → List zV → Prop} (hq : zWd q) (hw : 0 ≤ w ∧ w < 12)
    (k1 : y = 0 → q = 1000007 → zW mX5_readOne X dep bc bs 239 130 [(0, xR 24), (1, xI w), (2, xR q), (3, xI y)] [xI (w + 1), xR 24] h Q)
    (k2 : y = 0 → ¬ (q = 1000007) → zW mX5_readOne X dep bc bs 239 105 [(0, xR 24), (1, xI w), (2, xR q), (3, xI y)] [xI (w + 1), xR 24] h Q)
    (k3 : ¬ (y = 0) → zW mX5_readOne X dep bc bs 239 90 [(0, xR 24), (1, xI w), (2, xR q), (3, xI y)] [xR q, xR 24] h Q) : zW mX5_readOne X dep bc bs 239 84 [(0, xR 24), (1, xI w), (2, xR q), (3, xI y)] [] h Q := by
  refine z_iload_n 3 dX5_readOne_84 rfl ?_
  refine z_if_eq (tgt := 94) dX5_readOne_85 (by decide) (fun c1 => ?_) (fun c1 => ?_)
  ·
    refine z_aload_n 2 dX5_readOne_94 rfl ?_
    refine z_getW 7 (by decide) dX5_readOne_95 zb_731 ?_
    show zW mX5_readOne X dep bc bs 239 98 [(0, xR 24), (1, xI w), (2, xR q), (3, xI y)] [xR 1000007, xR q] h Q
    refine z_acmp_eq (tgt := 126) dX5_readOne_98 (by decide) hq (Or.inr ⟨by decide, by decide⟩) (fun c2 => ?_) (fun c2 => ?_)
    ·
      refine z_aload_n 0 dX5_readOne_126 rfl ?_
      refine z_iload_n 1 dX5_readOne_127 rfl ?_
      refine z_iconst dX5_readOne_128 (zi32_d rfl) ?_
      refine z_iaddN dX5_readOne_129 (show -2147483648 ≤ w + 1 ∧ w + 1 < 2147483648 from ⟨by omega, by omega⟩).1 (show -2147483648 ≤ w + 1 ∧ w + 1 < 2147483648 from ⟨by omega, by omega⟩).2 ?_
      exact k1 c1 c2
    ·
      refine z_aload_n 0 dX5_readOne_101 rfl ?_
      refine z_iload_n 1 dX5_readOne_102 rfl ?_
      refine z_iconst dX5_readOne_103 (zi32_d rfl) ?_
      refine z_iaddN dX5_readOne_104 (show -2147483648 ≤ w + 1 ∧ w + 1 < 2147483648 from ⟨by omega, by omega⟩).1 (show -2147483648 ≤ w + 1 ∧ w + 1 < 2147483648 from ⟨by omega, by omega⟩).2 ?_
      exact k2 c1 c2
  ·
    refine z_aload_n 0 dX5_readOne_88 rfl ?_
    refine z_aload_n 2 dX5_readOne_89 rfl ?_
    exact k3 c1

set_option maxRecDepth 20000 in
theorem rX5_readOne_90 {X : zX} {dep bc bs : Nat} (w : Int) (q : Int) (y : Int) {h : zH} {Q : Nat → zH → List zV → Prop} {P : Int → zH → Prop}
    (hZ : zW mX5_readQuestion X (dep - 1) 0 0 239 0 (zar 0 [xR 24, xR q]) [] h (zQI P)) (hdep : 1 ≤ dep)
    (k : ∀ (v : Int) (g : zH), P v g → zW mX5_readOne X dep bc bs 239 93 [(0, xR 24), (1, xI w), (2, xR q), (3, xI y)] [xI v] g Q) : zW mX5_readOne X dep bc bs 239 90 [(0, xR 24), (1, xI w), (2, xR q), (3, xI y)] [xR q, xR 24] h Q :=
  z_invQI (ci := 5) (N := 8) (as := [xR q]) (st := []) (ra := [xR q]) hZ dX5_readOne_90 nX5_readQuestion zb_751 zb_753 zb_15 zb_86 (zOb.lit (by decide +kernel)) rfl (by omega) (Nat.le_of_ble_eq_true rfl) (Nat.le_of_ble_eq_true rfl) rfl (fun v g hg => k v g hg)

set_option maxRecDepth 20000 in
theorem bX5_readOne_93 {X : zX} {dep bc bs : Nat} (w : Int) (q : Int) (y : Int) (v : Int) {h : zH} {Q : Nat → zH → List zV → Prop} (hv : v = 0 ∨ v = 1)
    (k1 : Q 239 h [xI v]) : zW mX5_readOne X dep bc bs 239 93 [(0, xR 24), (1, xI w), (2, xR q), (3, xI y)] [xI v] h Q := by
  exact z_zret dX5_readOne_93 rfl hv (k1)

set_option maxRecDepth 20000 in
theorem rX5_readOne_105 {X : zX} {dep bc bs : Nat} (w : Int) (q : Int) (y : Int) {h : zH} {Q : Nat → zH → List zV → Prop} {P : Int → zH → Prop}
    (hZ : zW mX5_readCond X (dep - 1) 0 0 239 0 (zar 0 [xR 24, xI (w + 1)]) [] h (zQI P)) (hdep : 1 ≤ dep)
    (k : ∀ (v : Int) (g : zH), P v g → zW mX5_readOne X dep bc bs 239 108 [(0, xR 24), (1, xI w), (2, xR q), (3, xI y)] [xI v] g Q) : zW mX5_readOne X dep bc bs 239 105 [(0, xR 24), (1, xI w), (2, xR q), (3, xI y)] [xI (w + 1), xR 24] h Q :=
  z_invQI (ci := 5) (N := 8) (as := [xI (w + 1)]) (st := []) (ra := [xI (w + 1)]) hZ dX5_readOne_105 nX5_readCond zb_739 zb_741 zb_12 zb_86 (zOb.lit (by decide +kernel)) rfl (by omega) (Nat.le_of_ble_eq_true rfl) (Nat.le_of_ble_eq_true rfl) rfl (fun v g hg => k v g hg)

set_option maxRecDepth 20000 in
theorem bX5_readOne_108 {X : zX} {dep bc bs : Nat} (w : Int) (q : Int) (y : Int) (v : Int) {h : zH} {Q : Nat → zH → List zV → Prop}
    (k1 : v = 0 → Q 239 h [xI 0])
    (k2 : ¬ (v = 0) → zW mX5_readOne X dep bc bs 239 114 [(0, xR 24), (1, xI w), (2, xR q), (3, xI y)] [xI 41, xR 24] h Q) : zW mX5_readOne X dep bc bs 239 108 [(0, xR 24), (1, xI w), (2, xR q), (3, xI y)] [xI v] h Q := by
  refine z_if_eq (tgt := 124) dX5_readOne_108 (by decide) (fun c1 => ?_) (fun c1 => ?_)
  ·
    refine z_iconst dX5_readOne_124 (zi32_d rfl) ?_
    exact z_zret dX5_readOne_125 rfl (Or.inl rfl) (k1 c1)
  ·
    refine z_aload_n 0 dX5_readOne_111 rfl ?_
    refine z_bipush dX5_readOne_112 (zi32_d rfl) (by decide) ?_
    exact k2 c1

set_option maxRecDepth 20000 in
theorem rX5_readOne_114 {X : zX} {dep bc bs : Nat} (w : Int) (q : Int) (y : Int) {h : zH} {Q : Nat → zH → List zV → Prop} {P : Int → zH → Prop}
    (hZ : zW mX5_readSign X (dep - 1) 0 0 239 0 (zar 0 [xR 24, xI 41]) [] h (zQI P)) (hdep : 1 ≤ dep)
    (k : ∀ (v : Int) (g : zH), P v g → zW mX5_readOne X dep bc bs 239 117 [(0, xR 24), (1, xI w), (2, xR q), (3, xI y)] [xI v] g Q) : zW mX5_readOne X dep bc bs 239 114 [(0, xR 24), (1, xI w), (2, xR q), (3, xI y)] [xI 41, xR 24] h Q :=
  z_invQI (ci := 5) (N := 8) (as := [xI 41]) (st := []) (ra := [xI 41]) hZ dX5_readOne_114 nX5_readSign zb_762 zb_764 zb_16 zb_86 (zOb.lit (by decide +kernel)) rfl (by omega) (Nat.le_of_ble_eq_true rfl) (Nat.le_of_ble_eq_true rfl) rfl (fun v g hg => k v g hg)

set_option maxRecDepth 20000 in
theorem bX5_readOne_117 {X : zX} {dep bc bs : Nat} (w : Int) (q : Int) (y : Int) (v : Int) {h : zH} {Q : Nat → zH → List zV → Prop}
    (k1 : Q 239 h [xI (if v = 0 then 0 else 1 : Int)]) : zW mX5_readOne X dep bc bs 239 117 [(0, xR 24), (1, xI w), (2, xR q), (3, xI y)] [xI v] h Q := by
  suffices KJ : zW mX5_readOne X dep bc bs 239 125 [(0, xR 24), (1, xI w), (2, xR q), (3, xI y)] [xI (if v = 0 then 0 else 1 : Int)] h Q by
    refine z_if_eq (tgt := 124) dX5_readOne_117 (by decide) (fun j1 => ?_) (fun j1 => ?_)
    ·
      refine z_iconst dX5_readOne_124 (zi32_d rfl) ?_
      rw [if_pos j1] at KJ
      exact KJ
    ·
      refine z_iconst dX5_readOne_120 (zi32_d rfl) ?_
      refine z_goto (tgt := 125) dX5_readOne_121 (by decide) ?_
      rw [if_neg j1] at KJ
      exact KJ
  exact z_zret dX5_readOne_125 rfl (by repeat (first | (left; rfl) | (right; rfl) | split)) (k1)

set_option maxRecDepth 20000 in
theorem rX5_readOne_130 {X : zX} {dep bc bs : Nat} (w : Int) (q : Int) (y : Int) {h : zH} {Q : Nat → zH → List zV → Prop} {P : Int → zH → Prop}
    (hZ : zW mX5_readOne X (dep - 1) 0 0 239 0 (zar 0 [xR 24, xI (w + 1)]) [] h (zQI P)) (hdep : 1 ≤ dep)
    (k : ∀ (v : Int) (g : zH), P v g → zW mX5_readOne X dep bc bs 239 133 [(0, xR 24), (1, xI w), (2, xR q), (3, xI y)] [xI v] g Q) : zW mX5_readOne X dep bc bs 239 130 [(0, xR 24), (1, xI w), (2, xR q), (3, xI y)] [xI (w + 1), xR 24] h Q :=
  z_invQI (ci := 5) (N := 8) (as := [xI (w + 1)]) (st := []) (ra := [xI (w + 1)]) hZ dX5_readOne_130 nX5_readOne zb_747 zb_749 zb_14 zb_86 (zOb.lit (by decide +kernel)) rfl (by omega) (Nat.le_of_ble_eq_true rfl) (Nat.le_of_ble_eq_true rfl) rfl (fun v g hg => k v g hg)

set_option maxRecDepth 20000 in
theorem bX5_readOne_133 {X : zX} {dep bc bs : Nat} (w : Int) (q : Int) (y : Int) (v : Int) (L : Int) {h : zH} {Q : Nat → zH → List zV → Prop} (hL : zLawO L) (hl : h 24 1 = L)
    (k1 : ¬ v = 0 → zW mX5_readOne X dep bc bs 239 144 [(0, xR 24), (1, xI w), (2, xR q), (3, xI y)] [xI (-3), xR L] h Q)
    (k2 : v = 0 → Q 239 h [xI 0]) : zW mX5_readOne X dep bc bs 239 133 [(0, xR 24), (1, xI w), (2, xR q), (3, xI y)] [xI v] h Q := by
  refine z_if_ne (tgt := 138) dX5_readOne_133 (by decide) (fun c1 => ?_) (fun c1 => ?_)
  ·
    refine z_aload_n 0 dX5_readOne_138 rfl ?_
    refine z_getD (v := L) (k := 1) (kz := 1) pk5 dX5_readOne_139 (by decide) zb_324 rfl (zOb.lit (by decide +kernel)) rfl hl ?_
    refine z_bipush dX5_readOne_142 (zi32_d rfl) (by decide) ?_
    exact k1 c1
  ·
    refine z_iconst dX5_readOne_136 (zi32_d rfl) ?_
    exact z_zret dX5_readOne_137 rfl (Or.inl rfl) (k2 c1)

set_option maxRecDepth 20000 in
theorem rX5_readOne_144 {X : zX} {dep bc bs : Nat} (w : Int) (q : Int) (y : Int) (L : Int) {h : zH} {Q : Nat → zH → List zV → Prop} {P : zH → Prop} (hL : zLawO L)
    (hZ : zW mX1_addStep X (dep - 1) 0 0 239 0 (zar 0 [xR L, xI (-3)]) [] h (zQ0 P)) (hdep : 1 ≤ dep)
    (k : ∀ g : zH, P g → zW mX5_readOne X dep bc bs 239 147 [(0, xR 24), (1, xI w), (2, xR q), (3, xI y)] [] g Q) : zW mX5_readOne X dep bc bs 239 144 [(0, xR 24), (1, xI w), (2, xR q), (3, xI y)] [xI (-3), xR L] h Q :=
  z_invQ0 (ci := 1) (N := 13) (as := [xI (-3)]) (st := []) (ra := [xI (-3)]) hZ dX5_readOne_144 nX1_addStep zb_758 zb_759 zb_760 zb_88 hL.1 rfl (by omega) (Nat.le_of_ble_eq_true rfl) (Nat.le_of_ble_eq_true rfl) rfl (fun g hg => k g hg)

set_option maxRecDepth 20000 in
theorem bX5_readOne_147 {X : zX} {dep bc bs : Nat} (w : Int) (q : Int) (y : Int) {h : zH} {Q : Nat → zH → List zV → Prop}
    (k1 : Q 239 h [xI 1]) : zW mX5_readOne X dep bc bs 239 147 [(0, xR 24), (1, xI w), (2, xR q), (3, xI y)] [] h Q := by
  refine z_iconst dX5_readOne_147 (zi32_d rfl) ?_
  exact z_zret dX5_readOne_148 rfl (Or.inr rfl) (k1)

set_option maxRecDepth 20000 in
theorem bX5_readAll_0 {X : zX} {dep bc bs : Nat} (w : Int) {h : zH} {Q : Nat → zH → List zV → Prop}
    (k1 : zW mX5_readAll X dep bc bs 239 2 [(0, xR 24), (1, xI w)] [xI w, xR 24] h Q) : zW mX5_readAll X dep bc bs 239 0 [(0, xR 24), (1, xI w)] [] h Q := by
  refine z_aload_n 0 dX5_readAll_0 rfl ?_
  refine z_iload_n 1 dX5_readAll_1 rfl ?_
  exact k1

set_option maxRecDepth 20000 in
theorem rX5_readAll_2 {X : zX} {dep bc bs : Nat} (w : Int) {h : zH} {Q : Nat → zH → List zV → Prop} {P : Int → zH → Prop}
    (hZ : zW mX5_readOne X (dep - 1) 0 0 239 0 (zar 0 [xR 24, xI w]) [] h (zQI P)) (hdep : 1 ≤ dep)
    (k : ∀ (v : Int) (g : zH), P v g → zW mX5_readAll X dep bc bs 239 5 [(0, xR 24), (1, xI w)] [xI v] g Q) : zW mX5_readAll X dep bc bs 239 2 [(0, xR 24), (1, xI w)] [xI w, xR 24] h Q :=
  z_invQI (ci := 5) (N := 8) (as := [xI w]) (st := []) (ra := [xI w]) hZ dX5_readAll_2 nX5_readOne zb_747 zb_749 zb_14 zb_86 (zOb.lit (by decide +kernel)) rfl (by omega) (Nat.le_of_ble_eq_true rfl) (Nat.le_of_ble_eq_true rfl) rfl (fun v g hg => k v g hg)

set_option maxRecDepth 20000 in
theorem bX5_readAll_5 {X : zX} {dep bc bs : Nat} (w : Int) (v : Int) {h : zH} {Q : Nat → zH → List zV → Prop}
    (k1 : ¬ v = 0 → zW mX5_readAll X dep bc bs 239 12 [(0, xR 24), (1, xI w), (2, xI 0)] [] h Q)
    (k2 : v = 0 → Q 239 h [xI 0]) : zW mX5_readAll X dep bc bs 239 5 [(0, xR 24), (1, xI w)] [xI v] h Q := by
  refine z_if_ne (tgt := 10) dX5_readAll_5 (by decide) (fun c1 => ?_) (fun c1 => ?_)
  ·
    refine z_iconst dX5_readAll_10 (zi32_d rfl) ?_
    refine z_istore_n (lv' := [(2, xI 0), (0, xR 24), (1, xI w)]) dX5_readAll_11 (by decide) rfl ?_
    refine zW.sub (lv' := [(0, xR 24), (1, xI w), (2, xI 0)]) [1, 2, 0] rfl ?_
    exact k1 c1
  ·
    refine z_iconst dX5_readAll_8 (zi32_d rfl) ?_
    exact z_zret dX5_readAll_9 rfl (Or.inl rfl) (k2 c1)

set_option maxRecDepth 20000 in
theorem bX5_readAll_12 {X : zX} {dep bc bs : Nat} (w : Int) (n : Int) {h : zH} {Q : Nat → zH → List zV → Prop} (hw : zWd (h 24 6))
    (k1 : 60 ≤ n → Q 239 h [xI 1])
    (k2 : ¬ (60 ≤ n) → ¬ (h 24 6) = 1000010 → Q 239 h [xI 1])
    (k3 : ¬ (60 ≤ n) → (h 24 6) = 1000010 → zW mX5_readAll X dep bc bs 239 29 [(0, xR 24), (1, xI w), (2, xI n)] [xR 24] h Q) : zW mX5_readAll X dep bc bs 239 12 [(0, xR 24), (1, xI w), (2, xI n)] [] h Q := by
  refine z_iload_n 2 dX5_readAll_12 rfl ?_
  refine z_bipush dX5_readAll_13 (zi32_d rfl) (by decide) ?_
  refine z_icmp_ge (tgt := 56) dX5_readAll_15 (by decide) (fun c1 => ?_) (fun c1 => ?_)
  ·
    refine z_iconst dX5_readAll_56 (zi32_d rfl) ?_
    exact z_zret dX5_readAll_57 rfl (Or.inr rfl) (k1 c1)
  ·
    refine z_aload_n 0 dX5_readAll_18 rfl ?_
    refine z_getD (v := (h 24 6)) (k := 6) (kz := 6) pk5 dX5_readAll_19 (by decide) zb_331 rfl (zOb.lit (by decide +kernel)) rfl rfl ?_
    refine z_getW 10 (by decide) dX5_readAll_22 zb_766 ?_
    show zW mX5_readAll X dep bc bs 239 25 [(0, xR 24), (1, xI w), (2, xI n)] [xR 1000010, xR (h 24 6)] h Q
    refine z_acmp_ne (tgt := 56) dX5_readAll_25 (by decide) hw (Or.inr ⟨by decide, by decide⟩) (fun c2 => ?_) (fun c2 => ?_)
    ·
      refine z_iconst dX5_readAll_56 (zi32_d rfl) ?_
      exact z_zret dX5_readAll_57 rfl (Or.inr rfl) (k2 c1 c2)
    ·
      refine z_aload_n 0 dX5_readAll_28 rfl ?_
      exact k3 c1 c2

set_option maxRecDepth 20000 in
theorem rX5_readAll_29 {X : zX} {dep bc bs : Nat} (w : Int) (n : Int) {h : zH} {Q : Nat → zH → List zV → Prop} {P : zH → Prop}
    (hZ : zW mX5_readToken X (dep - 1) 0 0 239 0 (zar 0 [xR 24]) [] h (zQ0 P)) (hdep : 1 ≤ dep)
    (k : ∀ g : zH, P g → zW mX5_readAll X dep bc bs 239 32 [(0, xR 24), (1, xI w), (2, xI n)] [] g Q) : zW mX5_readAll X dep bc bs 239 29 [(0, xR 24), (1, xI w), (2, xI n)] [xR 24] h Q :=
  z_invQ0 (ci := 5) (N := 8) (as := []) (st := []) (ra := []) hZ dX5_readAll_29 nX5_readToken zb_685 zb_687 zb_3 zb_86 (zOb.lit (by decide +kernel)) rfl (by omega) (Nat.le_of_ble_eq_true rfl) (Nat.le_of_ble_eq_true rfl) rfl (fun g hg => k g hg)

set_option maxRecDepth 20000 in
theorem bX5_readAll_32 {X : zX} {dep bc bs : Nat} (w : Int) (n : Int) {h : zH} {Q : Nat → zH → List zV → Prop}
    (k1 : zW mX5_readAll X dep bc bs 239 34 [(0, xR 24), (1, xI w), (2, xI n)] [xI w, xR 24] h Q) : zW mX5_readAll X dep bc bs 239 32 [(0, xR 24), (1, xI w), (2, xI n)] [] h Q := by
  refine z_aload_n 0 dX5_readAll_32 rfl ?_
  refine z_iload_n 1 dX5_readAll_33 rfl ?_
  exact k1

set_option maxRecDepth 20000 in
theorem rX5_readAll_34 {X : zX} {dep bc bs : Nat} (w : Int) (n : Int) {h : zH} {Q : Nat → zH → List zV → Prop} {P : Int → zH → Prop}
    (hZ : zW mX5_readOne X (dep - 1) 0 0 239 0 (zar 0 [xR 24, xI w]) [] h (zQI P)) (hdep : 1 ≤ dep)
    (k : ∀ (v : Int) (g : zH), P v g → zW mX5_readAll X dep bc bs 239 37 [(0, xR 24), (1, xI w), (2, xI n)] [xI v] g Q) : zW mX5_readAll X dep bc bs 239 34 [(0, xR 24), (1, xI w), (2, xI n)] [xI w, xR 24] h Q :=
  z_invQI (ci := 5) (N := 8) (as := [xI w]) (st := []) (ra := [xI w]) hZ dX5_readAll_34 nX5_readOne zb_747 zb_749 zb_14 zb_86 (zOb.lit (by decide +kernel)) rfl (by omega) (Nat.le_of_ble_eq_true rfl) (Nat.le_of_ble_eq_true rfl) rfl (fun v g hg => k v g hg)

set_option maxRecDepth 20000 in
theorem bX5_readAll_37 {X : zX} {dep bc bs : Nat} (w : Int) (n : Int) (v : Int) (L : Int) {h : zH} {Q : Nat → zH → List zV → Prop} (hL : zLawO L) (hl : h 24 1 = L)
    (k1 : ¬ v = 0 → zW mX5_readAll X dep bc bs 239 47 [(0, xR 24), (1, xI w), (2, xI n)] [xI (-1), xR L] h Q)
    (k2 : v = 0 → Q 239 h [xI 0]) : zW mX5_readAll X dep bc bs 239 37 [(0, xR 24), (1, xI w), (2, xI n)] [xI v] h Q := by
  refine z_if_ne (tgt := 42) dX5_readAll_37 (by decide) (fun c1 => ?_) (fun c1 => ?_)
  ·
    refine z_aload_n 0 dX5_readAll_42 rfl ?_
    refine z_getD (v := L) (k := 1) (kz := 1) pk5 dX5_readAll_43 (by decide) zb_324 rfl (zOb.lit (by decide +kernel)) rfl hl ?_
    refine z_iconst dX5_readAll_46 (zi32_d rfl) ?_
    exact k1 c1
  ·
    refine z_iconst dX5_readAll_40 (zi32_d rfl) ?_
    exact z_zret dX5_readAll_41 rfl (Or.inl rfl) (k2 c1)

set_option maxRecDepth 20000 in
theorem rX5_readAll_47 {X : zX} {dep bc bs : Nat} (w : Int) (n : Int) (L : Int) {h : zH} {Q : Nat → zH → List zV → Prop} {P : zH → Prop} (hL : zLawO L)
    (hZ : zW mX1_addStep X (dep - 1) 0 0 239 0 (zar 0 [xR L, xI (-1)]) [] h (zQ0 P)) (hdep : 1 ≤ dep)
    (k : ∀ g : zH, P g → zW mX5_readAll X dep bc bs 239 50 [(0, xR 24), (1, xI w), (2, xI n)] [] g Q) : zW mX5_readAll X dep bc bs 239 47 [(0, xR 24), (1, xI w), (2, xI n)] [xI (-1), xR L] h Q :=
  z_invQ0 (ci := 1) (N := 13) (as := [xI (-1)]) (st := []) (ra := [xI (-1)]) hZ dX5_readAll_47 nX1_addStep zb_758 zb_759 zb_760 zb_88 hL.1 rfl (by omega) (Nat.le_of_ble_eq_true rfl) (Nat.le_of_ble_eq_true rfl) rfl (fun g hg => k g hg)

set_option maxRecDepth 20000 in
theorem bX5_readAll_50 {X : zX} {dep bc bs : Nat} (w : Int) (n : Int) {h : zH} {Q : Nat → zH → List zV → Prop} (hn : 0 ≤ n ∧ n ≤ 60)
    (k1 : zW mX5_readAll X dep bc bs 239 12 [(0, xR 24), (1, xI w), (2, xI (n + 1))] [] h Q) : zW mX5_readAll X dep bc bs 239 50 [(0, xR 24), (1, xI w), (2, xI n)] [] h Q := by
  refine z_iincN (lv' := [(2, xI (n + 1)), (0, xR 24), (1, xI w)]) 2 dX5_readAll_50 rfl (by decide) rfl (show -2147483648 ≤ n + 1 ∧ n + 1 < 2147483648 from ⟨by omega, by omega⟩).1 (show -2147483648 ≤ n + 1 ∧ n + 1 < 2147483648 from ⟨by omega, by omega⟩).2 ?_
  refine z_goto (tgt := 12) dX5_readAll_53 (by decide) ?_
  refine zW.sub (lv' := [(0, xR 24), (1, xI w), (2, xI (n + 1))]) [1, 2, 0] rfl ?_
  exact k1

set_option maxRecDepth 20000 in
theorem bX5_readCond_0 {X : zX} {dep bc bs : Nat} (w : Int) {h : zH} {Q : Nat → zH → List zV → Prop}
    (k1 : zW mX5_readCond X dep bc bs 239 2 [(0, xR 24), (1, xI w)] [xI w, xR 24] h Q) : zW mX5_readCond X dep bc bs 239 0 [(0, xR 24), (1, xI w)] [] h Q := by
  refine z_aload_n 0 dX5_readCond_0 rfl ?_
  refine z_iload_n 1 dX5_readCond_1 rfl ?_
  exact k1

set_option maxRecDepth 20000 in
theorem rX5_readCond_2 {X : zX} {dep bc bs : Nat} (w : Int) {h : zH} {Q : Nat → zH → List zV → Prop} {P : Int → zH → Prop}
    (hZ : zW mX5_readAll X (dep - 1) 0 0 239 0 (zar 0 [xR 24, xI w]) [] h (zQI P)) (hdep : 1 ≤ dep)
    (k : ∀ (v : Int) (g : zH), P v g → zW mX5_readCond X dep bc bs 239 5 [(0, xR 24), (1, xI w)] [xI v] g Q) : zW mX5_readCond X dep bc bs 239 2 [(0, xR 24), (1, xI w)] [xI w, xR 24] h Q :=
  z_invQI (ci := 5) (N := 8) (as := [xI w]) (st := []) (ra := [xI w]) hZ dX5_readCond_2 nX5_readAll zb_743 zb_745 zb_13 zb_86 (zOb.lit (by decide +kernel)) rfl (by omega) (Nat.le_of_ble_eq_true rfl) (Nat.le_of_ble_eq_true rfl) rfl (fun v g hg => k v g hg)

set_option maxRecDepth 20000 in
theorem bX5_readCond_5 {X : zX} {dep bc bs : Nat} (w : Int) (v : Int) {h : zH} {Q : Nat → zH → List zV → Prop}
    (k1 : ¬ v = 0 → zW mX5_readCond X dep bc bs 239 12 [(0, xR 24), (1, xI w), (2, xI 0)] [] h Q)
    (k2 : v = 0 → Q 239 h [xI 0]) : zW mX5_readCond X dep bc bs 239 5 [(0, xR 24), (1, xI w)] [xI v] h Q := by
  refine z_if_ne (tgt := 10) dX5_readCond_5 (by decide) (fun c1 => ?_) (fun c1 => ?_)
  ·
    refine z_iconst dX5_readCond_10 (zi32_d rfl) ?_
    refine z_istore_n (lv' := [(2, xI 0), (0, xR 24), (1, xI w)]) dX5_readCond_11 (by decide) rfl ?_
    refine zW.sub (lv' := [(0, xR 24), (1, xI w), (2, xI 0)]) [1, 2, 0] rfl ?_
    exact k1 c1
  ·
    refine z_iconst dX5_readCond_8 (zi32_d rfl) ?_
    exact z_zret dX5_readCond_9 rfl (Or.inl rfl) (k2 c1)

set_option maxRecDepth 20000 in
theorem bX5_readCond_12 {X : zX} {dep bc bs : Nat} (w : Int) (n : Int) {h : zH} {Q : Nat → zH → List zV → Prop} (hw : zWd (h 24 6))
    (k1 : 60 ≤ n → Q 239 h [xI 1])
    (k2 : ¬ (60 ≤ n) → ¬ (h 24 6) = 1000009 → Q 239 h [xI 1])
    (k3 : ¬ (60 ≤ n) → (h 24 6) = 1000009 → zW mX5_readCond X dep bc bs 239 29 [(0, xR 24), (1, xI w), (2, xI n)] [xR 24] h Q) : zW mX5_readCond X dep bc bs 239 12 [(0, xR 24), (1, xI w), (2, xI n)] [] h Q := by
  refine z_iload_n 2 dX5_readCond_12 rfl ?_
  refine z_bipush dX5_readCond_13 (zi32_d rfl) (by decide) ?_
  refine z_icmp_ge (tgt := 57) dX5_readCond_15 (by decide) (fun c1 => ?_) (fun c1 => ?_)
  ·
    refine z_iconst dX5_readCond_57 (zi32_d rfl) ?_
    exact z_zret dX5_readCond_58 rfl (Or.inr rfl) (k1 c1)
  ·
    refine z_aload_n 0 dX5_readCond_18 rfl ?_
    refine z_getD (v := (h 24 6)) (k := 6) (kz := 6) pk5 dX5_readCond_19 (by decide) zb_331 rfl (zOb.lit (by decide +kernel)) rfl rfl ?_
    refine z_getW 9 (by decide) dX5_readCond_22 zb_768 ?_
    show zW mX5_readCond X dep bc bs 239 25 [(0, xR 24), (1, xI w), (2, xI n)] [xR 1000009, xR (h 24 6)] h Q
    refine z_acmp_ne (tgt := 57) dX5_readCond_25 (by decide) hw (Or.inr ⟨by decide, by decide⟩) (fun c2 => ?_) (fun c2 => ?_)
    ·
      refine z_iconst dX5_readCond_57 (zi32_d rfl) ?_
      exact z_zret dX5_readCond_58 rfl (Or.inr rfl) (k2 c1 c2)
    ·
      refine z_aload_n 0 dX5_readCond_28 rfl ?_
      exact k3 c1 c2

set_option maxRecDepth 20000 in
theorem rX5_readCond_29 {X : zX} {dep bc bs : Nat} (w : Int) (n : Int) {h : zH} {Q : Nat → zH → List zV → Prop} {P : zH → Prop}
    (hZ : zW mX5_readToken X (dep - 1) 0 0 239 0 (zar 0 [xR 24]) [] h (zQ0 P)) (hdep : 1 ≤ dep)
    (k : ∀ g : zH, P g → zW mX5_readCond X dep bc bs 239 32 [(0, xR 24), (1, xI w), (2, xI n)] [] g Q) : zW mX5_readCond X dep bc bs 239 29 [(0, xR 24), (1, xI w), (2, xI n)] [xR 24] h Q :=
  z_invQ0 (ci := 5) (N := 8) (as := []) (st := []) (ra := []) hZ dX5_readCond_29 nX5_readToken zb_685 zb_687 zb_3 zb_86 (zOb.lit (by decide +kernel)) rfl (by omega) (Nat.le_of_ble_eq_true rfl) (Nat.le_of_ble_eq_true rfl) rfl (fun g hg => k g hg)

set_option maxRecDepth 20000 in
theorem bX5_readCond_32 {X : zX} {dep bc bs : Nat} (w : Int) (n : Int) {h : zH} {Q : Nat → zH → List zV → Prop}
    (k1 : zW mX5_readCond X dep bc bs 239 34 [(0, xR 24), (1, xI w), (2, xI n)] [xI w, xR 24] h Q) : zW mX5_readCond X dep bc bs 239 32 [(0, xR 24), (1, xI w), (2, xI n)] [] h Q := by
  refine z_aload_n 0 dX5_readCond_32 rfl ?_
  refine z_iload_n 1 dX5_readCond_33 rfl ?_
  exact k1

set_option maxRecDepth 20000 in
theorem rX5_readCond_34 {X : zX} {dep bc bs : Nat} (w : Int) (n : Int) {h : zH} {Q : Nat → zH → List zV → Prop} {P : Int → zH → Prop}
    (hZ : zW mX5_readAll X (dep - 1) 0 0 239 0 (zar 0 [xR 24, xI w]) [] h (zQI P)) (hdep : 1 ≤ dep)
    (k : ∀ (v : Int) (g : zH), P v g → zW mX5_readCond X dep bc bs 239 37 [(0, xR 24), (1, xI w), (2, xI n)] [xI v] g Q) : zW mX5_readCond X dep bc bs 239 34 [(0, xR 24), (1, xI w), (2, xI n)] [xI w, xR 24] h Q :=
  z_invQI (ci := 5) (N := 8) (as := [xI w]) (st := []) (ra := [xI w]) hZ dX5_readCond_34 nX5_readAll zb_743 zb_745 zb_13 zb_86 (zOb.lit (by decide +kernel)) rfl (by omega) (Nat.le_of_ble_eq_true rfl) (Nat.le_of_ble_eq_true rfl) rfl (fun v g hg => k v g hg)

set_option maxRecDepth 20000 in
theorem bX5_readCond_37 {X : zX} {dep bc bs : Nat} (w : Int) (n : Int) (v : Int) (L : Int) {h : zH} {Q : Nat → zH → List zV → Prop} (hL : zLawO L) (hl : h 24 1 = L)
    (k1 : ¬ v = 0 → zW mX5_readCond X dep bc bs 239 48 [(0, xR 24), (1, xI w), (2, xI n)] [xI (-2), xR L] h Q)
    (k2 : v = 0 → Q 239 h [xI 0]) : zW mX5_readCond X dep bc bs 239 37 [(0, xR 24), (1, xI w), (2, xI n)] [xI v] h Q := by
  refine z_if_ne (tgt := 42) dX5_readCond_37 (by decide) (fun c1 => ?_) (fun c1 => ?_)
  ·
    refine z_aload_n 0 dX5_readCond_42 rfl ?_
    refine z_getD (v := L) (k := 1) (kz := 1) pk5 dX5_readCond_43 (by decide) zb_324 rfl (zOb.lit (by decide +kernel)) rfl hl ?_
    refine z_bipush dX5_readCond_46 (zi32_d rfl) (by decide) ?_
    exact k1 c1
  ·
    refine z_iconst dX5_readCond_40 (zi32_d rfl) ?_
    exact z_zret dX5_readCond_41 rfl (Or.inl rfl) (k2 c1)

set_option maxRecDepth 20000 in
theorem rX5_readCond_48 {X : zX} {dep bc bs : Nat} (w : Int) (n : Int) (L : Int) {h : zH} {Q : Nat → zH → List zV → Prop} {P : zH → Prop} (hL : zLawO L)
    (hZ : zW mX1_addStep X (dep - 1) 0 0 239 0 (zar 0 [xR L, xI (-2)]) [] h (zQ0 P)) (hdep : 1 ≤ dep)
    (k : ∀ g : zH, P g → zW mX5_readCond X dep bc bs 239 51 [(0, xR 24), (1, xI w), (2, xI n)] [] g Q) : zW mX5_readCond X dep bc bs 239 48 [(0, xR 24), (1, xI w), (2, xI n)] [xI (-2), xR L] h Q :=
  z_invQ0 (ci := 1) (N := 13) (as := [xI (-2)]) (st := []) (ra := [xI (-2)]) hZ dX5_readCond_48 nX1_addStep zb_758 zb_759 zb_760 zb_88 hL.1 rfl (by omega) (Nat.le_of_ble_eq_true rfl) (Nat.le_of_ble_eq_true rfl) rfl (fun g hg => k g hg)

set_option maxRecDepth 20000 in
theorem bX5_readCond_51 {X : zX} {dep bc bs : Nat} (w : Int) (n : Int) {h : zH} {Q : Nat → zH → List zV → Prop} (hn : 0 ≤ n ∧ n ≤ 60)
    (k1 : zW mX5_readCond X dep bc bs 239 12 [(0, xR 24), (1, xI w), (2, xI (n + 1))] [] h Q) : zW mX5_readCond X dep bc bs 239 51 [(0, xR 24), (1, xI w), (2, xI n)] [] h Q := by
  refine z_iincN (lv' := [(2, xI (n + 1)), (0, xR 24), (1, xI w)]) 2 dX5_readCond_51 rfl (by decide) rfl (show -2147483648 ≤ n + 1 ∧ n + 1 < 2147483648 from ⟨by omega, by omega⟩).1 (show -2147483648 ≤ n + 1 ∧ n + 1 < 2147483648 from ⟨by omega, by omega⟩).2 ?_
  refine z_goto (tgt := 12) dX5_readCond_54 (by decide) ?_
  refine zW.sub (lv' := [(0, xR 24), (1, xI w), (2, xI (n + 1))]) [1, 2, 0] rfl ?_
  exact k1

theorem zst_id (h : zH) (o k : Int) : zst h o k (h o k) = h := by
  funext o' k'
  unfold zst
  by_cases c : o' = o ∧ k' = k
  · rw [if_pos c, c.1, c.2]
  · rw [if_neg c]
theorem zst_over (h : zH) (o k x y : Int) : zst (zst h o k x) o k y = zst h o k y := by
  funext o' k'
  unfold zst
  by_cases c : o' = o ∧ k' = k
  · rw [if_pos c, if_pos c]
  · rw [if_neg c, if_neg c, if_neg c]
theorem zst_comm (h : zH) {o k o2 k2 : Int} (x y : Int) (hn : o ≠ o2 ∨ k ≠ k2) : zst (zst h o k x) o2 k2 y = zst (zst h o2 k2 y) o k x := by
  funext o' k'
  unfold zst
  by_cases c : o' = o ∧ k' = k
  · by_cases d : o' = o2 ∧ k' = k2
    · exfalso; omega
    · rw [if_neg d, if_pos c, if_pos c]
  · by_cases d : o' = o2 ∧ k' = k2
    · rw [if_pos d, if_neg c, if_pos d]
    · rw [if_neg d, if_neg c, if_neg c, if_neg d]
/-- the reader at token j, o ONES told -/
def zrd (h : zH) (j o : Int) : zH := zst (zst (zst (zst h 24 4 j) 24 5 (h 26 j)) 24 6 (h 29 j)) 24 7 o
theorem zrd_ne (h : zH) (j o : Int) {q : Int} (hq : q ≠ 24) (k : Int) : zrd h j o q k = h q k := by
  unfold zrd
  rw [zst_ne (Or.inl hq), zst_ne (Or.inl hq), zst_ne (Or.inl hq), zst_ne (Or.inl hq)]
theorem zrd_24 (h : zH) (j o k : Int) : zrd h j o 24 k = if k = 7 then o else if k = 6 then h 29 j else if k = 5 then h 26 j else if k = 4 then j else h 24 k := by
  unfold zrd zst
  by_cases c7 : k = 7
  · rw [if_pos ⟨rfl, c7⟩, if_pos c7]
  · rw [if_neg (fun z => c7 z.2), if_neg c7]
    by_cases c6 : k = 6
    · rw [if_pos ⟨rfl, c6⟩, if_pos c6]
    · rw [if_neg (fun z => c6 z.2), if_neg c6]
      by_cases c5 : k = 5
      · rw [if_pos ⟨rfl, c5⟩, if_pos c5]
      · rw [if_neg (fun z => c5 z.2), if_neg c5]
        by_cases c4 : k = 4
        · rw [if_pos ⟨rfl, c4⟩, if_pos c4]
        · rw [if_neg (fun z => c4 z.2), if_neg c4]
theorem zrd_rd (h : zH) (j o j2 o2 : Int) : zrd (zrd h j o) j2 o2 = zrd h j2 o2 := by
  funext q k
  by_cases hq : q = 24
  · subst hq
    rw [zrd_24, zrd_24, zrd_ne h j o (by omega), zrd_ne h j o (by omega), zrd_24]
    repeat' split
    all_goals first | rfl | omega
  · rw [zrd_ne _ _ _ hq, zrd_ne _ _ _ hq, zrd_ne _ _ _ hq]
theorem zrd_st7 (h : zH) (x j o : Int) : zrd (zst h 24 7 x) j o = zrd h j o := by
  funext q k
  by_cases hq : q = 24
  · subst hq
    rw [zrd_24, zrd_24, zst_ne (o' := 26) (Or.inl (by omega)), zst_ne (o' := 29) (Or.inl (by omega))]
    repeat' split
    all_goals first | rfl | exact zst_ne (Or.inr (by omega))
  · rw [zrd_ne _ _ _ hq, zrd_ne _ _ _ hq, zst_ne (Or.inl hq)]
def zstps (h : zH) (L : Int) : List Int → zH
  | [] => h
  | x :: S => zstps (zstp h L x) L S
theorem zstp_ne (h : zH) (L x : Int) {q : Int} (h0 : q ≠ L) (h4 : q ≠ L + 4) (h5 : q ≠ L + 5) (k : Int) : zstp h L x q k = h q k := by
  unfold zstp
  rw [zst_ne (Or.inl h0), zst_ne (Or.inl h4), zst_ne (Or.inl h0), zst_ne (Or.inl h5)]
theorem zstp_L (h : zH) (L x : Int) : zstp h L x L 12 = h L 12 + 1 ∧ ∀ k : Int, k ≠ 5 → k ≠ 12 → zstp h L x L k = h L k := by
  unfold zstp
  refine ⟨?_, fun k h5 h12 => ?_⟩
  · rw [zst_ne (Or.inr (by omega)), zst_ne (Or.inl (by omega)), zst_self]
  · rw [zst_ne (Or.inr h5), zst_ne (Or.inl (by omega)), zst_ne (Or.inr h12), zst_ne (Or.inl (by omega))]
theorem zstps_ne (L : Int) {q : Int} (h0 : q ≠ L) (h4 : q ≠ L + 4) (h5 : q ≠ L + 5) (k : Int) : ∀ (S : List Int) (h : zH), zstps h L S q k = h q k
  | [], _ => rfl
  | x :: S, h => (zstps_ne L h0 h4 h5 k S (zstp h L x)).trans (zstp_ne h L x h0 h4 h5 k)
theorem zstps_L (L : Int) : ∀ (S : List Int) (h : zH), zstps h L S L 12 = h L 12 + S.length ∧ ∀ k : Int, k ≠ 5 → k ≠ 12 → zstps h L S L k = h L k
  | [], h => ⟨by unfold zstps; simp, fun _ _ _ => rfl⟩
  | x :: S, h => by
    have i := zstps_L L S (zstp h L x)
    have e := zstp_L h L x
    refine ⟨?_, fun k h5 h12 => (i.2 k h5 h12).trans (e.2 k h5 h12)⟩
    show zstps (zstp h L x) L S L 12 = _
    rw [i.1, e.1, List.length_cons]
    omega
theorem zstps_app (L : Int) : ∀ (S T : List Int) (h : zH), zstps h L (S ++ T) = zstps (zstps h L S) L T
  | [], _, _ => rfl
  | x :: S, T, h => zstps_app L S T (zstp h L x)
theorem zstp_rd (h : zH) (L x j o : Int) (hL : 30 ≤ L) : zstp (zrd h j o) L x = zrd (zstp h L x) j o := by
  funext q k
  by_cases hq : q = 24
  · subst hq
    rw [zstp_ne _ _ _ (by omega) (by omega) (by omega), zrd_24, zrd_24, zstp_ne _ _ _ (by omega) (by omega) (by omega), zstp_ne _ _ _ (by omega) (by omega) (by omega), zstp_ne _ _ _ (by omega) (by omega) (by omega)]
  · rw [zrd_ne _ _ _ hq]
    unfold zstp
    rw [zrd_ne h j o (show L ≠ 24 by omega), zrd_ne h j o (show L ≠ 24 by omega), zrd_ne h j o (show L ≠ 24 by omega)]
    unfold zst
    rw [zrd_ne _ _ _ hq]
theorem zstps_rd (L j o : Int) (hL : 30 ≤ L) : ∀ (S : List Int) (h : zH), zstps (zrd h j o) L S = zrd (zstps h L S) j o
  | [], _ => rfl
  | x :: S, h => by
    show zstps (zstp (zrd h j o) L x) L S = _
    rw [zstp_rd h L x j o hL, zstps_rd L j o hL S]
    rfl
/-- what a fault leaves -/
abbrev zLS (L : Int) : Int → Prop := fun q => q = 24 ∨ L ≤ q ∧ q ≤ L + 5
def zFt (g : zH) (L k j : Int) (f : zH) : Prop := zap (zLS L) g f ∧ f 24 1 = g 24 1 ∧ f 24 2 = k ∧ f 24 3 = g 27 j
def zTkOK (h : zH) : Prop := (1 ≤ h 25 4 ∧ h 25 4 ≤ 301) ∧ h 26 (h 25 4 - 1) = 0 ∧ h 29 (h 25 4 - 1) = -1 ∧ ∀ j : Int, 0 ≤ j → j < h 25 4 → zWd (h 29 j) ∧ (h 29 j ≠ -1 → h 26 j = 1)
def zAt (h : zH) (L j o : Int) : Prop := h 24 1 = L ∧ (0 ≤ j ∧ j < h 25 4) ∧ h 24 4 = j ∧ h 24 5 = h 26 j ∧ h 24 6 = h 29 j ∧ h 24 7 = o ∧ 0 ≤ o ∧ o ≤ 60
def zLk (h : zH) (L o : Int) : Prop := 0 < h L 6 ∧ h L 6 ≤ 20 ∧ 0 ≤ h L 12 ∧ h L 12 ≤ 2 * o
def zCtx (h : zH) (L j o : Int) : Prop := zAt h L j o ∧ zTkOK h ∧ zLk h L o
abbrev zRes : Type := (Int × Int) ⊕ (Int × Int × List Int)
def zOut (g : zH) (L : Int) (r : zRes) (v : Int) (f : zH) : Prop := match r with
  | .inl e => v = 0 ∧ zFt g L e.1 e.2 f
  | .inr q => v = 1 ∧ f = zrd (zstps g L q.2.2) q.1 q.2.1
def zSeq (S : List Int) : zRes → zRes
  | .inl e => .inl e
  | .inr q => .inr (q.1, q.2.1, S ++ q.2.2)
theorem zAt.rd {h : zH} {L j o : Int} (a : zAt h L j o) : zrd h j o = h := by
  funext q k
  by_cases hq : q = 24
  · subst hq
    rw [zrd_24]
    obtain ⟨-, -, a4, a5, a6, a7, -⟩ := a
    by_cases c7 : k = 7
    · rw [if_pos c7, c7, a7]
    · rw [if_neg c7]
      by_cases c6 : k = 6
      · rw [if_pos c6, c6, a6]
      · rw [if_neg c6]
        by_cases c5 : k = 5
        · rw [if_pos c5, c5, a5]
        · rw [if_neg c5]
          by_cases c4 : k = 4
          · rw [if_pos c4, c4, a4]
          · rw [if_neg c4]
  · rw [zrd_ne _ _ _ hq]
theorem zCtx.mk {g f : zH} {L j o j2 o2 : Int} (a : zCtx g L j o) (hL : 30 ≤ L) (S : List Int) (hf : f = zrd (zstps g L S) j2 o2) (h1 : 0 ≤ j2 ∧ j2 < g 25 4) (h2 : 0 ≤ o2 ∧ o2 ≤ 60) (h3 : g L 12 + S.length ≤ 2 * o2) : zCtx f L j2 o2 ∧ f 26 = g 26 ∧ f 29 = g 29 ∧ f 28 = g 28 ∧ f 27 = g 27 := by
  have ne : ∀ q k : Int, q ≠ 24 → q < 30 → f q k = g q k := fun q k hq hq2 => by
    rw [hf, zrd_ne _ _ _ hq, zstps_ne L (by omega) (by omega) (by omega)]
  have e26 : f 26 = g 26 := funext fun k => ne 26 k (by omega) (by omega)
  have e29 : f 29 = g 29 := funext fun k => ne 29 k (by omega) (by omega)
  have e28 : f 28 = g 28 := funext fun k => ne 28 k (by omega) (by omega)
  have e27 : f 27 = g 27 := funext fun k => ne 27 k (by omega) (by omega)
  have e25 : f 25 4 = g 25 4 := ne 25 4 (by omega) (by omega)
  have l12 : f L 12 = g L 12 + S.length := by rw [hf, zrd_ne _ _ _ (by omega)]; exact (zstps_L L S g).1
  have l6 : f L 6 = g L 6 := by rw [hf, zrd_ne _ _ _ (by omega)]; exact (zstps_L L S g).2 6 (by omega) (by omega)
  have r24 : ∀ k : Int, f 24 k = if k = 7 then o2 else if k = 6 then g 29 j2 else if k = 5 then g 26 j2 else if k = 4 then j2 else g 24 k := fun k => by
    rw [hf, zrd_24, zstps_ne L (by omega) (by omega) (by omega), zstps_ne L (by omega) (by omega) (by omega), zstps_ne L (by omega) (by omega) (by omega)]
  refine ⟨⟨⟨?_, ?_, ?_, ?_, ?_, ?_, h2⟩, ?_, ?_⟩, e26, e29, e28, e27⟩
  · rw [r24 1]; exact a.1.1
  · rw [e25]; exact h1
  · rw [r24 4]; rfl
  · rw [r24 5, e26]; rfl
  · rw [r24 6, e29]; rfl
  · rw [r24 7]; rfl
  · have t := a.2.1
    unfold zTkOK
    rw [e25, e26, e29]
    exact t
  · have t := a.2.2
    unfold zLk at t ⊢
    rw [l12, l6]
    omega
theorem zOut.seq {g f h1 : zH} {L j o j1 o1 v : Int} {S : List Int} {r : zRes} (hL : 30 ≤ L) (h1e : h1 = zrd (zstps g L S) j1 o1) (a : zOut h1 L r v f) : zOut g L (zSeq S r) v f := by
  have ne : ∀ q k : Int, q ≠ 24 → q < 30 → h1 q k = g q k := fun q k hq hq2 => by
    rw [h1e, zrd_ne _ _ _ hq, zstps_ne L (by omega) (by omega) (by omega)]
  cases r with
  | inl e =>
    obtain ⟨a0, a1, a2, a3, a4⟩ := a
    refine ⟨a0, fun q k hq => ?_, ?_, a3, ?_⟩
    · rw [a1 q k hq, h1e, zrd_ne _ _ _ (fun z => hq (Or.inl z)), zstps_ne L (by simp only [zLS] at hq; omega) (by simp only [zLS] at hq; omega) (by simp only [zLS] at hq; omega)]
    · rw [a2, h1e, zrd_24]
      exact zstps_ne L (by omega) (by omega) (by omega) 1 S g
    · rw [a4, ne 27 _ (by omega) (by omega)]
  | inr q =>
    obtain ⟨a0, a1⟩ := a
    refine ⟨a0, ?_⟩
    rw [a1, h1e, zstps_rd L _ _ hL, zrd_rd, ← zstps_app]
theorem zFt.of {g h1 f : zH} {L k j j1 o1 : Int} {S : List Int} (hL : 30 ≤ L) (h1e : h1 = zrd (zstps g L S) j1 o1) (a : zFt h1 L k j f) : zFt g L k j f :=
  (zOut.seq (j := 0) (o := 0) (v := 0) (r := .inl (k, j)) hL h1e ⟨rfl, a⟩).2
theorem f_X5_readToken {X : zX} {dep : Nat} (L j o : Int) {h : zH} (a : zAt h L j o) (hc : j + 1 < h 25 4 ∧ h 25 4 ≤ 301) : zW mX5_readToken X dep 0 0 239 0 (zar 0 [xR 24]) [] h (zQ0 (fun g => g = zrd h (j + 1) o)) := by
  have a4 := a.2.2.1
  refine bX5_readToken_0 (by have := a.2.1; omega) (fun c => absurd c (by omega)) (fun _ => ⟨rfl, rfl, ?_⟩)
  rw [a4]
  unfold zrd
  have e7 : (zst (zst (zst h 24 4 (j + 1)) 24 5 (h 26 (j + 1))) 24 6 (h 29 (j + 1))) 24 7 = o := by
    rw [zst_ne (Or.inr (by omega)), zst_ne (Or.inr (by omega)), zst_ne (Or.inr (by omega))]
    exact a.2.2.2.2.2.1
  conv => rhs; rw [← e7]
  rw [zst_id]
theorem f_X5_fail {X : zX} {dep : Nat} (L k j o : Int) {h : zH} (a : zAt h L j o) (hc : h 25 4 ≤ 301) : zW mX5_fail X dep 0 0 239 0 (zar 0 [xR 24, xI k]) [] h (zQI (fun v f => v = 0 ∧ zFt h L k j f)) := by
  have a4 := a.2.2.1
  refine bX5_fail_0 k (by have := a.2.1; omega) (fun c => absurd c (by have := a.2.1; omega)) (fun _ _ => ?_) (fun _ c => absurd (by have := a.2.1; omega) c)
  refine ⟨rfl, _, rfl, rfl, ((zap.rf _ h).st (Or.inl rfl) _ _).st (Or.inl rfl) _ _, ?_, ?_, ?_⟩
  · rw [zst_ne (Or.inr (by omega)), zst_ne (Or.inr (by omega))]
  · rw [zst_ne (Or.inr (by omega)), zst_self]
  · rw [zst_self, a4]
/-- a question, asked by the word at token j -/
def zQn (kd wd vl : Int → Int) (j o : Int) : zRes :=
  if zWn (wd j) ≠ -1 then .inr (j + 1, o + 1, [zqs (zWa (wd j)) 61 (zWn (wd j))])
  else if kd (j + 1) ≠ 60 ∧ kd (j + 1) ≠ 61 ∧ kd (j + 1) ≠ 62 then .inl (1, j + 1)
  else if kd (j + 2) ≠ 2 then .inl (1, j + 2)
  else .inr (j + 3, o + 1, [zqs (zWa (wd j)) (kd (j + 1)) (vl (j + 2))])
abbrev zAsk (q : Int) : Prop := ¬ q < 0 ∧ zWa q ≠ -1
/-- reading a COND: 0 a ONE, 1 an ALL, 2 a COND, 3 and 4 what follows a ONE, an ALL -/
def zPx (kd wd vl : Int → Int) : Nat → Nat → Int → Int → Int → zRes
  | 0, _, _, j, _ => .inl (9, j)
  | f + 1, 0, w, j, o =>
    if ¬ zAsk (wd j) ∧ wd j ≠ 1000007 ∧ kd j ≠ 40 then .inl (1, j)
    else if 60 ≤ o ∨ 12 ≤ w then .inl (4, j)
    else if zAsk (wd j) then zQn kd wd vl j o
    else if wd j = 1000007 then (match zPx kd wd vl f 0 (w + 1) (j + 1) (o + 1) with
      | .inl e => .inl e
      | .inr q => .inr (q.1, q.2.1, q.2.2 ++ [-3]))
    else (match zPx kd wd vl f 2 (w + 1) (j + 1) (o + 1) with
      | .inl e => .inl e
      | .inr q => if kd q.1 = 41 then .inr (q.1 + 1, q.2.1, q.2.2) else .inl (1, q.1))
  | f + 1, 1, w, j, o => (match zPx kd wd vl f 0 w j o with
      | .inl e => .inl e
      | .inr q => zSeq q.2.2 (zPx kd wd vl f 3 w q.1 q.2.1))
  | f + 1, 2, w, j, o => (match zPx kd wd vl f 1 w j o with
      | .inl e => .inl e
      | .inr q => zSeq q.2.2 (zPx kd wd vl f 4 w q.1 q.2.1))
  | f + 1, 3, w, j, o => if wd j = 1000010 then (match zPx kd wd vl f 0 w (j + 1) o with
      | .inl e => .inl e
      | .inr q => zSeq (q.2.2 ++ [-1]) (zPx kd wd vl f 3 w q.1 q.2.1)) else .inr (j, o, [])
  | f + 1, _, w, j, o => if wd j = 1000009 then (match zPx kd wd vl f 1 w (j + 1) o with
      | .inl e => .inl e
      | .inr q => zSeq (q.2.2 ++ [-2]) (zPx kd wd vl f 4 w q.1 q.2.1)) else .inr (j, o, [])
theorem zPx_0 (kd wd vl : Int → Int) (f : Nat) (w j o : Int) : zPx kd wd vl (f + 1) 0 w j o = if ¬ zAsk (wd j) ∧ wd j ≠ 1000007 ∧ kd j ≠ 40 then .inl (1, j)
    else if 60 ≤ o ∨ 12 ≤ w then .inl (4, j)
    else if zAsk (wd j) then zQn kd wd vl j o
    else if wd j = 1000007 then (match zPx kd wd vl f 0 (w + 1) (j + 1) (o + 1) with
      | .inl e => .inl e
      | .inr q => .inr (q.1, q.2.1, q.2.2 ++ [-3]))
    else (match zPx kd wd vl f 2 (w + 1) (j + 1) (o + 1) with
      | .inl e => .inl e
      | .inr q => if kd q.1 = 41 then .inr (q.1 + 1, q.2.1, q.2.2) else .inl (1, q.1)) := rfl
theorem zPx_1 (kd wd vl : Int → Int) (f : Nat) (w j o : Int) : zPx kd wd vl (f + 1) 1 w j o = (match zPx kd wd vl f 0 w j o with
      | .inl e => .inl e
      | .inr q => zSeq q.2.2 (zPx kd wd vl f 3 w q.1 q.2.1)) := rfl
theorem zPx_2 (kd wd vl : Int → Int) (f : Nat) (w j o : Int) : zPx kd wd vl (f + 1) 2 w j o = (match zPx kd wd vl f 1 w j o with
      | .inl e => .inl e
      | .inr q => zSeq q.2.2 (zPx kd wd vl f 4 w q.1 q.2.1)) := rfl
theorem zPx_3 (kd wd vl : Int → Int) (f : Nat) (w j o : Int) : zPx kd wd vl (f + 1) 3 w j o = if wd j = 1000010 then (match zPx kd wd vl f 0 w (j + 1) o with
      | .inl e => .inl e
      | .inr q => zSeq (q.2.2 ++ [-1]) (zPx kd wd vl f 3 w q.1 q.2.1)) else .inr (j, o, []) := rfl
theorem zPx_4 (kd wd vl : Int → Int) (f : Nat) (w j o : Int) : zPx kd wd vl (f + 1) 4 w j o = if wd j = 1000009 then (match zPx kd wd vl f 1 w (j + 1) o with
      | .inl e => .inl e
      | .inr q => zSeq (q.2.2 ++ [-2]) (zPx kd wd vl f 4 w q.1 q.2.1)) else .inr (j, o, []) := rfl
/-- what reading answers keeps to -/
def zGd (n t j o : Int) : zRes → Prop
  | .inl e => j ≤ e.2 ∧ e.2 ≤ n
  | .inr q => j + t ≤ q.1 ∧ q.1 ≤ n ∧ o + t ≤ q.2.1 ∧ q.2.1 ≤ 60 ∧ (q.2.2.length : Int) + t ≤ 2 * (q.2.1 - o)
theorem zGd.seq {n t j o j1 o1 : Int} {S : List Int} {r : zRes} (t0 : 0 ≤ t) (h1 : j + t ≤ j1) (h2 : o + t ≤ o1) (h3 : (S.length : Int) + t ≤ 2 * (o1 - o)) (a : zGd n 0 j1 o1 r) : zGd n t j o (zSeq S r) := by
  cases r with
  | inl e =>
    show j ≤ e.2 ∧ e.2 ≤ n
    have b : j1 ≤ e.2 ∧ e.2 ≤ n := a
    omega
  | inr q =>
    have b : j1 + 0 ≤ q.1 ∧ q.1 ≤ n ∧ o1 + 0 ≤ q.2.1 ∧ q.2.1 ≤ 60 ∧ (q.2.2.length : Int) + 0 ≤ 2 * (q.2.1 - o1) := a
    show j + t ≤ q.1 ∧ q.1 ≤ n ∧ o + t ≤ q.2.1 ∧ q.2.1 ≤ 60 ∧ ((S ++ q.2.2).length : Int) + t ≤ 2 * (q.2.1 - o)
    rw [List.length_append]
    omega
theorem zPx_in {kd wd vl : Int → Int} {n : Int} (hk : kd n = 0) (hw : wd n = -1) : ∀ (f : Nat) (m : Nat) (w j o : Int), j ≤ n → o ≤ 60 → m < 5 → zGd n (if m < 3 then 1 else 0) j o (zPx kd wd vl f m w j o)
  | 0, m, w, j, o, hj, ho, hm => ⟨Int.le_refl _, hj⟩
  | f + 1, m, w, j, o, hj, ho, hm => by
    have ih := zPx_in hk hw (vl := vl) f
    have ne : ∀ x : Int, wd x ≠ -1 → x ≤ n → x < n := fun x hx hx2 => by
      rcases Int.lt_or_eq_of_le hx2 with q | q
      · exact q
      · rw [q] at hx; exact absurd hw hx
    have nk : ∀ x : Int, kd x ≠ 0 → x ≤ n → x < n := fun x hx hx2 => by
      rcases Int.lt_or_eq_of_le hx2 with q | q
      · exact q
      · rw [q] at hx; exact absurd hk hx
    rcases (show m = 0 ∨ m = 1 ∨ m = 2 ∨ m = 3 ∨ m = 4 by omega) with rfl | rfl | rfl | rfl | rfl
    · rw [zPx_0]
      show zGd n 1 j o _
      split
      · exact ⟨Int.le_refl _, hj⟩
      · rename_i c1
        split
        · exact ⟨Int.le_refl _, hj⟩
        · rename_i c2
          have jn : j < n := by
            by_cases a : wd j = -1
            · refine nk j (fun z => c1 ⟨fun q => q.1 (by omega), by omega, by omega⟩) hj
            · exact ne j a hj
          split
          · unfold zQn
            split
            · exact ⟨Int.le_refl _, by omega, Int.le_refl _, by omega, by show ((1 : Nat) : Int) + 1 ≤ _; omega⟩
            · split
              · exact ⟨by omega, by omega⟩
              · rename_i c3
                have j1 := nk (j + 1) (by omega) (by omega)
                split
                · exact ⟨by show j ≤ j + 2; omega, by show j + 2 ≤ n; omega⟩
                · rename_i c4
                  have j2 := nk (j + 2) (by omega) (by omega)
                  exact ⟨by show j + 1 ≤ j + 3; omega, by show j + 3 ≤ n; omega, Int.le_refl _, by show o + 1 ≤ 60; omega, by show ((1 : Nat) : Int) + 1 ≤ _; omega⟩
          · split
            · have i1 := ih 0 (w + 1) (j + 1) (o + 1) (by omega) (by omega) (by omega)
              cases hr : zPx kd wd vl f 0 (w + 1) (j + 1) (o + 1) with
              | inl e =>
                rw [hr] at i1
                have b : j + 1 ≤ e.2 ∧ e.2 ≤ n := i1
                exact ⟨by show j ≤ e.2; omega, b.2⟩
              | inr q =>
                rw [hr] at i1
                have b : j + 1 + 1 ≤ q.1 ∧ q.1 ≤ n ∧ o + 1 + 1 ≤ q.2.1 ∧ q.2.1 ≤ 60 ∧ (q.2.2.length : Int) + 1 ≤ 2 * (q.2.1 - (o + 1)) := i1
                refine ⟨by show j + 1 ≤ q.1; omega, b.2.1, by show o + 1 ≤ q.2.1; omega, b.2.2.2.1, ?_⟩
                show ((q.2.2 ++ [-3]).length : Int) + 1 ≤ 2 * (q.2.1 - o)
                rw [List.length_append, List.length_singleton]
                omega
            · have i1 := ih 2 (w + 1) (j + 1) (o + 1) (by omega) (by omega) (by omega)
              cases hr : zPx kd wd vl f 2 (w + 1) (j + 1) (o + 1) with
              | inl e =>
                rw [hr] at i1
                have b : j + 1 ≤ e.2 ∧ e.2 ≤ n := i1
                exact ⟨by show j ≤ e.2; omega, b.2⟩
              | inr q =>
                rw [hr] at i1
                have b : j + 1 + 1 ≤ q.1 ∧ q.1 ≤ n ∧ o + 1 + 1 ≤ q.2.1 ∧ q.2.1 ≤ 60 ∧ (q.2.2.length : Int) + 1 ≤ 2 * (q.2.1 - (o + 1)) := i1
                show zGd n 1 j o (if kd q.1 = 41 then _ else _)
                split
                · rename_i c5
                  have qn := nk q.1 (by omega) b.2.1
                  exact ⟨by show j + 1 ≤ q.1 + 1; omega, by show q.1 + 1 ≤ n; omega, by show o + 1 ≤ q.2.1; omega, b.2.2.2.1, by show (q.2.2.length : Int) + 1 ≤ 2 * (q.2.1 - o); omega⟩
                · exact ⟨by show j ≤ q.1; omega, b.2.1⟩
    · rw [zPx_1]
      show zGd n 1 j o _
      have i1 := ih 0 w j o hj ho (by omega)
      cases hr : zPx kd wd vl f 0 w j o with
      | inl e => rw [hr] at i1; exact i1
      | inr q =>
        rw [hr] at i1
        have b : j + 1 ≤ q.1 ∧ q.1 ≤ n ∧ o + 1 ≤ q.2.1 ∧ q.2.1 ≤ 60 ∧ (q.2.2.length : Int) + 1 ≤ 2 * (q.2.1 - o) := i1
        exact zGd.seq (by omega) b.1 b.2.2.1 b.2.2.2.2 (ih 3 w q.1 q.2.1 b.2.1 b.2.2.2.1 (by omega))
    · rw [zPx_2]
      show zGd n 1 j o _
      have i1 := ih 1 w j o hj ho (by omega)
      cases hr : zPx kd wd vl f 1 w j o with
      | inl e => rw [hr] at i1; exact i1
      | inr q =>
        rw [hr] at i1
        have b : j + 1 ≤ q.1 ∧ q.1 ≤ n ∧ o + 1 ≤ q.2.1 ∧ q.2.1 ≤ 60 ∧ (q.2.2.length : Int) + 1 ≤ 2 * (q.2.1 - o) := i1
        exact zGd.seq (by omega) b.1 b.2.2.1 b.2.2.2.2 (ih 4 w q.1 q.2.1 b.2.1 b.2.2.2.1 (by omega))
    · rw [zPx_3]
      show zGd n 0 j o _
      split
      · rename_i c1
        have jn := ne j (by omega) hj
        have i1 := ih 0 w (j + 1) o (by omega) ho (by omega)
        cases hr : zPx kd wd vl f 0 w (j + 1) o with
        | inl e =>
          rw [hr] at i1
          have b : j + 1 ≤ e.2 ∧ e.2 ≤ n := i1
          exact ⟨by show j ≤ e.2; omega, b.2⟩
        | inr q =>
          rw [hr] at i1
          have b : j + 1 + 1 ≤ q.1 ∧ q.1 ≤ n ∧ o + 1 ≤ q.2.1 ∧ q.2.1 ≤ 60 ∧ (q.2.2.length : Int) + 1 ≤ 2 * (q.2.1 - o) := i1
          refine zGd.seq (by omega) (by omega) (by omega) ?_ (ih 3 w q.1 q.2.1 b.2.1 b.2.2.2.1 (by omega))
          rw [List.length_append, List.length_singleton]
          omega
      · exact ⟨by show j + 0 ≤ j; omega, hj, by show o + 0 ≤ o; omega, ho, by show ((0 : Nat) : Int) + 0 ≤ 2 * (o - o); omega⟩
    · rw [zPx_4]
      show zGd n 0 j o _
      split
      · rename_i c1
        have jn := ne j (by omega) hj
        have i1 := ih 1 w (j + 1) o (by omega) ho (by omega)
        cases hr : zPx kd wd vl f 1 w (j + 1) o with
        | inl e =>
          rw [hr] at i1
          have b : j + 1 ≤ e.2 ∧ e.2 ≤ n := i1
          exact ⟨by show j ≤ e.2; omega, b.2⟩
        | inr q =>
          rw [hr] at i1
          have b : j + 1 + 1 ≤ q.1 ∧ q.1 ≤ n ∧ o + 1 ≤ q.2.1 ∧ q.2.1 ≤ 60 ∧ (q.2.2.length : Int) + 1 ≤ 2 * (q.2.1 - o) := i1
          refine zGd.seq (by omega) (by omega) (by omega) ?_ (ih 4 w q.1 q.2.1 b.2.1 b.2.2.2.1 (by omega))
          rw [List.length_append, List.length_singleton]
          omega
      · exact ⟨by show j + 0 ≤ j; omega, hj, by show o + 0 ≤ o; omega, ho, by show ((0 : Nat) : Int) + 0 ≤ 2 * (o - o); omega⟩

/-! the model, plain -/
set_option maxRecDepth 20000 in
theorem bX11_thrown_0 {X : zX} {dep bc bs : Nat} {h : zH} {Q : Nat → zH → List zV → Prop}
    (k1 : Q 239 h [xI (h 169 0)]) : zW mX11_thrown X dep bc bs 239 0 [(0, xR 169)] [] h Q := by
  refine z_aload_n 0 dX11_thrown_0 rfl ?_
  refine z_getI (k := 0) (kz := 0) pk11 dX11_thrown_1 (by decide) zb_1124 rfl (zOb.lit (by decide +kernel)) rfl ?_
  exact z_iret dX11_thrown_4 rfl (k1)
theorem f_X11_thrown {X : zX} {dep : Nat} {h : zH} : zW mX11_thrown X dep 0 0 239 0 (zar 0 [xR 169]) [] h (zF h [xI (h 169 0)]) := by
  refine bX11_thrown_0  ?_
  all_goals intros
  all_goals exact ⟨rfl, rfl, rfl⟩

set_option maxRecDepth 20000 in
theorem bX11_throwsIf_0 {X : zX} {dep bc bs : Nat} (b : Int) {h : zH} {Q : Nat → zH → List zV → Prop} (hb : b = 0 ∨ b = 1)
    (k1 : Q 239 (zst h 169 0 (if b = 0 then 0 else 1 : Int)) [xI b]) : zW mX11_throwsIf X dep bc bs 239 0 [(0, xR 169), (1, xI b)] [] h Q := by
  refine z_aload_n 0 dX11_throwsIf_0 rfl ?_
  refine z_iload_n 1 dX11_throwsIf_1 rfl ?_
  suffices KJ : zW mX11_throwsIf X dep bc bs 239 10 [(0, xR 169), (1, xI b)] [xI (if b = 0 then 0 else 1 : Int), xR 169] h Q by
    refine z_if_eq (tgt := 9) dX11_throwsIf_2 (by decide) (fun j1 => ?_) (fun j1 => ?_)
    ·
      refine z_iconst dX11_throwsIf_9 (zi32_d rfl) ?_
      rw [if_pos j1] at KJ
      exact KJ
    ·
      refine z_iconst dX11_throwsIf_5 (zi32_d rfl) ?_
      refine z_goto (tgt := 10) dX11_throwsIf_6 (by decide) ?_
      rw [if_neg j1] at KJ
      exact KJ
  refine z_putI (k := 0) (kz := 0) pk11 dX11_throwsIf_10 (by decide) zb_1124 rfl (zFit_int _) (zOb.lit (by decide +kernel)) rfl ?_
  refine z_iload_n 1 dX11_throwsIf_13 rfl ?_
  exact z_zret dX11_throwsIf_14 rfl hb (k1)
theorem f_X11_throwsIf {X : zX} {dep : Nat} (b : Int) {h : zH} (hb : b = 0 ∨ b = 1) : zW mX11_throwsIf X dep 0 0 239 0 (zar 0 [xR 169, xI b]) [] h (zF (zst h 169 0 b) [xI b]) := by
  refine bX11_throwsIf_0 b hb ?_
  all_goals intros
  all_goals refine ⟨rfl, ?_, rfl⟩
  all_goals congr 1
  all_goals omega

set_option maxRecDepth 20000 in
theorem bX11_taken_0 {X : zX} {dep bc bs : Nat} {h : zH} {Q : Nat → zH → List zV → Prop}
    (k1 : Q 239 (zst (zst (zst h 169 3 (h 169 2)) 169 2 0) 169 4 0) []) : zW mX11_taken X dep bc bs 239 0 [(0, xR 169)] [] h Q := by
  refine z_aload_n 0 dX11_taken_0 rfl ?_
  refine z_aload_n 0 dX11_taken_1 rfl ?_
  refine z_getI (k := 2) (kz := 2) pk11 dX11_taken_2 (by decide) zb_1126 rfl (zOb.lit (by decide +kernel)) rfl ?_
  refine z_putI (k := 3) (kz := 3) pk11 dX11_taken_5 (by decide) zb_1127 rfl (zFit_int _) (zOb.lit (by decide +kernel)) rfl ?_
  refine z_aload_n 0 dX11_taken_8 rfl ?_
  refine z_iconst dX11_taken_9 (zi32_d rfl) ?_
  refine z_putI (k := 2) (kz := 2) pk11 dX11_taken_10 (by decide) zb_1126 rfl (zFit_int _) (zOb.lit (by decide +kernel)) rfl ?_
  refine z_aload_n 0 dX11_taken_13 rfl ?_
  refine z_iconst dX11_taken_14 (zi32_d rfl) ?_
  refine z_putI (k := 4) (kz := 4) pk11 dX11_taken_15 (by decide) zb_1128 rfl (zFit_int _) (zOb.lit (by decide +kernel)) rfl ?_
  exact z_ret dX11_taken_18 rfl (k1)
theorem f_X11_taken {X : zX} {dep : Nat} {h : zH} : zW mX11_taken X dep 0 0 239 0 (zar 0 [xR 169]) [] h (zF (zst (zst (zst h 169 3 (h 169 2)) 169 2 0) 169 4 0) []) := by
  refine bX11_taken_0  ?_
  all_goals intros
  all_goals exact ⟨rfl, rfl, rfl⟩

set_option maxRecDepth 20000 in
theorem bX11_end_0 {X : zX} {dep bc bs : Nat} (n : Int) {h : zH} {Q : Nat → zH → List zV → Prop}
    (k1 : n < 0 → Q 239 (zst h 169 0 0) [xI 0])
    (k2 : ¬ (n < 0) → n ≤ (h 169 2) → Q 239 (zst (zst h 169 0 0) 169 2 n) [xI 1])
    (k3 : ¬ (n < 0) → ¬ (n ≤ (h 169 2)) → Q 239 (zst h 169 0 0) [xI 0]) : zW mX11_end X dep bc bs 239 0 [(0, xR 169), (1, xI n)] [] h Q := by
  refine z_aload_n 0 dX11_end_0 rfl ?_
  refine z_iconst dX11_end_1 (zi32_d rfl) ?_
  refine z_putI (k := 0) (kz := 0) pk11 dX11_end_2 (by decide) zb_1124 rfl (zFit_int _) (zOb.lit (by decide +kernel)) rfl ?_
  refine z_iload_n 1 dX11_end_5 rfl ?_
  refine z_if_lt (tgt := 17) dX11_end_6 (by decide) (fun c1 => ?_) (fun c1 => ?_)
  ·
    refine z_iconst dX11_end_17 (zi32_d rfl) ?_
    exact z_zret dX11_end_18 rfl (Or.inl rfl) (k1 c1)
  ·
    refine z_iload_n 1 dX11_end_9 rfl ?_
    refine z_aload_n 0 dX11_end_10 rfl ?_
    refine z_getIV (v := (h 169 2)) (k := 2) (kz := 2) pk11 dX11_end_11 (by decide) zb_1126 rfl (zOb.lit (by decide +kernel)) rfl (zst_ne (Or.inr (by decide))) ?_
    refine z_icmp_le (tgt := 19) dX11_end_14 (by decide) (fun c2 => ?_) (fun c2 => ?_)
    ·
      refine z_aload_n 0 dX11_end_19 rfl ?_
      refine z_iload_n 1 dX11_end_20 rfl ?_
      refine z_putI (k := 2) (kz := 2) pk11 dX11_end_21 (by decide) zb_1126 rfl (zFit_int _) (zOb.lit (by decide +kernel)) rfl ?_
      refine z_iconst dX11_end_24 (zi32_d rfl) ?_
      exact z_zret dX11_end_25 rfl (Or.inr rfl) (k2 c1 c2)
    ·
      refine z_iconst dX11_end_17 (zi32_d rfl) ?_
      exact z_zret dX11_end_18 rfl (Or.inl rfl) (k3 c1 c2)
theorem f_X11_end {X : zX} {dep : Nat} (n : Int) {h : zH} : zW mX11_end X dep 0 0 239 0 (zar 0 [xR 169, xI n]) [] h (zF (if 0 ≤ n ∧ n ≤ h 169 2 then zst (zst h 169 0 0) 169 2 n else zst h 169 0 0) [xI (zb (0 ≤ n ∧ n ≤ h 169 2))]) := by
  refine bX11_end_0 n ?_ ?_ ?_
  all_goals intros
  all_goals refine ⟨rfl, ?_, ?_⟩
  all_goals first
    | (rw [if_pos (by omega)])
    | (rw [if_neg (by omega)])
    | (first | rfl | (refine congrArg (fun x => [xI x]) ?_; unfold zb; (repeat' split) <;> first | rfl | omega))

set_option maxRecDepth 20000 in
theorem bX11_next_0 {X : zX} {dep bc bs : Nat} (n : Int) {h : zH} {Q : Nat → zH → List zV → Prop} (hd : 0 ≤ h 169 5 ∧ h 169 5 ≤ 3639) (hdep : 1 ≤ dep)
    (k1 : ¬ (0 ≤ n ∧ n ≤ 3639) → Q 239 (zst h 169 0 0) [xI (-1)])
    (k2 : 0 ≤ n ∧ n ≤ 3639 → ((h 169 5) + n) ≤ 3639 → Q 239 (zst (zst h 169 0 0) 169 5 ((h 169 5) + n)) [xI ((h 169 5) + n)])
    (k3 : 0 ≤ n ∧ n ≤ 3639 → ¬ (((h 169 5) + n) ≤ 3639) → Q 239 (zst h 169 0 0) [xI (-1)]) : zW mX11_next X dep bc bs 239 0 [(0, xR 169), (1, xI n)] [] h Q := by
  refine z_aload_n 0 dX11_next_0 rfl ?_
  refine z_iconst dX11_next_1 (zi32_d rfl) ?_
  refine z_putI (k := 0) (kz := 0) pk11 dX11_next_2 (by decide) zb_1124 rfl (zFit_int _) (zOb.lit (by decide +kernel)) rfl ?_
  refine z_iload_n 1 dX11_next_5 rfl ?_
  refine z_iconst dX11_next_6 (zi32_d rfl) ?_
  refine z_sipush dX11_next_7 (zi32_d rfl) (by decide) ?_
  refine z_invSF (as := [xI n, xI 0, xI 3639]) (st := []) (ra := [xI 3639, xI 0, xI n]) (dep' := dep - 1) (rs := [xI (zb (0 ≤ n ∧ n ≤ 3639))]) (h' := (zst h 169 0 0)) (f_X11_isIn n 0 3639 (h := (zst h 169 0 0)) ) dX11_next_10 nX11_isIn zb_1437 zb_1438 zb_92 (by omega) zne_I (Nat.le_of_ble_eq_true rfl) (Nat.le_of_ble_eq_true rfl) rfl ?_
  refine z_ifB_eq (C := 0 ≤ n ∧ n ≤ 3639) (tgt := 28) dX11_next_13 (by decide) (fun c1 => ?_) (fun c1 => ?_)
  ·
    refine z_iconst dX11_next_28 (zi32_d rfl) ?_
    exact z_iret dX11_next_29 rfl (k1 c1)
  ·
    refine z_aload_n 0 dX11_next_16 rfl ?_
    refine z_getIV (v := (h 169 5)) (k := 5) (kz := 5) pk11 dX11_next_17 (by decide) zb_1129 rfl (zOb.lit (by decide +kernel)) rfl (zst_ne (Or.inr (by decide))) ?_
    refine z_iload_n 1 dX11_next_20 rfl ?_
    refine z_iaddN dX11_next_21 (show -2147483648 ≤ (h 169 5) + n ∧ (h 169 5) + n < 2147483648 from ⟨by omega, by omega⟩).1 (show -2147483648 ≤ (h 169 5) + n ∧ (h 169 5) + n < 2147483648 from ⟨by omega, by omega⟩).2 ?_
    refine z_sipush dX11_next_22 (zi32_d rfl) (by decide) ?_
    refine z_icmp_le (tgt := 30) dX11_next_25 (by decide) (fun c2 => ?_) (fun c2 => ?_)
    ·
      refine z_aload_n 0 dX11_next_30 rfl ?_
      refine z_dup dX11_next_31 zt2 ?_
      refine z_getIV (v := (h 169 5)) (k := 5) (kz := 5) pk11 dX11_next_32 (by decide) zb_1129 rfl (zOb.lit (by decide +kernel)) rfl (zst_ne (Or.inr (by decide))) ?_
      refine z_iload_n 1 dX11_next_35 rfl ?_
      refine z_iaddN dX11_next_36 (show -2147483648 ≤ (h 169 5) + n ∧ (h 169 5) + n < 2147483648 from ⟨by omega, by omega⟩).1 (show -2147483648 ≤ (h 169 5) + n ∧ (h 169 5) + n < 2147483648 from ⟨by omega, by omega⟩).2 ?_
      refine z_putI (k := 5) (kz := 5) pk11 dX11_next_37 (by decide) zb_1129 rfl (zFit_int _) (zOb.lit (by decide +kernel)) rfl ?_
      refine z_aload_n 0 dX11_next_40 rfl ?_
      refine z_getIV (v := ((h 169 5) + n)) (k := 5) (kz := 5) pk11 dX11_next_41 (by decide) zb_1129 rfl (zOb.lit (by decide +kernel)) rfl (zst_self _ _ _ _) ?_
      exact z_iret dX11_next_44 rfl (k2 c1 c2)
    ·
      refine z_iconst dX11_next_28 (zi32_d rfl) ?_
      exact z_iret dX11_next_29 rfl (k3 c1 c2)
theorem f_X11_next {X : zX} {dep : Nat} (n : Int) {h : zH} (hd : 0 ≤ h 169 5 ∧ h 169 5 ≤ 3639) (hdep : 1 ≤ dep) : zW mX11_next X dep 0 0 239 0 (zar 0 [xR 169, xI n]) [] h (zF (if (0 ≤ n ∧ n ≤ 3639) ∧ h 169 5 + n ≤ 3639 then zst (zst h 169 0 0) 169 5 (h 169 5 + n) else zst h 169 0 0) [xI (if (0 ≤ n ∧ n ≤ 3639) ∧ h 169 5 + n ≤ 3639 then h 169 5 + n else -1)]) := by
  refine bX11_next_0 n hd hdep ?_ ?_ ?_
  all_goals intros
  all_goals refine ⟨rfl, ?_, ?_⟩
  all_goals first
    | (rw [if_pos (by omega)])
    | (rw [if_neg (by omega)])
    | (first | rfl | (refine congrArg (fun x => [xI x]) ?_; unfold zb; (repeat' split) <;> first | rfl | omega))

set_option maxRecDepth 20000 in
theorem bX11_isMan_0 {X : zX} {dep bc bs : Nat} (m : Int) {h : zH} {Q : Nat → zH → List zV → Prop} (hm : 0 ≤ h 169 25 ∧ h 169 25 ≤ 60) (hdep : 1 ≤ dep)
    (k1 : Q 239 h [xI (zb (0 ≤ m ∧ m ≤ ((h 169 25) - 1)))]) : zW mX11_isMan X dep bc bs 239 0 [(0, xR 169), (1, xI m)] [] h Q := by
  refine z_iload_n 1 dX11_isMan_0 rfl ?_
  refine z_iconst dX11_isMan_1 (zi32_d rfl) ?_
  refine z_aload_n 0 dX11_isMan_2 rfl ?_
  refine z_getI (k := 25) (kz := 25) pk11 dX11_isMan_3 (by decide) zb_1149 rfl (zOb.lit (by decide +kernel)) rfl ?_
  refine z_iconst dX11_isMan_6 (zi32_d rfl) ?_
  refine z_isubN dX11_isMan_7 (show -2147483648 ≤ (h 169 25) - 1 ∧ (h 169 25) - 1 < 2147483648 from ⟨by omega, by omega⟩).1 (show -2147483648 ≤ (h 169 25) - 1 ∧ (h 169 25) - 1 < 2147483648 from ⟨by omega, by omega⟩).2 ?_
  refine z_invSF (as := [xI m, xI 0, xI ((h 169 25) - 1)]) (st := []) (ra := [xI ((h 169 25) - 1), xI 0, xI m]) (dep' := dep - 1) (rs := [xI (zb (0 ≤ m ∧ m ≤ ((h 169 25) - 1)))]) (h' := h) (f_X11_isIn m 0 ((h 169 25) - 1) (h := h) ) dX11_isMan_8 nX11_isIn zb_1437 zb_1438 zb_92 (by omega) zne_I (Nat.le_of_ble_eq_true rfl) (Nat.le_of_ble_eq_true rfl) rfl ?_
  exact z_zret dX11_isMan_11 rfl (zb01 _) (k1)
theorem f_X11_isMan {X : zX} {dep : Nat} (m : Int) {h : zH} (hm : 0 ≤ h 169 25 ∧ h 169 25 ≤ 60) (hdep : 1 ≤ dep) : zW mX11_isMan X dep 0 0 239 0 (zar 0 [xR 169, xI m]) [] h (zF h [xI (zb (0 ≤ m ∧ m < h 169 25))]) := by
  refine bX11_isMan_0 m hm hdep ?_
  all_goals intros
  all_goals refine ⟨rfl, rfl, ?_⟩
  all_goals (first | rfl | (refine congrArg (fun x => [xI x]) ?_; unfold zb; (repeat' split) <;> first | rfl | omega))

set_option maxRecDepth 20000 in
theorem bX11_birth_0 {X : zX} {dep bc bs : Nat} (m : Int) (y : Int) (w : Int) {h : zH} {Q : Nat → zH → List zV → Prop} (hm : 0 ≤ h 169 25 ∧ h 169 25 ≤ 60) (hc : 0 ≤ h 169 26 ∧ h 169 26 ≤ 100) (hdep : 2 ≤ dep)
    (k1 : ¬ (0 ≤ m ∧ m < (h 169 25)) → Q 239 (zst h 169 0 0) [xI 0])
    (k2 : 0 ≤ m ∧ m < (h 169 25) → ¬ ((-60) ≤ y ∧ y ≤ 9) → Q 239 (zst h 169 0 0) [xI 0])
    (k3 : 0 ≤ m ∧ m < (h 169 25) → (-60) ≤ y ∧ y ≤ 9 → ¬ (0 ≤ w ∧ w ≤ 51) → Q 239 (zst h 169 0 0) [xI 0])
    (k4 : 0 ≤ m ∧ m < (h 169 25) → (-60) ≤ y ∧ y ≤ 9 → 0 ≤ w ∧ w ≤ 51 → ¬ (h 169 26) = 100 → Q 239 (zst (zst (zst (zst (zst h 169 0 0) 174 (h 169 26) m) 175 (h 169 26) ((52 * y) + w)) 176 (h 169 26) (h 169 5)) 169 26 ((h 169 26) + 1)) [xI 1])
    (k5 : 0 ≤ m ∧ m < (h 169 25) → (-60) ≤ y ∧ y ≤ 9 → 0 ≤ w ∧ w ≤ 51 → (h 169 26) = 100 → Q 239 (zst h 169 0 0) [xI 0]) : zW mX11_birth X dep bc bs 239 0 [(0, xR 169), (1, xI m), (2, xI y), (3, xI w)] [] h Q := by
  refine z_aload_n 0 dX11_birth_0 rfl ?_
  refine z_iconst dX11_birth_1 (zi32_d rfl) ?_
  refine z_putI (k := 0) (kz := 0) pk11 dX11_birth_2 (by decide) zb_1124 rfl (zFit_int _) (zOb.lit (by decide +kernel)) rfl ?_
  refine z_aload_n 0 dX11_birth_5 rfl ?_
  refine z_iload_n 1 dX11_birth_6 rfl ?_
  refine z_invF (ci := 11) (N := 97) (as := [xI m]) (st := []) (ra := [xI m]) (dep' := dep - 1) (rs := [xI (zb (0 ≤ m ∧ m < (h 169 25)))]) (h' := (zst h 169 0 0)) (by have e1 : (zst h 169 0 0) 169 25 = (h 169 25) := (zst_ne (Or.inr (by decide))); have z9 := f_X11_isMan (X := X) (dep := dep - 1) m (h := (zst h 169 0 0)) (by have y1 : (zst h 169 0 0) 169 25 = (h 169 25) := (zst_ne (Or.inr (by decide))); simp only [y1]; omega) (by omega); rw [e1] at z9; exact z9) dX11_birth_7 nX11_isMan zb_1455 zb_1457 zb_37 zb_92 (zOb.lit (by decide +kernel)) rfl (by omega) zne_I (Nat.le_of_ble_eq_true rfl) (Nat.le_of_ble_eq_true rfl) rfl ?_
  refine z_ifB_eq (C := 0 ≤ m ∧ m < (h 169 25)) (tgt := 43) dX11_birth_10 (by decide) (fun c1 => ?_) (fun c1 => ?_)
  ·
    refine z_iconst dX11_birth_43 (zi32_d rfl) ?_
    exact z_zret dX11_birth_44 rfl (Or.inl rfl) (k1 c1)
  ·
    refine z_iload_n 2 dX11_birth_13 rfl ?_
    refine z_bipush dX11_birth_14 (zi32_d rfl) (by decide) ?_
    refine z_bipush dX11_birth_16 (zi32_d rfl) (by decide) ?_
    refine z_invSF (as := [xI y, xI (-60), xI 9]) (st := []) (ra := [xI 9, xI (-60), xI y]) (dep' := dep - 1) (rs := [xI (zb ((-60) ≤ y ∧ y ≤ 9))]) (h' := (zst h 169 0 0)) (f_X11_isIn y (-60) 9 (h := (zst h 169 0 0)) ) dX11_birth_18 nX11_isIn zb_1437 zb_1438 zb_92 (by omega) zne_I (Nat.le_of_ble_eq_true rfl) (Nat.le_of_ble_eq_true rfl) rfl ?_
    refine z_ifB_eq (C := (-60) ≤ y ∧ y ≤ 9) (tgt := 43) dX11_birth_21 (by decide) (fun c2 => ?_) (fun c2 => ?_)
    ·
      refine z_iconst dX11_birth_43 (zi32_d rfl) ?_
      exact z_zret dX11_birth_44 rfl (Or.inl rfl) (k2 c1 c2)
    ·
      refine z_iload_n 3 dX11_birth_24 rfl ?_
      refine z_iconst dX11_birth_25 (zi32_d rfl) ?_
      refine z_bipush dX11_birth_26 (zi32_d rfl) (by decide) ?_
      refine z_invSF (as := [xI w, xI 0, xI 51]) (st := []) (ra := [xI 51, xI 0, xI w]) (dep' := dep - 1) (rs := [xI (zb (0 ≤ w ∧ w ≤ 51))]) (h' := (zst h 169 0 0)) (f_X11_isIn w 0 51 (h := (zst h 169 0 0)) ) dX11_birth_28 nX11_isIn zb_1437 zb_1438 zb_92 (by omega) zne_I (Nat.le_of_ble_eq_true rfl) (Nat.le_of_ble_eq_true rfl) rfl ?_
      refine z_ifB_eq (C := 0 ≤ w ∧ w ≤ 51) (tgt := 43) dX11_birth_31 (by decide) (fun c3 => ?_) (fun c3 => ?_)
      ·
        refine z_iconst dX11_birth_43 (zi32_d rfl) ?_
        exact z_zret dX11_birth_44 rfl (Or.inl rfl) (k3 c1 c2 c3)
      ·
        refine z_aload_n 0 dX11_birth_34 rfl ?_
        refine z_getIV (v := (h 169 26)) (k := 26) (kz := 26) pk11 dX11_birth_35 (by decide) zb_1150 rfl (zOb.lit (by decide +kernel)) rfl (zst_ne (Or.inr (by decide))) ?_
        refine z_bipush dX11_birth_38 (zi32_d rfl) (by decide) ?_
        refine z_icmp_ne (tgt := 45) dX11_birth_40 (by decide) (fun c4 => ?_) (fun c4 => ?_)
        ·
          refine z_aload_n 0 dX11_birth_45 rfl ?_
          refine z_getS (v := 174) (k := 9) (kz := 9) pk11 dX11_birth_46 (by decide) zb_1133 rfl (zOb.lit (by decide +kernel)) rfl (by decide +kernel) ?_
          refine z_aload_n 0 dX11_birth_49 rfl ?_
          refine z_getIV (v := (h 169 26)) (k := 26) (kz := 26) pk11 dX11_birth_50 (by decide) zb_1150 rfl (zOb.lit (by decide +kernel)) rfl (zst_ne (Or.inr (by decide))) ?_
          refine z_iload_n 1 dX11_birth_53 rfl ?_
          refine z_iast dX11_birth_54 (zOb.lit (by decide +kernel)) (show 0 ≤ (h 169 26) ∧ (h 169 26) < 100 from ⟨by omega, by omega⟩).1 (show 0 ≤ (h 169 26) ∧ (h 169 26) < 100 from ⟨by omega, by omega⟩).2 ?_
          refine z_aload_n 0 dX11_birth_55 rfl ?_
          refine z_getS (v := 175) (k := 10) (kz := 10) pk11 dX11_birth_56 (by decide) zb_1134 rfl (zOb.lit (by decide +kernel)) rfl (by decide +kernel) ?_
          refine z_aload_n 0 dX11_birth_59 rfl ?_
          refine z_getIV (v := (h 169 26)) (k := 26) (kz := 26) pk11 dX11_birth_60 (by decide) zb_1150 rfl (zOb.lit (by decide +kernel)) rfl ((zst_ne (Or.inl (by decide))).trans (zst_ne (Or.inr (by decide)))) ?_
          refine z_bipush dX11_birth_63 (zi32_d rfl) (by decide) ?_
          refine z_iload_n 2 dX11_birth_65 rfl ?_
          refine z_imulN dX11_birth_66 (show -2147483648 ≤ 52 * y ∧ 52 * y < 2147483648 from ⟨by omega, by omega⟩).1 (show -2147483648 ≤ 52 * y ∧ 52 * y < 2147483648 from ⟨by omega, by omega⟩).2 ?_
          refine z_iload_n 3 dX11_birth_67 rfl ?_
          refine z_iaddN dX11_birth_68 (show -2147483648 ≤ (52 * y) + w ∧ (52 * y) + w < 2147483648 from ⟨by omega, by omega⟩).1 (show -2147483648 ≤ (52 * y) + w ∧ (52 * y) + w < 2147483648 from ⟨by omega, by omega⟩).2 ?_
          refine z_iast dX11_birth_69 (zOb.lit (by decide +kernel)) (show 0 ≤ (h 169 26) ∧ (h 169 26) < 100 from ⟨by omega, by omega⟩).1 (show 0 ≤ (h 169 26) ∧ (h 169 26) < 100 from ⟨by omega, by omega⟩).2 ?_
          refine z_aload_n 0 dX11_birth_70 rfl ?_
          refine z_getS (v := 176) (k := 11) (kz := 11) pk11 dX11_birth_71 (by decide) zb_1135 rfl (zOb.lit (by decide +kernel)) rfl (by decide +kernel) ?_
          refine z_aload_n 0 dX11_birth_74 rfl ?_
          refine z_getIV (v := (h 169 26)) (k := 26) (kz := 26) pk11 dX11_birth_75 (by decide) zb_1150 rfl (zOb.lit (by decide +kernel)) rfl ((zst_ne (Or.inl (by decide))).trans ((zst_ne (Or.inl (by decide))).trans (zst_ne (Or.inr (by decide))))) ?_
          refine z_aload_n 0 dX11_birth_78 rfl ?_
          refine z_getIV (v := (h 169 5)) (k := 5) (kz := 5) pk11 dX11_birth_79 (by decide) zb_1129 rfl (zOb.lit (by decide +kernel)) rfl ((zst_ne (Or.inl (by decide))).trans ((zst_ne (Or.inl (by decide))).trans (zst_ne (Or.inr (by decide))))) ?_
          refine z_iast dX11_birth_82 (zOb.lit (by decide +kernel)) (show 0 ≤ (h 169 26) ∧ (h 169 26) < 100 from ⟨by omega, by omega⟩).1 (show 0 ≤ (h 169 26) ∧ (h 169 26) < 100 from ⟨by omega, by omega⟩).2 ?_
          refine z_aload_n 0 dX11_birth_83 rfl ?_
          refine z_dup dX11_birth_84 zt2 ?_
          refine z_getIV (v := (h 169 26)) (k := 26) (kz := 26) pk11 dX11_birth_85 (by decide) zb_1150 rfl (zOb.lit (by decide +kernel)) rfl ((zst_ne (Or.inl (by decide))).trans ((zst_ne (Or.inl (by decide))).trans ((zst_ne (Or.inl (by decide))).trans (zst_ne (Or.inr (by decide)))))) ?_
          refine z_iconst dX11_birth_88 (zi32_d rfl) ?_
          refine z_iaddN dX11_birth_89 (show -2147483648 ≤ (h 169 26) + 1 ∧ (h 169 26) + 1 < 2147483648 from ⟨by omega, by omega⟩).1 (show -2147483648 ≤ (h 169 26) + 1 ∧ (h 169 26) + 1 < 2147483648 from ⟨by omega, by omega⟩).2 ?_
          refine z_putI (k := 26) (kz := 26) pk11 dX11_birth_90 (by decide) zb_1150 rfl (zFit_int _) (zOb.lit (by decide +kernel)) rfl ?_
          refine z_iconst dX11_birth_93 (zi32_d rfl) ?_
          exact z_zret dX11_birth_94 rfl (Or.inr rfl) (k4 c1 c2 c3 c4)
        ·
          refine z_iconst dX11_birth_43 (zi32_d rfl) ?_
          exact z_zret dX11_birth_44 rfl (Or.inl rfl) (k5 c1 c2 c3 c4)
theorem f_X11_birth {X : zX} {dep : Nat} (m : Int) (y : Int) (w : Int) {h : zH} (hm : 0 ≤ h 169 25 ∧ h 169 25 ≤ 60) (hc : 0 ≤ h 169 26 ∧ h 169 26 ≤ 100) (hdep : 2 ≤ dep) : zW mX11_birth X dep 0 0 239 0 (zar 0 [xR 169, xI m, xI y, xI w]) [] h (zF (if ((0 ≤ m ∧ m < h 169 25) ∧ (-60 ≤ y ∧ y ≤ 9) ∧ 0 ≤ w ∧ w ≤ 51) ∧ h 169 26 ≠ 100 then zst (zst (zst (zst (zst h 169 0 0) 174 (h 169 26) m) 175 (h 169 26) (52 * y + w)) 176 (h 169 26) (h 169 5)) 169 26 (h 169 26 + 1) else zst h 169 0 0) [xI (zb (((0 ≤ m ∧ m < h 169 25) ∧ (-60 ≤ y ∧ y ≤ 9) ∧ 0 ≤ w ∧ w ≤ 51) ∧ h 169 26 ≠ 100))]) := by
  refine bX11_birth_0 m y w hm hc hdep ?_ ?_ ?_ ?_ ?_
  all_goals intros
  all_goals refine ⟨rfl, ?_, ?_⟩
  all_goals first
    | (rw [if_pos (by omega)])
    | (rw [if_neg (by omega)])
    | (first | rfl | (refine congrArg (fun x => [xI x]) ?_; unfold zb; (repeat' split) <;> first | rfl | omega))

set_option maxRecDepth 20000 in
theorem bX11_fact_0 {X : zX} {dep bc bs : Nat} (m : Int) (k : Int) (v : Int) (a : Int) (b : Int) {h : zH} {Q : Nat → zH → List zV → Prop} (hm : 0 ≤ h 169 25 ∧ h 169 25 ≤ 60) (hc : 0 ≤ h 169 27 ∧ h 169 27 ≤ 240) (hdep : 2 ≤ dep)
    (k1 : ¬ (0 ≤ m ∧ m < (h 169 25)) → Q 239 (zst h 169 0 0) [xI 0])
    (k2 : 0 ≤ m ∧ m < (h 169 25) → ¬ (0 ≤ k ∧ k ≤ 5) → Q 239 (zst h 169 0 0) [xI 0])
    (k3 : 0 ≤ m ∧ m < (h 169 25) → 0 ≤ k ∧ k ≤ 5 → ¬ (0 ≤ v ∧ v ≤ (if 2 ≤ k then if 5 ≤ k then 250 else 1 else 9 : Int)) → Q 239 (zst h 169 0 0) [xI 0])
    (k4 : 0 ≤ m ∧ m < (h 169 25) → 0 ≤ k ∧ k ≤ 5 → 0 ≤ v ∧ v ≤ (if 2 ≤ k then if 5 ≤ k then 250 else 1 else 9 : Int) → ¬ (0 ≤ a ∧ a ≤ 3639) → Q 239 (zst h 169 0 0) [xI 0])
    (k5 : 0 ≤ m ∧ m < (h 169 25) → 0 ≤ k ∧ k ≤ 5 → 0 ≤ v ∧ v ≤ (if 2 ≤ k then if 5 ≤ k then 250 else 1 else 9 : Int) → 0 ≤ a ∧ a ≤ 3639 → ¬ (a ≤ b ∧ b ≤ 3639) → Q 239 (zst h 169 0 0) [xI 0])
    (k6 : 0 ≤ m ∧ m < (h 169 25) → 0 ≤ k ∧ k ≤ 5 → 0 ≤ v ∧ v ≤ (if 2 ≤ k then if 5 ≤ k then 250 else 1 else 9 : Int) → 0 ≤ a ∧ a ≤ 3639 → a ≤ b ∧ b ≤ 3639 → ¬ (h 169 27) = 240 → Q 239 (zst (zst (zst (zst (zst (zst (zst (zst h 169 0 0) 177 (h 169 27) m) 178 (h 169 27) k) 179 (h 169 27) v) 180 (h 169 27) a) 181 (h 169 27) b) 182 (h 169 27) (h 169 5)) 169 27 ((h 169 27) + 1)) [xI 1])
    (k7 : 0 ≤ m ∧ m < (h 169 25) → 0 ≤ k ∧ k ≤ 5 → 0 ≤ v ∧ v ≤ (if 2 ≤ k then if 5 ≤ k then 250 else 1 else 9 : Int) → 0 ≤ a ∧ a ≤ 3639 → a ≤ b ∧ b ≤ 3639 → (h 169 27) = 240 → Q 239 (zst h 169 0 0) [xI 0]) : zW mX11_fact X dep bc bs 239 0 [(0, xR 169), (1, xI m), (2, xI k), (3, xI v), (4, xI a), (5, xI b)] [] h Q := by
  refine z_aload_n 0 dX11_fact_0 rfl ?_
  refine z_iconst dX11_fact_1 (zi32_d rfl) ?_
  refine z_putI (k := 0) (kz := 0) pk11 dX11_fact_2 (by decide) zb_1124 rfl (zFit_int _) (zOb.lit (by decide +kernel)) rfl ?_
  refine z_aload_n 0 dX11_fact_5 rfl ?_
  refine z_iload_n 1 dX11_fact_6 rfl ?_
  refine z_invF (ci := 11) (N := 97) (as := [xI m]) (st := []) (ra := [xI m]) (dep' := dep - 1) (rs := [xI (zb (0 ≤ m ∧ m < (h 169 25)))]) (h' := (zst h 169 0 0)) (by have e1 : (zst h 169 0 0) 169 25 = (h 169 25) := (zst_ne (Or.inr (by decide))); have z9 := f_X11_isMan (X := X) (dep := dep - 1) m (h := (zst h 169 0 0)) (by have y1 : (zst h 169 0 0) 169 25 = (h 169 25) := (zst_ne (Or.inr (by decide))); simp only [y1]; omega) (by omega); rw [e1] at z9; exact z9) dX11_fact_7 nX11_isMan zb_1455 zb_1457 zb_37 zb_92 (zOb.lit (by decide +kernel)) rfl (by omega) zne_I (Nat.le_of_ble_eq_true rfl) (Nat.le_of_ble_eq_true rfl) rfl ?_
  refine z_ifB_eq (C := 0 ≤ m ∧ m < (h 169 25)) (tgt := 87) dX11_fact_10 (by decide) (fun c1 => ?_) (fun c1 => ?_)
  ·
    refine z_iconst dX11_fact_87 (zi32_d rfl) ?_
    exact z_zret dX11_fact_88 rfl (Or.inl rfl) (k1 c1)
  ·
    refine z_iload_n 2 dX11_fact_13 rfl ?_
    refine z_iconst dX11_fact_14 (zi32_d rfl) ?_
    refine z_iconst dX11_fact_15 (zi32_d rfl) ?_
    refine z_invSF (as := [xI k, xI 0, xI 5]) (st := []) (ra := [xI 5, xI 0, xI k]) (dep' := dep - 1) (rs := [xI (zb (0 ≤ k ∧ k ≤ 5))]) (h' := (zst h 169 0 0)) (f_X11_isIn k 0 5 (h := (zst h 169 0 0)) ) dX11_fact_16 nX11_isIn zb_1437 zb_1438 zb_92 (by omega) zne_I (Nat.le_of_ble_eq_true rfl) (Nat.le_of_ble_eq_true rfl) rfl ?_
    refine z_ifB_eq (C := 0 ≤ k ∧ k ≤ 5) (tgt := 87) dX11_fact_19 (by decide) (fun c2 => ?_) (fun c2 => ?_)
    ·
      refine z_iconst dX11_fact_87 (zi32_d rfl) ?_
      exact z_zret dX11_fact_88 rfl (Or.inl rfl) (k2 c1 c2)
    ·
      refine z_iload_n 3 dX11_fact_22 rfl ?_
      refine z_iconst dX11_fact_23 (zi32_d rfl) ?_
      refine z_iload_n 2 dX11_fact_24 rfl ?_
      refine z_iconst dX11_fact_25 (zi32_d rfl) ?_
      suffices KJ : zW mX11_fact X dep bc bs 239 46 [(0, xR 169), (1, xI m), (2, xI k), (3, xI v), (4, xI a), (5, xI b)] [xI (if 2 ≤ k then if 5 ≤ k then 250 else 1 else 9 : Int), xI 0, xI v] (zst h 169 0 0) Q by
        refine z_icmp_ge (tgt := 34) dX11_fact_26 (by decide) (fun j1 => ?_) (fun j1 => ?_)
        ·
          refine z_iload_n 2 dX11_fact_34 rfl ?_
          refine z_iconst dX11_fact_35 (zi32_d rfl) ?_
          refine z_icmp_ge (tgt := 43) dX11_fact_36 (by decide) (fun j2 => ?_) (fun j2 => ?_)
          ·
            refine z_sipush dX11_fact_43 (zi32_d rfl) (by decide) ?_
            rw [if_pos j1] at KJ
            rw [if_pos j2] at KJ
            exact KJ
          ·
            refine z_iconst dX11_fact_39 (zi32_d rfl) ?_
            refine z_goto (tgt := 46) dX11_fact_40 (by decide) ?_
            rw [if_pos j1] at KJ
            rw [if_neg j2] at KJ
            exact KJ
        ·
          refine z_bipush dX11_fact_29 (zi32_d rfl) (by decide) ?_
          refine z_goto (tgt := 46) dX11_fact_31 (by decide) ?_
          rw [if_neg j1] at KJ
          exact KJ
      refine z_invSF (as := [xI v, xI 0, xI (if 2 ≤ k then if 5 ≤ k then 250 else 1 else 9 : Int)]) (st := []) (ra := [xI (if 2 ≤ k then if 5 ≤ k then 250 else 1 else 9 : Int), xI 0, xI v]) (dep' := dep - 1) (rs := [xI (zb (0 ≤ v ∧ v ≤ (if 2 ≤ k then if 5 ≤ k then 250 else 1 else 9 : Int)))]) (h' := (zst h 169 0 0)) (f_X11_isIn v 0 (if 2 ≤ k then if 5 ≤ k then 250 else 1 else 9 : Int) (h := (zst h 169 0 0)) ) dX11_fact_46 nX11_isIn zb_1437 zb_1438 zb_92 (by omega) zne_I (Nat.le_of_ble_eq_true rfl) (Nat.le_of_ble_eq_true rfl) rfl ?_
      refine z_ifB_eq (C := 0 ≤ v ∧ v ≤ (if 2 ≤ k then if 5 ≤ k then 250 else 1 else 9 : Int)) (tgt := 87) dX11_fact_49 (by decide) (fun c3 => ?_) (fun c3 => ?_)
      ·
        refine z_iconst dX11_fact_87 (zi32_d rfl) ?_
        exact z_zret dX11_fact_88 rfl (Or.inl rfl) (k3 c1 c2 c3)
      ·
        refine z_iload 4 dX11_fact_52 rfl ?_
        refine z_iconst dX11_fact_54 (zi32_d rfl) ?_
        refine z_sipush dX11_fact_55 (zi32_d rfl) (by decide) ?_
        refine z_invSF (as := [xI a, xI 0, xI 3639]) (st := []) (ra := [xI 3639, xI 0, xI a]) (dep' := dep - 1) (rs := [xI (zb (0 ≤ a ∧ a ≤ 3639))]) (h' := (zst h 169 0 0)) (f_X11_isIn a 0 3639 (h := (zst h 169 0 0)) ) dX11_fact_58 nX11_isIn zb_1437 zb_1438 zb_92 (by omega) zne_I (Nat.le_of_ble_eq_true rfl) (Nat.le_of_ble_eq_true rfl) rfl ?_
        refine z_ifB_eq (C := 0 ≤ a ∧ a ≤ 3639) (tgt := 87) dX11_fact_61 (by decide) (fun c4 => ?_) (fun c4 => ?_)
        ·
          refine z_iconst dX11_fact_87 (zi32_d rfl) ?_
          exact z_zret dX11_fact_88 rfl (Or.inl rfl) (k4 c1 c2 c3 c4)
        ·
          refine z_iload 5 dX11_fact_64 rfl ?_
          refine z_iload 4 dX11_fact_66 rfl ?_
          refine z_sipush dX11_fact_68 (zi32_d rfl) (by decide) ?_
          refine z_invSF (as := [xI b, xI a, xI 3639]) (st := []) (ra := [xI 3639, xI a, xI b]) (dep' := dep - 1) (rs := [xI (zb (a ≤ b ∧ b ≤ 3639))]) (h' := (zst h 169 0 0)) (f_X11_isIn b a 3639 (h := (zst h 169 0 0)) ) dX11_fact_71 nX11_isIn zb_1437 zb_1438 zb_92 (by omega) zne_I (Nat.le_of_ble_eq_true rfl) (Nat.le_of_ble_eq_true rfl) rfl ?_
          refine z_ifB_eq (C := a ≤ b ∧ b ≤ 3639) (tgt := 87) dX11_fact_74 (by decide) (fun c5 => ?_) (fun c5 => ?_)
          ·
            refine z_iconst dX11_fact_87 (zi32_d rfl) ?_
            exact z_zret dX11_fact_88 rfl (Or.inl rfl) (k5 c1 c2 c3 c4 c5)
          ·
            refine z_aload_n 0 dX11_fact_77 rfl ?_
            refine z_getIV (v := (h 169 27)) (k := 27) (kz := 27) pk11 dX11_fact_78 (by decide) zb_1151 rfl (zOb.lit (by decide +kernel)) rfl (zst_ne (Or.inr (by decide))) ?_
            refine z_sipush dX11_fact_81 (zi32_d rfl) (by decide) ?_
            refine z_icmp_ne (tgt := 89) dX11_fact_84 (by decide) (fun c6 => ?_) (fun c6 => ?_)
            ·
              refine z_aload_n 0 dX11_fact_89 rfl ?_
              refine z_getS (v := 177) (k := 12) (kz := 12) pk11 dX11_fact_90 (by decide) zb_1136 rfl (zOb.lit (by decide +kernel)) rfl (by decide +kernel) ?_
              refine z_aload_n 0 dX11_fact_93 rfl ?_
              refine z_getIV (v := (h 169 27)) (k := 27) (kz := 27) pk11 dX11_fact_94 (by decide) zb_1151 rfl (zOb.lit (by decide +kernel)) rfl (zst_ne (Or.inr (by decide))) ?_
              refine z_iload_n 1 dX11_fact_97 rfl ?_
              refine z_iast dX11_fact_98 (zOb.lit (by decide +kernel)) (show 0 ≤ (h 169 27) ∧ (h 169 27) < 240 from ⟨by omega, by omega⟩).1 (show 0 ≤ (h 169 27) ∧ (h 169 27) < 240 from ⟨by omega, by omega⟩).2 ?_
              refine z_aload_n 0 dX11_fact_99 rfl ?_
              refine z_getS (v := 178) (k := 13) (kz := 13) pk11 dX11_fact_100 (by decide) zb_1137 rfl (zOb.lit (by decide +kernel)) rfl (by decide +kernel) ?_
              refine z_aload_n 0 dX11_fact_103 rfl ?_
              refine z_getIV (v := (h 169 27)) (k := 27) (kz := 27) pk11 dX11_fact_104 (by decide) zb_1151 rfl (zOb.lit (by decide +kernel)) rfl ((zst_ne (Or.inl (by decide))).trans (zst_ne (Or.inr (by decide)))) ?_
              refine z_iload_n 2 dX11_fact_107 rfl ?_
              refine z_iast dX11_fact_108 (zOb.lit (by decide +kernel)) (show 0 ≤ (h 169 27) ∧ (h 169 27) < 240 from ⟨by omega, by omega⟩).1 (show 0 ≤ (h 169 27) ∧ (h 169 27) < 240 from ⟨by omega, by omega⟩).2 ?_
              refine z_aload_n 0 dX11_fact_109 rfl ?_
              refine z_getS (v := 179) (k := 14) (kz := 14) pk11 dX11_fact_110 (by decide) zb_1138 rfl (zOb.lit (by decide +kernel)) rfl (by decide +kernel) ?_
              refine z_aload_n 0 dX11_fact_113 rfl ?_
              refine z_getIV (v := (h 169 27)) (k := 27) (kz := 27) pk11 dX11_fact_114 (by decide) zb_1151 rfl (zOb.lit (by decide +kernel)) rfl ((zst_ne (Or.inl (by decide))).trans ((zst_ne (Or.inl (by decide))).trans (zst_ne (Or.inr (by decide))))) ?_
              refine z_iload_n 3 dX11_fact_117 rfl ?_
              refine z_iast dX11_fact_118 (zOb.lit (by decide +kernel)) (show 0 ≤ (h 169 27) ∧ (h 169 27) < 240 from ⟨by omega, by omega⟩).1 (show 0 ≤ (h 169 27) ∧ (h 169 27) < 240 from ⟨by omega, by omega⟩).2 ?_
              refine z_aload_n 0 dX11_fact_119 rfl ?_
              refine z_getS (v := 180) (k := 15) (kz := 15) pk11 dX11_fact_120 (by decide) zb_1139 rfl (zOb.lit (by decide +kernel)) rfl (by decide +kernel) ?_
              refine z_aload_n 0 dX11_fact_123 rfl ?_
              refine z_getIV (v := (h 169 27)) (k := 27) (kz := 27) pk11 dX11_fact_124 (by decide) zb_1151 rfl (zOb.lit (by decide +kernel)) rfl ((zst_ne (Or.inl (by decide))).trans ((zst_ne (Or.inl (by decide))).trans ((zst_ne (Or.inl (by decide))).trans (zst_ne (Or.inr (by decide)))))) ?_
              refine z_iload 4 dX11_fact_127 rfl ?_
              refine z_iast dX11_fact_129 (zOb.lit (by decide +kernel)) (show 0 ≤ (h 169 27) ∧ (h 169 27) < 240 from ⟨by omega, by omega⟩).1 (show 0 ≤ (h 169 27) ∧ (h 169 27) < 240 from ⟨by omega, by omega⟩).2 ?_
              refine z_aload_n 0 dX11_fact_130 rfl ?_
              refine z_getS (v := 181) (k := 16) (kz := 16) pk11 dX11_fact_131 (by decide) zb_1140 rfl (zOb.lit (by decide +kernel)) rfl (by decide +kernel) ?_
              refine z_aload_n 0 dX11_fact_134 rfl ?_
              refine z_getIV (v := (h 169 27)) (k := 27) (kz := 27) pk11 dX11_fact_135 (by decide) zb_1151 rfl (zOb.lit (by decide +kernel)) rfl ((zst_ne (Or.inl (by decide))).trans ((zst_ne (Or.inl (by decide))).trans ((zst_ne (Or.inl (by decide))).trans ((zst_ne (Or.inl (by decide))).trans (zst_ne (Or.inr (by decide))))))) ?_
              refine z_iload 5 dX11_fact_138 rfl ?_
              refine z_iast dX11_fact_140 (zOb.lit (by decide +kernel)) (show 0 ≤ (h 169 27) ∧ (h 169 27) < 240 from ⟨by omega, by omega⟩).1 (show 0 ≤ (h 169 27) ∧ (h 169 27) < 240 from ⟨by omega, by omega⟩).2 ?_
              refine z_aload_n 0 dX11_fact_141 rfl ?_
              refine z_getS (v := 182) (k := 17) (kz := 17) pk11 dX11_fact_142 (by decide) zb_1141 rfl (zOb.lit (by decide +kernel)) rfl (by decide +kernel) ?_
              refine z_aload_n 0 dX11_fact_145 rfl ?_
              refine z_getIV (v := (h 169 27)) (k := 27) (kz := 27) pk11 dX11_fact_146 (by decide) zb_1151 rfl (zOb.lit (by decide +kernel)) rfl ((zst_ne (Or.inl (by decide))).trans ((zst_ne (Or.inl (by decide))).trans ((zst_ne (Or.inl (by decide))).trans ((zst_ne (Or.inl (by decide))).trans ((zst_ne (Or.inl (by decide))).trans (zst_ne (Or.inr (by decide)))))))) ?_
              refine z_aload_n 0 dX11_fact_149 rfl ?_
              refine z_getIV (v := (h 169 5)) (k := 5) (kz := 5) pk11 dX11_fact_150 (by decide) zb_1129 rfl (zOb.lit (by decide +kernel)) rfl ((zst_ne (Or.inl (by decide))).trans ((zst_ne (Or.inl (by decide))).trans ((zst_ne (Or.inl (by decide))).trans ((zst_ne (Or.inl (by decide))).trans ((zst_ne (Or.inl (by decide))).trans (zst_ne (Or.inr (by decide)))))))) ?_
              refine z_iast dX11_fact_153 (zOb.lit (by decide +kernel)) (show 0 ≤ (h 169 27) ∧ (h 169 27) < 240 from ⟨by omega, by omega⟩).1 (show 0 ≤ (h 169 27) ∧ (h 169 27) < 240 from ⟨by omega, by omega⟩).2 ?_
              refine z_aload_n 0 dX11_fact_154 rfl ?_
              refine z_dup dX11_fact_155 zt2 ?_
              refine z_getIV (v := (h 169 27)) (k := 27) (kz := 27) pk11 dX11_fact_156 (by decide) zb_1151 rfl (zOb.lit (by decide +kernel)) rfl ((zst_ne (Or.inl (by decide))).trans ((zst_ne (Or.inl (by decide))).trans ((zst_ne (Or.inl (by decide))).trans ((zst_ne (Or.inl (by decide))).trans ((zst_ne (Or.inl (by decide))).trans ((zst_ne (Or.inl (by decide))).trans (zst_ne (Or.inr (by decide))))))))) ?_
              refine z_iconst dX11_fact_159 (zi32_d rfl) ?_
              refine z_iaddN dX11_fact_160 (show -2147483648 ≤ (h 169 27) + 1 ∧ (h 169 27) + 1 < 2147483648 from ⟨by omega, by omega⟩).1 (show -2147483648 ≤ (h 169 27) + 1 ∧ (h 169 27) + 1 < 2147483648 from ⟨by omega, by omega⟩).2 ?_
              refine z_putI (k := 27) (kz := 27) pk11 dX11_fact_161 (by decide) zb_1151 rfl (zFit_int _) (zOb.lit (by decide +kernel)) rfl ?_
              refine z_iconst dX11_fact_164 (zi32_d rfl) ?_
              exact z_zret dX11_fact_165 rfl (Or.inr rfl) (k6 c1 c2 c3 c4 c5 c6)
            ·
              refine z_iconst dX11_fact_87 (zi32_d rfl) ?_
              exact z_zret dX11_fact_88 rfl (Or.inl rfl) (k7 c1 c2 c3 c4 c5 c6)
theorem f_X11_fact {X : zX} {dep : Nat} (m : Int) (k : Int) (v : Int) (a : Int) (b : Int) {h : zH} (hm : 0 ≤ h 169 25 ∧ h 169 25 ≤ 60) (hc : 0 ≤ h 169 27 ∧ h 169 27 ≤ 240) (hdep : 2 ≤ dep) : zW mX11_fact X dep 0 0 239 0 (zar 0 [xR 169, xI m, xI k, xI v, xI a, xI b]) [] h (zF (if ((0 ≤ m ∧ m < h 169 25) ∧ (0 ≤ v ∧ ((k = 0 ∨ k = 1) ∧ v ≤ 9 ∨ (k = 2 ∨ k = 3 ∨ k = 4) ∧ v ≤ 1 ∨ k = 5 ∧ v ≤ 250)) ∧ (0 ≤ a ∧ a ≤ 3639) ∧ (a ≤ b ∧ b ≤ 3639)) ∧ h 169 27 ≠ 240 then zst (zst (zst (zst (zst (zst (zst (zst h 169 0 0) 177 (h 169 27) m) 178 (h 169 27) k) 179 (h 169 27) v) 180 (h 169 27) a) 181 (h 169 27) b) 182 (h 169 27) (h 169 5)) 169 27 (h 169 27 + 1) else zst h 169 0 0) [xI (zb (((0 ≤ m ∧ m < h 169 25) ∧ (0 ≤ v ∧ ((k = 0 ∨ k = 1) ∧ v ≤ 9 ∨ (k = 2 ∨ k = 3 ∨ k = 4) ∧ v ≤ 1 ∨ k = 5 ∧ v ≤ 250)) ∧ (0 ≤ a ∧ a ≤ 3639) ∧ (a ≤ b ∧ b ≤ 3639)) ∧ h 169 27 ≠ 240))]) := by
  refine bX11_fact_0 m k v a b hm hc hdep ?_ ?_ ?_ ?_ ?_ ?_ ?_
  all_goals intros
  all_goals refine ⟨rfl, ?_, ?_⟩
  all_goals first
    | (rw [if_pos (by omega)])
    | (rw [if_neg (by omega)])
    | (first | rfl | (refine congrArg (fun x => [xI x]) ?_; unfold zb; (repeat' split) <;> first | rfl | omega))

set_option maxRecDepth 20000 in
theorem bX11_exam_0 {X : zX} {dep bc bs : Nat} (m : Int) (d : Int) (g : Int) {h : zH} {Q : Nat → zH → List zV → Prop} (hm : 0 ≤ h 169 25 ∧ h 169 25 ≤ 60) (hc : 0 ≤ h 169 28 ∧ h 169 28 ≤ 60) (hdep : 2 ≤ dep)
    (k1 : ¬ (0 ≤ m ∧ m < (h 169 25)) → Q 239 (zst h 169 0 0) [xI 0])
    (k2 : 0 ≤ m ∧ m < (h 169 25) → ¬ (0 ≤ d ∧ d ≤ 7) → Q 239 (zst h 169 0 0) [xI 0])
    (k3 : 0 ≤ m ∧ m < (h 169 25) → 0 ≤ d ∧ d ≤ 7 → ¬ (0 ≤ g ∧ g ≤ 9) → Q 239 (zst h 169 0 0) [xI 0])
    (k4 : 0 ≤ m ∧ m < (h 169 25) → 0 ≤ d ∧ d ≤ 7 → 0 ≤ g ∧ g ≤ 9 → ¬ (h 169 28) = 60 → Q 239 (zst (zst (zst (zst (zst (zst h 169 0 0) 183 (h 169 28) m) 184 (h 169 28) d) 185 (h 169 28) g) 186 (h 169 28) (h 169 5)) 169 28 ((h 169 28) + 1)) [xI 1])
    (k5 : 0 ≤ m ∧ m < (h 169 25) → 0 ≤ d ∧ d ≤ 7 → 0 ≤ g ∧ g ≤ 9 → (h 169 28) = 60 → Q 239 (zst h 169 0 0) [xI 0]) : zW mX11_exam X dep bc bs 239 0 [(0, xR 169), (1, xI m), (2, xI d), (3, xI g)] [] h Q := by
  refine z_aload_n 0 dX11_exam_0 rfl ?_
  refine z_iconst dX11_exam_1 (zi32_d rfl) ?_
  refine z_putI (k := 0) (kz := 0) pk11 dX11_exam_2 (by decide) zb_1124 rfl (zFit_int _) (zOb.lit (by decide +kernel)) rfl ?_
  refine z_aload_n 0 dX11_exam_5 rfl ?_
  refine z_iload_n 1 dX11_exam_6 rfl ?_
  refine z_invF (ci := 11) (N := 97) (as := [xI m]) (st := []) (ra := [xI m]) (dep' := dep - 1) (rs := [xI (zb (0 ≤ m ∧ m < (h 169 25)))]) (h' := (zst h 169 0 0)) (by have e1 : (zst h 169 0 0) 169 25 = (h 169 25) := (zst_ne (Or.inr (by decide))); have z9 := f_X11_isMan (X := X) (dep := dep - 1) m (h := (zst h 169 0 0)) (by have y1 : (zst h 169 0 0) 169 25 = (h 169 25) := (zst_ne (Or.inr (by decide))); simp only [y1]; omega) (by omega); rw [e1] at z9; exact z9) dX11_exam_7 nX11_isMan zb_1455 zb_1457 zb_37 zb_92 (zOb.lit (by decide +kernel)) rfl (by omega) zne_I (Nat.le_of_ble_eq_true rfl) (Nat.le_of_ble_eq_true rfl) rfl ?_
  refine z_ifB_eq (C := 0 ≤ m ∧ m < (h 169 25)) (tgt := 42) dX11_exam_10 (by decide) (fun c1 => ?_) (fun c1 => ?_)
  ·
    refine z_iconst dX11_exam_42 (zi32_d rfl) ?_
    exact z_zret dX11_exam_43 rfl (Or.inl rfl) (k1 c1)
  ·
    refine z_iload_n 2 dX11_exam_13 rfl ?_
    refine z_iconst dX11_exam_14 (zi32_d rfl) ?_
    refine z_bipush dX11_exam_15 (zi32_d rfl) (by decide) ?_
    refine z_invSF (as := [xI d, xI 0, xI 7]) (st := []) (ra := [xI 7, xI 0, xI d]) (dep' := dep - 1) (rs := [xI (zb (0 ≤ d ∧ d ≤ 7))]) (h' := (zst h 169 0 0)) (f_X11_isIn d 0 7 (h := (zst h 169 0 0)) ) dX11_exam_17 nX11_isIn zb_1437 zb_1438 zb_92 (by omega) zne_I (Nat.le_of_ble_eq_true rfl) (Nat.le_of_ble_eq_true rfl) rfl ?_
    refine z_ifB_eq (C := 0 ≤ d ∧ d ≤ 7) (tgt := 42) dX11_exam_20 (by decide) (fun c2 => ?_) (fun c2 => ?_)
    ·
      refine z_iconst dX11_exam_42 (zi32_d rfl) ?_
      exact z_zret dX11_exam_43 rfl (Or.inl rfl) (k2 c1 c2)
    ·
      refine z_iload_n 3 dX11_exam_23 rfl ?_
      refine z_iconst dX11_exam_24 (zi32_d rfl) ?_
      refine z_bipush dX11_exam_25 (zi32_d rfl) (by decide) ?_
      refine z_invSF (as := [xI g, xI 0, xI 9]) (st := []) (ra := [xI 9, xI 0, xI g]) (dep' := dep - 1) (rs := [xI (zb (0 ≤ g ∧ g ≤ 9))]) (h' := (zst h 169 0 0)) (f_X11_isIn g 0 9 (h := (zst h 169 0 0)) ) dX11_exam_27 nX11_isIn zb_1437 zb_1438 zb_92 (by omega) zne_I (Nat.le_of_ble_eq_true rfl) (Nat.le_of_ble_eq_true rfl) rfl ?_
      refine z_ifB_eq (C := 0 ≤ g ∧ g ≤ 9) (tgt := 42) dX11_exam_30 (by decide) (fun c3 => ?_) (fun c3 => ?_)
      ·
        refine z_iconst dX11_exam_42 (zi32_d rfl) ?_
        exact z_zret dX11_exam_43 rfl (Or.inl rfl) (k3 c1 c2 c3)
      ·
        refine z_aload_n 0 dX11_exam_33 rfl ?_
        refine z_getIV (v := (h 169 28)) (k := 28) (kz := 28) pk11 dX11_exam_34 (by decide) zb_1152 rfl (zOb.lit (by decide +kernel)) rfl (zst_ne (Or.inr (by decide))) ?_
        refine z_bipush dX11_exam_37 (zi32_d rfl) (by decide) ?_
        refine z_icmp_ne (tgt := 44) dX11_exam_39 (by decide) (fun c4 => ?_) (fun c4 => ?_)
        ·
          refine z_aload_n 0 dX11_exam_44 rfl ?_
          refine z_getS (v := 183) (k := 18) (kz := 18) pk11 dX11_exam_45 (by decide) zb_1142 rfl (zOb.lit (by decide +kernel)) rfl (by decide +kernel) ?_
          refine z_aload_n 0 dX11_exam_48 rfl ?_
          refine z_getIV (v := (h 169 28)) (k := 28) (kz := 28) pk11 dX11_exam_49 (by decide) zb_1152 rfl (zOb.lit (by decide +kernel)) rfl (zst_ne (Or.inr (by decide))) ?_
          refine z_iload_n 1 dX11_exam_52 rfl ?_
          refine z_iast dX11_exam_53 (zOb.lit (by decide +kernel)) (show 0 ≤ (h 169 28) ∧ (h 169 28) < 60 from ⟨by omega, by omega⟩).1 (show 0 ≤ (h 169 28) ∧ (h 169 28) < 60 from ⟨by omega, by omega⟩).2 ?_
          refine z_aload_n 0 dX11_exam_54 rfl ?_
          refine z_getS (v := 184) (k := 19) (kz := 19) pk11 dX11_exam_55 (by decide) zb_1143 rfl (zOb.lit (by decide +kernel)) rfl (by decide +kernel) ?_
          refine z_aload_n 0 dX11_exam_58 rfl ?_
          refine z_getIV (v := (h 169 28)) (k := 28) (kz := 28) pk11 dX11_exam_59 (by decide) zb_1152 rfl (zOb.lit (by decide +kernel)) rfl ((zst_ne (Or.inl (by decide))).trans (zst_ne (Or.inr (by decide)))) ?_
          refine z_iload_n 2 dX11_exam_62 rfl ?_
          refine z_iast dX11_exam_63 (zOb.lit (by decide +kernel)) (show 0 ≤ (h 169 28) ∧ (h 169 28) < 60 from ⟨by omega, by omega⟩).1 (show 0 ≤ (h 169 28) ∧ (h 169 28) < 60 from ⟨by omega, by omega⟩).2 ?_
          refine z_aload_n 0 dX11_exam_64 rfl ?_
          refine z_getS (v := 185) (k := 20) (kz := 20) pk11 dX11_exam_65 (by decide) zb_1144 rfl (zOb.lit (by decide +kernel)) rfl (by decide +kernel) ?_
          refine z_aload_n 0 dX11_exam_68 rfl ?_
          refine z_getIV (v := (h 169 28)) (k := 28) (kz := 28) pk11 dX11_exam_69 (by decide) zb_1152 rfl (zOb.lit (by decide +kernel)) rfl ((zst_ne (Or.inl (by decide))).trans ((zst_ne (Or.inl (by decide))).trans (zst_ne (Or.inr (by decide))))) ?_
          refine z_iload_n 3 dX11_exam_72 rfl ?_
          refine z_iast dX11_exam_73 (zOb.lit (by decide +kernel)) (show 0 ≤ (h 169 28) ∧ (h 169 28) < 60 from ⟨by omega, by omega⟩).1 (show 0 ≤ (h 169 28) ∧ (h 169 28) < 60 from ⟨by omega, by omega⟩).2 ?_
          refine z_aload_n 0 dX11_exam_74 rfl ?_
          refine z_getS (v := 186) (k := 21) (kz := 21) pk11 dX11_exam_75 (by decide) zb_1145 rfl (zOb.lit (by decide +kernel)) rfl (by decide +kernel) ?_
          refine z_aload_n 0 dX11_exam_78 rfl ?_
          refine z_getIV (v := (h 169 28)) (k := 28) (kz := 28) pk11 dX11_exam_79 (by decide) zb_1152 rfl (zOb.lit (by decide +kernel)) rfl ((zst_ne (Or.inl (by decide))).trans ((zst_ne (Or.inl (by decide))).trans ((zst_ne (Or.inl (by decide))).trans (zst_ne (Or.inr (by decide)))))) ?_
          refine z_aload_n 0 dX11_exam_82 rfl ?_
          refine z_getIV (v := (h 169 5)) (k := 5) (kz := 5) pk11 dX11_exam_83 (by decide) zb_1129 rfl (zOb.lit (by decide +kernel)) rfl ((zst_ne (Or.inl (by decide))).trans ((zst_ne (Or.inl (by decide))).trans ((zst_ne (Or.inl (by decide))).trans (zst_ne (Or.inr (by decide)))))) ?_
          refine z_iast dX11_exam_86 (zOb.lit (by decide +kernel)) (show 0 ≤ (h 169 28) ∧ (h 169 28) < 60 from ⟨by omega, by omega⟩).1 (show 0 ≤ (h 169 28) ∧ (h 169 28) < 60 from ⟨by omega, by omega⟩).2 ?_
          refine z_aload_n 0 dX11_exam_87 rfl ?_
          refine z_dup dX11_exam_88 zt2 ?_
          refine z_getIV (v := (h 169 28)) (k := 28) (kz := 28) pk11 dX11_exam_89 (by decide) zb_1152 rfl (zOb.lit (by decide +kernel)) rfl ((zst_ne (Or.inl (by decide))).trans ((zst_ne (Or.inl (by decide))).trans ((zst_ne (Or.inl (by decide))).trans ((zst_ne (Or.inl (by decide))).trans (zst_ne (Or.inr (by decide))))))) ?_
          refine z_iconst dX11_exam_92 (zi32_d rfl) ?_
          refine z_iaddN dX11_exam_93 (show -2147483648 ≤ (h 169 28) + 1 ∧ (h 169 28) + 1 < 2147483648 from ⟨by omega, by omega⟩).1 (show -2147483648 ≤ (h 169 28) + 1 ∧ (h 169 28) + 1 < 2147483648 from ⟨by omega, by omega⟩).2 ?_
          refine z_putI (k := 28) (kz := 28) pk11 dX11_exam_94 (by decide) zb_1152 rfl (zFit_int _) (zOb.lit (by decide +kernel)) rfl ?_
          refine z_iconst dX11_exam_97 (zi32_d rfl) ?_
          exact z_zret dX11_exam_98 rfl (Or.inr rfl) (k4 c1 c2 c3 c4)
        ·
          refine z_iconst dX11_exam_42 (zi32_d rfl) ?_
          exact z_zret dX11_exam_43 rfl (Or.inl rfl) (k5 c1 c2 c3 c4)
theorem f_X11_exam {X : zX} {dep : Nat} (m : Int) (d : Int) (g : Int) {h : zH} (hm : 0 ≤ h 169 25 ∧ h 169 25 ≤ 60) (hc : 0 ≤ h 169 28 ∧ h 169 28 ≤ 60) (hdep : 2 ≤ dep) : zW mX11_exam X dep 0 0 239 0 (zar 0 [xR 169, xI m, xI d, xI g]) [] h (zF (if ((0 ≤ m ∧ m < h 169 25) ∧ (0 ≤ d ∧ d ≤ 7) ∧ 0 ≤ g ∧ g ≤ 9) ∧ h 169 28 ≠ 60 then zst (zst (zst (zst (zst (zst h 169 0 0) 183 (h 169 28) m) 184 (h 169 28) d) 185 (h 169 28) g) 186 (h 169 28) (h 169 5)) 169 28 (h 169 28 + 1) else zst h 169 0 0) [xI (zb (((0 ≤ m ∧ m < h 169 25) ∧ (0 ≤ d ∧ d ≤ 7) ∧ 0 ≤ g ∧ g ≤ 9) ∧ h 169 28 ≠ 60))]) := by
  refine bX11_exam_0 m d g hm hc hdep ?_ ?_ ?_ ?_ ?_
  all_goals intros
  all_goals refine ⟨rfl, ?_, ?_⟩
  all_goals first
    | (rw [if_pos (by omega)])
    | (rw [if_neg (by omega)])
    | (first | rfl | (refine congrArg (fun x => [xI x]) ?_; unfold zb; (repeat' split) <;> first | rfl | omega))

set_option maxRecDepth 20000 in
theorem bX11_same_0 {X : zX} {dep bc bs : Nat} (a : Int) (b : Int) {h : zH} {Q : Nat → zH → List zV → Prop} (hm : 0 ≤ h 169 25 ∧ h 169 25 ≤ 60) (hc : 0 ≤ h 169 29 ∧ h 169 29 ≤ 40) (hdep : 2 ≤ dep)
    (k1 : ¬ (0 ≤ a ∧ a < (h 169 25)) → Q 239 (zst h 169 0 0) [xI 0])
    (k2 : 0 ≤ a ∧ a < (h 169 25) → ¬ (0 ≤ b ∧ b < (h 169 25)) → Q 239 (zst h 169 0 0) [xI 0])
    (k3 : 0 ≤ a ∧ a < (h 169 25) → 0 ≤ b ∧ b < (h 169 25) → a = b → Q 239 (zst h 169 0 0) [xI 0])
    (k4 : 0 ≤ a ∧ a < (h 169 25) → 0 ≤ b ∧ b < (h 169 25) → ¬ (a = b) → ¬ (h 169 29) = 40 → Q 239 (zst (zst (zst (zst (zst h 169 0 0) 187 (h 169 29) a) 188 (h 169 29) b) 189 (h 169 29) (h 169 5)) 169 29 ((h 169 29) + 1)) [xI 1])
    (k5 : 0 ≤ a ∧ a < (h 169 25) → 0 ≤ b ∧ b < (h 169 25) → ¬ (a = b) → (h 169 29) = 40 → Q 239 (zst h 169 0 0) [xI 0]) : zW mX11_same X dep bc bs 239 0 [(0, xR 169), (1, xI a), (2, xI b)] [] h Q := by
  refine z_aload_n 0 dX11_same_0 rfl ?_
  refine z_iconst dX11_same_1 (zi32_d rfl) ?_
  refine z_putI (k := 0) (kz := 0) pk11 dX11_same_2 (by decide) zb_1124 rfl (zFit_int _) (zOb.lit (by decide +kernel)) rfl ?_
  refine z_aload_n 0 dX11_same_5 rfl ?_
  refine z_iload_n 1 dX11_same_6 rfl ?_
  refine z_invF (ci := 11) (N := 97) (as := [xI a]) (st := []) (ra := [xI a]) (dep' := dep - 1) (rs := [xI (zb (0 ≤ a ∧ a < (h 169 25)))]) (h' := (zst h 169 0 0)) (by have e1 : (zst h 169 0 0) 169 25 = (h 169 25) := (zst_ne (Or.inr (by decide))); have z9 := f_X11_isMan (X := X) (dep := dep - 1) a (h := (zst h 169 0 0)) (by have y1 : (zst h 169 0 0) 169 25 = (h 169 25) := (zst_ne (Or.inr (by decide))); simp only [y1]; omega) (by omega); rw [e1] at z9; exact z9) dX11_same_7 nX11_isMan zb_1455 zb_1457 zb_37 zb_92 (zOb.lit (by decide +kernel)) rfl (by omega) zne_I (Nat.le_of_ble_eq_true rfl) (Nat.le_of_ble_eq_true rfl) rfl ?_
  refine z_ifB_eq (C := 0 ≤ a ∧ a < (h 169 25)) (tgt := 35) dX11_same_10 (by decide) (fun c1 => ?_) (fun c1 => ?_)
  ·
    refine z_iconst dX11_same_35 (zi32_d rfl) ?_
    exact z_zret dX11_same_36 rfl (Or.inl rfl) (k1 c1)
  ·
    refine z_aload_n 0 dX11_same_13 rfl ?_
    refine z_iload_n 2 dX11_same_14 rfl ?_
    refine z_invF (ci := 11) (N := 97) (as := [xI b]) (st := []) (ra := [xI b]) (dep' := dep - 1) (rs := [xI (zb (0 ≤ b ∧ b < (h 169 25)))]) (h' := (zst h 169 0 0)) (by have e1 : (zst h 169 0 0) 169 25 = (h 169 25) := (zst_ne (Or.inr (by decide))); have z9 := f_X11_isMan (X := X) (dep := dep - 1) b (h := (zst h 169 0 0)) (by have y1 : (zst h 169 0 0) 169 25 = (h 169 25) := (zst_ne (Or.inr (by decide))); simp only [y1]; omega) (by omega); rw [e1] at z9; exact z9) dX11_same_15 nX11_isMan zb_1455 zb_1457 zb_37 zb_92 (zOb.lit (by decide +kernel)) rfl (by omega) zne_I (Nat.le_of_ble_eq_true rfl) (Nat.le_of_ble_eq_true rfl) rfl ?_
    refine z_ifB_eq (C := 0 ≤ b ∧ b < (h 169 25)) (tgt := 35) dX11_same_18 (by decide) (fun c2 => ?_) (fun c2 => ?_)
    ·
      refine z_iconst dX11_same_35 (zi32_d rfl) ?_
      exact z_zret dX11_same_36 rfl (Or.inl rfl) (k2 c1 c2)
    ·
      refine z_iload_n 1 dX11_same_21 rfl ?_
      refine z_iload_n 2 dX11_same_22 rfl ?_
      refine z_icmp_eq (tgt := 35) dX11_same_23 (by decide) (fun c3 => ?_) (fun c3 => ?_)
      ·
        refine z_iconst dX11_same_35 (zi32_d rfl) ?_
        exact z_zret dX11_same_36 rfl (Or.inl rfl) (k3 c1 c2 c3)
      ·
        refine z_aload_n 0 dX11_same_26 rfl ?_
        refine z_getIV (v := (h 169 29)) (k := 29) (kz := 29) pk11 dX11_same_27 (by decide) zb_1153 rfl (zOb.lit (by decide +kernel)) rfl (zst_ne (Or.inr (by decide))) ?_
        refine z_bipush dX11_same_30 (zi32_d rfl) (by decide) ?_
        refine z_icmp_ne (tgt := 37) dX11_same_32 (by decide) (fun c4 => ?_) (fun c4 => ?_)
        ·
          refine z_aload_n 0 dX11_same_37 rfl ?_
          refine z_getS (v := 187) (k := 22) (kz := 22) pk11 dX11_same_38 (by decide) zb_1146 rfl (zOb.lit (by decide +kernel)) rfl (by decide +kernel) ?_
          refine z_aload_n 0 dX11_same_41 rfl ?_
          refine z_getIV (v := (h 169 29)) (k := 29) (kz := 29) pk11 dX11_same_42 (by decide) zb_1153 rfl (zOb.lit (by decide +kernel)) rfl (zst_ne (Or.inr (by decide))) ?_
          refine z_iload_n 1 dX11_same_45 rfl ?_
          refine z_iast dX11_same_46 (zOb.lit (by decide +kernel)) (show 0 ≤ (h 169 29) ∧ (h 169 29) < 40 from ⟨by omega, by omega⟩).1 (show 0 ≤ (h 169 29) ∧ (h 169 29) < 40 from ⟨by omega, by omega⟩).2 ?_
          refine z_aload_n 0 dX11_same_47 rfl ?_
          refine z_getS (v := 188) (k := 23) (kz := 23) pk11 dX11_same_48 (by decide) zb_1147 rfl (zOb.lit (by decide +kernel)) rfl (by decide +kernel) ?_
          refine z_aload_n 0 dX11_same_51 rfl ?_
          refine z_getIV (v := (h 169 29)) (k := 29) (kz := 29) pk11 dX11_same_52 (by decide) zb_1153 rfl (zOb.lit (by decide +kernel)) rfl ((zst_ne (Or.inl (by decide))).trans (zst_ne (Or.inr (by decide)))) ?_
          refine z_iload_n 2 dX11_same_55 rfl ?_
          refine z_iast dX11_same_56 (zOb.lit (by decide +kernel)) (show 0 ≤ (h 169 29) ∧ (h 169 29) < 40 from ⟨by omega, by omega⟩).1 (show 0 ≤ (h 169 29) ∧ (h 169 29) < 40 from ⟨by omega, by omega⟩).2 ?_
          refine z_aload_n 0 dX11_same_57 rfl ?_
          refine z_getS (v := 189) (k := 24) (kz := 24) pk11 dX11_same_58 (by decide) zb_1148 rfl (zOb.lit (by decide +kernel)) rfl (by decide +kernel) ?_
          refine z_aload_n 0 dX11_same_61 rfl ?_
          refine z_getIV (v := (h 169 29)) (k := 29) (kz := 29) pk11 dX11_same_62 (by decide) zb_1153 rfl (zOb.lit (by decide +kernel)) rfl ((zst_ne (Or.inl (by decide))).trans ((zst_ne (Or.inl (by decide))).trans (zst_ne (Or.inr (by decide))))) ?_
          refine z_aload_n 0 dX11_same_65 rfl ?_
          refine z_getIV (v := (h 169 5)) (k := 5) (kz := 5) pk11 dX11_same_66 (by decide) zb_1129 rfl (zOb.lit (by decide +kernel)) rfl ((zst_ne (Or.inl (by decide))).trans ((zst_ne (Or.inl (by decide))).trans (zst_ne (Or.inr (by decide))))) ?_
          refine z_iast dX11_same_69 (zOb.lit (by decide +kernel)) (show 0 ≤ (h 169 29) ∧ (h 169 29) < 40 from ⟨by omega, by omega⟩).1 (show 0 ≤ (h 169 29) ∧ (h 169 29) < 40 from ⟨by omega, by omega⟩).2 ?_
          refine z_aload_n 0 dX11_same_70 rfl ?_
          refine z_dup dX11_same_71 zt2 ?_
          refine z_getIV (v := (h 169 29)) (k := 29) (kz := 29) pk11 dX11_same_72 (by decide) zb_1153 rfl (zOb.lit (by decide +kernel)) rfl ((zst_ne (Or.inl (by decide))).trans ((zst_ne (Or.inl (by decide))).trans ((zst_ne (Or.inl (by decide))).trans (zst_ne (Or.inr (by decide)))))) ?_
          refine z_iconst dX11_same_75 (zi32_d rfl) ?_
          refine z_iaddN dX11_same_76 (show -2147483648 ≤ (h 169 29) + 1 ∧ (h 169 29) + 1 < 2147483648 from ⟨by omega, by omega⟩).1 (show -2147483648 ≤ (h 169 29) + 1 ∧ (h 169 29) + 1 < 2147483648 from ⟨by omega, by omega⟩).2 ?_
          refine z_putI (k := 29) (kz := 29) pk11 dX11_same_77 (by decide) zb_1153 rfl (zFit_int _) (zOb.lit (by decide +kernel)) rfl ?_
          refine z_iconst dX11_same_80 (zi32_d rfl) ?_
          exact z_zret dX11_same_81 rfl (Or.inr rfl) (k4 c1 c2 c3 c4)
        ·
          refine z_iconst dX11_same_35 (zi32_d rfl) ?_
          exact z_zret dX11_same_36 rfl (Or.inl rfl) (k5 c1 c2 c3 c4)
theorem f_X11_same {X : zX} {dep : Nat} (a : Int) (b : Int) {h : zH} (hm : 0 ≤ h 169 25 ∧ h 169 25 ≤ 60) (hc : 0 ≤ h 169 29 ∧ h 169 29 ≤ 40) (hdep : 2 ≤ dep) : zW mX11_same X dep 0 0 239 0 (zar 0 [xR 169, xI a, xI b]) [] h (zF (if ((0 ≤ a ∧ a < h 169 25) ∧ (0 ≤ b ∧ b < h 169 25) ∧ a ≠ b) ∧ h 169 29 ≠ 40 then zst (zst (zst (zst (zst h 169 0 0) 187 (h 169 29) a) 188 (h 169 29) b) 189 (h 169 29) (h 169 5)) 169 29 (h 169 29 + 1) else zst h 169 0 0) [xI (zb (((0 ≤ a ∧ a < h 169 25) ∧ (0 ≤ b ∧ b < h 169 25) ∧ a ≠ b) ∧ h 169 29 ≠ 40))]) := by
  refine bX11_same_0 a b hm hc hdep ?_ ?_ ?_ ?_ ?_
  all_goals intros
  all_goals refine ⟨rfl, ?_, ?_⟩
  all_goals first
    | (rw [if_pos (by omega)])
    | (rw [if_neg (by omega)])
    | (first | rfl | (refine congrArg (fun x => [xI x]) ?_; unfold zb; (repeat' split) <;> first | rfl | omega))

set_option maxRecDepth 20000 in
theorem bX11_peek_0 {X : zX} {dep bc bs : Nat} {h : zH} {Q : Nat → zH → List zV → Prop} (hp : 0 ≤ h 169 4 ∧ h 169 3 ≤ 340)
    (k1 : (h 169 3) ≤ (h 169 4) → Q 239 h [xI (-1)])
    (k2 : ¬ ((h 169 3) ≤ (h 169 4)) → Q 239 h [xI (zand (h 170 (h 169 4)) 255)]) : zW mX11_peek X dep bc bs 239 0 [(0, xR 169)] [] h Q := by
  refine z_aload_n 0 dX11_peek_0 rfl ?_
  refine z_getI (k := 4) (kz := 4) pk11 dX11_peek_1 (by decide) zb_1128 rfl (zOb.lit (by decide +kernel)) rfl ?_
  refine z_aload_n 0 dX11_peek_4 rfl ?_
  refine z_getI (k := 3) (kz := 3) pk11 dX11_peek_5 (by decide) zb_1127 rfl (zOb.lit (by decide +kernel)) rfl ?_
  refine z_icmp_ge (tgt := 27) dX11_peek_8 (by decide) (fun c1 => ?_) (fun c1 => ?_)
  ·
    refine z_iconst dX11_peek_27 (zi32_d rfl) ?_
    exact z_iret dX11_peek_28 rfl (k1 c1)
  ·
    refine z_aload_n 0 dX11_peek_11 rfl ?_
    refine z_getS (v := 170) (k := 1) (kz := 1) pk11 dX11_peek_12 (by decide) zb_1125 rfl (zOb.lit (by decide +kernel)) rfl (by decide +kernel) ?_
    refine z_aload_n 0 dX11_peek_15 rfl ?_
    refine z_getI (k := 4) (kz := 4) pk11 dX11_peek_16 (by decide) zb_1128 rfl (zOb.lit (by decide +kernel)) rfl ?_
    refine z_bald dX11_peek_19 (zOb.lit (by decide +kernel)) (show 0 ≤ (h 169 4) ∧ (h 169 4) < 340 from ⟨by omega, by omega⟩).1 (show 0 ≤ (h 169 4) ∧ (h 169 4) < 340 from ⟨by omega, by omega⟩).2 ?_
    refine z_sipush dX11_peek_20 (zi32_d rfl) (by decide) ?_
    refine z_iand dX11_peek_23 ?_
    refine z_goto (tgt := 28) dX11_peek_24 (by decide) ?_
    exact z_iret dX11_peek_28 rfl (k2 c1)
theorem f_X11_peek {X : zX} {dep : Nat} {h : zH} (hp : 0 ≤ h 169 4 ∧ h 169 3 ≤ 340) : zW mX11_peek X dep 0 0 239 0 (zar 0 [xR 169]) [] h (zF h [xI (if h 169 4 < h 169 3 then zand (h 170 (h 169 4)) 255 else -1)]) := by
  refine bX11_peek_0  hp ?_ ?_
  all_goals intros
  all_goals refine ⟨rfl, rfl, ?_⟩
  all_goals first | (rw [if_pos (by omega)]) | (rw [if_neg (by omega)])

set_option maxRecDepth 20000 in
theorem bX11_bad_0 {X : zX} {dep bc bs : Nat} (k : Int) {h : zH} {Q : Nat → zH → List zV → Prop}
    (k1 : Q 239 (zst (zst h 169 53 k) 169 54 (h 169 50)) [xI 0]) : zW mX11_bad X dep bc bs 239 0 [(0, xR 169), (1, xI k)] [] h Q := by
  refine z_aload_n 0 dX11_bad_0 rfl ?_
  refine z_iload_n 1 dX11_bad_1 rfl ?_
  refine z_putI (k := 53) (kz := 53) pk11 dX11_bad_2 (by decide) zb_1177 rfl (zFit_int _) (zOb.lit (by decide +kernel)) rfl ?_
  refine z_aload_n 0 dX11_bad_5 rfl ?_
  refine z_aload_n 0 dX11_bad_6 rfl ?_
  refine z_getIV (v := (h 169 50)) (k := 50) (kz := 50) pk11 dX11_bad_7 (by decide) zb_1174 rfl (zOb.lit (by decide +kernel)) rfl (zst_ne (Or.inr (by decide))) ?_
  refine z_putI (k := 54) (kz := 54) pk11 dX11_bad_10 (by decide) zb_1178 rfl (zFit_int _) (zOb.lit (by decide +kernel)) rfl ?_
  refine z_iconst dX11_bad_13 (zi32_d rfl) ?_
  exact z_zret dX11_bad_14 rfl (Or.inl rfl) (k1)
theorem f_X11_bad {X : zX} {dep : Nat} (k : Int) {h : zH} : zW mX11_bad X dep 0 0 239 0 (zar 0 [xR 169, xI k]) [] h (zF (zst (zst h 169 53 k) 169 54 (h 169 50)) [xI 0]) := by
  refine bX11_bad_0 k ?_
  all_goals intros
  all_goals exact ⟨rfl, rfl, rfl⟩

set_option maxRecDepth 20000 in
theorem bX11_isWord_0 {X : zX} {dep bc bs : Nat} (w : Int) {h : zH} {Q : Nat → zH → List zV → Prop}
    (k1 : ¬ (h 169 49) = 1 → Q 239 h [xI 0])
    (k2 : (h 169 49) = 1 → Q 239 h [xI (if (zcmp (h 169 56) w) = 0 then 1 else 0 : Int)]) : zW mX11_isWord X dep bc bs 239 0 [(0, xR 169), (1, xL w)] [] h Q := by
  refine z_aload_n 0 dX11_isWord_0 rfl ?_
  refine z_getI (k := 49) (kz := 49) pk11 dX11_isWord_1 (by decide) zb_1173 rfl (zOb.lit (by decide +kernel)) rfl ?_
  refine z_iconst dX11_isWord_4 (zi32_d rfl) ?_
  refine z_icmp_ne (tgt := 21) dX11_isWord_5 (by decide) (fun c1 => ?_) (fun c1 => ?_)
  ·
    refine z_iconst dX11_isWord_21 (zi32_d rfl) ?_
    exact z_zret dX11_isWord_22 rfl (Or.inl rfl) (k1 c1)
  ·
    refine z_aload_n 0 dX11_isWord_8 rfl ?_
    refine z_getL (k := 56) (kz := 56) pk11 dX11_isWord_9 (by decide) zb_1180 rfl (zOb.lit (by decide +kernel)) rfl ?_
    refine z_lload_n 1 dX11_isWord_12 rfl ?_
    refine z_lcmp dX11_isWord_13 ?_
    suffices KJ : zW mX11_isWord X dep bc bs 239 22 [(0, xR 169), (1, xL w)] [xI (if (zcmp (h 169 56) w) = 0 then 1 else 0 : Int)] h Q by
      refine z_if_ne (tgt := 21) dX11_isWord_14 (by decide) (fun j1 => ?_) (fun j1 => ?_)
      ·
        refine z_iconst dX11_isWord_21 (zi32_d rfl) ?_
        rw [if_neg j1] at KJ
        exact KJ
      ·
        refine z_iconst dX11_isWord_17 (zi32_d rfl) ?_
        refine z_goto (tgt := 22) dX11_isWord_18 (by decide) ?_
        rw [if_pos j1] at KJ
        exact KJ
    exact z_zret dX11_isWord_22 rfl (by repeat (first | (left; rfl) | (right; rfl) | split)) (k2 c1)
theorem f_X11_isWord {X : zX} {dep : Nat} (w : Int) {h : zH} : zW mX11_isWord X dep 0 0 239 0 (zar 0 [xR 169, xL w]) [] h (zF h [xI (zb (h 169 49 = 1 ∧ h 169 56 = w))]) := by
  refine bX11_isWord_0 w ?_ ?_
  all_goals intros
  · exact ⟨rfl, rfl, by rw [zb_f (by omega)]⟩
  · rename_i c
    refine ⟨rfl, rfl, congrArg (fun x => [xI x]) ?_⟩
    have e9 : zcmp (h 169 56) w = 0 ↔ h 169 56 = w := by
      unfold zcmp
      (repeat' split) <;> omega
    unfold zb
    (repeat' split) <;> first | rfl | omega

set_option maxRecDepth 20000 in
theorem bX11_isSign_0 {X : zX} {dep bc bs : Nat} (c : Int) {h : zH} {Q : Nat → zH → List zV → Prop}
    (k1 : Q 239 h [xI (if (h 169 49) = 3 then if (h 169 52) = c then 1 else 0 else 0 : Int)]) : zW mX11_isSign X dep bc bs 239 0 [(0, xR 169), (1, xI c)] [] h Q := by
  refine z_aload_n 0 dX11_isSign_0 rfl ?_
  refine z_getI (k := 49) (kz := 49) pk11 dX11_isSign_1 (by decide) zb_1173 rfl (zOb.lit (by decide +kernel)) rfl ?_
  refine z_iconst dX11_isSign_4 (zi32_d rfl) ?_
  suffices KJ : zW mX11_isSign X dep bc bs 239 21 [(0, xR 169), (1, xI c)] [xI (if (h 169 49) = 3 then if (h 169 52) = c then 1 else 0 else 0 : Int)] h Q by
    refine z_icmp_ne (tgt := 20) dX11_isSign_5 (by decide) (fun j1 => ?_) (fun j1 => ?_)
    ·
      refine z_iconst dX11_isSign_20 (zi32_d rfl) ?_
      rw [if_neg j1] at KJ
      exact KJ
    ·
      refine z_aload_n 0 dX11_isSign_8 rfl ?_
      refine z_getI (k := 52) (kz := 52) pk11 dX11_isSign_9 (by decide) zb_1176 rfl (zOb.lit (by decide +kernel)) rfl ?_
      refine z_iload_n 1 dX11_isSign_12 rfl ?_
      refine z_icmp_ne (tgt := 20) dX11_isSign_13 (by decide) (fun j2 => ?_) (fun j2 => ?_)
      ·
        refine z_iconst dX11_isSign_20 (zi32_d rfl) ?_
        rw [if_pos j1] at KJ
        rw [if_neg j2] at KJ
        exact KJ
      ·
        refine z_iconst dX11_isSign_16 (zi32_d rfl) ?_
        refine z_goto (tgt := 21) dX11_isSign_17 (by decide) ?_
        rw [if_pos j1] at KJ
        rw [if_pos j2] at KJ
        exact KJ
  exact z_zret dX11_isSign_21 rfl (by repeat (first | (left; rfl) | (right; rfl) | split)) (k1)
theorem f_X11_isSign {X : zX} {dep : Nat} (c : Int) {h : zH} : zW mX11_isSign X dep 0 0 239 0 (zar 0 [xR 169, xI c]) [] h (zF h [xI (zb (h 169 49 = 3 ∧ h 169 52 = c))]) := by
  refine bX11_isSign_0 c ?_
  all_goals intros
  all_goals refine ⟨rfl, rfl, ?_⟩
  all_goals (first | rfl | (refine congrArg (fun x => [xI x]) ?_; unfold zb; (repeat' split) <;> first | rfl | omega))

set_option maxRecDepth 20000 in
theorem bX11_write_0 {X : zX} {dep bc bs : Nat} (w : Int) (s : Int) (n : Int) {h : zH} {Q : Nat → zH → List zV → Prop} (hb : 0 ≤ h 169 46 ∧ h 169 46 < 130)
    (k1 : Q 239 (zst (zst (zst (zst h 201 (1040 + (h 169 46)) w) 202 (1040 + (h 169 46)) s) 203 (1040 + (h 169 46)) n) 169 46 ((h 169 46) + 1)) []) : zW mX11_write X dep bc bs 239 0 [(0, xR 169), (1, xI w), (2, xI s), (3, xI n)] [] h Q := by
  refine z_aload_n 0 dX11_write_0 rfl ?_
  refine z_getS (v := 201) (k := 41) (kz := 41) pk11 dX11_write_1 (by decide) zb_1165 rfl (zOb.lit (by decide +kernel)) rfl (by decide +kernel) ?_
  refine z_sipush dX11_write_4 (zi32_d rfl) (by decide) ?_
  refine z_aload_n 0 dX11_write_7 rfl ?_
  refine z_getI (k := 46) (kz := 46) pk11 dX11_write_8 (by decide) zb_1170 rfl (zOb.lit (by decide +kernel)) rfl ?_
  refine z_iaddN dX11_write_11 (show -2147483648 ≤ 1040 + (h 169 46) ∧ 1040 + (h 169 46) < 2147483648 from ⟨by omega, by omega⟩).1 (show -2147483648 ≤ 1040 + (h 169 46) ∧ 1040 + (h 169 46) < 2147483648 from ⟨by omega, by omega⟩).2 ?_
  refine z_iload_n 1 dX11_write_12 rfl ?_
  refine z_iast dX11_write_13 (zOb.lit (by decide +kernel)) (show 0 ≤ (1040 + (h 169 46)) ∧ (1040 + (h 169 46)) < 1170 from ⟨by omega, by omega⟩).1 (show 0 ≤ (1040 + (h 169 46)) ∧ (1040 + (h 169 46)) < 1170 from ⟨by omega, by omega⟩).2 ?_
  refine z_aload_n 0 dX11_write_14 rfl ?_
  refine z_getS (v := 202) (k := 42) (kz := 42) pk11 dX11_write_15 (by decide) zb_1166 rfl (zOb.lit (by decide +kernel)) rfl (by decide +kernel) ?_
  refine z_sipush dX11_write_18 (zi32_d rfl) (by decide) ?_
  refine z_aload_n 0 dX11_write_21 rfl ?_
  refine z_getIV (v := (h 169 46)) (k := 46) (kz := 46) pk11 dX11_write_22 (by decide) zb_1170 rfl (zOb.lit (by decide +kernel)) rfl (zst_ne (Or.inl (by decide))) ?_
  refine z_iaddN dX11_write_25 (show -2147483648 ≤ 1040 + (h 169 46) ∧ 1040 + (h 169 46) < 2147483648 from ⟨by omega, by omega⟩).1 (show -2147483648 ≤ 1040 + (h 169 46) ∧ 1040 + (h 169 46) < 2147483648 from ⟨by omega, by omega⟩).2 ?_
  refine z_iload_n 2 dX11_write_26 rfl ?_
  refine z_iast dX11_write_27 (zOb.lit (by decide +kernel)) (show 0 ≤ (1040 + (h 169 46)) ∧ (1040 + (h 169 46)) < 1170 from ⟨by omega, by omega⟩).1 (show 0 ≤ (1040 + (h 169 46)) ∧ (1040 + (h 169 46)) < 1170 from ⟨by omega, by omega⟩).2 ?_
  refine z_aload_n 0 dX11_write_28 rfl ?_
  refine z_getS (v := 203) (k := 43) (kz := 43) pk11 dX11_write_29 (by decide) zb_1167 rfl (zOb.lit (by decide +kernel)) rfl (by decide +kernel) ?_
  refine z_sipush dX11_write_32 (zi32_d rfl) (by decide) ?_
  refine z_aload_n 0 dX11_write_35 rfl ?_
  refine z_getIV (v := (h 169 46)) (k := 46) (kz := 46) pk11 dX11_write_36 (by decide) zb_1170 rfl (zOb.lit (by decide +kernel)) rfl ((zst_ne (Or.inl (by decide))).trans (zst_ne (Or.inl (by decide)))) ?_
  refine z_iaddN dX11_write_39 (show -2147483648 ≤ 1040 + (h 169 46) ∧ 1040 + (h 169 46) < 2147483648 from ⟨by omega, by omega⟩).1 (show -2147483648 ≤ 1040 + (h 169 46) ∧ 1040 + (h 169 46) < 2147483648 from ⟨by omega, by omega⟩).2 ?_
  refine z_iload_n 3 dX11_write_40 rfl ?_
  refine z_iast dX11_write_41 (zOb.lit (by decide +kernel)) (show 0 ≤ (1040 + (h 169 46)) ∧ (1040 + (h 169 46)) < 1170 from ⟨by omega, by omega⟩).1 (show 0 ≤ (1040 + (h 169 46)) ∧ (1040 + (h 169 46)) < 1170 from ⟨by omega, by omega⟩).2 ?_
  refine z_aload_n 0 dX11_write_42 rfl ?_
  refine z_dup dX11_write_43 zt2 ?_
  refine z_getIV (v := (h 169 46)) (k := 46) (kz := 46) pk11 dX11_write_44 (by decide) zb_1170 rfl (zOb.lit (by decide +kernel)) rfl ((zst_ne (Or.inl (by decide))).trans ((zst_ne (Or.inl (by decide))).trans (zst_ne (Or.inl (by decide))))) ?_
  refine z_iconst dX11_write_47 (zi32_d rfl) ?_
  refine z_iaddN dX11_write_48 (show -2147483648 ≤ (h 169 46) + 1 ∧ (h 169 46) + 1 < 2147483648 from ⟨by omega, by omega⟩).1 (show -2147483648 ≤ (h 169 46) + 1 ∧ (h 169 46) + 1 < 2147483648 from ⟨by omega, by omega⟩).2 ?_
  refine z_putI (k := 46) (kz := 46) pk11 dX11_write_49 (by decide) zb_1170 rfl (zFit_int _) (zOb.lit (by decide +kernel)) rfl ?_
  exact z_ret dX11_write_52 rfl (k1)
theorem f_X11_write {X : zX} {dep : Nat} (w : Int) (s : Int) (n : Int) {h : zH} (hb : 0 ≤ h 169 46 ∧ h 169 46 < 130) : zW mX11_write X dep 0 0 239 0 (zar 0 [xR 169, xI w, xI s, xI n]) [] h (zF (zst (zst (zst (zst h 201 (1040 + h 169 46) w) 202 (1040 + h 169 46) s) 203 (1040 + h 169 46) n) 169 46 (h 169 46 + 1)) []) := by
  refine bX11_write_0 w s n hb ?_
  all_goals intros
  all_goals exact ⟨rfl, rfl, rfl⟩

set_option maxRecDepth 20000 in
theorem bX11_binds_0 {X : zX} {dep bc bs : Nat} (w : Int) {h : zH} {Q : Nat → zH → List zV → Prop}
    (k1 : Q 239 h [xI (if w = 20 then 3 else if w = 21 then 2 else 1 : Int)]) : zW mX11_binds X dep bc bs 239 0 [(0, xI w)] [] h Q := by
  refine z_iload_n 0 dX11_binds_0 rfl ?_
  refine z_bipush dX11_binds_1 (zi32_d rfl) (by decide) ?_
  suffices KJ : zW mX11_binds X dep bc bs 239 21 [(0, xI w)] [xI (if w = 20 then 3 else if w = 21 then 2 else 1 : Int)] h Q by
    refine z_icmp_ne (tgt := 10) dX11_binds_3 (by decide) (fun j1 => ?_) (fun j1 => ?_)
    ·
      refine z_iload_n 0 dX11_binds_10 rfl ?_
      refine z_bipush dX11_binds_11 (zi32_d rfl) (by decide) ?_
      refine z_icmp_ne (tgt := 20) dX11_binds_13 (by decide) (fun j2 => ?_) (fun j2 => ?_)
      ·
        refine z_iconst dX11_binds_20 (zi32_d rfl) ?_
        rw [if_neg j1] at KJ
        rw [if_neg j2] at KJ
        exact KJ
      ·
        refine z_iconst dX11_binds_16 (zi32_d rfl) ?_
        refine z_goto (tgt := 21) dX11_binds_17 (by decide) ?_
        rw [if_neg j1] at KJ
        rw [if_pos j2] at KJ
        exact KJ
    ·
      refine z_iconst dX11_binds_6 (zi32_d rfl) ?_
      refine z_goto (tgt := 21) dX11_binds_7 (by decide) ?_
      rw [if_pos j1] at KJ
      exact KJ
  exact z_iret dX11_binds_21 rfl (k1)
theorem f_X11_binds {X : zX} {dep : Nat} (w : Int) {h : zH} : zW mX11_binds X dep 0 0 239 0 (zar 0 [xI w]) [] h (zF h [xI (if w = 20 then 3 else if w = 21 then 2 else 1)]) := by
  refine bX11_binds_0 w ?_
  all_goals intros
  all_goals refine ⟨rfl, rfl, ?_⟩
  all_goals refine congrArg (fun x => [xI x]) ?_
  all_goals (repeat' split) <;> first | rfl | omega

set_option maxRecDepth 20000 in
theorem bX11_fault_0 {X : zX} {dep bc bs : Nat} {h : zH} {Q : Nat → zH → List zV → Prop}
    (k1 : Q 239 (zst h 169 0 0) [xI (h 169 53)]) : zW mX11_fault X dep bc bs 239 0 [(0, xR 169)] [] h Q := by
  refine z_aload_n 0 dX11_fault_0 rfl ?_
  refine z_iconst dX11_fault_1 (zi32_d rfl) ?_
  refine z_putI (k := 0) (kz := 0) pk11 dX11_fault_2 (by decide) zb_1124 rfl (zFit_int _) (zOb.lit (by decide +kernel)) rfl ?_
  refine z_aload_n 0 dX11_fault_5 rfl ?_
  refine z_getIV (v := (h 169 53)) (k := 53) (kz := 53) pk11 dX11_fault_6 (by decide) zb_1177 rfl (zOb.lit (by decide +kernel)) rfl (zst_ne (Or.inr (by decide))) ?_
  exact z_iret dX11_fault_9 rfl (k1)
theorem f_X11_fault {X : zX} {dep : Nat} {h : zH} : zW mX11_fault X dep 0 0 239 0 (zar 0 [xR 169]) [] h (zF (zst h 169 0 0) [xI (h 169 53)]) := by
  refine bX11_fault_0  ?_
  all_goals intros
  all_goals exact ⟨rfl, rfl, rfl⟩

set_option maxRecDepth 20000 in
theorem bX11_why_0 {X : zX} {dep bc bs : Nat} {h : zH} {Q : Nat → zH → List zV → Prop}
    (k1 : Q 239 (zst h 169 0 0) [xI (h 169 87)]) : zW mX11_why X dep bc bs 239 0 [(0, xR 169)] [] h Q := by
  refine z_aload_n 0 dX11_why_0 rfl ?_
  refine z_iconst dX11_why_1 (zi32_d rfl) ?_
  refine z_putI (k := 0) (kz := 0) pk11 dX11_why_2 (by decide) zb_1124 rfl (zFit_int _) (zOb.lit (by decide +kernel)) rfl ?_
  refine z_aload_n 0 dX11_why_5 rfl ?_
  refine z_getIV (v := (h 169 87)) (k := 87) (kz := 87) pk11 dX11_why_6 (by decide) zb_1211 rfl (zOb.lit (by decide +kernel)) rfl (zst_ne (Or.inr (by decide))) ?_
  exact z_iret dX11_why_9 rfl (k1)
theorem f_X11_why {X : zX} {dep : Nat} {h : zH} : zW mX11_why X dep 0 0 239 0 (zar 0 [xR 169]) [] h (zF (zst h 169 0 0) [xI (h 169 87)]) := by
  refine bX11_why_0  ?_
  all_goals intros
  all_goals exact ⟨rfl, rfl, rfl⟩

set_option maxRecDepth 20000 in
theorem bX11_mendedAt_0 {X : zX} {dep bc bs : Nat} (k : Int) {h : zH} {Q : Nat → zH → List zV → Prop} (hc : 0 ≤ h 169 89 ∧ h 169 89 ≤ 60)
    (k1 : k < 0 → Q 239 (zst h 169 0 0) [xI (-1)])
    (k2 : ¬ (k < 0) → k < (h 169 89) → Q 239 (zst h 169 0 0) [xI (h 228 k)])
    (k3 : ¬ (k < 0) → ¬ (k < (h 169 89)) → Q 239 (zst h 169 0 0) [xI (-1)]) : zW mX11_mendedAt X dep bc bs 239 0 [(0, xR 169), (1, xI k)] [] h Q := by
  refine z_aload_n 0 dX11_mendedAt_0 rfl ?_
  refine z_iconst dX11_mendedAt_1 (zi32_d rfl) ?_
  refine z_putI (k := 0) (kz := 0) pk11 dX11_mendedAt_2 (by decide) zb_1124 rfl (zFit_int _) (zOb.lit (by decide +kernel)) rfl ?_
  refine z_iload_n 1 dX11_mendedAt_5 rfl ?_
  refine z_if_lt (tgt := 17) dX11_mendedAt_6 (by decide) (fun c1 => ?_) (fun c1 => ?_)
  ·
    refine z_iconst dX11_mendedAt_17 (zi32_d rfl) ?_
    refine z_goto (tgt := 27) dX11_mendedAt_18 (by decide) ?_
    exact z_iret dX11_mendedAt_27 rfl (k1 c1)
  ·
    refine z_iload_n 1 dX11_mendedAt_9 rfl ?_
    refine z_aload_n 0 dX11_mendedAt_10 rfl ?_
    refine z_getIV (v := (h 169 89)) (k := 89) (kz := 89) pk11 dX11_mendedAt_11 (by decide) zb_1213 rfl (zOb.lit (by decide +kernel)) rfl (zst_ne (Or.inr (by decide))) ?_
    refine z_icmp_lt (tgt := 21) dX11_mendedAt_14 (by decide) (fun c2 => ?_) (fun c2 => ?_)
    ·
      refine z_aload_n 0 dX11_mendedAt_21 rfl ?_
      refine z_getS (v := 228) (k := 81) (kz := 81) pk11 dX11_mendedAt_22 (by decide) zb_1205 rfl (zOb.lit (by decide +kernel)) rfl (by decide +kernel) ?_
      refine z_iload_n 1 dX11_mendedAt_25 rfl ?_
      refine z_ialdV (v := (h 228 k)) dX11_mendedAt_26 (zOb.lit (by decide +kernel)) (show 0 ≤ k ∧ k < 60 from ⟨by omega, by omega⟩).1 (show 0 ≤ k ∧ k < 60 from ⟨by omega, by omega⟩).2 (zst_ne (Or.inl (by decide))) ?_
      exact z_iret dX11_mendedAt_27 rfl (k2 c1 c2)
    ·
      refine z_iconst dX11_mendedAt_17 (zi32_d rfl) ?_
      refine z_goto (tgt := 27) dX11_mendedAt_18 (by decide) ?_
      exact z_iret dX11_mendedAt_27 rfl (k3 c1 c2)
theorem f_X11_mendedAt {X : zX} {dep : Nat} (k : Int) {h : zH} (hc : 0 ≤ h 169 89 ∧ h 169 89 ≤ 60) : zW mX11_mendedAt X dep 0 0 239 0 (zar 0 [xR 169, xI k]) [] h (zF (zst h 169 0 0) [xI (if 0 ≤ k ∧ k < h 169 89 then h 228 k else -1)]) := by
  refine bX11_mendedAt_0 k hc ?_ ?_ ?_
  all_goals intros
  all_goals refine ⟨rfl, rfl, ?_⟩
  all_goals refine congrArg (fun x => [xI x]) ?_
  all_goals (repeat' split) <;> first | rfl | omega

set_option maxRecDepth 20000 in
theorem bX11_isLot_0 {X : zX} {dep bc bs : Nat} (l : Int) {h : zH} {Q : Nat → zH → List zV → Prop} (hl : 0 ≤ h 169 65 ∧ h 169 65 ≤ 4) (hdep : 1 ≤ dep)
    (k1 : Q 239 h [xI (zb (0 ≤ l ∧ l ≤ ((h 169 65) - 1)))]) : zW mX11_isLot X dep bc bs 239 0 [(0, xR 169), (1, xI l)] [] h Q := by
  refine z_iload_n 1 dX11_isLot_0 rfl ?_
  refine z_iconst dX11_isLot_1 (zi32_d rfl) ?_
  refine z_aload_n 0 dX11_isLot_2 rfl ?_
  refine z_getI (k := 65) (kz := 65) pk11 dX11_isLot_3 (by decide) zb_1189 rfl (zOb.lit (by decide +kernel)) rfl ?_
  refine z_iconst dX11_isLot_6 (zi32_d rfl) ?_
  refine z_isubN dX11_isLot_7 (show -2147483648 ≤ (h 169 65) - 1 ∧ (h 169 65) - 1 < 2147483648 from ⟨by omega, by omega⟩).1 (show -2147483648 ≤ (h 169 65) - 1 ∧ (h 169 65) - 1 < 2147483648 from ⟨by omega, by omega⟩).2 ?_
  refine z_invSF (as := [xI l, xI 0, xI ((h 169 65) - 1)]) (st := []) (ra := [xI ((h 169 65) - 1), xI 0, xI l]) (dep' := dep - 1) (rs := [xI (zb (0 ≤ l ∧ l ≤ ((h 169 65) - 1)))]) (h' := h) (f_X11_isIn l 0 ((h 169 65) - 1) (h := h) ) dX11_isLot_8 nX11_isIn zb_1437 zb_1438 zb_92 (by omega) zne_I (Nat.le_of_ble_eq_true rfl) (Nat.le_of_ble_eq_true rfl) rfl ?_
  exact z_zret dX11_isLot_11 rfl (zb01 _) (k1)
theorem f_X11_isLot {X : zX} {dep : Nat} (l : Int) {h : zH} (hl : 0 ≤ h 169 65 ∧ h 169 65 ≤ 4) (hdep : 1 ≤ dep) : zW mX11_isLot X dep 0 0 239 0 (zar 0 [xR 169, xI l]) [] h (zF h [xI (zb (0 ≤ l ∧ l < h 169 65))]) := by
  refine bX11_isLot_0 l hl hdep ?_
  all_goals intros
  all_goals refine ⟨rfl, rfl, ?_⟩
  all_goals (first | rfl | (refine congrArg (fun x => [xI x]) ?_; unfold zb; (repeat' split) <;> first | rfl | omega))

set_option maxRecDepth 20000 in
theorem bX11_hands_0 {X : zX} {dep bc bs : Nat} (p : Int) (w : Int) (n : Int) {h : zH} {Q : Nat → zH → List zV → Prop} (hdep : 1 ≤ dep)
    (k1 : ¬ (0 ≤ p ∧ p ≤ 7) → Q 239 (zst h 169 0 0) [xI 0])
    (k2 : 0 ≤ p ∧ p ≤ 7 → ¬ (0 ≤ w ∧ w ≤ 11) → Q 239 (zst h 169 0 0) [xI 0])
    (k3 : 0 ≤ p ∧ p ≤ 7 → 0 ≤ w ∧ w ≤ 11 → 0 ≤ n ∧ n ≤ 60 → Q 239 (zst (zst h 169 0 0) 235 ((12 * p) + w) n) [xI 1])
    (k4 : 0 ≤ p ∧ p ≤ 7 → 0 ≤ w ∧ w ≤ 11 → ¬ (0 ≤ n ∧ n ≤ 60) → Q 239 (zst h 169 0 0) [xI 0]) : zW mX11_hands X dep bc bs 239 0 [(0, xR 169), (1, xI p), (2, xI w), (3, xI n)] [] h Q := by
  refine z_aload_n 0 dX11_hands_0 rfl ?_
  refine z_iconst dX11_hands_1 (zi32_d rfl) ?_
  refine z_putI (k := 0) (kz := 0) pk11 dX11_hands_2 (by decide) zb_1124 rfl (zFit_int _) (zOb.lit (by decide +kernel)) rfl ?_
  refine z_iload_n 1 dX11_hands_5 rfl ?_
  refine z_iconst dX11_hands_6 (zi32_d rfl) ?_
  refine z_bipush dX11_hands_7 (zi32_d rfl) (by decide) ?_
  refine z_invSF (as := [xI p, xI 0, xI 7]) (st := []) (ra := [xI 7, xI 0, xI p]) (dep' := dep - 1) (rs := [xI (zb (0 ≤ p ∧ p ≤ 7))]) (h' := (zst h 169 0 0)) (f_X11_isIn p 0 7 (h := (zst h 169 0 0)) ) dX11_hands_9 nX11_isIn zb_1437 zb_1438 zb_92 (by omega) zne_I (Nat.le_of_ble_eq_true rfl) (Nat.le_of_ble_eq_true rfl) rfl ?_
  refine z_ifB_eq (C := 0 ≤ p ∧ p ≤ 7) (tgt := 35) dX11_hands_12 (by decide) (fun c1 => ?_) (fun c1 => ?_)
  ·
    refine z_iconst dX11_hands_35 (zi32_d rfl) ?_
    exact z_zret dX11_hands_36 rfl (Or.inl rfl) (k1 c1)
  ·
    refine z_iload_n 2 dX11_hands_15 rfl ?_
    refine z_iconst dX11_hands_16 (zi32_d rfl) ?_
    refine z_bipush dX11_hands_17 (zi32_d rfl) (by decide) ?_
    refine z_invSF (as := [xI w, xI 0, xI 11]) (st := []) (ra := [xI 11, xI 0, xI w]) (dep' := dep - 1) (rs := [xI (zb (0 ≤ w ∧ w ≤ 11))]) (h' := (zst h 169 0 0)) (f_X11_isIn w 0 11 (h := (zst h 169 0 0)) ) dX11_hands_19 nX11_isIn zb_1437 zb_1438 zb_92 (by omega) zne_I (Nat.le_of_ble_eq_true rfl) (Nat.le_of_ble_eq_true rfl) rfl ?_
    refine z_ifB_eq (C := 0 ≤ w ∧ w ≤ 11) (tgt := 35) dX11_hands_22 (by decide) (fun c2 => ?_) (fun c2 => ?_)
    ·
      refine z_iconst dX11_hands_35 (zi32_d rfl) ?_
      exact z_zret dX11_hands_36 rfl (Or.inl rfl) (k2 c1 c2)
    ·
      refine z_iload_n 3 dX11_hands_25 rfl ?_
      refine z_iconst dX11_hands_26 (zi32_d rfl) ?_
      refine z_bipush dX11_hands_27 (zi32_d rfl) (by decide) ?_
      refine z_invSF (as := [xI n, xI 0, xI 60]) (st := []) (ra := [xI 60, xI 0, xI n]) (dep' := dep - 1) (rs := [xI (zb (0 ≤ n ∧ n ≤ 60))]) (h' := (zst h 169 0 0)) (f_X11_isIn n 0 60 (h := (zst h 169 0 0)) ) dX11_hands_29 nX11_isIn zb_1437 zb_1438 zb_92 (by omega) zne_I (Nat.le_of_ble_eq_true rfl) (Nat.le_of_ble_eq_true rfl) rfl ?_
      refine z_ifB_ne (C := 0 ≤ n ∧ n ≤ 60) (tgt := 37) dX11_hands_32 (by decide) (fun c3 => ?_) (fun c3 => ?_)
      ·
        refine z_aload_n 0 dX11_hands_37 rfl ?_
        refine z_getS (v := 235) (k := 93) (kz := 93) pk11 dX11_hands_38 (by decide) zb_1217 rfl (zOb.lit (by decide +kernel)) rfl (by decide +kernel) ?_
        refine z_bipush dX11_hands_41 (zi32_d rfl) (by decide) ?_
        refine z_iload_n 1 dX11_hands_43 rfl ?_
        refine z_imulN dX11_hands_44 (show -2147483648 ≤ 12 * p ∧ 12 * p < 2147483648 from ⟨by omega, by omega⟩).1 (show -2147483648 ≤ 12 * p ∧ 12 * p < 2147483648 from ⟨by omega, by omega⟩).2 ?_
        refine z_iload_n 2 dX11_hands_45 rfl ?_
        refine z_iaddN dX11_hands_46 (show -2147483648 ≤ (12 * p) + w ∧ (12 * p) + w < 2147483648 from ⟨by omega, by omega⟩).1 (show -2147483648 ≤ (12 * p) + w ∧ (12 * p) + w < 2147483648 from ⟨by omega, by omega⟩).2 ?_
        refine z_iload_n 3 dX11_hands_47 rfl ?_
        refine z_iast dX11_hands_48 (zOb.lit (by decide +kernel)) (show 0 ≤ ((12 * p) + w) ∧ ((12 * p) + w) < 96 from ⟨by omega, by omega⟩).1 (show 0 ≤ ((12 * p) + w) ∧ ((12 * p) + w) < 96 from ⟨by omega, by omega⟩).2 ?_
        refine z_iconst dX11_hands_49 (zi32_d rfl) ?_
        exact z_zret dX11_hands_50 rfl (Or.inr rfl) (k3 c1 c2 c3)
      ·
        refine z_iconst dX11_hands_35 (zi32_d rfl) ?_
        exact z_zret dX11_hands_36 rfl (Or.inl rfl) (k4 c1 c2 c3)
theorem f_X11_hands {X : zX} {dep : Nat} (p : Int) (w : Int) (n : Int) {h : zH} (hdep : 1 ≤ dep) : zW mX11_hands X dep 0 0 239 0 (zar 0 [xR 169, xI p, xI w, xI n]) [] h (zF (if (0 ≤ p ∧ p ≤ 7) ∧ (0 ≤ w ∧ w ≤ 11) ∧ 0 ≤ n ∧ n ≤ 60 then zst (zst h 169 0 0) 235 (12 * p + w) n else zst h 169 0 0) [xI (zb ((0 ≤ p ∧ p ≤ 7) ∧ (0 ≤ w ∧ w ≤ 11) ∧ 0 ≤ n ∧ n ≤ 60))]) := by
  refine bX11_hands_0 p w n hdep ?_ ?_ ?_ ?_
  all_goals intros
  all_goals refine ⟨rfl, ?_, ?_⟩
  all_goals first
    | (rw [if_pos (by omega)])
    | (rw [if_neg (by omega)])
    | (first | rfl | (refine congrArg (fun x => [xI x]) ?_; unfold zb; (repeat' split) <;> first | rfl | omega))

set_option maxRecDepth 20000 in
theorem bX11_gone_0 {X : zX} {dep bc bs : Nat} (p : Int) (w : Int) {h : zH} {Q : Nat → zH → List zV → Prop} (hdep : 1 ≤ dep)
    (k1 : (h 169 96) = 0 → Q 239 (zst h 169 0 0) [xI (-1)])
    (k2 : ¬ ((h 169 96) = 0) → ¬ (0 ≤ p ∧ p ≤ 7) → Q 239 (zst h 169 0 0) [xI (-1)])
    (k3 : ¬ ((h 169 96) = 0) → 0 ≤ p ∧ p ≤ 7 → ¬ (0 ≤ w ∧ w ≤ 11) → Q 239 (zst h 169 0 0) [xI (-1)])
    (k4 : ¬ ((h 169 96) = 0) → 0 ≤ p ∧ p ≤ 7 → 0 ≤ w ∧ w ≤ 11 → Q 239 (zst h 169 0 0) [xI (h 236 ((12 * p) + w))]) : zW mX11_gone X dep bc bs 239 0 [(0, xR 169), (1, xI p), (2, xI w)] [] h Q := by
  refine z_aload_n 0 dX11_gone_0 rfl ?_
  refine z_iconst dX11_gone_1 (zi32_d rfl) ?_
  refine z_putI (k := 0) (kz := 0) pk11 dX11_gone_2 (by decide) zb_1124 rfl (zFit_int _) (zOb.lit (by decide +kernel)) rfl ?_
  refine z_aload_n 0 dX11_gone_5 rfl ?_
  refine z_getIV (v := (h 169 96)) (k := 96) (kz := 96) pk11 dX11_gone_6 (by decide) zb_1220 rfl (zOb.lit (by decide +kernel)) rfl (zst_ne (Or.inr (by decide))) ?_
  refine z_if_eq (tgt := 46) dX11_gone_9 (by decide) (fun c1 => ?_) (fun c1 => ?_)
  ·
    refine z_iconst dX11_gone_46 (zi32_d rfl) ?_
    exact z_iret dX11_gone_47 rfl (k1 c1)
  ·
    refine z_iload_n 1 dX11_gone_12 rfl ?_
    refine z_iconst dX11_gone_13 (zi32_d rfl) ?_
    refine z_bipush dX11_gone_14 (zi32_d rfl) (by decide) ?_
    refine z_invSF (as := [xI p, xI 0, xI 7]) (st := []) (ra := [xI 7, xI 0, xI p]) (dep' := dep - 1) (rs := [xI (zb (0 ≤ p ∧ p ≤ 7))]) (h' := (zst h 169 0 0)) (f_X11_isIn p 0 7 (h := (zst h 169 0 0)) ) dX11_gone_16 nX11_isIn zb_1437 zb_1438 zb_92 (by omega) zne_I (Nat.le_of_ble_eq_true rfl) (Nat.le_of_ble_eq_true rfl) rfl ?_
    refine z_ifB_eq (C := 0 ≤ p ∧ p ≤ 7) (tgt := 46) dX11_gone_19 (by decide) (fun c2 => ?_) (fun c2 => ?_)
    ·
      refine z_iconst dX11_gone_46 (zi32_d rfl) ?_
      exact z_iret dX11_gone_47 rfl (k2 c1 c2)
    ·
      refine z_iload_n 2 dX11_gone_22 rfl ?_
      refine z_iconst dX11_gone_23 (zi32_d rfl) ?_
      refine z_bipush dX11_gone_24 (zi32_d rfl) (by decide) ?_
      refine z_invSF (as := [xI w, xI 0, xI 11]) (st := []) (ra := [xI 11, xI 0, xI w]) (dep' := dep - 1) (rs := [xI (zb (0 ≤ w ∧ w ≤ 11))]) (h' := (zst h 169 0 0)) (f_X11_isIn w 0 11 (h := (zst h 169 0 0)) ) dX11_gone_26 nX11_isIn zb_1437 zb_1438 zb_92 (by omega) zne_I (Nat.le_of_ble_eq_true rfl) (Nat.le_of_ble_eq_true rfl) rfl ?_
      refine z_ifB_eq (C := 0 ≤ w ∧ w ≤ 11) (tgt := 46) dX11_gone_29 (by decide) (fun c3 => ?_) (fun c3 => ?_)
      ·
        refine z_iconst dX11_gone_46 (zi32_d rfl) ?_
        exact z_iret dX11_gone_47 rfl (k3 c1 c2 c3)
      ·
        refine z_aload_n 0 dX11_gone_32 rfl ?_
        refine z_getS (v := 236) (k := 94) (kz := 94) pk11 dX11_gone_33 (by decide) zb_1218 rfl (zOb.lit (by decide +kernel)) rfl (by decide +kernel) ?_
        refine z_bipush dX11_gone_36 (zi32_d rfl) (by decide) ?_
        refine z_iload_n 1 dX11_gone_38 rfl ?_
        refine z_imulN dX11_gone_39 (show -2147483648 ≤ 12 * p ∧ 12 * p < 2147483648 from ⟨by omega, by omega⟩).1 (show -2147483648 ≤ 12 * p ∧ 12 * p < 2147483648 from ⟨by omega, by omega⟩).2 ?_
        refine z_iload_n 2 dX11_gone_40 rfl ?_
        refine z_iaddN dX11_gone_41 (show -2147483648 ≤ (12 * p) + w ∧ (12 * p) + w < 2147483648 from ⟨by omega, by omega⟩).1 (show -2147483648 ≤ (12 * p) + w ∧ (12 * p) + w < 2147483648 from ⟨by omega, by omega⟩).2 ?_
        refine z_ialdV (v := (h 236 ((12 * p) + w))) dX11_gone_42 (zOb.lit (by decide +kernel)) (show 0 ≤ ((12 * p) + w) ∧ ((12 * p) + w) < 96 from ⟨by omega, by omega⟩).1 (show 0 ≤ ((12 * p) + w) ∧ ((12 * p) + w) < 96 from ⟨by omega, by omega⟩).2 (zst_ne (Or.inl (by decide))) ?_
        refine z_goto (tgt := 47) dX11_gone_43 (by decide) ?_
        exact z_iret dX11_gone_47 rfl (k4 c1 c2 c3)
theorem f_X11_gone {X : zX} {dep : Nat} (p : Int) (w : Int) {h : zH} (hdep : 1 ≤ dep) : zW mX11_gone X dep 0 0 239 0 (zar 0 [xR 169, xI p, xI w]) [] h (zF (zst h 169 0 0) [xI (if h 169 96 ≠ 0 ∧ (0 ≤ p ∧ p ≤ 7) ∧ 0 ≤ w ∧ w ≤ 11 then h 236 (12 * p + w) else -1)]) := by
  refine bX11_gone_0 p w hdep ?_ ?_ ?_ ?_
  all_goals intros
  all_goals refine ⟨rfl, rfl, ?_⟩
  all_goals refine congrArg (fun x => [xI x]) ?_
  all_goals (repeat' split) <;> first | rfl | omega

set_option maxRecDepth 20000 in
theorem bX11_count_0 {X : zX} {dep bc bs : Nat} (w : Int) {h : zH} {Q : Nat → zH → List zV → Prop}
    (k1 : w < 0 → Q 239 (zst h 169 0 0) [xI (-1)])
    (k2 : 9 < w → Q 239 (zst h 169 0 0) [xI (-1)])
    (k3 : w = 0 → Q 239 (zst h 169 0 0) [xI (h 169 5)])
    (k4 : w = 1 → Q 239 (zst h 169 0 0) [xI (h 169 25)])
    (k5 : w = 2 → Q 239 (zst h 169 0 0) [xI (h 169 65)])
    (k6 : w = 3 → Q 239 (zst h 169 0 0) [xI (h 169 45)])
    (k7 : w = 4 → Q 239 (zst h 169 0 0) [xI (h 169 27)])
    (k8 : w = 5 → Q 239 (zst h 169 0 0) [xI (h 169 28)])
    (k9 : w = 6 → Q 239 (zst h 169 0 0) [xI (h 169 85)])
    (k10 : w = 7 → Q 239 (zst h 169 0 0) [xI (h 169 90)])
    (k11 : w = 8 → Q 239 (zst h 169 0 0) [xI (h 169 91)])
    (k12 : w = 9 → Q 239 (zst h 169 0 0) [xI (h 169 2)]) : zW mX11_count X dep bc bs 239 0 [(0, xR 169), (1, xI w)] [] h Q := by
  refine z_aload_n 0 dX11_count_0 rfl ?_
  refine z_iconst dX11_count_1 (zi32_d rfl) ?_
  refine z_putI (k := 0) (kz := 0) pk11 dX11_count_2 (by decide) zb_1124 rfl (zFit_int _) (zOb.lit (by decide +kernel)) rfl ?_
  refine z_iload_n 1 dX11_count_5 rfl ?_
  rcases (show w < 0 ∨ 9 < w ∨ w = 0 ∨ w = 1 ∨ w = 2 ∨ w = 3 ∨ w = 4 ∨ w = 5 ∨ w = 6 ∨ w = 7 ∨ w = 8 ∨ w = 9 by omega) with c1 | c1 | c1 | c1 | c1 | c1 | c1 | c1 | c1 | c1 | c1 | c1
  ·
    refine z_tsOut (tgt := 110) dX11_count_6 (Or.inl c1) (by decide) ?_
    refine z_iconst dX11_count_110 (zi32_d rfl) ?_
    exact z_iret dX11_count_111 rfl (k1 c1)
  ·
    refine z_tsOut (tgt := 110) dX11_count_6 (Or.inr c1) (by decide) ?_
    refine z_iconst dX11_count_110 (zi32_d rfl) ?_
    exact z_iret dX11_count_111 rfl (k2 c1)
  ·
    refine z_tsIn (tgt := 60) dX11_count_6 (by omega) (by omega) (by rw [c1]; rfl) (by decide) ?_
    refine z_aload_n 0 dX11_count_60 rfl ?_
    refine z_getIV (v := (h 169 5)) (k := 5) (kz := 5) pk11 dX11_count_61 (by decide) zb_1129 rfl (zOb.lit (by decide +kernel)) rfl (zst_ne (Or.inr (by decide))) ?_
    exact z_iret dX11_count_64 rfl (k3 c1)
  ·
    refine z_tsIn (tgt := 65) dX11_count_6 (by omega) (by omega) (by rw [c1]; rfl) (by decide) ?_
    refine z_aload_n 0 dX11_count_65 rfl ?_
    refine z_getIV (v := (h 169 25)) (k := 25) (kz := 25) pk11 dX11_count_66 (by decide) zb_1149 rfl (zOb.lit (by decide +kernel)) rfl (zst_ne (Or.inr (by decide))) ?_
    exact z_iret dX11_count_69 rfl (k4 c1)
  ·
    refine z_tsIn (tgt := 70) dX11_count_6 (by omega) (by omega) (by rw [c1]; rfl) (by decide) ?_
    refine z_aload_n 0 dX11_count_70 rfl ?_
    refine z_getIV (v := (h 169 65)) (k := 65) (kz := 65) pk11 dX11_count_71 (by decide) zb_1189 rfl (zOb.lit (by decide +kernel)) rfl (zst_ne (Or.inr (by decide))) ?_
    exact z_iret dX11_count_74 rfl (k5 c1)
  ·
    refine z_tsIn (tgt := 75) dX11_count_6 (by omega) (by omega) (by rw [c1]; rfl) (by decide) ?_
    refine z_aload_n 0 dX11_count_75 rfl ?_
    refine z_getIV (v := (h 169 45)) (k := 45) (kz := 45) pk11 dX11_count_76 (by decide) zb_1169 rfl (zOb.lit (by decide +kernel)) rfl (zst_ne (Or.inr (by decide))) ?_
    exact z_iret dX11_count_79 rfl (k6 c1)
  ·
    refine z_tsIn (tgt := 80) dX11_count_6 (by omega) (by omega) (by rw [c1]; rfl) (by decide) ?_
    refine z_aload_n 0 dX11_count_80 rfl ?_
    refine z_getIV (v := (h 169 27)) (k := 27) (kz := 27) pk11 dX11_count_81 (by decide) zb_1151 rfl (zOb.lit (by decide +kernel)) rfl (zst_ne (Or.inr (by decide))) ?_
    exact z_iret dX11_count_84 rfl (k7 c1)
  ·
    refine z_tsIn (tgt := 85) dX11_count_6 (by omega) (by omega) (by rw [c1]; rfl) (by decide) ?_
    refine z_aload_n 0 dX11_count_85 rfl ?_
    refine z_getIV (v := (h 169 28)) (k := 28) (kz := 28) pk11 dX11_count_86 (by decide) zb_1152 rfl (zOb.lit (by decide +kernel)) rfl (zst_ne (Or.inr (by decide))) ?_
    exact z_iret dX11_count_89 rfl (k8 c1)
  ·
    refine z_tsIn (tgt := 90) dX11_count_6 (by omega) (by omega) (by rw [c1]; rfl) (by decide) ?_
    refine z_aload_n 0 dX11_count_90 rfl ?_
    refine z_getIV (v := (h 169 85)) (k := 85) (kz := 85) pk11 dX11_count_91 (by decide) zb_1209 rfl (zOb.lit (by decide +kernel)) rfl (zst_ne (Or.inr (by decide))) ?_
    exact z_iret dX11_count_94 rfl (k9 c1)
  ·
    refine z_tsIn (tgt := 95) dX11_count_6 (by omega) (by omega) (by rw [c1]; rfl) (by decide) ?_
    refine z_aload_n 0 dX11_count_95 rfl ?_
    refine z_getIV (v := (h 169 90)) (k := 90) (kz := 90) pk11 dX11_count_96 (by decide) zb_1214 rfl (zOb.lit (by decide +kernel)) rfl (zst_ne (Or.inr (by decide))) ?_
    exact z_iret dX11_count_99 rfl (k10 c1)
  ·
    refine z_tsIn (tgt := 100) dX11_count_6 (by omega) (by omega) (by rw [c1]; rfl) (by decide) ?_
    refine z_aload_n 0 dX11_count_100 rfl ?_
    refine z_getIV (v := (h 169 91)) (k := 91) (kz := 91) pk11 dX11_count_101 (by decide) zb_1215 rfl (zOb.lit (by decide +kernel)) rfl (zst_ne (Or.inr (by decide))) ?_
    exact z_iret dX11_count_104 rfl (k11 c1)
  ·
    refine z_tsIn (tgt := 105) dX11_count_6 (by omega) (by omega) (by rw [c1]; rfl) (by decide) ?_
    refine z_aload_n 0 dX11_count_105 rfl ?_
    refine z_getIV (v := (h 169 2)) (k := 2) (kz := 2) pk11 dX11_count_106 (by decide) zb_1126 rfl (zOb.lit (by decide +kernel)) rfl (zst_ne (Or.inr (by decide))) ?_
    exact z_iret dX11_count_109 rfl (k12 c1)
theorem f_X11_count {X : zX} {dep : Nat} (w : Int) {h : zH} : zW mX11_count X dep 0 0 239 0 (zar 0 [xR 169, xI w]) [] h (zF (zst h 169 0 0) [xI (if w = 0 then h 169 5 else if w = 1 then h 169 25 else if w = 2 then h 169 65 else if w = 3 then h 169 45 else if w = 4 then h 169 27 else if w = 5 then h 169 28 else if w = 6 then h 169 85 else if w = 7 then h 169 90 else if w = 8 then h 169 91 else if w = 9 then h 169 2 else -1)]) := by
  refine bX11_count_0 w ?_ ?_ ?_ ?_ ?_ ?_ ?_ ?_ ?_ ?_ ?_ ?_
  all_goals intros
  all_goals refine ⟨rfl, rfl, ?_⟩
  all_goals refine congrArg (fun x => [xI x]) ?_
  all_goals (repeat' split) <;> first | rfl | omega

set_option maxRecDepth 20000 in
theorem bX11_ageOf_0 {X : zX} {dep bc bs : Nat} (m : Int) (d : Int) {h : zH} {Q : Nat → zH → List zV → Prop} (h0 : 0 ≤ m ∧ m < 60) (h1 : 0 ≤ d ∧ d ≤ 3639) (h2 : -3120 ≤ h 214 m ∧ h 214 m < 520) (h7 : 0 ≤ zdiv d 7 ∧ zdiv d 7 ≤ 519)
    (k1 : 0 ≤ ((zdiv d 7) - (h 214 m)) → Q 239 h [xI (zdiv ((zdiv d 7) - (h 214 m)) 52)])
    (k2 : ¬ (0 ≤ ((zdiv d 7) - (h 214 m))) → Q 239 h [xI 0]) : zW mX11_ageOf X dep bc bs 239 0 [(0, xR 169), (1, xI m), (2, xI d)] [] h Q := by
  refine z_iload_n 2 dX11_ageOf_0 rfl ?_
  refine z_bipush dX11_ageOf_1 (zi32_d rfl) (by decide) ?_
  refine z_idiv dX11_ageOf_3 (by decide) ?_
  refine z_aload_n 0 dX11_ageOf_4 rfl ?_
  refine z_getS (v := 214) (k := 67) (kz := 67) pk11 dX11_ageOf_5 (by decide) zb_1191 rfl (zOb.lit (by decide +kernel)) rfl (by decide +kernel) ?_
  refine z_iload_n 1 dX11_ageOf_8 rfl ?_
  refine z_iald dX11_ageOf_9 (zOb.lit (by decide +kernel)) h0.1 h0.2 ?_
  refine z_isubN dX11_ageOf_10 (show -2147483648 ≤ (zdiv d 7) - (h 214 m) ∧ (zdiv d 7) - (h 214 m) < 2147483648 from ⟨by omega, by omega⟩).1 (show -2147483648 ≤ (zdiv d 7) - (h 214 m) ∧ (zdiv d 7) - (h 214 m) < 2147483648 from ⟨by omega, by omega⟩).2 ?_
  refine z_istore_n (lv' := [(3, xI ((zdiv d 7) - (h 214 m))), (0, xR 169), (1, xI m), (2, xI d)]) dX11_ageOf_11 (by decide) rfl ?_
  refine z_iload_n 0 dX11_ageOf_12 rfl ?_
  refine z_if_ge (tgt := 20) dX11_ageOf_13 (by decide) (fun c1 => ?_) (fun c1 => ?_)
  ·
    refine z_iload_n 0 dX11_ageOf_20 rfl ?_
    refine z_bipush dX11_ageOf_21 (zi32_d rfl) (by decide) ?_
    refine z_idiv dX11_ageOf_23 (by decide) ?_
    exact z_iret dX11_ageOf_24 rfl (k1 c1)
  ·
    refine z_iconst dX11_ageOf_16 (zi32_d rfl) ?_
    refine z_goto (tgt := 24) dX11_ageOf_17 (by decide) ?_
    exact z_iret dX11_ageOf_24 rfl (k2 c1)

theorem f_X11_ageOf {X : zX} {dep : Nat} (m : Int) (d : Int) {h : zH} (h0 : 0 ≤ m ∧ m < 60) (h1 : 0 ≤ d ∧ d ≤ 3639) (h2 : -3120 ≤ h 214 m ∧ h 214 m < 520) : zW mX11_ageOf X dep 0 0 239 0 (zar 0 [xR 169, xI m, xI d]) [] h (zF h [xI (zage (h 214 m) d)]) := by
  refine bX11_ageOf_0 m d h0 h1 h2 (zdiv7 h1.1 h1.2) ?_ ?_
  all_goals intro c
  all_goals refine ⟨rfl, rfl, congrArg (fun x => [xI x]) ?_⟩
  all_goals unfold zage
  · rw [if_neg (by omega)]
  · rw [if_pos (by omega)]

set_option maxRecDepth 20000 in
theorem bX11_areBrothers_0 {X : zX} {dep bc bs : Nat} (a : Int) (b : Int) {h : zH} {Q : Nat → zH → List zV → Prop} (ha : 0 ≤ a ∧ a < 60) (hb : 0 ≤ b ∧ b < 60)
    (k1 : Q 239 h [xI (if a = b then 0 else if (h 215 b) = 0 then 0 else if (h 173 a) = (h 173 b) then 1 else 0 : Int)]) : zW mX11_areBrothers X dep bc bs 239 0 [(0, xR 169), (1, xI a), (2, xI b)] [] h Q := by
  refine z_iload_n 1 dX11_areBrothers_0 rfl ?_
  refine z_iload_n 2 dX11_areBrothers_1 rfl ?_
  suffices KJ : zW mX11_areBrothers X dep bc bs 239 34 [(0, xR 169), (1, xI a), (2, xI b)] [xI (if a = b then 0 else if (h 215 b) = 0 then 0 else if (h 173 a) = (h 173 b) then 1 else 0 : Int)] h Q by
    refine z_icmp_eq (tgt := 33) dX11_areBrothers_2 (by decide) (fun j1 => ?_) (fun j1 => ?_)
    ·
      refine z_iconst dX11_areBrothers_33 (zi32_d rfl) ?_
      rw [if_pos j1] at KJ
      exact KJ
    ·
      refine z_aload_n 0 dX11_areBrothers_5 rfl ?_
      refine z_getS (v := 215) (k := 68) (kz := 68) pk11 dX11_areBrothers_6 (by decide) zb_1192 rfl (zOb.lit (by decide +kernel)) rfl (by decide +kernel) ?_
      refine z_iload_n 2 dX11_areBrothers_9 rfl ?_
      refine z_zald dX11_areBrothers_10 (zOb.lit (by decide +kernel)) (show 0 ≤ b ∧ b < 60 from ⟨by omega, by omega⟩).1 (show 0 ≤ b ∧ b < 60 from ⟨by omega, by omega⟩).2 ?_
      refine z_if_eq (tgt := 33) dX11_areBrothers_11 (by decide) (fun j2 => ?_) (fun j2 => ?_)
      ·
        refine z_iconst dX11_areBrothers_33 (zi32_d rfl) ?_
        rw [if_neg j1] at KJ
        rw [if_pos j2] at KJ
        exact KJ
      ·
        refine z_aload_n 0 dX11_areBrothers_14 rfl ?_
        refine z_getS (v := 173) (k := 8) (kz := 8) pk11 dX11_areBrothers_15 (by decide) zb_1132 rfl (zOb.lit (by decide +kernel)) rfl (by decide +kernel) ?_
        refine z_iload_n 1 dX11_areBrothers_18 rfl ?_
        refine z_iald dX11_areBrothers_19 (zOb.lit (by decide +kernel)) (show 0 ≤ a ∧ a < 60 from ⟨by omega, by omega⟩).1 (show 0 ≤ a ∧ a < 60 from ⟨by omega, by omega⟩).2 ?_
        refine z_aload_n 0 dX11_areBrothers_20 rfl ?_
        refine z_getS (v := 173) (k := 8) (kz := 8) pk11 dX11_areBrothers_21 (by decide) zb_1132 rfl (zOb.lit (by decide +kernel)) rfl (by decide +kernel) ?_
        refine z_iload_n 2 dX11_areBrothers_24 rfl ?_
        refine z_iald dX11_areBrothers_25 (zOb.lit (by decide +kernel)) (show 0 ≤ b ∧ b < 60 from ⟨by omega, by omega⟩).1 (show 0 ≤ b ∧ b < 60 from ⟨by omega, by omega⟩).2 ?_
        refine z_icmp_ne (tgt := 33) dX11_areBrothers_26 (by decide) (fun j3 => ?_) (fun j3 => ?_)
        ·
          refine z_iconst dX11_areBrothers_33 (zi32_d rfl) ?_
          rw [if_neg j1] at KJ
          rw [if_neg j2] at KJ
          rw [if_neg j3] at KJ
          exact KJ
        ·
          refine z_iconst dX11_areBrothers_29 (zi32_d rfl) ?_
          refine z_goto (tgt := 34) dX11_areBrothers_30 (by decide) ?_
          rw [if_neg j1] at KJ
          rw [if_neg j2] at KJ
          rw [if_pos j3] at KJ
          exact KJ
  exact z_zret dX11_areBrothers_34 rfl (by repeat (first | (left; rfl) | (right; rfl) | split)) (k1)
theorem f_X11_areBrothers {X : zX} {dep : Nat} (a : Int) (b : Int) {h : zH} (ha : 0 ≤ a ∧ a < 60) (hb : 0 ≤ b ∧ b < 60) : zW mX11_areBrothers X dep 0 0 239 0 (zar 0 [xR 169, xI a, xI b]) [] h (zF h [xI (zb (a ≠ b ∧ h 215 b ≠ 0 ∧ h 173 a = h 173 b))]) := by
  refine bX11_areBrothers_0 a b ha hb ?_
  all_goals intros
  all_goals refine ⟨rfl, rfl, ?_⟩
  all_goals (first | rfl | (refine congrArg (fun x => [xI x]) ?_; unfold zb; (repeat' split) <;> first | rfl | omega))

set_option maxRecDepth 20000 in
theorem bX11_isListed_0 {X : zX} {dep bc bs : Nat} (l : Int) (m : Int) {h : zH} {Q : Nat → zH → List zV → Prop} (hl : 0 ≤ l ∧ l < 4) (hm : 0 ≤ m ∧ m < 60)
    (k1 : Q 239 h [xI (if (h 219 ((60 * l) + m)) < 4 then 0 else 1 : Int)]) : zW mX11_isListed X dep bc bs 239 0 [(0, xR 169), (1, xI l), (2, xI m)] [] h Q := by
  refine z_aload_n 0 dX11_isListed_0 rfl ?_
  refine z_getS (v := 219) (k := 72) (kz := 72) pk11 dX11_isListed_1 (by decide) zb_1196 rfl (zOb.lit (by decide +kernel)) rfl (by decide +kernel) ?_
  refine z_bipush dX11_isListed_4 (zi32_d rfl) (by decide) ?_
  refine z_iload_n 1 dX11_isListed_6 rfl ?_
  refine z_imulN dX11_isListed_7 (show -2147483648 ≤ 60 * l ∧ 60 * l < 2147483648 from ⟨by omega, by omega⟩).1 (show -2147483648 ≤ 60 * l ∧ 60 * l < 2147483648 from ⟨by omega, by omega⟩).2 ?_
  refine z_iload_n 2 dX11_isListed_8 rfl ?_
  refine z_iaddN dX11_isListed_9 (show -2147483648 ≤ (60 * l) + m ∧ (60 * l) + m < 2147483648 from ⟨by omega, by omega⟩).1 (show -2147483648 ≤ (60 * l) + m ∧ (60 * l) + m < 2147483648 from ⟨by omega, by omega⟩).2 ?_
  refine z_iald dX11_isListed_10 (zOb.lit (by decide +kernel)) (show 0 ≤ ((60 * l) + m) ∧ ((60 * l) + m) < 240 from ⟨by omega, by omega⟩).1 (show 0 ≤ ((60 * l) + m) ∧ ((60 * l) + m) < 240 from ⟨by omega, by omega⟩).2 ?_
  refine z_iconst dX11_isListed_11 (zi32_d rfl) ?_
  suffices KJ : zW mX11_isListed X dep bc bs 239 20 [(0, xR 169), (1, xI l), (2, xI m)] [xI (if (h 219 ((60 * l) + m)) < 4 then 0 else 1 : Int)] h Q by
    refine z_icmp_lt (tgt := 19) dX11_isListed_12 (by decide) (fun j1 => ?_) (fun j1 => ?_)
    ·
      refine z_iconst dX11_isListed_19 (zi32_d rfl) ?_
      rw [if_pos j1] at KJ
      exact KJ
    ·
      refine z_iconst dX11_isListed_15 (zi32_d rfl) ?_
      refine z_goto (tgt := 20) dX11_isListed_16 (by decide) ?_
      rw [if_neg j1] at KJ
      exact KJ
  exact z_zret dX11_isListed_20 rfl (by repeat (first | (left; rfl) | (right; rfl) | split)) (k1)
theorem f_X11_isListed {X : zX} {dep : Nat} (l : Int) (m : Int) {h : zH} (hl : 0 ≤ l ∧ l < 4) (hm : 0 ≤ m ∧ m < 60) : zW mX11_isListed X dep 0 0 239 0 (zar 0 [xR 169, xI l, xI m]) [] h (zF h [xI (zb (4 ≤ h 219 (60 * l + m)))]) := by
  refine bX11_isListed_0 l m hl hm ?_
  all_goals intros
  all_goals refine ⟨rfl, rfl, ?_⟩
  all_goals (first | rfl | (refine congrArg (fun x => [xI x]) ?_; unfold zb; (repeat' split) <;> first | rfl | omega))

set_option maxRecDepth 20000 in
theorem bX11_weekOf_0 {X : zX} {dep bc bs : Nat} (m : Int) {h : zH} {Q : Nat → zH → List zV → Prop} (h0 : 0 ≤ m ∧ m < 60) (hz : -52 < zrem (h 214 m) 52 ∧ zrem (h 214 m) 52 < 52)
    (k1 : Q 239 h [xI (zrem ((zrem (h 214 m) 52) + 52) 52)]) : zW mX11_weekOf X dep bc bs 239 0 [(0, xR 169), (1, xI m)] [] h Q := by
  refine z_aload_n 0 dX11_weekOf_0 rfl ?_
  refine z_getS (v := 214) (k := 67) (kz := 67) pk11 dX11_weekOf_1 (by decide) zb_1191 rfl (zOb.lit (by decide +kernel)) rfl (by decide +kernel) ?_
  refine z_iload_n 1 dX11_weekOf_4 rfl ?_
  refine z_iald dX11_weekOf_5 (zOb.lit (by decide +kernel)) h0.1 h0.2 ?_
  refine z_bipush dX11_weekOf_6 (zi32_d rfl) (by decide) ?_
  refine z_irem dX11_weekOf_8 (by decide) ?_
  refine z_bipush dX11_weekOf_9 (zi32_d rfl) (by decide) ?_
  refine z_iaddN dX11_weekOf_11 (show -2147483648 ≤ (zrem (h 214 m) 52) + 52 ∧ (zrem (h 214 m) 52) + 52 < 2147483648 from ⟨by omega, by omega⟩).1 (show -2147483648 ≤ (zrem (h 214 m) 52) + 52 ∧ (zrem (h 214 m) 52) + 52 < 2147483648 from ⟨by omega, by omega⟩).2 ?_
  refine z_bipush dX11_weekOf_12 (zi32_d rfl) (by decide) ?_
  refine z_irem dX11_weekOf_14 (by decide) ?_
  exact z_iret dX11_weekOf_15 rfl (k1)

theorem ztmod52 (a : Int) : a.tmod 52 = if 0 ≤ a then a % 52 else -((-a) % 52) := by
  split
  · exact Int.tmod_eq_emod_of_nonneg (by omega)
  · rw [show a = -(-a) by omega, Int.neg_tmod, Int.tmod_eq_emod_of_nonneg (by omega)]
    simp
theorem f_X11_weekOf {X : zX} {dep : Nat} (m : Int) {h : zH} (h0 : 0 ≤ m ∧ m < 60) (hb : -3120 ≤ h 214 m ∧ h 214 m < 520) : zW mX11_weekOf X dep 0 0 239 0 (zar 0 [xR 169, xI m]) [] h (zF h [xI (h 214 m % 52)]) := by
  obtain ⟨e1, e2⟩ := zmod_at hb.1 hb.2
  have e3 := ztmod52 (h 214 m)
  have hz : -52 < zrem (h 214 m) 52 ∧ zrem (h 214 m) 52 < 52 := by rw [e2, e3]; split <;> omega
  refine bX11_weekOf_0 m h0 hz ?_
  obtain ⟨e4, e5⟩ := zmod_at (a := zrem (h 214 m) 52 + 52) (by omega) (by omega)
  have e6 := ztmod52 (zrem (h 214 m) 52 + 52)
  refine ⟨rfl, rfl, congrArg (fun x => [xI x]) ?_⟩
  rw [e5, e6, e2, e3]
  (repeat' split) <;> omega

set_option maxRecDepth 20000 in
theorem bX11_isAhead_0 {X : zX} {dep bc bs : Nat} (l : Int) (a : Int) (b : Int) {h : zH} {Q : Nat → zH → List zV → Prop} (hl : 0 ≤ l ∧ l < 4) (ha0 : 0 ≤ a ∧ a < 60) (ha1 : -3120 ≤ h 214 a ∧ h 214 a < 520) (ha2 : 0 ≤ h 171 a ∧ h 171 a < 26) (ha3 : 0 ≤ h 221 (60 * l + a) ∧ h 221 (60 * l + a) ≤ 9) (ha4 : 0 ≤ h 208 (52 * l + h 214 a % 52) ∧ h 208 (52 * l + h 214 a % 52) < 52) (ha5 : 0 ≤ h 209 (26 * l + h 171 a) ∧ h 209 (26 * l + h 171 a) < 26) (hb0 : 0 ≤ b ∧ b < 60) (hb1 : -3120 ≤ h 214 b ∧ h 214 b < 520) (hb2 : 0 ≤ h 171 b ∧ h 171 b < 26) (hb3 : 0 ≤ h 221 (60 * l + b) ∧ h 221 (60 * l + b) ≤ 9) (hb4 : 0 ≤ h 208 (52 * l + h 214 b % 52) ∧ h 208 (52 * l + h 214 b % 52) < 52) (hb5 : 0 ≤ h 209 (26 * l + h 171 b) ∧ h 209 (26 * l + h 171 b) < 26) (hdep : 1 ≤ dep)
    (k1 : ¬ ((h 221 ((60 * l) + a)) - (h 221 ((60 * l) + b))) = 0 → ¬ ((h 221 ((60 * l) + a)) - (h 221 ((60 * l) + b))) = 0 → Q 239 h [xI (if ((h 221 ((60 * l) + a)) - (h 221 ((60 * l) + b))) = 0 then if b ≤ a then 0 else 1 else if 0 ≤ ((h 221 ((60 * l) + a)) - (h 221 ((60 * l) + b))) then 0 else 1 : Int)])
    (k2 : ¬ ((h 221 ((60 * l) + a)) - (h 221 ((60 * l) + b))) = 0 → ((h 221 ((60 * l) + a)) - (h 221 ((60 * l) + b))) = 0 → Q 239 h [xI (if ((h 209 ((26 * l) + (h 171 a))) - (h 209 ((26 * l) + (h 171 b)))) = 0 then if b ≤ a then 0 else 1 else if 0 ≤ ((h 209 ((26 * l) + (h 171 a))) - (h 209 ((26 * l) + (h 171 b)))) then 0 else 1 : Int)])
    (k3 : ((h 221 ((60 * l) + a)) - (h 221 ((60 * l) + b))) = 0 → ¬ ((h 208 ((52 * l) + (h 214 a % 52))) - (h 208 ((52 * l) + (h 214 b % 52)))) = 0 → Q 239 h [xI (if ((h 208 ((52 * l) + (h 214 a % 52))) - (h 208 ((52 * l) + (h 214 b % 52)))) = 0 then if b ≤ a then 0 else 1 else if 0 ≤ ((h 208 ((52 * l) + (h 214 a % 52))) - (h 208 ((52 * l) + (h 214 b % 52)))) then 0 else 1 : Int)])
    (k4 : ((h 221 ((60 * l) + a)) - (h 221 ((60 * l) + b))) = 0 → ((h 208 ((52 * l) + (h 214 a % 52))) - (h 208 ((52 * l) + (h 214 b % 52)))) = 0 → Q 239 h [xI (if ((h 209 ((26 * l) + (h 171 a))) - (h 209 ((26 * l) + (h 171 b)))) = 0 then if b ≤ a then 0 else 1 else if 0 ≤ ((h 209 ((26 * l) + (h 171 a))) - (h 209 ((26 * l) + (h 171 b)))) then 0 else 1 : Int)]) : zW mX11_isAhead X dep bc bs 239 0 [(0, xR 169), (1, xI l), (2, xI a), (3, xI b)] [] h Q := by
  refine z_aload_n 0 dX11_isAhead_0 rfl ?_
  refine z_getS (v := 221) (k := 74) (kz := 74) pk11 dX11_isAhead_1 (by decide) zb_1198 rfl (zOb.lit (by decide +kernel)) rfl (by decide +kernel) ?_
  refine z_bipush dX11_isAhead_4 (zi32_d rfl) (by decide) ?_
  refine z_iload_n 1 dX11_isAhead_6 rfl ?_
  refine z_imulN dX11_isAhead_7 (show -2147483648 ≤ 60 * l ∧ 60 * l < 2147483648 from ⟨by omega, by omega⟩).1 (show -2147483648 ≤ 60 * l ∧ 60 * l < 2147483648 from ⟨by omega, by omega⟩).2 ?_
  refine z_iload_n 2 dX11_isAhead_8 rfl ?_
  refine z_iaddN dX11_isAhead_9 (show -2147483648 ≤ (60 * l) + a ∧ (60 * l) + a < 2147483648 from ⟨by omega, by omega⟩).1 (show -2147483648 ≤ (60 * l) + a ∧ (60 * l) + a < 2147483648 from ⟨by omega, by omega⟩).2 ?_
  refine z_iald dX11_isAhead_10 (zOb.lit (by decide +kernel)) (show 0 ≤ ((60 * l) + a) ∧ ((60 * l) + a) < 240 from ⟨by omega, by omega⟩).1 (show 0 ≤ ((60 * l) + a) ∧ ((60 * l) + a) < 240 from ⟨by omega, by omega⟩).2 ?_
  refine z_aload_n 0 dX11_isAhead_11 rfl ?_
  refine z_getS (v := 221) (k := 74) (kz := 74) pk11 dX11_isAhead_12 (by decide) zb_1198 rfl (zOb.lit (by decide +kernel)) rfl (by decide +kernel) ?_
  refine z_bipush dX11_isAhead_15 (zi32_d rfl) (by decide) ?_
  refine z_iload_n 1 dX11_isAhead_17 rfl ?_
  refine z_imulN dX11_isAhead_18 (show -2147483648 ≤ 60 * l ∧ 60 * l < 2147483648 from ⟨by omega, by omega⟩).1 (show -2147483648 ≤ 60 * l ∧ 60 * l < 2147483648 from ⟨by omega, by omega⟩).2 ?_
  refine z_iload_n 3 dX11_isAhead_19 rfl ?_
  refine z_iaddN dX11_isAhead_20 (show -2147483648 ≤ (60 * l) + b ∧ (60 * l) + b < 2147483648 from ⟨by omega, by omega⟩).1 (show -2147483648 ≤ (60 * l) + b ∧ (60 * l) + b < 2147483648 from ⟨by omega, by omega⟩).2 ?_
  refine z_iald dX11_isAhead_21 (zOb.lit (by decide +kernel)) (show 0 ≤ ((60 * l) + b) ∧ ((60 * l) + b) < 240 from ⟨by omega, by omega⟩).1 (show 0 ≤ ((60 * l) + b) ∧ ((60 * l) + b) < 240 from ⟨by omega, by omega⟩).2 ?_
  refine z_isubN dX11_isAhead_22 (show -2147483648 ≤ (h 221 ((60 * l) + a)) - (h 221 ((60 * l) + b)) ∧ (h 221 ((60 * l) + a)) - (h 221 ((60 * l) + b)) < 2147483648 from ⟨by omega, by omega⟩).1 (show -2147483648 ≤ (h 221 ((60 * l) + a)) - (h 221 ((60 * l) + b)) ∧ (h 221 ((60 * l) + a)) - (h 221 ((60 * l) + b)) < 2147483648 from ⟨by omega, by omega⟩).2 ?_
  refine z_istore (lv' := [(4, xI ((h 221 ((60 * l) + a)) - (h 221 ((60 * l) + b)))), (0, xR 169), (1, xI l), (2, xI a), (3, xI b)]) dX11_isAhead_23 (by decide) rfl ?_
  refine z_iload 0 dX11_isAhead_25 rfl ?_
  refine z_if_ne (tgt := 63) dX11_isAhead_27 (by decide) (fun c1 => ?_) (fun c1 => ?_)
  ·
    refine z_iload 0 dX11_isAhead_63 rfl ?_
    refine z_if_ne (tgt := 103) dX11_isAhead_65 (by decide) (fun c2 => ?_) (fun c2 => ?_)
    ·
      refine z_iload 0 dX11_isAhead_103 rfl ?_
      suffices KJ : zW mX11_isAhead X dep bc bs 239 131 [(4, xI ((h 221 ((60 * l) + a)) - (h 221 ((60 * l) + b)))), (0, xR 169), (1, xI l), (2, xI a), (3, xI b)] [xI (if ((h 221 ((60 * l) + a)) - (h 221 ((60 * l) + b))) = 0 then if b ≤ a then 0 else 1 else if 0 ≤ ((h 221 ((60 * l) + a)) - (h 221 ((60 * l) + b))) then 0 else 1 : Int)] h Q by
        refine z_if_ne (tgt := 121) dX11_isAhead_105 (by decide) (fun j1 => ?_) (fun j1 => ?_)
        ·
          refine z_iload 0 dX11_isAhead_121 rfl ?_
          refine z_if_ge (tgt := 130) dX11_isAhead_123 (by decide) (fun j2 => ?_) (fun j2 => ?_)
          ·
            refine z_iconst dX11_isAhead_130 (zi32_d rfl) ?_
            rw [if_neg j1] at KJ
            rw [if_pos j2] at KJ
            exact KJ
          ·
            refine z_iconst dX11_isAhead_126 (zi32_d rfl) ?_
            refine z_goto (tgt := 131) dX11_isAhead_127 (by decide) ?_
            rw [if_neg j1] at KJ
            rw [if_neg j2] at KJ
            exact KJ
        ·
          refine z_iload_n 3 dX11_isAhead_108 rfl ?_
          refine z_iload_n 4 dX11_isAhead_109 rfl ?_
          refine z_icmp_ge (tgt := 117) dX11_isAhead_110 (by decide) (fun j2 => ?_) (fun j2 => ?_)
          ·
            refine z_iconst dX11_isAhead_117 (zi32_d rfl) ?_
            refine z_goto (tgt := 131) dX11_isAhead_118 (by decide) ?_
            rw [if_pos j1] at KJ
            rw [if_pos j2] at KJ
            exact KJ
          ·
            refine z_iconst dX11_isAhead_113 (zi32_d rfl) ?_
            refine z_goto (tgt := 131) dX11_isAhead_114 (by decide) ?_
            rw [if_pos j1] at KJ
            rw [if_neg j2] at KJ
            exact KJ
      exact z_zret dX11_isAhead_131 rfl (by repeat (first | (left; rfl) | (right; rfl) | split)) (k1 c1 c2)
    ·
      refine z_aload_n 1 dX11_isAhead_68 rfl ?_
      refine z_getS (v := 209) (k := 61) (kz := 61) pk11 dX11_isAhead_69 (by decide) zb_1185 rfl (zOb.lit (by decide +kernel)) rfl (by decide +kernel) ?_
      refine z_bipush dX11_isAhead_72 (zi32_d rfl) (by decide) ?_
      refine z_iload_n 2 dX11_isAhead_74 rfl ?_
      refine z_imulN dX11_isAhead_75 (show -2147483648 ≤ 26 * l ∧ 26 * l < 2147483648 from ⟨by omega, by omega⟩).1 (show -2147483648 ≤ 26 * l ∧ 26 * l < 2147483648 from ⟨by omega, by omega⟩).2 ?_
      refine z_aload_n 1 dX11_isAhead_76 rfl ?_
      refine z_getS (v := 171) (k := 6) (kz := 6) pk11 dX11_isAhead_77 (by decide) zb_1130 rfl (zOb.lit (by decide +kernel)) rfl (by decide +kernel) ?_
      refine z_iload_n 3 dX11_isAhead_80 rfl ?_
      refine z_iald dX11_isAhead_81 (zOb.lit (by decide +kernel)) ha0.1 ha0.2 ?_
      refine z_iaddN dX11_isAhead_82 (show -2147483648 ≤ (26 * l) + (h 171 a) ∧ (26 * l) + (h 171 a) < 2147483648 from ⟨by omega, by omega⟩).1 (show -2147483648 ≤ (26 * l) + (h 171 a) ∧ (26 * l) + (h 171 a) < 2147483648 from ⟨by omega, by omega⟩).2 ?_
      refine z_iald dX11_isAhead_83 (zOb.lit (by decide +kernel)) (show 0 ≤ ((26 * l) + (h 171 a)) ∧ ((26 * l) + (h 171 a)) < 104 from ⟨by omega, by omega⟩).1 (show 0 ≤ ((26 * l) + (h 171 a)) ∧ ((26 * l) + (h 171 a)) < 104 from ⟨by omega, by omega⟩).2 ?_
      refine z_aload_n 1 dX11_isAhead_84 rfl ?_
      refine z_getS (v := 209) (k := 61) (kz := 61) pk11 dX11_isAhead_85 (by decide) zb_1185 rfl (zOb.lit (by decide +kernel)) rfl (by decide +kernel) ?_
      refine z_bipush dX11_isAhead_88 (zi32_d rfl) (by decide) ?_
      refine z_iload_n 2 dX11_isAhead_90 rfl ?_
      refine z_imulN dX11_isAhead_91 (show -2147483648 ≤ 26 * l ∧ 26 * l < 2147483648 from ⟨by omega, by omega⟩).1 (show -2147483648 ≤ 26 * l ∧ 26 * l < 2147483648 from ⟨by omega, by omega⟩).2 ?_
      refine z_aload_n 1 dX11_isAhead_92 rfl ?_
      refine z_getS (v := 171) (k := 6) (kz := 6) pk11 dX11_isAhead_93 (by decide) zb_1130 rfl (zOb.lit (by decide +kernel)) rfl (by decide +kernel) ?_
      refine z_iload_n 4 dX11_isAhead_96 rfl ?_
      refine z_iald dX11_isAhead_97 (zOb.lit (by decide +kernel)) hb0.1 hb0.2 ?_
      refine z_iaddN dX11_isAhead_98 (show -2147483648 ≤ (26 * l) + (h 171 b) ∧ (26 * l) + (h 171 b) < 2147483648 from ⟨by omega, by omega⟩).1 (show -2147483648 ≤ (26 * l) + (h 171 b) ∧ (26 * l) + (h 171 b) < 2147483648 from ⟨by omega, by omega⟩).2 ?_
      refine z_iald dX11_isAhead_99 (zOb.lit (by decide +kernel)) (show 0 ≤ ((26 * l) + (h 171 b)) ∧ ((26 * l) + (h 171 b)) < 104 from ⟨by omega, by omega⟩).1 (show 0 ≤ ((26 * l) + (h 171 b)) ∧ ((26 * l) + (h 171 b)) < 104 from ⟨by omega, by omega⟩).2 ?_
      refine z_isubN dX11_isAhead_100 (show -2147483648 ≤ (h 209 ((26 * l) + (h 171 a))) - (h 209 ((26 * l) + (h 171 b))) ∧ (h 209 ((26 * l) + (h 171 a))) - (h 209 ((26 * l) + (h 171 b))) < 2147483648 from ⟨by omega, by omega⟩).1 (show -2147483648 ≤ (h 209 ((26 * l) + (h 171 a))) - (h 209 ((26 * l) + (h 171 b))) ∧ (h 209 ((26 * l) + (h 171 a))) - (h 209 ((26 * l) + (h 171 b))) < 2147483648 from ⟨by omega, by omega⟩).2 ?_
      refine z_istore (lv' := [(4, xI ((h 209 ((26 * l) + (h 171 a))) - (h 209 ((26 * l) + (h 171 b))))), (0, xR 169), (1, xI l), (2, xI a), (3, xI b)]) dX11_isAhead_101 (by decide) rfl ?_
      refine z_iload 0 dX11_isAhead_103 rfl ?_
      suffices KJ : zW mX11_isAhead X dep bc bs 239 131 [(4, xI ((h 209 ((26 * l) + (h 171 a))) - (h 209 ((26 * l) + (h 171 b))))), (0, xR 169), (1, xI l), (2, xI a), (3, xI b)] [xI (if ((h 209 ((26 * l) + (h 171 a))) - (h 209 ((26 * l) + (h 171 b)))) = 0 then if b ≤ a then 0 else 1 else if 0 ≤ ((h 209 ((26 * l) + (h 171 a))) - (h 209 ((26 * l) + (h 171 b)))) then 0 else 1 : Int)] h Q by
        refine z_if_ne (tgt := 121) dX11_isAhead_105 (by decide) (fun j1 => ?_) (fun j1 => ?_)
        ·
          refine z_iload 0 dX11_isAhead_121 rfl ?_
          refine z_if_ge (tgt := 130) dX11_isAhead_123 (by decide) (fun j2 => ?_) (fun j2 => ?_)
          ·
            refine z_iconst dX11_isAhead_130 (zi32_d rfl) ?_
            rw [if_neg j1] at KJ
            rw [if_pos j2] at KJ
            exact KJ
          ·
            refine z_iconst dX11_isAhead_126 (zi32_d rfl) ?_
            refine z_goto (tgt := 131) dX11_isAhead_127 (by decide) ?_
            rw [if_neg j1] at KJ
            rw [if_neg j2] at KJ
            exact KJ
        ·
          refine z_iload_n 3 dX11_isAhead_108 rfl ?_
          refine z_iload_n 4 dX11_isAhead_109 rfl ?_
          refine z_icmp_ge (tgt := 117) dX11_isAhead_110 (by decide) (fun j2 => ?_) (fun j2 => ?_)
          ·
            refine z_iconst dX11_isAhead_117 (zi32_d rfl) ?_
            refine z_goto (tgt := 131) dX11_isAhead_118 (by decide) ?_
            rw [if_pos j1] at KJ
            rw [if_pos j2] at KJ
            exact KJ
          ·
            refine z_iconst dX11_isAhead_113 (zi32_d rfl) ?_
            refine z_goto (tgt := 131) dX11_isAhead_114 (by decide) ?_
            rw [if_pos j1] at KJ
            rw [if_neg j2] at KJ
            exact KJ
      exact z_zret dX11_isAhead_131 rfl (by repeat (first | (left; rfl) | (right; rfl) | split)) (k2 c1 c2)
  ·
    refine z_aload_n 1 dX11_isAhead_30 rfl ?_
    refine z_getS (v := 208) (k := 60) (kz := 60) pk11 dX11_isAhead_31 (by decide) zb_1184 rfl (zOb.lit (by decide +kernel)) rfl (by decide +kernel) ?_
    refine z_bipush dX11_isAhead_34 (zi32_d rfl) (by decide) ?_
    refine z_iload_n 2 dX11_isAhead_36 rfl ?_
    refine z_imulN dX11_isAhead_37 (show -2147483648 ≤ 52 * l ∧ 52 * l < 2147483648 from ⟨by omega, by omega⟩).1 (show -2147483648 ≤ 52 * l ∧ 52 * l < 2147483648 from ⟨by omega, by omega⟩).2 ?_
    refine z_aload_n 1 dX11_isAhead_38 rfl ?_
    refine z_iload_n 3 dX11_isAhead_39 rfl ?_
    refine z_invF (ci := 11) (N := 97) (as := [xI a]) (st := [xI (52 * l), xR 208]) (ra := [xI a]) (dep' := dep - 1) (rs := [xI (h 214 a % 52)]) (h' := h) (f_X11_weekOf a (h := h) ha0 ha1) dX11_isAhead_40 nX11_weekOf zb_1675 zb_1677 zb_73 zb_92 (zOb.lit (by decide +kernel)) rfl (by omega) zne_I (Nat.le_of_ble_eq_true rfl) (Nat.le_of_ble_eq_true rfl) rfl ?_
    refine z_iaddN dX11_isAhead_43 (show -2147483648 ≤ (52 * l) + (h 214 a % 52) ∧ (52 * l) + (h 214 a % 52) < 2147483648 from ⟨by omega, by omega⟩).1 (show -2147483648 ≤ (52 * l) + (h 214 a % 52) ∧ (52 * l) + (h 214 a % 52) < 2147483648 from ⟨by omega, by omega⟩).2 ?_
    refine z_iald dX11_isAhead_44 (zOb.lit (by decide +kernel)) (show 0 ≤ ((52 * l) + (h 214 a % 52)) ∧ ((52 * l) + (h 214 a % 52)) < 208 from ⟨by omega, by omega⟩).1 (show 0 ≤ ((52 * l) + (h 214 a % 52)) ∧ ((52 * l) + (h 214 a % 52)) < 208 from ⟨by omega, by omega⟩).2 ?_
    refine z_aload_n 1 dX11_isAhead_45 rfl ?_
    refine z_getS (v := 208) (k := 60) (kz := 60) pk11 dX11_isAhead_46 (by decide) zb_1184 rfl (zOb.lit (by decide +kernel)) rfl (by decide +kernel) ?_
    refine z_bipush dX11_isAhead_49 (zi32_d rfl) (by decide) ?_
    refine z_iload_n 2 dX11_isAhead_51 rfl ?_
    refine z_imulN dX11_isAhead_52 (show -2147483648 ≤ 52 * l ∧ 52 * l < 2147483648 from ⟨by omega, by omega⟩).1 (show -2147483648 ≤ 52 * l ∧ 52 * l < 2147483648 from ⟨by omega, by omega⟩).2 ?_
    refine z_aload_n 1 dX11_isAhead_53 rfl ?_
    refine z_iload_n 4 dX11_isAhead_54 rfl ?_
    refine z_invF (ci := 11) (N := 97) (as := [xI b]) (st := [xI (52 * l), xR 208, xI (h 208 ((52 * l) + (h 214 a % 52)))]) (ra := [xI b]) (dep' := dep - 1) (rs := [xI (h 214 b % 52)]) (h' := h) (f_X11_weekOf b (h := h) hb0 hb1) dX11_isAhead_55 nX11_weekOf zb_1675 zb_1677 zb_73 zb_92 (zOb.lit (by decide +kernel)) rfl (by omega) zne_I (Nat.le_of_ble_eq_true rfl) (Nat.le_of_ble_eq_true rfl) rfl ?_
    refine z_iaddN dX11_isAhead_58 (show -2147483648 ≤ (52 * l) + (h 214 b % 52) ∧ (52 * l) + (h 214 b % 52) < 2147483648 from ⟨by omega, by omega⟩).1 (show -2147483648 ≤ (52 * l) + (h 214 b % 52) ∧ (52 * l) + (h 214 b % 52) < 2147483648 from ⟨by omega, by omega⟩).2 ?_
    refine z_iald dX11_isAhead_59 (zOb.lit (by decide +kernel)) (show 0 ≤ ((52 * l) + (h 214 b % 52)) ∧ ((52 * l) + (h 214 b % 52)) < 208 from ⟨by omega, by omega⟩).1 (show 0 ≤ ((52 * l) + (h 214 b % 52)) ∧ ((52 * l) + (h 214 b % 52)) < 208 from ⟨by omega, by omega⟩).2 ?_
    refine z_isubN dX11_isAhead_60 (show -2147483648 ≤ (h 208 ((52 * l) + (h 214 a % 52))) - (h 208 ((52 * l) + (h 214 b % 52))) ∧ (h 208 ((52 * l) + (h 214 a % 52))) - (h 208 ((52 * l) + (h 214 b % 52))) < 2147483648 from ⟨by omega, by omega⟩).1 (show -2147483648 ≤ (h 208 ((52 * l) + (h 214 a % 52))) - (h 208 ((52 * l) + (h 214 b % 52))) ∧ (h 208 ((52 * l) + (h 214 a % 52))) - (h 208 ((52 * l) + (h 214 b % 52))) < 2147483648 from ⟨by omega, by omega⟩).2 ?_
    refine z_istore (lv' := [(4, xI ((h 208 ((52 * l) + (h 214 a % 52))) - (h 208 ((52 * l) + (h 214 b % 52))))), (0, xR 169), (1, xI l), (2, xI a), (3, xI b)]) dX11_isAhead_61 (by decide) rfl ?_
    refine z_iload 0 dX11_isAhead_63 rfl ?_
    refine z_if_ne (tgt := 103) dX11_isAhead_65 (by decide) (fun c2 => ?_) (fun c2 => ?_)
    ·
      refine z_iload 0 dX11_isAhead_103 rfl ?_
      suffices KJ : zW mX11_isAhead X dep bc bs 239 131 [(4, xI ((h 208 ((52 * l) + (h 214 a % 52))) - (h 208 ((52 * l) + (h 214 b % 52))))), (0, xR 169), (1, xI l), (2, xI a), (3, xI b)] [xI (if ((h 208 ((52 * l) + (h 214 a % 52))) - (h 208 ((52 * l) + (h 214 b % 52)))) = 0 then if b ≤ a then 0 else 1 else if 0 ≤ ((h 208 ((52 * l) + (h 214 a % 52))) - (h 208 ((52 * l) + (h 214 b % 52)))) then 0 else 1 : Int)] h Q by
        refine z_if_ne (tgt := 121) dX11_isAhead_105 (by decide) (fun j1 => ?_) (fun j1 => ?_)
        ·
          refine z_iload 0 dX11_isAhead_121 rfl ?_
          refine z_if_ge (tgt := 130) dX11_isAhead_123 (by decide) (fun j2 => ?_) (fun j2 => ?_)
          ·
            refine z_iconst dX11_isAhead_130 (zi32_d rfl) ?_
            rw [if_neg j1] at KJ
            rw [if_pos j2] at KJ
            exact KJ
          ·
            refine z_iconst dX11_isAhead_126 (zi32_d rfl) ?_
            refine z_goto (tgt := 131) dX11_isAhead_127 (by decide) ?_
            rw [if_neg j1] at KJ
            rw [if_neg j2] at KJ
            exact KJ
        ·
          refine z_iload_n 3 dX11_isAhead_108 rfl ?_
          refine z_iload_n 4 dX11_isAhead_109 rfl ?_
          refine z_icmp_ge (tgt := 117) dX11_isAhead_110 (by decide) (fun j2 => ?_) (fun j2 => ?_)
          ·
            refine z_iconst dX11_isAhead_117 (zi32_d rfl) ?_
            refine z_goto (tgt := 131) dX11_isAhead_118 (by decide) ?_
            rw [if_pos j1] at KJ
            rw [if_pos j2] at KJ
            exact KJ
          ·
            refine z_iconst dX11_isAhead_113 (zi32_d rfl) ?_
            refine z_goto (tgt := 131) dX11_isAhead_114 (by decide) ?_
            rw [if_pos j1] at KJ
            rw [if_neg j2] at KJ
            exact KJ
      exact z_zret dX11_isAhead_131 rfl (by repeat (first | (left; rfl) | (right; rfl) | split)) (k3 c1 c2)
    ·
      refine z_aload_n 1 dX11_isAhead_68 rfl ?_
      refine z_getS (v := 209) (k := 61) (kz := 61) pk11 dX11_isAhead_69 (by decide) zb_1185 rfl (zOb.lit (by decide +kernel)) rfl (by decide +kernel) ?_
      refine z_bipush dX11_isAhead_72 (zi32_d rfl) (by decide) ?_
      refine z_iload_n 2 dX11_isAhead_74 rfl ?_
      refine z_imulN dX11_isAhead_75 (show -2147483648 ≤ 26 * l ∧ 26 * l < 2147483648 from ⟨by omega, by omega⟩).1 (show -2147483648 ≤ 26 * l ∧ 26 * l < 2147483648 from ⟨by omega, by omega⟩).2 ?_
      refine z_aload_n 1 dX11_isAhead_76 rfl ?_
      refine z_getS (v := 171) (k := 6) (kz := 6) pk11 dX11_isAhead_77 (by decide) zb_1130 rfl (zOb.lit (by decide +kernel)) rfl (by decide +kernel) ?_
      refine z_iload_n 3 dX11_isAhead_80 rfl ?_
      refine z_iald dX11_isAhead_81 (zOb.lit (by decide +kernel)) ha0.1 ha0.2 ?_
      refine z_iaddN dX11_isAhead_82 (show -2147483648 ≤ (26 * l) + (h 171 a) ∧ (26 * l) + (h 171 a) < 2147483648 from ⟨by omega, by omega⟩).1 (show -2147483648 ≤ (26 * l) + (h 171 a) ∧ (26 * l) + (h 171 a) < 2147483648 from ⟨by omega, by omega⟩).2 ?_
      refine z_iald dX11_isAhead_83 (zOb.lit (by decide +kernel)) (show 0 ≤ ((26 * l) + (h 171 a)) ∧ ((26 * l) + (h 171 a)) < 104 from ⟨by omega, by omega⟩).1 (show 0 ≤ ((26 * l) + (h 171 a)) ∧ ((26 * l) + (h 171 a)) < 104 from ⟨by omega, by omega⟩).2 ?_
      refine z_aload_n 1 dX11_isAhead_84 rfl ?_
      refine z_getS (v := 209) (k := 61) (kz := 61) pk11 dX11_isAhead_85 (by decide) zb_1185 rfl (zOb.lit (by decide +kernel)) rfl (by decide +kernel) ?_
      refine z_bipush dX11_isAhead_88 (zi32_d rfl) (by decide) ?_
      refine z_iload_n 2 dX11_isAhead_90 rfl ?_
      refine z_imulN dX11_isAhead_91 (show -2147483648 ≤ 26 * l ∧ 26 * l < 2147483648 from ⟨by omega, by omega⟩).1 (show -2147483648 ≤ 26 * l ∧ 26 * l < 2147483648 from ⟨by omega, by omega⟩).2 ?_
      refine z_aload_n 1 dX11_isAhead_92 rfl ?_
      refine z_getS (v := 171) (k := 6) (kz := 6) pk11 dX11_isAhead_93 (by decide) zb_1130 rfl (zOb.lit (by decide +kernel)) rfl (by decide +kernel) ?_
      refine z_iload_n 4 dX11_isAhead_96 rfl ?_
      refine z_iald dX11_isAhead_97 (zOb.lit (by decide +kernel)) hb0.1 hb0.2 ?_
      refine z_iaddN dX11_isAhead_98 (show -2147483648 ≤ (26 * l) + (h 171 b) ∧ (26 * l) + (h 171 b) < 2147483648 from ⟨by omega, by omega⟩).1 (show -2147483648 ≤ (26 * l) + (h 171 b) ∧ (26 * l) + (h 171 b) < 2147483648 from ⟨by omega, by omega⟩).2 ?_
      refine z_iald dX11_isAhead_99 (zOb.lit (by decide +kernel)) (show 0 ≤ ((26 * l) + (h 171 b)) ∧ ((26 * l) + (h 171 b)) < 104 from ⟨by omega, by omega⟩).1 (show 0 ≤ ((26 * l) + (h 171 b)) ∧ ((26 * l) + (h 171 b)) < 104 from ⟨by omega, by omega⟩).2 ?_
      refine z_isubN dX11_isAhead_100 (show -2147483648 ≤ (h 209 ((26 * l) + (h 171 a))) - (h 209 ((26 * l) + (h 171 b))) ∧ (h 209 ((26 * l) + (h 171 a))) - (h 209 ((26 * l) + (h 171 b))) < 2147483648 from ⟨by omega, by omega⟩).1 (show -2147483648 ≤ (h 209 ((26 * l) + (h 171 a))) - (h 209 ((26 * l) + (h 171 b))) ∧ (h 209 ((26 * l) + (h 171 a))) - (h 209 ((26 * l) + (h 171 b))) < 2147483648 from ⟨by omega, by omega⟩).2 ?_
      refine z_istore (lv' := [(4, xI ((h 209 ((26 * l) + (h 171 a))) - (h 209 ((26 * l) + (h 171 b))))), (0, xR 169), (1, xI l), (2, xI a), (3, xI b)]) dX11_isAhead_101 (by decide) rfl ?_
      refine z_iload 0 dX11_isAhead_103 rfl ?_
      suffices KJ : zW mX11_isAhead X dep bc bs 239 131 [(4, xI ((h 209 ((26 * l) + (h 171 a))) - (h 209 ((26 * l) + (h 171 b))))), (0, xR 169), (1, xI l), (2, xI a), (3, xI b)] [xI (if ((h 209 ((26 * l) + (h 171 a))) - (h 209 ((26 * l) + (h 171 b)))) = 0 then if b ≤ a then 0 else 1 else if 0 ≤ ((h 209 ((26 * l) + (h 171 a))) - (h 209 ((26 * l) + (h 171 b)))) then 0 else 1 : Int)] h Q by
        refine z_if_ne (tgt := 121) dX11_isAhead_105 (by decide) (fun j1 => ?_) (fun j1 => ?_)
        ·
          refine z_iload 0 dX11_isAhead_121 rfl ?_
          refine z_if_ge (tgt := 130) dX11_isAhead_123 (by decide) (fun j2 => ?_) (fun j2 => ?_)
          ·
            refine z_iconst dX11_isAhead_130 (zi32_d rfl) ?_
            rw [if_neg j1] at KJ
            rw [if_pos j2] at KJ
            exact KJ
          ·
            refine z_iconst dX11_isAhead_126 (zi32_d rfl) ?_
            refine z_goto (tgt := 131) dX11_isAhead_127 (by decide) ?_
            rw [if_neg j1] at KJ
            rw [if_neg j2] at KJ
            exact KJ
        ·
          refine z_iload_n 3 dX11_isAhead_108 rfl ?_
          refine z_iload_n 4 dX11_isAhead_109 rfl ?_
          refine z_icmp_ge (tgt := 117) dX11_isAhead_110 (by decide) (fun j2 => ?_) (fun j2 => ?_)
          ·
            refine z_iconst dX11_isAhead_117 (zi32_d rfl) ?_
            refine z_goto (tgt := 131) dX11_isAhead_118 (by decide) ?_
            rw [if_pos j1] at KJ
            rw [if_pos j2] at KJ
            exact KJ
          ·
            refine z_iconst dX11_isAhead_113 (zi32_d rfl) ?_
            refine z_goto (tgt := 131) dX11_isAhead_114 (by decide) ?_
            rw [if_pos j1] at KJ
            rw [if_neg j2] at KJ
            exact KJ
      exact z_zret dX11_isAhead_131 rfl (by repeat (first | (left; rfl) | (right; rfl) | split)) (k4 c1 c2)
theorem f_X11_isAhead {X : zX} {dep : Nat} (l : Int) (a : Int) (b : Int) {h : zH} (hl : 0 ≤ l ∧ l < 4) (ha0 : 0 ≤ a ∧ a < 60) (ha1 : -3120 ≤ h 214 a ∧ h 214 a < 520) (ha2 : 0 ≤ h 171 a ∧ h 171 a < 26) (ha3 : 0 ≤ h 221 (60 * l + a) ∧ h 221 (60 * l + a) ≤ 9) (ha4 : 0 ≤ h 208 (52 * l + h 214 a % 52) ∧ h 208 (52 * l + h 214 a % 52) < 52) (ha5 : 0 ≤ h 209 (26 * l + h 171 a) ∧ h 209 (26 * l + h 171 a) < 26) (hb0 : 0 ≤ b ∧ b < 60) (hb1 : -3120 ≤ h 214 b ∧ h 214 b < 520) (hb2 : 0 ≤ h 171 b ∧ h 171 b < 26) (hb3 : 0 ≤ h 221 (60 * l + b) ∧ h 221 (60 * l + b) ≤ 9) (hb4 : 0 ≤ h 208 (52 * l + h 214 b % 52) ∧ h 208 (52 * l + h 214 b % 52) < 52) (hb5 : 0 ≤ h 209 (26 * l + h 171 b) ∧ h 209 (26 * l + h 171 b) < 26) (hdep : 1 ≤ dep) : zW mX11_isAhead X dep 0 0 239 0 (zar 0 [xR 169, xI l, xI a, xI b]) [] h (zF h [xI (zb (h 221 (60 * l + a) < h 221 (60 * l + b) ∨ h 221 (60 * l + a) = h 221 (60 * l + b) ∧ (h 208 (52 * l + h 214 a % 52) < h 208 (52 * l + h 214 b % 52) ∨ h 208 (52 * l + h 214 a % 52) = h 208 (52 * l + h 214 b % 52) ∧ (h 209 (26 * l + h 171 a) < h 209 (26 * l + h 171 b) ∨ h 209 (26 * l + h 171 a) = h 209 (26 * l + h 171 b) ∧ a < b))))]) := by
  refine bX11_isAhead_0 l a b hl ha0 ha1 ha2 ha3 ha4 ha5 hb0 hb1 hb2 hb3 hb4 hb5 hdep ?_ ?_ ?_ ?_
  all_goals intros
  all_goals refine ⟨rfl, rfl, ?_⟩
  all_goals (first | rfl | (refine congrArg (fun x => [xI x]) ?_; unfold zb; (repeat' split) <;> first | rfl | omega))

/-! the model: people -/
/-- what the model keeps of SAMES and births names men -/
def mSaOK (h : zH) : Prop := (0 ≤ h 169 29 ∧ h 169 29 ≤ 40) ∧ ∀ k : Int, 0 ≤ k → k < h 169 29 → (0 ≤ h 187 k ∧ h 187 k < h 169 25) ∧ 0 ≤ h 188 k ∧ h 188 k < h 169 25
def mBiOK (h : zH) : Prop := (0 ≤ h 169 26 ∧ h 169 26 ≤ 100) ∧ ∀ k : Int, 0 ≤ k → k < h 169 26 → (0 ≤ h 174 k ∧ h 174 k < h 169 25) ∧ -3120 ≤ h 175 k ∧ h 175 k < 520
/-- a function that tells no difference between those who are known to be the same -/
def mInv (h : zH) (t : Int) (f : Int → Int) : Prop := ∀ k : Int, 0 ≤ k → k < h 169 29 → h 189 k ≤ t → f (h 187 k) = f (h 188 k)
/-- never later than the man himself, and the same man -/
def mLow (h : zH) (t : Int) (H : Int → Int) : Prop := ∀ m : Int, 0 ≤ m → m < h 169 25 → (0 ≤ H m ∧ H m ≤ m) ∧ ∀ f : Int → Int, mInv h t f → f (H m) = f m
def mWho (h : zH) (t : Int) (H : Int → Int) : Prop := mLow h t H ∧ mInv h t H
/-- the last that was written, of those rows that count -/
noncomputable def zlw (C : Int → Prop) (K V f : Int → Int) : Nat → Int → Int
  | 0, q => f q
  | r + 1, q => @ite Int (C r ∧ K r = q) (Classical.propDecidable _) (V r) (zlw C K V f r q)
theorem zlw_t {C : Int → Prop} {K V f : Int → Int} {r : Nat} (c : C r) (q : Int) : zlw C K V f (r + 1) q = if q = K r then V r else zlw C K V f r q := by
  by_cases e : q = K r
  · rw [if_pos e]
    exact if_pos ⟨c, e.symm⟩
  · rw [if_neg e]
    exact if_neg (fun z => e z.2.symm)
theorem zlw_f {C : Int → Prop} {K V f : Int → Int} {r : Nat} (c : ¬ C r) (q : Int) : zlw C K V f (r + 1) q = zlw C K V f r q := if_neg (fun z => c z.1)
theorem zsm_s (f : Int → Int) (n : Nat) : zsm f (n + 1) = zsm f n + f n := rfl
theorem zsm_le {f g : Int → Int} : ∀ n : Nat, (∀ k : Int, 0 ≤ k → k < n → f k ≤ g k) → zsm f n ≤ zsm g n
  | 0, _ => Int.le_refl _
  | n + 1, hh => by
    have i1 := zsm_le n (fun k a b => hh k a (by omega))
    have i2 := hh n (by omega) (by omega)
    rw [zsm_s, zsm_s]
    omega
theorem zsm_lt {f g : Int → Int} (m : Int) (m0 : 0 ≤ m) (hm : f m < g m) : ∀ n : Nat, m < n → (∀ k : Int, 0 ≤ k → k < n → f k ≤ g k) → zsm f n < zsm g n
  | 0, c, _ => by omega
  | n + 1, c, hh => by
    have i2 := hh n (by omega) (by omega)
    rw [zsm_s, zsm_s]
    by_cases e : m = n
    · have i1 := zsm_le n (fun k a b => hh k a (by omega))
      rw [e] at hm
      omega
    · have i1 := zsm_lt m m0 hm n (by omega) (fun k a b => hh k a (by omega))
      omega

set_option maxRecDepth 20000 in
theorem bX11_people_0 {X : zX} {dep bc bs : Nat} (t : Int) {h : zH} {Q : Nat → zH → List zV → Prop}
    (k1 : zW mX11_people X dep bc bs 239 2 [(0, xR 169), (1, xI t), (2, xI 0)] [] h Q) : zW mX11_people X dep bc bs 239 0 [(0, xR 169), (1, xI t)] [] h Q := by
  refine z_iconst dX11_people_0 (zi32_d rfl) ?_
  refine z_istore_n (lv' := [(2, xI 0), (0, xR 169), (1, xI t)]) dX11_people_1 (by decide) rfl ?_
  refine zW.sub (lv' := [(0, xR 169), (1, xI t), (2, xI 0)]) [1, 2, 0] rfl ?_
  exact k1

set_option maxRecDepth 20000 in
theorem bX11_people_2 {X : zX} {dep bc bs : Nat} (t : Int) (i : Int) {g : zH} {Q : Nat → zH → List zV → Prop} (hm : 0 ≤ g 169 25 ∧ g 169 25 ≤ 60) (hi : 0 ≤ i)
    (k1 : (g 169 25) ≤ i → zW mX11_people X dep bc bs 239 32 [(0, xR 169), (1, xI t), (2, xI 1)] [] g Q)
    (k2 : ¬ ((g 169 25) ≤ i) → zW mX11_people X dep bc bs 239 2 [(0, xR 169), (1, xI t), (2, xI (i + 1))] [] (zst (zst g 213 i i) 216 i 0) Q) : zW mX11_people X dep bc bs 239 2 [(0, xR 169), (1, xI t), (2, xI i)] [] g Q := by
  refine z_iload_n 2 dX11_people_2 rfl ?_
  refine z_aload_n 0 dX11_people_3 rfl ?_
  refine z_getI (k := 25) (kz := 25) pk11 dX11_people_4 (by decide) zb_1149 rfl (zOb.lit (by decide +kernel)) rfl ?_
  refine z_icmp_ge (tgt := 30) dX11_people_7 (by decide) (fun c1 => ?_) (fun c1 => ?_)
  ·
    refine z_iconst dX11_people_30 (zi32_d rfl) ?_
    refine z_istore_n (lv' := [(2, xI 1), (0, xR 169), (1, xI t)]) dX11_people_31 (by decide) rfl ?_
    refine zW.sub (lv' := [(0, xR 169), (1, xI t), (2, xI 1)]) [1, 2, 0] rfl ?_
    exact k1 c1
  ·
    refine z_aload_n 0 dX11_people_10 rfl ?_
    refine z_getS (v := 213) (k := 66) (kz := 66) pk11 dX11_people_11 (by decide) zb_1190 rfl (zOb.lit (by decide +kernel)) rfl (by decide +kernel) ?_
    refine z_iload_n 2 dX11_people_14 rfl ?_
    refine z_iload_n 2 dX11_people_15 rfl ?_
    refine z_iast dX11_people_16 (zOb.lit (by decide +kernel)) (show 0 ≤ i ∧ i < 60 from ⟨by omega, by omega⟩).1 (show 0 ≤ i ∧ i < 60 from ⟨by omega, by omega⟩).2 ?_
    refine z_aload_n 0 dX11_people_17 rfl ?_
    refine z_getS (v := 216) (k := 69) (kz := 69) pk11 dX11_people_18 (by decide) zb_1193 rfl (zOb.lit (by decide +kernel)) rfl (by decide +kernel) ?_
    refine z_iload_n 2 dX11_people_21 rfl ?_
    refine z_iconst dX11_people_22 (zi32_d rfl) ?_
    refine z_zast dX11_people_23 (zOb.lit (by decide +kernel)) (show 0 ≤ i ∧ i < 60 from ⟨by omega, by omega⟩).1 (show 0 ≤ i ∧ i < 60 from ⟨by omega, by omega⟩).2 (Or.inl rfl) ?_
    refine z_iincN (lv' := [(2, xI (i + 1)), (0, xR 169), (1, xI t)]) 2 dX11_people_24 rfl (by decide) rfl (show -2147483648 ≤ i + 1 ∧ i + 1 < 2147483648 from ⟨by omega, by omega⟩).1 (show -2147483648 ≤ i + 1 ∧ i + 1 < 2147483648 from ⟨by omega, by omega⟩).2 ?_
    refine z_goto (tgt := 2) dX11_people_27 (by decide) ?_
    refine zW.sub (lv' := [(0, xR 169), (1, xI t), (2, xI (i + 1))]) [1, 2, 0] rfl ?_
    exact k2 c1

set_option maxRecDepth 20000 in
theorem bX11_people_32 {X : zX} {dep bc bs : Nat} (t : Int) (y : Int) {g : zH} {Q : Nat → zH → List zV → Prop}
    (k1 : y = 0 → zW mX11_people X dep bc bs 239 160 [(0, xR 169), (1, xI t), (3, xI 0)] [] g Q)
    (k2 : ¬ (y = 0) → zW mX11_people X dep bc bs 239 40 [(0, xR 169), (1, xI t), (2, xI 0), (3, xI 0)] [] g Q) : zW mX11_people X dep bc bs 239 32 [(0, xR 169), (1, xI t), (2, xI y)] [] g Q := by
  refine z_iload_n 2 dX11_people_32 rfl ?_
  refine z_if_eq (tgt := 158) dX11_people_33 (by decide) (fun c1 => ?_) (fun c1 => ?_)
  ·
    refine z_iconst dX11_people_158 (zi32_d rfl) ?_
    refine z_istore_n (lv' := [(3, xI 0), (0, xR 169), (1, xI t), (2, xI y)]) dX11_people_159 (by decide) rfl ?_
    refine zW.sub (lv' := [(0, xR 169), (1, xI t), (3, xI 0)]) [1, 2, 0] rfl ?_
    exact k1 c1
  ·
    refine z_iconst dX11_people_36 (zi32_d rfl) ?_
    refine z_istore_n (lv' := [(2, xI 0), (0, xR 169), (1, xI t)]) dX11_people_37 (by decide) rfl ?_
    refine z_iconst dX11_people_38 (zi32_d rfl) ?_
    refine z_istore_n (lv' := [(3, xI 0), (2, xI 0), (0, xR 169), (1, xI t)]) dX11_people_39 (by decide) rfl ?_
    refine zW.sub (lv' := [(0, xR 169), (1, xI t), (2, xI 0), (3, xI 0)]) [2, 3, 1, 0] rfl ?_
    exact k2 c1

set_option maxRecDepth 20000 in
theorem bX11_people_40 {X : zX} {dep bc bs : Nat} (t : Int) (y : Int) (k : Int) {g : zH} {Q : Nat → zH → List zV → Prop} (hm : 0 ≤ g 169 25 ∧ g 169 25 ≤ 60) (hs : 0 ≤ g 169 29 ∧ g 169 29 ≤ 40) (hk : 0 ≤ k) (h1 : g 169 29 ≤ k ∨ (0 ≤ g 187 k ∧ g 187 k < g 169 25)) (h2 : g 169 29 ≤ k ∨ (0 ≤ g 188 k ∧ g 188 k < g 169 25))
    (k1 : (g 169 29) ≤ k → zW mX11_people X dep bc bs 239 32 [(0, xR 169), (1, xI t), (2, xI y)] [] g Q)
    (k2 : ¬ ((g 169 29) ≤ k) → (g 189 k) ≤ t → ¬ (g 213 (g 187 k)) = (g 213 (g 188 k)) → (g 213 (g 188 k)) ≤ (g 213 (g 187 k)) → (g 213 (g 188 k)) ≤ (g 213 (g 187 k)) → zW mX11_people X dep bc bs 239 40 [(0, xR 169), (1, xI t), (2, xI 1), (3, xI (k + 1))] [] (zst (zst g 213 (g 187 k) (g 213 (g 188 k))) 213 (g 188 k) (g 213 (g 188 k))) Q)
    (k3 : ¬ ((g 169 29) ≤ k) → (g 189 k) ≤ t → ¬ (g 213 (g 187 k)) = (g 213 (g 188 k)) → (g 213 (g 188 k)) ≤ (g 213 (g 187 k)) → ¬ ((g 213 (g 188 k)) ≤ (g 213 (g 187 k))) → zW mX11_people X dep bc bs 239 40 [(0, xR 169), (1, xI t), (2, xI 1), (3, xI (k + 1))] [] (zst (zst g 213 (g 187 k) (g 213 (g 188 k))) 213 (g 188 k) (g 213 (g 187 k))) Q)
    (k4 : ¬ ((g 169 29) ≤ k) → (g 189 k) ≤ t → ¬ (g 213 (g 187 k)) = (g 213 (g 188 k)) → ¬ ((g 213 (g 188 k)) ≤ (g 213 (g 187 k))) → (g 213 (g 188 k)) ≤ (g 213 (g 187 k)) → zW mX11_people X dep bc bs 239 40 [(0, xR 169), (1, xI t), (2, xI 1), (3, xI (k + 1))] [] (zst (zst g 213 (g 187 k) (g 213 (g 187 k))) 213 (g 188 k) (g 213 (g 188 k))) Q)
    (k5 : ¬ ((g 169 29) ≤ k) → (g 189 k) ≤ t → ¬ (g 213 (g 187 k)) = (g 213 (g 188 k)) → ¬ ((g 213 (g 188 k)) ≤ (g 213 (g 187 k))) → ¬ ((g 213 (g 188 k)) ≤ (g 213 (g 187 k))) → zW mX11_people X dep bc bs 239 40 [(0, xR 169), (1, xI t), (2, xI 1), (3, xI (k + 1))] [] (zst (zst g 213 (g 187 k) (g 213 (g 187 k))) 213 (g 188 k) (g 213 (g 187 k))) Q)
    (k6 : ¬ ((g 169 29) ≤ k) → (g 189 k) ≤ t → (g 213 (g 187 k)) = (g 213 (g 188 k)) → zW mX11_people X dep bc bs 239 40 [(0, xR 169), (1, xI t), (2, xI y), (3, xI (k + 1))] [] g Q)
    (k7 : ¬ ((g 169 29) ≤ k) → ¬ ((g 189 k) ≤ t) → zW mX11_people X dep bc bs 239 40 [(0, xR 169), (1, xI t), (2, xI y), (3, xI (k + 1))] [] g Q) : zW mX11_people X dep bc bs 239 40 [(0, xR 169), (1, xI t), (2, xI y), (3, xI k)] [] g Q := by
  refine z_iload_n 3 dX11_people_40 rfl ?_
  refine z_aload_n 0 dX11_people_41 rfl ?_
  refine z_getI (k := 29) (kz := 29) pk11 dX11_people_42 (by decide) zb_1153 rfl (zOb.lit (by decide +kernel)) rfl ?_
  refine z_icmp_ge (tgt := 155) dX11_people_45 (by decide) (fun c1 => ?_) (fun c1 => ?_)
  ·
    refine z_goto (tgt := 32) dX11_people_155 (by decide) ?_
    refine zW.sub (lv' := [(0, xR 169), (1, xI t), (2, xI y)]) [0, 1, 2] rfl ?_
    exact k1 c1
  ·
    refine z_aload_n 0 dX11_people_48 rfl ?_
    refine z_getS (v := 189) (k := 24) (kz := 24) pk11 dX11_people_49 (by decide) zb_1148 rfl (zOb.lit (by decide +kernel)) rfl (by decide +kernel) ?_
    refine z_iload_n 3 dX11_people_52 rfl ?_
    refine z_iald dX11_people_53 (zOb.lit (by decide +kernel)) (show 0 ≤ k ∧ k < 40 from ⟨by omega, by omega⟩).1 (show 0 ≤ k ∧ k < 40 from ⟨by omega, by omega⟩).2 ?_
    refine z_iload_n 1 dX11_people_54 rfl ?_
    refine z_icmp_le (tgt := 61) dX11_people_55 (by decide) (fun c2 => ?_) (fun c2 => ?_)
    ·
      refine z_aload_n 0 dX11_people_61 rfl ?_
      refine z_getS (v := 213) (k := 66) (kz := 66) pk11 dX11_people_62 (by decide) zb_1190 rfl (zOb.lit (by decide +kernel)) rfl (by decide +kernel) ?_
      refine z_aload_n 0 dX11_people_65 rfl ?_
      refine z_getS (v := 187) (k := 22) (kz := 22) pk11 dX11_people_66 (by decide) zb_1146 rfl (zOb.lit (by decide +kernel)) rfl (by decide +kernel) ?_
      refine z_iload_n 3 dX11_people_69 rfl ?_
      refine z_iald dX11_people_70 (zOb.lit (by decide +kernel)) (show 0 ≤ k ∧ k < 40 from ⟨by omega, by omega⟩).1 (show 0 ≤ k ∧ k < 40 from ⟨by omega, by omega⟩).2 ?_
      refine z_iald dX11_people_71 (zOb.lit (by decide +kernel)) (show 0 ≤ (g 187 k) ∧ (g 187 k) < 60 from ⟨by omega, by omega⟩).1 (show 0 ≤ (g 187 k) ∧ (g 187 k) < 60 from ⟨by omega, by omega⟩).2 ?_
      refine z_istore (lv' := [(4, xI (g 213 (g 187 k))), (0, xR 169), (1, xI t), (2, xI y), (3, xI k)]) dX11_people_72 (by decide) rfl ?_
      refine z_aload_n 1 dX11_people_74 rfl ?_
      refine z_getS (v := 213) (k := 66) (kz := 66) pk11 dX11_people_75 (by decide) zb_1190 rfl (zOb.lit (by decide +kernel)) rfl (by decide +kernel) ?_
      refine z_aload_n 1 dX11_people_78 rfl ?_
      refine z_getS (v := 188) (k := 23) (kz := 23) pk11 dX11_people_79 (by decide) zb_1147 rfl (zOb.lit (by decide +kernel)) rfl (by decide +kernel) ?_
      refine z_iload_n 4 dX11_people_82 rfl ?_
      refine z_iald dX11_people_83 (zOb.lit (by decide +kernel)) (show 0 ≤ k ∧ k < 40 from ⟨by omega, by omega⟩).1 (show 0 ≤ k ∧ k < 40 from ⟨by omega, by omega⟩).2 ?_
      refine z_iald dX11_people_84 (zOb.lit (by decide +kernel)) (show 0 ≤ (g 188 k) ∧ (g 188 k) < 60 from ⟨by omega, by omega⟩).1 (show 0 ≤ (g 188 k) ∧ (g 188 k) < 60 from ⟨by omega, by omega⟩).2 ?_
      refine z_istore (lv' := [(5, xI (g 213 (g 188 k))), (4, xI (g 213 (g 187 k))), (0, xR 169), (1, xI t), (2, xI y), (3, xI k)]) dX11_people_85 (by decide) rfl ?_
      refine z_iload 1 dX11_people_87 rfl ?_
      refine z_iload 0 dX11_people_89 rfl ?_
      refine z_icmp_ne (tgt := 97) dX11_people_91 (by decide) (fun c3 => ?_) (fun c3 => ?_)
      ·
        refine z_aload_n 2 dX11_people_97 rfl ?_
        refine z_getS (v := 213) (k := 66) (kz := 66) pk11 dX11_people_98 (by decide) zb_1190 rfl (zOb.lit (by decide +kernel)) rfl (by decide +kernel) ?_
        refine z_aload_n 2 dX11_people_101 rfl ?_
        refine z_getS (v := 187) (k := 22) (kz := 22) pk11 dX11_people_102 (by decide) zb_1146 rfl (zOb.lit (by decide +kernel)) rfl (by decide +kernel) ?_
        refine z_iload_n 5 dX11_people_105 rfl ?_
        refine z_iald dX11_people_106 (zOb.lit (by decide +kernel)) (show 0 ≤ k ∧ k < 40 from ⟨by omega, by omega⟩).1 (show 0 ≤ k ∧ k < 40 from ⟨by omega, by omega⟩).2 ?_
        refine z_iload 1 dX11_people_107 rfl ?_
        refine z_iload 0 dX11_people_109 rfl ?_
        refine z_icmp_ge (tgt := 119) dX11_people_111 (by decide) (fun c4 => ?_) (fun c4 => ?_)
        ·
          refine z_iload 0 dX11_people_119 rfl ?_
          refine z_iast dX11_people_121 (zOb.lit (by decide +kernel)) (show 0 ≤ (g 187 k) ∧ (g 187 k) < 60 from ⟨by omega, by omega⟩).1 (show 0 ≤ (g 187 k) ∧ (g 187 k) < 60 from ⟨by omega, by omega⟩).2 ?_
          refine z_aload_n 2 dX11_people_122 rfl ?_
          refine z_getS (v := 213) (k := 66) (kz := 66) pk11 dX11_people_123 (by decide) zb_1190 rfl (zOb.lit (by decide +kernel)) rfl (by decide +kernel) ?_
          refine z_aload_n 2 dX11_people_126 rfl ?_
          refine z_getS (v := 188) (k := 23) (kz := 23) pk11 dX11_people_127 (by decide) zb_1147 rfl (zOb.lit (by decide +kernel)) rfl (by decide +kernel) ?_
          refine z_iload_n 5 dX11_people_130 rfl ?_
          refine z_ialdV (v := (g 188 k)) dX11_people_131 (zOb.lit (by decide +kernel)) (show 0 ≤ k ∧ k < 40 from ⟨by omega, by omega⟩).1 (show 0 ≤ k ∧ k < 40 from ⟨by omega, by omega⟩).2 (zst_ne (Or.inl (by decide))) ?_
          refine z_iload 1 dX11_people_132 rfl ?_
          refine z_iload 0 dX11_people_134 rfl ?_
          refine z_icmp_ge (tgt := 144) dX11_people_136 (by decide) (fun c5 => ?_) (fun c5 => ?_)
          ·
            refine z_iload 0 dX11_people_144 rfl ?_
            refine z_iast dX11_people_146 (zOb.lit (by decide +kernel)) (show 0 ≤ (g 188 k) ∧ (g 188 k) < 60 from ⟨by omega, by omega⟩).1 (show 0 ≤ (g 188 k) ∧ (g 188 k) < 60 from ⟨by omega, by omega⟩).2 ?_
            refine z_iconst dX11_people_147 (zi32_d rfl) ?_
            refine z_istore_n (lv' := [(2, xI 1), (5, xI (g 213 (g 188 k))), (4, xI (g 213 (g 187 k))), (0, xR 169), (1, xI t), (3, xI k)]) dX11_people_148 (by decide) rfl ?_
            refine z_iincN (lv' := [(3, xI (k + 1)), (2, xI 1), (5, xI (g 213 (g 188 k))), (4, xI (g 213 (g 187 k))), (0, xR 169), (1, xI t)]) 5 dX11_people_149 rfl (by decide) rfl (show -2147483648 ≤ k + 1 ∧ k + 1 < 2147483648 from ⟨by omega, by omega⟩).1 (show -2147483648 ≤ k + 1 ∧ k + 1 < 2147483648 from ⟨by omega, by omega⟩).2 ?_
            refine z_goto (tgt := 40) dX11_people_152 (by decide) ?_
            refine zW.sub (lv' := [(0, xR 169), (1, xI t), (2, xI 1), (3, xI (k + 1))]) [4, 5, 1, 0] rfl ?_
            exact k2 c1 c2 c3 c4 c5
          ·
            refine z_iload 1 dX11_people_139 rfl ?_
            refine z_goto (tgt := 146) dX11_people_141 (by decide) ?_
            refine z_iast dX11_people_146 (zOb.lit (by decide +kernel)) (show 0 ≤ (g 188 k) ∧ (g 188 k) < 60 from ⟨by omega, by omega⟩).1 (show 0 ≤ (g 188 k) ∧ (g 188 k) < 60 from ⟨by omega, by omega⟩).2 ?_
            refine z_iconst dX11_people_147 (zi32_d rfl) ?_
            refine z_istore_n (lv' := [(2, xI 1), (5, xI (g 213 (g 188 k))), (4, xI (g 213 (g 187 k))), (0, xR 169), (1, xI t), (3, xI k)]) dX11_people_148 (by decide) rfl ?_
            refine z_iincN (lv' := [(3, xI (k + 1)), (2, xI 1), (5, xI (g 213 (g 188 k))), (4, xI (g 213 (g 187 k))), (0, xR 169), (1, xI t)]) 5 dX11_people_149 rfl (by decide) rfl (show -2147483648 ≤ k + 1 ∧ k + 1 < 2147483648 from ⟨by omega, by omega⟩).1 (show -2147483648 ≤ k + 1 ∧ k + 1 < 2147483648 from ⟨by omega, by omega⟩).2 ?_
            refine z_goto (tgt := 40) dX11_people_152 (by decide) ?_
            refine zW.sub (lv' := [(0, xR 169), (1, xI t), (2, xI 1), (3, xI (k + 1))]) [4, 5, 1, 0] rfl ?_
            exact k3 c1 c2 c3 c4 c5
        ·
          refine z_iload 1 dX11_people_114 rfl ?_
          refine z_goto (tgt := 121) dX11_people_116 (by decide) ?_
          refine z_iast dX11_people_121 (zOb.lit (by decide +kernel)) (show 0 ≤ (g 187 k) ∧ (g 187 k) < 60 from ⟨by omega, by omega⟩).1 (show 0 ≤ (g 187 k) ∧ (g 187 k) < 60 from ⟨by omega, by omega⟩).2 ?_
          refine z_aload_n 2 dX11_people_122 rfl ?_
          refine z_getS (v := 213) (k := 66) (kz := 66) pk11 dX11_people_123 (by decide) zb_1190 rfl (zOb.lit (by decide +kernel)) rfl (by decide +kernel) ?_
          refine z_aload_n 2 dX11_people_126 rfl ?_
          refine z_getS (v := 188) (k := 23) (kz := 23) pk11 dX11_people_127 (by decide) zb_1147 rfl (zOb.lit (by decide +kernel)) rfl (by decide +kernel) ?_
          refine z_iload_n 5 dX11_people_130 rfl ?_
          refine z_ialdV (v := (g 188 k)) dX11_people_131 (zOb.lit (by decide +kernel)) (show 0 ≤ k ∧ k < 40 from ⟨by omega, by omega⟩).1 (show 0 ≤ k ∧ k < 40 from ⟨by omega, by omega⟩).2 (zst_ne (Or.inl (by decide))) ?_
          refine z_iload 1 dX11_people_132 rfl ?_
          refine z_iload 0 dX11_people_134 rfl ?_
          refine z_icmp_ge (tgt := 144) dX11_people_136 (by decide) (fun c5 => ?_) (fun c5 => ?_)
          ·
            refine z_iload 0 dX11_people_144 rfl ?_
            refine z_iast dX11_people_146 (zOb.lit (by decide +kernel)) (show 0 ≤ (g 188 k) ∧ (g 188 k) < 60 from ⟨by omega, by omega⟩).1 (show 0 ≤ (g 188 k) ∧ (g 188 k) < 60 from ⟨by omega, by omega⟩).2 ?_
            refine z_iconst dX11_people_147 (zi32_d rfl) ?_
            refine z_istore_n (lv' := [(2, xI 1), (5, xI (g 213 (g 188 k))), (4, xI (g 213 (g 187 k))), (0, xR 169), (1, xI t), (3, xI k)]) dX11_people_148 (by decide) rfl ?_
            refine z_iincN (lv' := [(3, xI (k + 1)), (2, xI 1), (5, xI (g 213 (g 188 k))), (4, xI (g 213 (g 187 k))), (0, xR 169), (1, xI t)]) 5 dX11_people_149 rfl (by decide) rfl (show -2147483648 ≤ k + 1 ∧ k + 1 < 2147483648 from ⟨by omega, by omega⟩).1 (show -2147483648 ≤ k + 1 ∧ k + 1 < 2147483648 from ⟨by omega, by omega⟩).2 ?_
            refine z_goto (tgt := 40) dX11_people_152 (by decide) ?_
            refine zW.sub (lv' := [(0, xR 169), (1, xI t), (2, xI 1), (3, xI (k + 1))]) [4, 5, 1, 0] rfl ?_
            exact k4 c1 c2 c3 c4 c5
          ·
            refine z_iload 1 dX11_people_139 rfl ?_
            refine z_goto (tgt := 146) dX11_people_141 (by decide) ?_
            refine z_iast dX11_people_146 (zOb.lit (by decide +kernel)) (show 0 ≤ (g 188 k) ∧ (g 188 k) < 60 from ⟨by omega, by omega⟩).1 (show 0 ≤ (g 188 k) ∧ (g 188 k) < 60 from ⟨by omega, by omega⟩).2 ?_
            refine z_iconst dX11_people_147 (zi32_d rfl) ?_
            refine z_istore_n (lv' := [(2, xI 1), (5, xI (g 213 (g 188 k))), (4, xI (g 213 (g 187 k))), (0, xR 169), (1, xI t), (3, xI k)]) dX11_people_148 (by decide) rfl ?_
            refine z_iincN (lv' := [(3, xI (k + 1)), (2, xI 1), (5, xI (g 213 (g 188 k))), (4, xI (g 213 (g 187 k))), (0, xR 169), (1, xI t)]) 5 dX11_people_149 rfl (by decide) rfl (show -2147483648 ≤ k + 1 ∧ k + 1 < 2147483648 from ⟨by omega, by omega⟩).1 (show -2147483648 ≤ k + 1 ∧ k + 1 < 2147483648 from ⟨by omega, by omega⟩).2 ?_
            refine z_goto (tgt := 40) dX11_people_152 (by decide) ?_
            refine zW.sub (lv' := [(0, xR 169), (1, xI t), (2, xI 1), (3, xI (k + 1))]) [4, 5, 1, 0] rfl ?_
            exact k5 c1 c2 c3 c4 c5
      ·
        refine z_goto (tgt := 149) dX11_people_94 (by decide) ?_
        refine z_iincN (lv' := [(3, xI (k + 1)), (5, xI (g 213 (g 188 k))), (4, xI (g 213 (g 187 k))), (0, xR 169), (1, xI t), (2, xI y)]) 5 dX11_people_149 rfl (by decide) rfl (show -2147483648 ≤ k + 1 ∧ k + 1 < 2147483648 from ⟨by omega, by omega⟩).1 (show -2147483648 ≤ k + 1 ∧ k + 1 < 2147483648 from ⟨by omega, by omega⟩).2 ?_
        refine z_goto (tgt := 40) dX11_people_152 (by decide) ?_
        refine zW.sub (lv' := [(0, xR 169), (1, xI t), (2, xI y), (3, xI (k + 1))]) [3, 4, 5, 0] rfl ?_
        exact k6 c1 c2 c3
    ·
      refine z_goto (tgt := 149) dX11_people_58 (by decide) ?_
      refine z_iincN (lv' := [(3, xI (k + 1)), (0, xR 169), (1, xI t), (2, xI y)]) 3 dX11_people_149 rfl (by decide) rfl (show -2147483648 ≤ k + 1 ∧ k + 1 < 2147483648 from ⟨by omega, by omega⟩).1 (show -2147483648 ≤ k + 1 ∧ k + 1 < 2147483648 from ⟨by omega, by omega⟩).2 ?_
      refine z_goto (tgt := 40) dX11_people_152 (by decide) ?_
      refine zW.sub (lv' := [(0, xR 169), (1, xI t), (2, xI y), (3, xI (k + 1))]) [1, 2, 3, 0] rfl ?_
      exact k7 c1 c2

set_option maxRecDepth 20000 in
theorem bX11_people_160 {X : zX} {dep bc bs : Nat} (t : Int) (k : Int) {g : zH} {Q : Nat → zH → List zV → Prop} (hm : 0 ≤ g 169 25 ∧ g 169 25 ≤ 60) (hs : 0 ≤ g 169 26 ∧ g 169 26 ≤ 100) (hk : 0 ≤ k) (h1 : g 169 26 ≤ k ∨ (0 ≤ g 174 k ∧ g 174 k < g 169 25))
    (k1 : (g 169 26) ≤ k → zW mX11_people X dep bc bs 239 218 [(0, xR 169), (1, xI t), (3, xI 0)] [] g Q)
    (k2 : ¬ ((g 169 26) ≤ k) → (g 176 k) ≤ t → zW mX11_people X dep bc bs 239 160 [(0, xR 169), (1, xI t), (3, xI (k + 1))] [] (zst (zst g 216 (g 174 k) 1) 214 (g 174 k) (g 175 k)) Q)
    (k3 : ¬ ((g 169 26) ≤ k) → ¬ ((g 176 k) ≤ t) → zW mX11_people X dep bc bs 239 160 [(0, xR 169), (1, xI t), (3, xI (k + 1))] [] g Q) : zW mX11_people X dep bc bs 239 160 [(0, xR 169), (1, xI t), (3, xI k)] [] g Q := by
  refine z_iload_n 2 dX11_people_160 rfl ?_
  refine z_aload_n 0 dX11_people_161 rfl ?_
  refine z_getI (k := 26) (kz := 26) pk11 dX11_people_162 (by decide) zb_1150 rfl (zOb.lit (by decide +kernel)) rfl ?_
  refine z_icmp_ge (tgt := 216) dX11_people_165 (by decide) (fun c1 => ?_) (fun c1 => ?_)
  ·
    refine z_iconst dX11_people_216 (zi32_d rfl) ?_
    refine z_istore_n (lv' := [(3, xI 0), (0, xR 169), (1, xI t)]) dX11_people_217 (by decide) rfl ?_
    refine zW.sub (lv' := [(0, xR 169), (1, xI t), (3, xI 0)]) [1, 2, 0] rfl ?_
    exact k1 c1
  ·
    refine z_aload_n 0 dX11_people_168 rfl ?_
    refine z_getS (v := 176) (k := 11) (kz := 11) pk11 dX11_people_169 (by decide) zb_1135 rfl (zOb.lit (by decide +kernel)) rfl (by decide +kernel) ?_
    refine z_iload_n 2 dX11_people_172 rfl ?_
    refine z_iald dX11_people_173 (zOb.lit (by decide +kernel)) (show 0 ≤ k ∧ k < 100 from ⟨by omega, by omega⟩).1 (show 0 ≤ k ∧ k < 100 from ⟨by omega, by omega⟩).2 ?_
    refine z_iload_n 1 dX11_people_174 rfl ?_
    refine z_icmp_le (tgt := 181) dX11_people_175 (by decide) (fun c2 => ?_) (fun c2 => ?_)
    ·
      refine z_aload_n 0 dX11_people_181 rfl ?_
      refine z_getS (v := 216) (k := 69) (kz := 69) pk11 dX11_people_182 (by decide) zb_1193 rfl (zOb.lit (by decide +kernel)) rfl (by decide +kernel) ?_
      refine z_aload_n 0 dX11_people_185 rfl ?_
      refine z_getS (v := 174) (k := 9) (kz := 9) pk11 dX11_people_186 (by decide) zb_1133 rfl (zOb.lit (by decide +kernel)) rfl (by decide +kernel) ?_
      refine z_iload_n 2 dX11_people_189 rfl ?_
      refine z_iald dX11_people_190 (zOb.lit (by decide +kernel)) (show 0 ≤ k ∧ k < 100 from ⟨by omega, by omega⟩).1 (show 0 ≤ k ∧ k < 100 from ⟨by omega, by omega⟩).2 ?_
      refine z_iconst dX11_people_191 (zi32_d rfl) ?_
      refine z_zast dX11_people_192 (zOb.lit (by decide +kernel)) (show 0 ≤ (g 174 k) ∧ (g 174 k) < 60 from ⟨by omega, by omega⟩).1 (show 0 ≤ (g 174 k) ∧ (g 174 k) < 60 from ⟨by omega, by omega⟩).2 (Or.inr rfl) ?_
      refine z_aload_n 0 dX11_people_193 rfl ?_
      refine z_getS (v := 214) (k := 67) (kz := 67) pk11 dX11_people_194 (by decide) zb_1191 rfl (zOb.lit (by decide +kernel)) rfl (by decide +kernel) ?_
      refine z_aload_n 0 dX11_people_197 rfl ?_
      refine z_getS (v := 174) (k := 9) (kz := 9) pk11 dX11_people_198 (by decide) zb_1133 rfl (zOb.lit (by decide +kernel)) rfl (by decide +kernel) ?_
      refine z_iload_n 2 dX11_people_201 rfl ?_
      refine z_ialdV (v := (g 174 k)) dX11_people_202 (zOb.lit (by decide +kernel)) (show 0 ≤ k ∧ k < 100 from ⟨by omega, by omega⟩).1 (show 0 ≤ k ∧ k < 100 from ⟨by omega, by omega⟩).2 (zst_ne (Or.inl (by decide))) ?_
      refine z_aload_n 0 dX11_people_203 rfl ?_
      refine z_getS (v := 175) (k := 10) (kz := 10) pk11 dX11_people_204 (by decide) zb_1134 rfl (zOb.lit (by decide +kernel)) rfl (by decide +kernel) ?_
      refine z_iload_n 2 dX11_people_207 rfl ?_
      refine z_ialdV (v := (g 175 k)) dX11_people_208 (zOb.lit (by decide +kernel)) (show 0 ≤ k ∧ k < 100 from ⟨by omega, by omega⟩).1 (show 0 ≤ k ∧ k < 100 from ⟨by omega, by omega⟩).2 (zst_ne (Or.inl (by decide))) ?_
      refine z_iast dX11_people_209 (zOb.lit (by decide +kernel)) (show 0 ≤ (g 174 k) ∧ (g 174 k) < 60 from ⟨by omega, by omega⟩).1 (show 0 ≤ (g 174 k) ∧ (g 174 k) < 60 from ⟨by omega, by omega⟩).2 ?_
      refine z_iincN (lv' := [(3, xI (k + 1)), (0, xR 169), (1, xI t)]) 2 dX11_people_210 rfl (by decide) rfl (show -2147483648 ≤ k + 1 ∧ k + 1 < 2147483648 from ⟨by omega, by omega⟩).1 (show -2147483648 ≤ k + 1 ∧ k + 1 < 2147483648 from ⟨by omega, by omega⟩).2 ?_
      refine z_goto (tgt := 160) dX11_people_213 (by decide) ?_
      refine zW.sub (lv' := [(0, xR 169), (1, xI t), (3, xI (k + 1))]) [1, 2, 0] rfl ?_
      exact k2 c1 c2
    ·
      refine z_goto (tgt := 210) dX11_people_178 (by decide) ?_
      refine z_iincN (lv' := [(3, xI (k + 1)), (0, xR 169), (1, xI t)]) 2 dX11_people_210 rfl (by decide) rfl (show -2147483648 ≤ k + 1 ∧ k + 1 < 2147483648 from ⟨by omega, by omega⟩).1 (show -2147483648 ≤ k + 1 ∧ k + 1 < 2147483648 from ⟨by omega, by omega⟩).2 ?_
      refine z_goto (tgt := 160) dX11_people_213 (by decide) ?_
      refine zW.sub (lv' := [(0, xR 169), (1, xI t), (3, xI (k + 1))]) [1, 2, 0] rfl ?_
      exact k3 c1 c2

set_option maxRecDepth 20000 in
theorem bX11_people_218 {X : zX} {dep bc bs : Nat} (t : Int) (i : Int) {g : zH} {Q : Nat → zH → List zV → Prop} (hm : 0 ≤ g 169 25 ∧ g 169 25 ≤ 60) (hi : 0 ≤ i)
    (k1 : (g 169 25) ≤ i → Q 239 g [])
    (k2 : ¬ ((g 169 25) ≤ i) → zW mX11_people X dep bc bs 239 218 [(0, xR 169), (1, xI t), (3, xI (i + 1))] [] (zst g 215 i (if (g 213 i) = i then if (g 216 i) = 0 then 0 else 1 else 0 : Int)) Q) : zW mX11_people X dep bc bs 239 218 [(0, xR 169), (1, xI t), (3, xI i)] [] g Q := by
  refine z_iload_n 2 dX11_people_218 rfl ?_
  refine z_aload_n 0 dX11_people_219 rfl ?_
  refine z_getI (k := 25) (kz := 25) pk11 dX11_people_220 (by decide) zb_1149 rfl (zOb.lit (by decide +kernel)) rfl ?_
  refine z_icmp_ge (tgt := 262) dX11_people_223 (by decide) (fun c1 => ?_) (fun c1 => ?_)
  ·
    exact z_ret dX11_people_262 rfl (k1 c1)
  ·
    refine z_aload_n 0 dX11_people_226 rfl ?_
    refine z_getS (v := 215) (k := 68) (kz := 68) pk11 dX11_people_227 (by decide) zb_1192 rfl (zOb.lit (by decide +kernel)) rfl (by decide +kernel) ?_
    refine z_iload_n 2 dX11_people_230 rfl ?_
    refine z_aload_n 0 dX11_people_231 rfl ?_
    refine z_getS (v := 213) (k := 66) (kz := 66) pk11 dX11_people_232 (by decide) zb_1190 rfl (zOb.lit (by decide +kernel)) rfl (by decide +kernel) ?_
    refine z_iload_n 2 dX11_people_235 rfl ?_
    refine z_iald dX11_people_236 (zOb.lit (by decide +kernel)) (show 0 ≤ i ∧ i < 60 from ⟨by omega, by omega⟩).1 (show 0 ≤ i ∧ i < 60 from ⟨by omega, by omega⟩).2 ?_
    refine z_iload_n 2 dX11_people_237 rfl ?_
    suffices KJ : zW mX11_people X dep bc bs 239 255 [(0, xR 169), (1, xI t), (3, xI i)] [xI (if (g 213 i) = i then if (g 216 i) = 0 then 0 else 1 else 0 : Int), xI i, xR 215] g Q by
      refine z_icmp_ne (tgt := 254) dX11_people_238 (by decide) (fun j1 => ?_) (fun j1 => ?_)
      ·
        refine z_iconst dX11_people_254 (zi32_d rfl) ?_
        rw [if_neg j1] at KJ
        exact KJ
      ·
        refine z_aload_n 0 dX11_people_241 rfl ?_
        refine z_getS (v := 216) (k := 69) (kz := 69) pk11 dX11_people_242 (by decide) zb_1193 rfl (zOb.lit (by decide +kernel)) rfl (by decide +kernel) ?_
        refine z_iload_n 2 dX11_people_245 rfl ?_
        refine z_zald dX11_people_246 (zOb.lit (by decide +kernel)) (show 0 ≤ i ∧ i < 60 from ⟨by omega, by omega⟩).1 (show 0 ≤ i ∧ i < 60 from ⟨by omega, by omega⟩).2 ?_
        refine z_if_eq (tgt := 254) dX11_people_247 (by decide) (fun j2 => ?_) (fun j2 => ?_)
        ·
          refine z_iconst dX11_people_254 (zi32_d rfl) ?_
          rw [if_pos j1] at KJ
          rw [if_pos j2] at KJ
          exact KJ
        ·
          refine z_iconst dX11_people_250 (zi32_d rfl) ?_
          refine z_goto (tgt := 255) dX11_people_251 (by decide) ?_
          rw [if_pos j1] at KJ
          rw [if_neg j2] at KJ
          exact KJ
    refine z_zast dX11_people_255 (zOb.lit (by decide +kernel)) (show 0 ≤ i ∧ i < 60 from ⟨by omega, by omega⟩).1 (show 0 ≤ i ∧ i < 60 from ⟨by omega, by omega⟩).2 (by repeat (first | (left; rfl) | (right; rfl) | split)) ?_
    refine z_iincN (lv' := [(3, xI (i + 1)), (0, xR 169), (1, xI t)]) 2 dX11_people_256 rfl (by decide) rfl (show -2147483648 ≤ i + 1 ∧ i + 1 < 2147483648 from ⟨by omega, by omega⟩).1 (show -2147483648 ≤ i + 1 ∧ i + 1 < 2147483648 from ⟨by omega, by omega⟩).2 ?_
    refine z_goto (tgt := 218) dX11_people_259 (by decide) ?_
    refine zW.sub (lv' := [(0, xR 169), (1, xI t), (3, xI (i + 1))]) [1, 2, 0] rfl ?_
    exact k2 c1


theorem zlw_b {C : Int → Prop} {K V f f' : Int → Int} {q : Int} (e : f q = f' q) : ∀ r : Nat, zlw C K V f r q = zlw C K V f' r q
  | 0 => e
  | r + 1 => by
    unfold zlw
    rw [zlw_b e r]
abbrev mSp : List Int := [213, 214, 215, 216]
theorem l_X11_people_2 {X : zX} {dep : Nat} {h : zH} {Q : Nat → zH → List zV → Prop} (hm : 0 ≤ h 169 25 ∧ h 169 25 ≤ 60) (t : Int)
    (kx : ∀ g : zH, zag mSp h g → (∀ q : Int, g 214 q = h 214 q) → (∀ m, 0 ≤ m → m < h 169 25 → g 213 m = m ∧ g 216 m = 0) → zW mX11_people X dep 0 0 239 32 [(0, xR 169), (1, xI t), (2, xI 1)] [] g Q) :
    ∀ (k : Nat) (i : Int) (g : zH), 0 ≤ i → i + k = h 169 25 → zag mSp h g → (∀ q : Int, g 214 q = h 214 q) → (∀ m, 0 ≤ m → m < i → g 213 m = m ∧ g 216 m = 0) → zW mX11_people X dep 0 0 239 2 [(0, xR 169), (1, xI t), (2, xI i)] [] g Q := by
  intro k
  induction k with
  | zero =>
    intro i g h0 hk ha hb hi
    have e3 := ha 169 25 (by decide)
    refine bX11_people_2 t i (by rw [e3]; exact hm) h0 ?_ ?_
    · intro c
      exact kx g ha hb (fun m q1 q2 => hi m q1 (by omega))
    · intro c
      exfalso
      omega
  | succ k ih =>
    intro i g h0 hk ha hb hi
    have e3 := ha 169 25 (by decide)
    refine bX11_people_2 t i (by rw [e3]; exact hm) h0 ?_ ?_
    · intro c
      exfalso
      omega
    · intro c
      refine ih (i + 1) _ (by omega) (by omega) ((ha.st (by decide) _ _).st (by decide) _ _) (fun q => ?_) (fun m q1 q2 => ?_)
      · rw [zst_ne (Or.inl (by decide)), zst_ne (Or.inl (by decide))]
        exact hb q
      · rw [zst_ne (o := 216) (o' := 213) (Or.inl (by decide)), zst_or, zst_or, zst_ne (o := 213) (o' := 216) (Or.inl (by decide))]
        by_cases e : m = i
        · rw [if_pos e, if_pos e]
          exact ⟨e.symm, rfl⟩
        · rw [if_neg e, if_neg e]
          exact hi m q1 (by omega)
theorem mLow_two {h g : zH} {t p q c : Int} (hl : mLow h t (g 213)) (hpq : ∀ f : Int → Int, mInv h t f → f p = f q) (p0 : 0 ≤ p ∧ p < h 169 25) (q0 : 0 ≤ q ∧ q < h 169 25) (c0 : c = g 213 p ∨ c = g 213 q) (c1 : c ≤ g 213 p ∧ c ≤ g 213 q) :
    mLow h t ((zst (zst g 213 p c) 213 q c) 213) := by
  have a1 := hl p p0.1 p0.2
  have a2 := hl q q0.1 q0.2
  have cc : 0 ≤ c := by
    rcases c0 with e | e <;> omega
  have cf : ∀ f : Int → Int, mInv h t f → f c = f p ∧ f c = f q := fun f hf => by
    have e1 := hpq f hf
    rcases c0 with e | e
    · have e2 := a1.2 f hf
      rw [e]
      omega
    · have e2 := a2.2 f hf
      rw [e]
      omega
  intro m m0 m1
  rw [zst_or, zst_or]
  by_cases eq : m = q
  · rw [if_pos eq, eq]
    exact ⟨⟨cc, by omega⟩, fun f hf => (cf f hf).2⟩
  · rw [if_neg eq]
    by_cases ep : m = p
    · rw [if_pos ep, ep]
      exact ⟨⟨cc, by omega⟩, fun f hf => (cf f hf).1⟩
    · rw [if_neg ep]
      exact hl m m0 m1
theorem mLow_less {h g : zH} {p q c : Int} (p0 : 0 ≤ p ∧ p < h 169 25) (q0 : 0 ≤ q ∧ q < h 169 25) (c1 : c ≤ g 213 p ∧ c ≤ g 213 q) (c2 : c < g 213 p ∨ c < g 213 q) :
    zsm ((zst (zst g 213 p c) 213 q c) 213) (h 169 25).toNat < zsm (g 213) (h 169 25).toNat := by
  have le : ∀ k : Int, zst (zst g 213 p c) 213 q c 213 k ≤ g 213 k := fun k => by
    rw [zst_or, zst_or]
    by_cases e : k = q
    · rw [if_pos e, e]
      exact c1.2
    · rw [if_neg e]
      by_cases e2 : k = p
      · rw [if_pos e2, e2]
        exact c1.1
      · rw [if_neg e2]
        exact Int.le_refl _
  rcases c2 with c2 | c2
  · refine zsm_lt p p0.1 ?_ _ (by omega) (fun k _ _ => le k)
    rw [zst_or, zst_or]
    split
    · omega
    · rw [if_pos rfl]
      exact c2
  · refine zsm_lt q q0.1 ?_ _ (by omega) (fun k _ _ => le k)
    rw [zst_or, if_pos rfl]
    exact c2
theorem l_X11_people_40 {X : zX} {dep : Nat} {h f : zH} {Q : Nat → zH → List zV → Prop} (hm : 0 ≤ h 169 25 ∧ h 169 25 ≤ 60) (hs : mSaOK h) (t s : Int)
    (kx : ∀ (g : zH) (y : Int), zag mSp h g → (∀ q : Int, g 214 q = f 214 q ∧ g 216 q = f 216 q) → mLow h t (g 213) → (y = 0 ∧ mInv h t (g 213) ∨ y = 1 ∧ zsm (g 213) (h 169 25).toNat < s) → zW mX11_people X dep 0 0 239 32 [(0, xR 169), (1, xI t), (2, xI y)] [] g Q) :
    ∀ (j : Nat) (k y : Int) (g : zH), 0 ≤ k → k + j = h 169 29 → zag mSp h g → (∀ q : Int, g 214 q = f 214 q ∧ g 216 q = f 216 q) → mLow h t (g 213) → (y = 0 ∧ (∀ i : Int, 0 ≤ i → i < k → h 189 i ≤ t → g 213 (h 187 i) = g 213 (h 188 i)) ∧ zsm (g 213) (h 169 25).toNat ≤ s ∨ y = 1 ∧ zsm (g 213) (h 169 25).toNat < s) → zW mX11_people X dep 0 0 239 40 [(0, xR 169), (1, xI t), (2, xI y), (3, xI k)] [] g Q := by
  intro j
  induction j with
  | zero =>
    intro k y g h0 hk ha hb hl hy
    have e3 := ha 169 25 (by decide)
    have e4 := ha 169 29 (by decide)
    refine bX11_people_40 t y k (by rw [e3]; exact hm) (by rw [e4]; exact hs.1) h0 (Or.inl (by omega)) (Or.inl (by omega)) ?_ ?_ ?_ ?_ ?_ ?_ ?_
    · intro c
      refine kx g y ha hb hl ?_
      rcases hy with hy | hy
      · exact Or.inl ⟨hy.1, fun i i0 i1 i2 => hy.2.1 i i0 (by omega) i2⟩
      · exact Or.inr hy
    all_goals
      intro c
      exfalso
      omega
  | succ j ih =>
    intro k y g h0 hk ha hb hl hy
    have e3 := ha 169 25 (by decide)
    have e4 := ha 169 29 (by decide)
    have e5 := ha 187 k (by decide)
    have e6 := ha 188 k (by decide)
    have e7 := ha 189 k (by decide)
    have hr := hs.2 k h0 (by omega)
    have two : ∀ c : Int, h 189 k ≤ t → g 213 (h 187 k) ≠ g 213 (h 188 k) → (c = g 213 (h 187 k) ∨ c = g 213 (h 188 k)) → (c ≤ g 213 (h 187 k) ∧ c ≤ g 213 (h 188 k)) → zW mX11_people X dep 0 0 239 40 [(0, xR 169), (1, xI t), (2, xI 1), (3, xI (k + 1))] [] (zst (zst g 213 (h 187 k) c) 213 (h 188 k) c) Q := fun c d0 d1 d2 d3 => by
      have ls := mLow_less (h := h) (g := g) hr.1 hr.2 d3 (by omega)
      refine ih (k + 1) 1 _ (by omega) (by omega) ((ha.st (by decide) _ _).st (by decide) _ _) (fun q => ?_) (mLow_two hl (fun f' hf => hf k h0 (by omega) d0) hr.1 hr.2 d2 d3) (Or.inr ⟨rfl, ?_⟩)
      · rw [zst_ne (Or.inl (by decide)), zst_ne (Or.inl (by decide)), zst_ne (Or.inl (by decide)), zst_ne (Or.inl (by decide))]
        exact hb q
      · rcases hy with hy | hy <;> omega
    refine bX11_people_40 t y k (by rw [e3]; exact hm) (by rw [e4]; exact hs.1) h0 (Or.inr (by omega)) (Or.inr (by omega)) ?_ ?_ ?_ ?_ ?_ ?_ ?_
    · intro c
      exfalso
      omega
    · intro c1 c2 c3 c4 c5
      rw [e5, e6] at c3 c4 ⊢
      exact two _ (by omega) c3 (Or.inr rfl) ⟨c4, Int.le_refl _⟩
    · intro c1 c2 c3 c4 c5
      exact absurd c4 c5
    · intro c1 c2 c3 c4 c5
      exact absurd c5 c4
    · intro c1 c2 c3 c4 c5
      rw [e5, e6] at c3 c4 ⊢
      exact two _ (by omega) c3 (Or.inl rfl) ⟨Int.le_refl _, by omega⟩
    · intro c1 c2 c3
      rw [e5, e6] at c3
      refine ih (k + 1) y g (by omega) (by omega) ha hb hl ?_
      rcases hy with hy | hy
      · refine Or.inl ⟨hy.1, fun i i0 i1 i2 => ?_, hy.2.2⟩
        by_cases e : i = k
        · rw [e]
          exact c3
        · exact hy.2.1 i i0 (by omega) i2
      · exact Or.inr hy
    · intro c1 c2
      refine ih (k + 1) y g (by omega) (by omega) ha hb hl ?_
      rcases hy with hy | hy
      · refine Or.inl ⟨hy.1, fun i i0 i1 i2 => ?_, hy.2.2⟩
        by_cases e : i = k
        · rw [e] at i2
          exfalso
          omega
        · exact hy.2.1 i i0 (by omega) i2
      · exact Or.inr hy
theorem zsm_nn {f : Int → Int} : ∀ n : Nat, (∀ k : Int, 0 ≤ k → k < n → 0 ≤ f k) → 0 ≤ zsm f n
  | 0, _ => Int.le_refl _
  | n + 1, hh => by
    have i1 := zsm_nn n (fun k a b => hh k a (by omega))
    have i2 := hh n (by omega) (by omega)
    rw [zsm_s]
    omega
theorem l_X11_people_32 {X : zX} {dep : Nat} {h f : zH} {Q : Nat → zH → List zV → Prop} (hm : 0 ≤ h 169 25 ∧ h 169 25 ≤ 60) (hs : mSaOK h) (t : Int)
    (kx : ∀ (g : zH), zag mSp h g → (∀ q : Int, g 214 q = f 214 q ∧ g 216 q = f 216 q) → mWho h t (g 213) → zW mX11_people X dep 0 0 239 160 [(0, xR 169), (1, xI t), (3, xI 0)] [] g Q) :
    ∀ (N : Nat) (g : zH), zag mSp h g → (∀ q : Int, g 214 q = f 214 q ∧ g 216 q = f 216 q) → mLow h t (g 213) → zsm (g 213) (h 169 25).toNat < N → zW mX11_people X dep 0 0 239 32 [(0, xR 169), (1, xI t), (2, xI 1)] [] g Q := by
  intro N
  induction N with
  | zero =>
    intro g ha hb hl hN
    have := zsm_nn (f := g 213) (h 169 25).toNat (fun k k0 k1 => (hl k k0 (by omega)).1.1)
    exfalso
    omega
  | succ N ih =>
    intro g ha hb hl hN
    refine bX11_people_32 t 1 ?_ ?_
    · intro c
      exfalso
      omega
    · intro c
      refine l_X11_people_40 hm hs t N (fun g' y ha' hb' hl' hy' => ?_) (h 169 29).toNat 0 0 g (by omega) (by have := hs.1; omega) ha hb hl (Or.inl ⟨rfl, fun i i0 i1 => by omega, by omega⟩)
      rcases hy' with ⟨rfl, hi⟩ | ⟨rfl, hi⟩
      · refine bX11_people_32 t 0 ?_ ?_
        · intro c
          exact kx g' ha' hb' ⟨hl', hi⟩
        · intro c
          exfalso
          omega
      · exact ih g' ha' hb' hl' hi
theorem l_X11_people_160 {X : zX} {dep : Nat} {h f : zH} {Q : Nat → zH → List zV → Prop} (hm : 0 ≤ h 169 25 ∧ h 169 25 ≤ 60) (hs : mBiOK h) (t : Int)
    (kx : ∀ (g : zH), zag mSp h g → (∀ q : Int, g 213 q = f 213 q) → (∀ m : Int, g 216 m = zlw (fun r => h 176 r ≤ t) (h 174) (fun _ => 1) (f 216) (h 169 26).toNat m ∧ g 214 m = zlw (fun r => h 176 r ≤ t) (h 174) (h 175) (f 214) (h 169 26).toNat m) → zW mX11_people X dep 0 0 239 218 [(0, xR 169), (1, xI t), (3, xI 0)] [] g Q) :
    ∀ (j r : Nat) (g : zH), (r : Int) + j = h 169 26 → zag mSp h g → (∀ q : Int, g 213 q = f 213 q) → (∀ m : Int, g 216 m = zlw (fun r => h 176 r ≤ t) (h 174) (fun _ => 1) (f 216) r m ∧ g 214 m = zlw (fun r => h 176 r ≤ t) (h 174) (h 175) (f 214) r m) → zW mX11_people X dep 0 0 239 160 [(0, xR 169), (1, xI t), (3, xI r)] [] g Q := by
  intro j
  induction j with
  | zero =>
    intro r g hk ha hb hw
    have e3 := ha 169 25 (by decide)
    have e4 := ha 169 26 (by decide)
    refine bX11_people_160 t r (by rw [e3]; exact hm) (by rw [e4]; exact hs.1) (by omega) (Or.inl (by omega)) ?_ ?_ ?_
    · intro c
      refine kx g ha hb ?_
      rw [show (h 169 26).toNat = r by omega]
      exact hw
    all_goals
      intro c
      exfalso
      omega
  | succ j ih =>
    intro r g hk ha hb hw
    have e3 := ha 169 25 (by decide)
    have e4 := ha 169 26 (by decide)
    have e5 := ha 174 r (by decide)
    have e6 := ha 175 r (by decide)
    have e7 := ha 176 r (by decide)
    have hr := hs.2 r (by omega) (by omega)
    refine bX11_people_160 t r (by rw [e3]; exact hm) (by rw [e4]; exact hs.1) (by omega) (Or.inr (by omega)) ?_ ?_ ?_
    · intro c
      exfalso
      omega
    · intro c1 c2
      rw [e5, e6]
      rw [e7] at c2
      have := ih (r + 1) _ (by omega) ((ha.st (o := 216) (by decide) (h 174 r) 1).st (o := 214) (by decide) (h 174 r) (h 175 r)) (fun q => by
        rw [zst_ne (Or.inl (by decide)), zst_ne (Or.inl (by decide))]
        exact hb q) (fun m => by
        rw [zlw_t c2, zlw_t c2, zst_ne (o := 214) (o' := 216) (Or.inl (by decide)), zst_or, zst_or, zst_ne (o := 216) (o' := 214) (Or.inl (by decide))]
        by_cases e : m = h 174 r
        · rw [if_pos e, if_pos e, if_pos e, if_pos e]
          exact ⟨rfl, rfl⟩
        · rw [if_neg e, if_neg e, if_neg e, if_neg e]
          exact hw m)
      rw [show ((r + 1 : Nat) : Int) = (r : Int) + 1 by omega] at this
      exact this
    · intro c1 c2
      rw [e7] at c2
      have := ih (r + 1) g (by omega) ha hb (fun m => by
        rw [zlw_f c2, zlw_f c2]
        exact hw m)
      rw [show ((r + 1 : Nat) : Int) = (r : Int) + 1 by omega] at this
      exact this
theorem l_X11_people_218 {X : zX} {dep : Nat} {h f : zH} {Q : Nat → zH → List zV → Prop} (hm : 0 ≤ h 169 25 ∧ h 169 25 ≤ 60) (t : Int)
    (kx : ∀ (g : zH), zag mSp h g → (∀ q : Int, g 213 q = f 213 q ∧ g 214 q = f 214 q ∧ g 216 q = f 216 q) → (∀ m : Int, 0 ≤ m → m < h 169 25 → g 215 m = zb (f 213 m = m ∧ f 216 m ≠ 0)) → Q 239 g []) :
    ∀ (k : Nat) (i : Int) (g : zH), 0 ≤ i → i + k = h 169 25 → zag mSp h g → (∀ q : Int, g 213 q = f 213 q ∧ g 214 q = f 214 q ∧ g 216 q = f 216 q) → (∀ m : Int, 0 ≤ m → m < i → g 215 m = zb (f 213 m = m ∧ f 216 m ≠ 0)) → zW mX11_people X dep 0 0 239 218 [(0, xR 169), (1, xI t), (3, xI i)] [] g Q := by
  intro k
  induction k with
  | zero =>
    intro i g h0 hk ha hb hi
    have e3 := ha 169 25 (by decide)
    refine bX11_people_218 t i (by rw [e3]; exact hm) h0 ?_ ?_
    · intro c
      exact kx g ha hb (fun m q1 q2 => hi m q1 (by omega))
    · intro c
      exfalso
      omega
  | succ k ih =>
    intro i g h0 hk ha hb hi
    have e3 := ha 169 25 (by decide)
    have e4 := hb i
    refine bX11_people_218 t i (by rw [e3]; exact hm) h0 ?_ ?_
    · intro c
      exfalso
      omega
    · intro c
      refine ih (i + 1) _ (by omega) (by omega) (ha.st (by decide) _ _) (fun q => ?_) (fun m q1 q2 => ?_)
      · rw [zst_ne (Or.inl (by decide)), zst_ne (Or.inl (by decide)), zst_ne (Or.inl (by decide))]
        exact hb q
      · rw [zst_or]
        by_cases e : m = i
        · rw [if_pos e, e4.1, e4.2.2, e]
          unfold zb
          (repeat' split) <;> first | rfl | omega
        · rw [if_neg e]
          exact hi m q1 (by omega)
/-- the people as of day t -/
def mPeo (h : zH) (t : Int) (g : zH) : Prop := zag mSp h g ∧ mWho h t (g 213) ∧ ∀ m : Int, 0 ≤ m → m < h 169 25 → g 216 m = zlw (fun r => h 176 r ≤ t) (h 174) (fun _ => 1) (fun _ => 0) (h 169 26).toNat m ∧ g 214 m = zlw (fun r => h 176 r ≤ t) (h 174) (h 175) (h 214) (h 169 26).toNat m ∧ g 215 m = zb (g 213 m = m ∧ g 216 m ≠ 0)
theorem f_X11_people {X : zX} {dep : Nat} (t : Int) {h : zH} (hm : 0 ≤ h 169 25 ∧ h 169 25 ≤ 60) (hs : mSaOK h) (hbi : mBiOK h) : zW mX11_people X dep 0 0 239 0 (zar 0 [xR 169, xI t]) [] h (zQ0 (mPeo h t)) := by
  refine bX11_people_0 t ?_
  refine l_X11_people_2 hm t (fun g ha h214 hw => ?_) (h 169 25).toNat 0 h (by omega) (by omega) (zag.rf _ _) (fun _ => rfl) (fun m q1 q2 => by omega)
  refine l_X11_people_32 (f := g) hm hs t (fun g2 ha2 hb2 hw2 => ?_) ((zsm (g 213) (h 169 25).toNat).toNat + 1) g ha (fun _ => ⟨rfl, rfl⟩) (fun m m0 m1 => ⟨by rw [(hw m m0 m1).1]; exact ⟨m0, Int.le_refl _⟩, fun f _ => by rw [(hw m m0 m1).1]⟩) (by omega)
  refine l_X11_people_160 (f := g2) hm hbi t (fun g3 ha3 hb3 hw3 => ?_) (h 169 26).toNat 0 g2 (by have := hbi.1; omega) ha2 (fun _ => rfl) (fun m => ⟨rfl, rfl⟩)
  refine l_X11_people_218 (f := g3) hm t (fun g4 ha4 hb4 hw4 => ?_) (h 169 25).toNat 0 g3 (by omega) (by omega) ha3 (fun _ => ⟨rfl, rfl, rfl⟩) (fun m q1 q2 => by omega)
  refine ⟨rfl, rfl, ha4, ?_, fun m m0 m1 => ⟨?_, ?_, ?_⟩⟩
  · rw [show g4 213 = g2 213 from funext fun q => (hb4 q).1.trans (hb3 q)]
    exact hw2
  · rw [(hb4 m).2.2, (hw3 m).1]
    refine zlw_b ?_ _
    rw [(hb2 m).2, (hw m m0 m1).2]
  · rw [(hb4 m).2.1, (hw3 m).2]
    refine zlw_b ?_ _
    rw [(hb2 m).1, h214 m]
  · rw [hw4 m m0 m1, (hb4 m).1, (hb4 m).2.2]

/-! the model: what a man is asked -/
/-- what the model keeps of facts and examinations names men -/
def mFaOK (h : zH) : Prop := (0 ≤ h 169 27 ∧ h 169 27 ≤ 240) ∧ ∀ k : Int, 0 ≤ k → k < h 169 27 → (0 ≤ h 177 k ∧ h 177 k < h 169 25) ∧ 0 ≤ h 178 k ∧ h 178 k < 6
def mExOK (h : zH) : Prop := (0 ≤ h 169 28 ∧ h 169 28 ≤ 60) ∧ ∀ k : Int, 0 ≤ k → k < h 169 28 → 0 ≤ h 183 k ∧ h 183 k < h 169 25

set_option maxRecDepth 20000 in
theorem bX11_hold_0 {X : zX} {dep bc bs : Nat} (day : Int) (t : Int) {h : zH} {Q : Nat → zH → List zV → Prop}
    (k1 : zW mX11_hold X dep bc bs 239 2 [(0, xR 169), (1, xI day), (2, xI t), (3, xI 0)] [] h Q) : zW mX11_hold X dep bc bs 239 0 [(0, xR 169), (1, xI day), (2, xI t)] [] h Q := by
  refine z_iconst dX11_hold_0 (zi32_d rfl) ?_
  refine z_istore_n (lv' := [(3, xI 0), (0, xR 169), (1, xI day), (2, xI t)]) dX11_hold_1 (by decide) rfl ?_
  refine zW.sub (lv' := [(0, xR 169), (1, xI day), (2, xI t), (3, xI 0)]) [1, 2, 3, 0] rfl ?_
  exact k1

set_option maxRecDepth 20000 in
theorem bX11_hold_2 {X : zX} {dep bc bs : Nat} (day : Int) (t : Int) (i : Int) {g : zH} {Q : Nat → zH → List zV → Prop} (hi : 0 ≤ i)
    (k1 : 360 ≤ i → zW mX11_hold X dep bc bs 239 24 [(0, xR 169), (1, xI day), (2, xI t), (3, xI 0)] [] g Q)
    (k2 : ¬ (360 ≤ i) → zW mX11_hold X dep bc bs 239 2 [(0, xR 169), (1, xI day), (2, xI t), (3, xI (i + 1))] [] (zst g 217 i 0) Q) : zW mX11_hold X dep bc bs 239 2 [(0, xR 169), (1, xI day), (2, xI t), (3, xI i)] [] g Q := by
  refine z_iload_n 3 dX11_hold_2 rfl ?_
  refine z_sipush dX11_hold_3 (zi32_d rfl) (by decide) ?_
  refine z_icmp_ge (tgt := 22) dX11_hold_6 (by decide) (fun c1 => ?_) (fun c1 => ?_)
  ·
    refine z_iconst dX11_hold_22 (zi32_d rfl) ?_
    refine z_istore_n (lv' := [(3, xI 0), (0, xR 169), (1, xI day), (2, xI t)]) dX11_hold_23 (by decide) rfl ?_
    refine zW.sub (lv' := [(0, xR 169), (1, xI day), (2, xI t), (3, xI 0)]) [1, 2, 3, 0] rfl ?_
    exact k1 c1
  ·
    refine z_aload_n 0 dX11_hold_9 rfl ?_
    refine z_getS (v := 217) (k := 70) (kz := 70) pk11 dX11_hold_10 (by decide) zb_1194 rfl (zOb.lit (by decide +kernel)) rfl (by decide +kernel) ?_
    refine z_iload_n 3 dX11_hold_13 rfl ?_
    refine z_iconst dX11_hold_14 (zi32_d rfl) ?_
    refine z_iast dX11_hold_15 (zOb.lit (by decide +kernel)) (show 0 ≤ i ∧ i < 360 from ⟨by omega, by omega⟩).1 (show 0 ≤ i ∧ i < 360 from ⟨by omega, by omega⟩).2 ?_
    refine z_iincN (lv' := [(3, xI (i + 1)), (0, xR 169), (1, xI day), (2, xI t)]) 3 dX11_hold_16 rfl (by decide) rfl (show -2147483648 ≤ i + 1 ∧ i + 1 < 2147483648 from ⟨by omega, by omega⟩).1 (show -2147483648 ≤ i + 1 ∧ i + 1 < 2147483648 from ⟨by omega, by omega⟩).2 ?_
    refine z_goto (tgt := 2) dX11_hold_19 (by decide) ?_
    refine zW.sub (lv' := [(0, xR 169), (1, xI day), (2, xI t), (3, xI (i + 1))]) [1, 2, 3, 0] rfl ?_
    exact k2 c1

set_option maxRecDepth 20000 in
theorem bX11_hold_24 {X : zX} {dep bc bs : Nat} (day : Int) (t : Int) (i : Int) {g : zH} {Q : Nat → zH → List zV → Prop} (hi : 0 ≤ i)
    (k1 : 60 ≤ i → zW mX11_hold X dep bc bs 239 45 [(0, xR 169), (1, xI day), (2, xI t), (3, xI 0)] [] g Q)
    (k2 : ¬ (60 ≤ i) → zW mX11_hold X dep bc bs 239 24 [(0, xR 169), (1, xI day), (2, xI t), (3, xI (i + 1))] [] (zst g 218 i 0) Q) : zW mX11_hold X dep bc bs 239 24 [(0, xR 169), (1, xI day), (2, xI t), (3, xI i)] [] g Q := by
  refine z_iload_n 3 dX11_hold_24 rfl ?_
  refine z_bipush dX11_hold_25 (zi32_d rfl) (by decide) ?_
  refine z_icmp_ge (tgt := 43) dX11_hold_27 (by decide) (fun c1 => ?_) (fun c1 => ?_)
  ·
    refine z_iconst dX11_hold_43 (zi32_d rfl) ?_
    refine z_istore_n (lv' := [(3, xI 0), (0, xR 169), (1, xI day), (2, xI t)]) dX11_hold_44 (by decide) rfl ?_
    refine zW.sub (lv' := [(0, xR 169), (1, xI day), (2, xI t), (3, xI 0)]) [1, 2, 3, 0] rfl ?_
    exact k1 c1
  ·
    refine z_aload_n 0 dX11_hold_30 rfl ?_
    refine z_getS (v := 218) (k := 71) (kz := 71) pk11 dX11_hold_31 (by decide) zb_1195 rfl (zOb.lit (by decide +kernel)) rfl (by decide +kernel) ?_
    refine z_iload_n 3 dX11_hold_34 rfl ?_
    refine z_iconst dX11_hold_35 (zi32_d rfl) ?_
    refine z_iast dX11_hold_36 (zOb.lit (by decide +kernel)) (show 0 ≤ i ∧ i < 60 from ⟨by omega, by omega⟩).1 (show 0 ≤ i ∧ i < 60 from ⟨by omega, by omega⟩).2 ?_
    refine z_iincN (lv' := [(3, xI (i + 1)), (0, xR 169), (1, xI day), (2, xI t)]) 3 dX11_hold_37 rfl (by decide) rfl (show -2147483648 ≤ i + 1 ∧ i + 1 < 2147483648 from ⟨by omega, by omega⟩).1 (show -2147483648 ≤ i + 1 ∧ i + 1 < 2147483648 from ⟨by omega, by omega⟩).2 ?_
    refine z_goto (tgt := 24) dX11_hold_40 (by decide) ?_
    refine zW.sub (lv' := [(0, xR 169), (1, xI day), (2, xI t), (3, xI (i + 1))]) [1, 2, 3, 0] rfl ?_
    exact k2 c1

set_option maxRecDepth 20000 in
theorem bX11_hold_45 {X : zX} {dep bc bs : Nat} (day : Int) (t : Int) (k : Int) {g : zH} {Q : Nat → zH → List zV → Prop} (hm : 0 ≤ g 169 25 ∧ g 169 25 ≤ 60) (hs : 0 ≤ g 169 27 ∧ g 169 27 ≤ 240) (hk : 0 ≤ k) (h1 : g 169 27 ≤ k ∨ ((0 ≤ g 177 k ∧ g 177 k < g 169 25) ∧ 0 ≤ g 178 k ∧ g 178 k < 6)) (hdep : 1 ≤ dep)
    (k1 : (g 169 27) ≤ k → zW mX11_hold X dep bc bs 239 117 [(0, xR 169), (1, xI day), (2, xI t), (3, xI 0)] [] g Q)
    (k2 : ¬ ((g 169 27) ≤ k) → t < (g 182 k) → zW mX11_hold X dep bc bs 239 45 [(0, xR 169), (1, xI day), (2, xI t), (3, xI (k + 1))] [] g Q)
    (k3 : ¬ ((g 169 27) ≤ k) → ¬ (t < (g 182 k)) → ¬ ((g 180 k) ≤ day ∧ day ≤ (g 181 k)) → zW mX11_hold X dep bc bs 239 45 [(0, xR 169), (1, xI day), (2, xI t), (3, xI (k + 1))] [] g Q)
    (k4 : ¬ ((g 169 27) ≤ k) → ¬ (t < (g 182 k)) → (g 180 k) ≤ day ∧ day ≤ (g 181 k) → zW mX11_hold X dep bc bs 239 45 [(0, xR 169), (1, xI day), (2, xI t), (3, xI (k + 1))] [] (zst g 217 ((6 * (g 177 k)) + (g 178 k)) (g 179 k)) Q) : zW mX11_hold X dep bc bs 239 45 [(0, xR 169), (1, xI day), (2, xI t), (3, xI k)] [] g Q := by
  refine z_iload_n 3 dX11_hold_45 rfl ?_
  refine z_aload_n 0 dX11_hold_46 rfl ?_
  refine z_getI (k := 27) (kz := 27) pk11 dX11_hold_47 (by decide) zb_1151 rfl (zOb.lit (by decide +kernel)) rfl ?_
  refine z_icmp_ge (tgt := 115) dX11_hold_50 (by decide) (fun c1 => ?_) (fun c1 => ?_)
  ·
    refine z_iconst dX11_hold_115 (zi32_d rfl) ?_
    refine z_istore_n (lv' := [(3, xI 0), (0, xR 169), (1, xI day), (2, xI t)]) dX11_hold_116 (by decide) rfl ?_
    refine zW.sub (lv' := [(0, xR 169), (1, xI day), (2, xI t), (3, xI 0)]) [1, 2, 3, 0] rfl ?_
    exact k1 c1
  ·
    refine z_aload_n 0 dX11_hold_53 rfl ?_
    refine z_getS (v := 182) (k := 17) (kz := 17) pk11 dX11_hold_54 (by decide) zb_1141 rfl (zOb.lit (by decide +kernel)) rfl (by decide +kernel) ?_
    refine z_iload_n 3 dX11_hold_57 rfl ?_
    refine z_iald dX11_hold_58 (zOb.lit (by decide +kernel)) (show 0 ≤ k ∧ k < 240 from ⟨by omega, by omega⟩).1 (show 0 ≤ k ∧ k < 240 from ⟨by omega, by omega⟩).2 ?_
    refine z_iload_n 2 dX11_hold_59 rfl ?_
    refine z_icmp_gt (tgt := 109) dX11_hold_60 (by decide) (fun c2 => ?_) (fun c2 => ?_)
    ·
      refine z_iincN (lv' := [(3, xI (k + 1)), (0, xR 169), (1, xI day), (2, xI t)]) 3 dX11_hold_109 rfl (by decide) rfl (show -2147483648 ≤ k + 1 ∧ k + 1 < 2147483648 from ⟨by omega, by omega⟩).1 (show -2147483648 ≤ k + 1 ∧ k + 1 < 2147483648 from ⟨by omega, by omega⟩).2 ?_
      refine z_goto (tgt := 45) dX11_hold_112 (by decide) ?_
      refine zW.sub (lv' := [(0, xR 169), (1, xI day), (2, xI t), (3, xI (k + 1))]) [1, 2, 3, 0] rfl ?_
      exact k2 c1 c2
    ·
      refine z_iload_n 1 dX11_hold_63 rfl ?_
      refine z_aload_n 0 dX11_hold_64 rfl ?_
      refine z_getS (v := 180) (k := 15) (kz := 15) pk11 dX11_hold_65 (by decide) zb_1139 rfl (zOb.lit (by decide +kernel)) rfl (by decide +kernel) ?_
      refine z_iload_n 3 dX11_hold_68 rfl ?_
      refine z_iald dX11_hold_69 (zOb.lit (by decide +kernel)) (show 0 ≤ k ∧ k < 240 from ⟨by omega, by omega⟩).1 (show 0 ≤ k ∧ k < 240 from ⟨by omega, by omega⟩).2 ?_
      refine z_aload_n 0 dX11_hold_70 rfl ?_
      refine z_getS (v := 181) (k := 16) (kz := 16) pk11 dX11_hold_71 (by decide) zb_1140 rfl (zOb.lit (by decide +kernel)) rfl (by decide +kernel) ?_
      refine z_iload_n 3 dX11_hold_74 rfl ?_
      refine z_iald dX11_hold_75 (zOb.lit (by decide +kernel)) (show 0 ≤ k ∧ k < 240 from ⟨by omega, by omega⟩).1 (show 0 ≤ k ∧ k < 240 from ⟨by omega, by omega⟩).2 ?_
      refine z_invSF (as := [xI day, xI (g 180 k), xI (g 181 k)]) (st := []) (ra := [xI (g 181 k), xI (g 180 k), xI day]) (dep' := dep - 1) (rs := [xI (zb ((g 180 k) ≤ day ∧ day ≤ (g 181 k)))]) (h' := g) (f_X11_isIn day (g 180 k) (g 181 k) (h := g) ) dX11_hold_76 nX11_isIn zb_1437 zb_1438 zb_92 (by omega) zne_I (Nat.le_of_ble_eq_true rfl) (Nat.le_of_ble_eq_true rfl) rfl ?_
      refine z_ifB_eq (C := (g 180 k) ≤ day ∧ day ≤ (g 181 k)) (tgt := 109) dX11_hold_79 (by decide) (fun c3 => ?_) (fun c3 => ?_)
      ·
        refine z_iincN (lv' := [(3, xI (k + 1)), (0, xR 169), (1, xI day), (2, xI t)]) 3 dX11_hold_109 rfl (by decide) rfl (show -2147483648 ≤ k + 1 ∧ k + 1 < 2147483648 from ⟨by omega, by omega⟩).1 (show -2147483648 ≤ k + 1 ∧ k + 1 < 2147483648 from ⟨by omega, by omega⟩).2 ?_
        refine z_goto (tgt := 45) dX11_hold_112 (by decide) ?_
        refine zW.sub (lv' := [(0, xR 169), (1, xI day), (2, xI t), (3, xI (k + 1))]) [1, 2, 3, 0] rfl ?_
        exact k3 c1 c2 c3
      ·
        refine z_aload_n 0 dX11_hold_82 rfl ?_
        refine z_getS (v := 217) (k := 70) (kz := 70) pk11 dX11_hold_83 (by decide) zb_1194 rfl (zOb.lit (by decide +kernel)) rfl (by decide +kernel) ?_
        refine z_bipush dX11_hold_86 (zi32_d rfl) (by decide) ?_
        refine z_aload_n 0 dX11_hold_88 rfl ?_
        refine z_getS (v := 177) (k := 12) (kz := 12) pk11 dX11_hold_89 (by decide) zb_1136 rfl (zOb.lit (by decide +kernel)) rfl (by decide +kernel) ?_
        refine z_iload_n 3 dX11_hold_92 rfl ?_
        refine z_iald dX11_hold_93 (zOb.lit (by decide +kernel)) (show 0 ≤ k ∧ k < 240 from ⟨by omega, by omega⟩).1 (show 0 ≤ k ∧ k < 240 from ⟨by omega, by omega⟩).2 ?_
        refine z_imulN dX11_hold_94 (show -2147483648 ≤ 6 * (g 177 k) ∧ 6 * (g 177 k) < 2147483648 from ⟨by omega, by omega⟩).1 (show -2147483648 ≤ 6 * (g 177 k) ∧ 6 * (g 177 k) < 2147483648 from ⟨by omega, by omega⟩).2 ?_
        refine z_aload_n 0 dX11_hold_95 rfl ?_
        refine z_getS (v := 178) (k := 13) (kz := 13) pk11 dX11_hold_96 (by decide) zb_1137 rfl (zOb.lit (by decide +kernel)) rfl (by decide +kernel) ?_
        refine z_iload_n 3 dX11_hold_99 rfl ?_
        refine z_iald dX11_hold_100 (zOb.lit (by decide +kernel)) (show 0 ≤ k ∧ k < 240 from ⟨by omega, by omega⟩).1 (show 0 ≤ k ∧ k < 240 from ⟨by omega, by omega⟩).2 ?_
        refine z_iaddN dX11_hold_101 (show -2147483648 ≤ (6 * (g 177 k)) + (g 178 k) ∧ (6 * (g 177 k)) + (g 178 k) < 2147483648 from ⟨by omega, by omega⟩).1 (show -2147483648 ≤ (6 * (g 177 k)) + (g 178 k) ∧ (6 * (g 177 k)) + (g 178 k) < 2147483648 from ⟨by omega, by omega⟩).2 ?_
        refine z_aload_n 0 dX11_hold_102 rfl ?_
        refine z_getS (v := 179) (k := 14) (kz := 14) pk11 dX11_hold_103 (by decide) zb_1138 rfl (zOb.lit (by decide +kernel)) rfl (by decide +kernel) ?_
        refine z_iload_n 3 dX11_hold_106 rfl ?_
        refine z_iald dX11_hold_107 (zOb.lit (by decide +kernel)) (show 0 ≤ k ∧ k < 240 from ⟨by omega, by omega⟩).1 (show 0 ≤ k ∧ k < 240 from ⟨by omega, by omega⟩).2 ?_
        refine z_iast dX11_hold_108 (zOb.lit (by decide +kernel)) (show 0 ≤ ((6 * (g 177 k)) + (g 178 k)) ∧ ((6 * (g 177 k)) + (g 178 k)) < 360 from ⟨by omega, by omega⟩).1 (show 0 ≤ ((6 * (g 177 k)) + (g 178 k)) ∧ ((6 * (g 177 k)) + (g 178 k)) < 360 from ⟨by omega, by omega⟩).2 ?_
        refine z_iincN (lv' := [(3, xI (k + 1)), (0, xR 169), (1, xI day), (2, xI t)]) 3 dX11_hold_109 rfl (by decide) rfl (show -2147483648 ≤ k + 1 ∧ k + 1 < 2147483648 from ⟨by omega, by omega⟩).1 (show -2147483648 ≤ k + 1 ∧ k + 1 < 2147483648 from ⟨by omega, by omega⟩).2 ?_
        refine z_goto (tgt := 45) dX11_hold_112 (by decide) ?_
        refine zW.sub (lv' := [(0, xR 169), (1, xI day), (2, xI t), (3, xI (k + 1))]) [1, 2, 3, 0] rfl ?_
        exact k4 c1 c2 c3

set_option maxRecDepth 20000 in
theorem bX11_hold_117 {X : zX} {dep bc bs : Nat} (day : Int) (t : Int) (k : Int) {g : zH} {Q : Nat → zH → List zV → Prop} (hm : 0 ≤ g 169 25 ∧ g 169 25 ≤ 60) (hs : 0 ≤ g 169 28 ∧ g 169 28 ≤ 60) (hk : 0 ≤ k) (h1 : g 169 28 ≤ k ∨ (0 ≤ g 183 k ∧ g 183 k < g 169 25))
    (k1 : (g 169 28) ≤ k → Q 239 g [])
    (k2 : ¬ ((g 169 28) ≤ k) → t < (g 186 k) → zW mX11_hold X dep bc bs 239 117 [(0, xR 169), (1, xI day), (2, xI t), (3, xI (k + 1))] [] g Q)
    (k3 : ¬ ((g 169 28) ≤ k) → ¬ (t < (g 186 k)) → day < (g 186 k) → zW mX11_hold X dep bc bs 239 117 [(0, xR 169), (1, xI day), (2, xI t), (3, xI (k + 1))] [] g Q)
    (k4 : ¬ ((g 169 28) ≤ k) → ¬ (t < (g 186 k)) → ¬ (day < (g 186 k)) → zW mX11_hold X dep bc bs 239 117 [(0, xR 169), (1, xI day), (2, xI t), (3, xI (k + 1))] [] (zst g 218 (g 183 k) (g 185 k)) Q) : zW mX11_hold X dep bc bs 239 117 [(0, xR 169), (1, xI day), (2, xI t), (3, xI k)] [] g Q := by
  refine z_iload_n 3 dX11_hold_117 rfl ?_
  refine z_aload_n 0 dX11_hold_118 rfl ?_
  refine z_getI (k := 28) (kz := 28) pk11 dX11_hold_119 (by decide) zb_1152 rfl (zOb.lit (by decide +kernel)) rfl ?_
  refine z_icmp_ge (tgt := 168) dX11_hold_122 (by decide) (fun c1 => ?_) (fun c1 => ?_)
  ·
    exact z_ret dX11_hold_168 rfl (k1 c1)
  ·
    refine z_aload_n 0 dX11_hold_125 rfl ?_
    refine z_getS (v := 186) (k := 21) (kz := 21) pk11 dX11_hold_126 (by decide) zb_1145 rfl (zOb.lit (by decide +kernel)) rfl (by decide +kernel) ?_
    refine z_iload_n 3 dX11_hold_129 rfl ?_
    refine z_iald dX11_hold_130 (zOb.lit (by decide +kernel)) (show 0 ≤ k ∧ k < 60 from ⟨by omega, by omega⟩).1 (show 0 ≤ k ∧ k < 60 from ⟨by omega, by omega⟩).2 ?_
    refine z_iload_n 2 dX11_hold_131 rfl ?_
    refine z_icmp_gt (tgt := 162) dX11_hold_132 (by decide) (fun c2 => ?_) (fun c2 => ?_)
    ·
      refine z_iincN (lv' := [(3, xI (k + 1)), (0, xR 169), (1, xI day), (2, xI t)]) 3 dX11_hold_162 rfl (by decide) rfl (show -2147483648 ≤ k + 1 ∧ k + 1 < 2147483648 from ⟨by omega, by omega⟩).1 (show -2147483648 ≤ k + 1 ∧ k + 1 < 2147483648 from ⟨by omega, by omega⟩).2 ?_
      refine z_goto (tgt := 117) dX11_hold_165 (by decide) ?_
      refine zW.sub (lv' := [(0, xR 169), (1, xI day), (2, xI t), (3, xI (k + 1))]) [1, 2, 3, 0] rfl ?_
      exact k2 c1 c2
    ·
      refine z_aload_n 0 dX11_hold_135 rfl ?_
      refine z_getS (v := 186) (k := 21) (kz := 21) pk11 dX11_hold_136 (by decide) zb_1145 rfl (zOb.lit (by decide +kernel)) rfl (by decide +kernel) ?_
      refine z_iload_n 3 dX11_hold_139 rfl ?_
      refine z_iald dX11_hold_140 (zOb.lit (by decide +kernel)) (show 0 ≤ k ∧ k < 60 from ⟨by omega, by omega⟩).1 (show 0 ≤ k ∧ k < 60 from ⟨by omega, by omega⟩).2 ?_
      refine z_iload_n 1 dX11_hold_141 rfl ?_
      refine z_icmp_gt (tgt := 162) dX11_hold_142 (by decide) (fun c3 => ?_) (fun c3 => ?_)
      ·
        refine z_iincN (lv' := [(3, xI (k + 1)), (0, xR 169), (1, xI day), (2, xI t)]) 3 dX11_hold_162 rfl (by decide) rfl (show -2147483648 ≤ k + 1 ∧ k + 1 < 2147483648 from ⟨by omega, by omega⟩).1 (show -2147483648 ≤ k + 1 ∧ k + 1 < 2147483648 from ⟨by omega, by omega⟩).2 ?_
        refine z_goto (tgt := 117) dX11_hold_165 (by decide) ?_
        refine zW.sub (lv' := [(0, xR 169), (1, xI day), (2, xI t), (3, xI (k + 1))]) [1, 2, 3, 0] rfl ?_
        exact k3 c1 c2 c3
      ·
        refine z_aload_n 0 dX11_hold_145 rfl ?_
        refine z_getS (v := 218) (k := 71) (kz := 71) pk11 dX11_hold_146 (by decide) zb_1195 rfl (zOb.lit (by decide +kernel)) rfl (by decide +kernel) ?_
        refine z_aload_n 0 dX11_hold_149 rfl ?_
        refine z_getS (v := 183) (k := 18) (kz := 18) pk11 dX11_hold_150 (by decide) zb_1142 rfl (zOb.lit (by decide +kernel)) rfl (by decide +kernel) ?_
        refine z_iload_n 3 dX11_hold_153 rfl ?_
        refine z_iald dX11_hold_154 (zOb.lit (by decide +kernel)) (show 0 ≤ k ∧ k < 60 from ⟨by omega, by omega⟩).1 (show 0 ≤ k ∧ k < 60 from ⟨by omega, by omega⟩).2 ?_
        refine z_aload_n 0 dX11_hold_155 rfl ?_
        refine z_getS (v := 185) (k := 20) (kz := 20) pk11 dX11_hold_156 (by decide) zb_1144 rfl (zOb.lit (by decide +kernel)) rfl (by decide +kernel) ?_
        refine z_iload_n 3 dX11_hold_159 rfl ?_
        refine z_iald dX11_hold_160 (zOb.lit (by decide +kernel)) (show 0 ≤ k ∧ k < 60 from ⟨by omega, by omega⟩).1 (show 0 ≤ k ∧ k < 60 from ⟨by omega, by omega⟩).2 ?_
        refine z_iast dX11_hold_161 (zOb.lit (by decide +kernel)) (show 0 ≤ (g 183 k) ∧ (g 183 k) < 60 from ⟨by omega, by omega⟩).1 (show 0 ≤ (g 183 k) ∧ (g 183 k) < 60 from ⟨by omega, by omega⟩).2 ?_
        refine z_iincN (lv' := [(3, xI (k + 1)), (0, xR 169), (1, xI day), (2, xI t)]) 3 dX11_hold_162 rfl (by decide) rfl (show -2147483648 ≤ k + 1 ∧ k + 1 < 2147483648 from ⟨by omega, by omega⟩).1 (show -2147483648 ≤ k + 1 ∧ k + 1 < 2147483648 from ⟨by omega, by omega⟩).2 ?_
        refine z_goto (tgt := 117) dX11_hold_165 (by decide) ?_
        refine zW.sub (lv' := [(0, xR 169), (1, xI day), (2, xI t), (3, xI (k + 1))]) [1, 2, 3, 0] rfl ?_
        exact k4 c1 c2 c3

set_option maxRecDepth 20000 in
theorem bX11_brothersOf_0 {X : zX} {dep bc bs : Nat} (m : Int) {h : zH} {Q : Nat → zH → List zV → Prop}
    (k1 : zW mX11_brothersOf X dep bc bs 239 4 [(0, xR 169), (1, xI m), (2, xI 0), (3, xI 0)] [] h Q) : zW mX11_brothersOf X dep bc bs 239 0 [(0, xR 169), (1, xI m)] [] h Q := by
  refine z_iconst dX11_brothersOf_0 (zi32_d rfl) ?_
  refine z_istore_n (lv' := [(2, xI 0), (0, xR 169), (1, xI m)]) dX11_brothersOf_1 (by decide) rfl ?_
  refine z_iconst dX11_brothersOf_2 (zi32_d rfl) ?_
  refine z_istore_n (lv' := [(3, xI 0), (2, xI 0), (0, xR 169), (1, xI m)]) dX11_brothersOf_3 (by decide) rfl ?_
  refine zW.sub (lv' := [(0, xR 169), (1, xI m), (2, xI 0), (3, xI 0)]) [2, 3, 1, 0] rfl ?_
  exact k1

set_option maxRecDepth 20000 in
theorem bX11_brothersOf_4 {X : zX} {dep bc bs : Nat} (m : Int) (n : Int) (b : Int) {h : zH} {Q : Nat → zH → List zV → Prop} (hm : 0 ≤ h 169 25 ∧ h 169 25 ≤ 60) (hx : 0 ≤ m ∧ m < 60) (hb : 0 ≤ b) (hn : 0 ≤ n ∧ n ≤ b) (hdep : 1 ≤ dep)
    (k1 : (h 169 25) ≤ b → Q 239 h [xI n])
    (k2 : ¬ ((h 169 25) ≤ b) → ¬ (m ≠ b ∧ h 215 b ≠ 0 ∧ h 173 m = h 173 b) → zW mX11_brothersOf X dep bc bs 239 4 [(0, xR 169), (1, xI m), (2, xI (n + 0)), (3, xI (b + 1))] [] h Q)
    (k3 : ¬ ((h 169 25) ≤ b) → m ≠ b ∧ h 215 b ≠ 0 ∧ h 173 m = h 173 b → zW mX11_brothersOf X dep bc bs 239 4 [(0, xR 169), (1, xI m), (2, xI (n + 1)), (3, xI (b + 1))] [] h Q) : zW mX11_brothersOf X dep bc bs 239 4 [(0, xR 169), (1, xI m), (2, xI n), (3, xI b)] [] h Q := by
  refine z_iload_n 3 dX11_brothersOf_4 rfl ?_
  refine z_aload_n 0 dX11_brothersOf_5 rfl ?_
  refine z_getI (k := 25) (kz := 25) pk11 dX11_brothersOf_6 (by decide) zb_1149 rfl (zOb.lit (by decide +kernel)) rfl ?_
  refine z_icmp_ge (tgt := 35) dX11_brothersOf_9 (by decide) (fun c1 => ?_) (fun c1 => ?_)
  ·
    refine z_iload_n 2 dX11_brothersOf_35 rfl ?_
    exact z_iret dX11_brothersOf_36 rfl (k1 c1)
  ·
    refine z_iload_n 2 dX11_brothersOf_12 rfl ?_
    refine z_aload_n 0 dX11_brothersOf_13 rfl ?_
    refine z_iload_n 1 dX11_brothersOf_14 rfl ?_
    refine z_iload_n 3 dX11_brothersOf_15 rfl ?_
    refine z_invF (ci := 11) (N := 97) (as := [xI m, xI b]) (st := [xI n]) (ra := [xI b, xI m]) (dep' := dep - 1) (rs := [xI (zb (m ≠ b ∧ h 215 b ≠ 0 ∧ h 173 m = h 173 b))]) (h' := h) (f_X11_areBrothers m b (h := h) hx (show 0 ≤ b ∧ b < 60 from ⟨by omega, by omega⟩)) dX11_brothersOf_16 nX11_areBrothers zb_1619 zb_1621 zb_60 zb_92 (zOb.lit (by decide +kernel)) rfl (by omega) zne_I (Nat.le_of_ble_eq_true rfl) (Nat.le_of_ble_eq_true rfl) rfl ?_
    refine z_ifB_eq (C := m ≠ b ∧ h 215 b ≠ 0 ∧ h 173 m = h 173 b) (tgt := 26) dX11_brothersOf_19 (by decide) (fun c2 => ?_) (fun c2 => ?_)
    ·
      refine z_iconst dX11_brothersOf_26 (zi32_d rfl) ?_
      refine z_iaddN dX11_brothersOf_27 (show -2147483648 ≤ n + 0 ∧ n + 0 < 2147483648 from ⟨by omega, by omega⟩).1 (show -2147483648 ≤ n + 0 ∧ n + 0 < 2147483648 from ⟨by omega, by omega⟩).2 ?_
      refine z_istore_n (lv' := [(2, xI (n + 0)), (0, xR 169), (1, xI m), (3, xI b)]) dX11_brothersOf_28 (by decide) rfl ?_
      refine z_iincN (lv' := [(3, xI (b + 1)), (2, xI (n + 0)), (0, xR 169), (1, xI m)]) 3 dX11_brothersOf_29 rfl (by decide) rfl (show -2147483648 ≤ b + 1 ∧ b + 1 < 2147483648 from ⟨by omega, by omega⟩).1 (show -2147483648 ≤ b + 1 ∧ b + 1 < 2147483648 from ⟨by omega, by omega⟩).2 ?_
      refine z_goto (tgt := 4) dX11_brothersOf_32 (by decide) ?_
      refine zW.sub (lv' := [(0, xR 169), (1, xI m), (2, xI (n + 0)), (3, xI (b + 1))]) [2, 3, 1, 0] rfl ?_
      exact k2 c1 c2
    ·
      refine z_iconst dX11_brothersOf_22 (zi32_d rfl) ?_
      refine z_goto (tgt := 27) dX11_brothersOf_23 (by decide) ?_
      refine z_iaddN dX11_brothersOf_27 (show -2147483648 ≤ n + 1 ∧ n + 1 < 2147483648 from ⟨by omega, by omega⟩).1 (show -2147483648 ≤ n + 1 ∧ n + 1 < 2147483648 from ⟨by omega, by omega⟩).2 ?_
      refine z_istore_n (lv' := [(2, xI (n + 1)), (0, xR 169), (1, xI m), (3, xI b)]) dX11_brothersOf_28 (by decide) rfl ?_
      refine z_iincN (lv' := [(3, xI (b + 1)), (2, xI (n + 1)), (0, xR 169), (1, xI m)]) 3 dX11_brothersOf_29 rfl (by decide) rfl (show -2147483648 ≤ b + 1 ∧ b + 1 < 2147483648 from ⟨by omega, by omega⟩).1 (show -2147483648 ≤ b + 1 ∧ b + 1 < 2147483648 from ⟨by omega, by omega⟩).2 ?_
      refine z_goto (tgt := 4) dX11_brothersOf_32 (by decide) ?_
      refine zW.sub (lv' := [(0, xR 169), (1, xI m), (2, xI (n + 1)), (3, xI (b + 1))]) [2, 3, 1, 0] rfl ?_
      exact k3 c1 c2

set_option maxRecDepth 20000 in
theorem bX11_servingOf_0 {X : zX} {dep bc bs : Nat} (m : Int) (l : Int) {h : zH} {Q : Nat → zH → List zV → Prop}
    (k1 : zW mX11_servingOf X dep bc bs 239 5 [(0, xR 169), (1, xI m), (2, xI l), (3, xI 0), (4, xI 0)] [] h Q) : zW mX11_servingOf X dep bc bs 239 0 [(0, xR 169), (1, xI m), (2, xI l)] [] h Q := by
  refine z_iconst dX11_servingOf_0 (zi32_d rfl) ?_
  refine z_istore_n (lv' := [(3, xI 0), (0, xR 169), (1, xI m), (2, xI l)]) dX11_servingOf_1 (by decide) rfl ?_
  refine z_iconst dX11_servingOf_2 (zi32_d rfl) ?_
  refine z_istore (lv' := [(4, xI 0), (3, xI 0), (0, xR 169), (1, xI m), (2, xI l)]) dX11_servingOf_3 (by decide) rfl ?_
  refine zW.sub (lv' := [(0, xR 169), (1, xI m), (2, xI l), (3, xI 0), (4, xI 0)]) [2, 3, 4, 1, 0] rfl ?_
  exact k1

set_option maxRecDepth 20000 in
theorem bX11_servingOf_5 {X : zX} {dep bc bs : Nat} (m : Int) (l : Int) (n : Int) (b : Int) {h : zH} {Q : Nat → zH → List zV → Prop} (hm : 0 ≤ h 169 25 ∧ h 169 25 ≤ 60) (hx : 0 ≤ m ∧ m < 60) (hl : 0 ≤ l ∧ l < 4) (hb : 0 ≤ b ∧ b ≤ 60) (hn : 0 ≤ n ∧ n ≤ b)
    (k1 : (h 169 25) ≤ b → Q 239 h [xI n])
    (k2 : ¬ ((h 169 25) ≤ b) → zW mX11_servingOf X dep bc bs 239 20 [(0, xR 169), (1, xI m), (2, xI l), (3, xI n), (4, xI b), (5, xI 0), (6, xI 0)] [] h Q) : zW mX11_servingOf X dep bc bs 239 5 [(0, xR 169), (1, xI m), (2, xI l), (3, xI n), (4, xI b)] [] h Q := by
  refine z_iload 4 dX11_servingOf_5 rfl ?_
  refine z_aload_n 0 dX11_servingOf_7 rfl ?_
  refine z_getI (k := 25) (kz := 25) pk11 dX11_servingOf_8 (by decide) zb_1149 rfl (zOb.lit (by decide +kernel)) rfl ?_
  refine z_icmp_ge (tgt := 89) dX11_servingOf_11 (by decide) (fun c1 => ?_) (fun c1 => ?_)
  ·
    refine z_iload_n 3 dX11_servingOf_89 rfl ?_
    exact z_iret dX11_servingOf_90 rfl (k1 c1)
  ·
    refine z_iconst dX11_servingOf_14 (zi32_d rfl) ?_
    refine z_istore (lv' := [(5, xI 0), (0, xR 169), (1, xI m), (2, xI l), (3, xI n), (4, xI b)]) dX11_servingOf_15 (by decide) rfl ?_
    refine z_iconst dX11_servingOf_17 (zi32_d rfl) ?_
    refine z_istore (lv' := [(6, xI 0), (5, xI 0), (0, xR 169), (1, xI m), (2, xI l), (3, xI n), (4, xI b)]) dX11_servingOf_18 (by decide) rfl ?_
    refine zW.sub (lv' := [(0, xR 169), (1, xI m), (2, xI l), (3, xI n), (4, xI b), (5, xI 0), (6, xI 0)]) [2, 3, 4, 5, 6, 1, 0] rfl ?_
    exact k2 c1

set_option maxRecDepth 20000 in
theorem bX11_servingOf_20 {X : zX} {dep bc bs : Nat} (m : Int) (l : Int) (n : Int) (b : Int) (y : Int) (k : Int) {h : zH} {Q : Nat → zH → List zV → Prop} (hm : 0 ≤ h 169 25 ∧ h 169 25 ≤ 60) (hx : 0 ≤ m ∧ m < 60) (hl : 0 ≤ l ∧ l < 4) (hb : 0 ≤ b ∧ b ≤ 60) (hn : 0 ≤ n ∧ n ≤ b) (hb2 : b < h 169 25) (hk : 0 ≤ k) (hdep : 1 ≤ dep)
    (k1 : l ≤ k → y = 0 → zW mX11_servingOf X dep bc bs 239 5 [(0, xR 169), (1, xI m), (2, xI l), (3, xI (n + 0)), (4, xI (b + 1))] [] h Q)
    (k2 : l ≤ k → ¬ (y = 0) → ¬ (m ≠ b ∧ h 215 b ≠ 0 ∧ h 173 m = h 173 b) → zW mX11_servingOf X dep bc bs 239 5 [(0, xR 169), (1, xI m), (2, xI l), (3, xI (n + 0)), (4, xI (b + 1))] [] h Q)
    (k3 : l ≤ k → ¬ (y = 0) → m ≠ b ∧ h 215 b ≠ 0 ∧ h 173 m = h 173 b → zW mX11_servingOf X dep bc bs 239 5 [(0, xR 169), (1, xI m), (2, xI l), (3, xI (n + 1)), (4, xI (b + 1))] [] h Q)
    (k4 : ¬ (l ≤ k) → ¬ y = 0 → zW mX11_servingOf X dep bc bs 239 20 [(0, xR 169), (1, xI m), (2, xI l), (3, xI n), (4, xI b), (5, xI 1), (6, xI (k + 1))] [] h Q)
    (k5 : ¬ (l ≤ k) → y = 0 → zW mX11_servingOf X dep bc bs 239 20 [(0, xR 169), (1, xI m), (2, xI l), (3, xI n), (4, xI b), (5, xI (if (h 230 ((60 * k) + b)) = 0 then 0 else 1 : Int)), (6, xI (k + 1))] [] h Q) : zW mX11_servingOf X dep bc bs 239 20 [(0, xR 169), (1, xI m), (2, xI l), (3, xI n), (4, xI b), (5, xI y), (6, xI k)] [] h Q := by
  refine z_iload 6 dX11_servingOf_20 rfl ?_
  refine z_iload_n 2 dX11_servingOf_22 rfl ?_
  refine z_icmp_ge (tgt := 60) dX11_servingOf_23 (by decide) (fun c1 => ?_) (fun c1 => ?_)
  ·
    refine z_iload_n 3 dX11_servingOf_60 rfl ?_
    refine z_iload 5 dX11_servingOf_61 rfl ?_
    refine z_if_eq (tgt := 80) dX11_servingOf_63 (by decide) (fun c2 => ?_) (fun c2 => ?_)
    ·
      refine z_iconst dX11_servingOf_80 (zi32_d rfl) ?_
      refine z_iaddN dX11_servingOf_81 (show -2147483648 ≤ n + 0 ∧ n + 0 < 2147483648 from ⟨by omega, by omega⟩).1 (show -2147483648 ≤ n + 0 ∧ n + 0 < 2147483648 from ⟨by omega, by omega⟩).2 ?_
      refine z_istore_n (lv' := [(3, xI (n + 0)), (0, xR 169), (1, xI m), (2, xI l), (4, xI b), (5, xI y), (6, xI k)]) dX11_servingOf_82 (by decide) rfl ?_
      refine z_iincN (lv' := [(4, xI (b + 1)), (3, xI (n + 0)), (0, xR 169), (1, xI m), (2, xI l), (5, xI y), (6, xI k)]) 4 dX11_servingOf_83 rfl (by decide) rfl (show -2147483648 ≤ b + 1 ∧ b + 1 < 2147483648 from ⟨by omega, by omega⟩).1 (show -2147483648 ≤ b + 1 ∧ b + 1 < 2147483648 from ⟨by omega, by omega⟩).2 ?_
      refine z_goto (tgt := 5) dX11_servingOf_86 (by decide) ?_
      refine zW.sub (lv' := [(0, xR 169), (1, xI m), (2, xI l), (3, xI (n + 0)), (4, xI (b + 1))]) [2, 3, 4, 1, 0] rfl ?_
      exact k1 c1 c2
    ·
      refine z_aload_n 0 dX11_servingOf_66 rfl ?_
      refine z_iload_n 1 dX11_servingOf_67 rfl ?_
      refine z_iload 4 dX11_servingOf_68 rfl ?_
      refine z_invF (ci := 11) (N := 97) (as := [xI m, xI b]) (st := [xI n]) (ra := [xI b, xI m]) (dep' := dep - 1) (rs := [xI (zb (m ≠ b ∧ h 215 b ≠ 0 ∧ h 173 m = h 173 b))]) (h' := h) (f_X11_areBrothers m b (h := h) hx (show 0 ≤ b ∧ b < 60 from ⟨by omega, by omega⟩)) dX11_servingOf_70 nX11_areBrothers zb_1619 zb_1621 zb_60 zb_92 (zOb.lit (by decide +kernel)) rfl (by omega) zne_I (Nat.le_of_ble_eq_true rfl) (Nat.le_of_ble_eq_true rfl) rfl ?_
      refine z_ifB_eq (C := m ≠ b ∧ h 215 b ≠ 0 ∧ h 173 m = h 173 b) (tgt := 80) dX11_servingOf_73 (by decide) (fun c3 => ?_) (fun c3 => ?_)
      ·
        refine z_iconst dX11_servingOf_80 (zi32_d rfl) ?_
        refine z_iaddN dX11_servingOf_81 (show -2147483648 ≤ n + 0 ∧ n + 0 < 2147483648 from ⟨by omega, by omega⟩).1 (show -2147483648 ≤ n + 0 ∧ n + 0 < 2147483648 from ⟨by omega, by omega⟩).2 ?_
        refine z_istore_n (lv' := [(3, xI (n + 0)), (0, xR 169), (1, xI m), (2, xI l), (4, xI b), (5, xI y), (6, xI k)]) dX11_servingOf_82 (by decide) rfl ?_
        refine z_iincN (lv' := [(4, xI (b + 1)), (3, xI (n + 0)), (0, xR 169), (1, xI m), (2, xI l), (5, xI y), (6, xI k)]) 4 dX11_servingOf_83 rfl (by decide) rfl (show -2147483648 ≤ b + 1 ∧ b + 1 < 2147483648 from ⟨by omega, by omega⟩).1 (show -2147483648 ≤ b + 1 ∧ b + 1 < 2147483648 from ⟨by omega, by omega⟩).2 ?_
        refine z_goto (tgt := 5) dX11_servingOf_86 (by decide) ?_
        refine zW.sub (lv' := [(0, xR 169), (1, xI m), (2, xI l), (3, xI (n + 0)), (4, xI (b + 1))]) [2, 3, 4, 1, 0] rfl ?_
        exact k2 c1 c2 c3
      ·
        refine z_iconst dX11_servingOf_76 (zi32_d rfl) ?_
        refine z_goto (tgt := 81) dX11_servingOf_77 (by decide) ?_
        refine z_iaddN dX11_servingOf_81 (show -2147483648 ≤ n + 1 ∧ n + 1 < 2147483648 from ⟨by omega, by omega⟩).1 (show -2147483648 ≤ n + 1 ∧ n + 1 < 2147483648 from ⟨by omega, by omega⟩).2 ?_
        refine z_istore_n (lv' := [(3, xI (n + 1)), (0, xR 169), (1, xI m), (2, xI l), (4, xI b), (5, xI y), (6, xI k)]) dX11_servingOf_82 (by decide) rfl ?_
        refine z_iincN (lv' := [(4, xI (b + 1)), (3, xI (n + 1)), (0, xR 169), (1, xI m), (2, xI l), (5, xI y), (6, xI k)]) 4 dX11_servingOf_83 rfl (by decide) rfl (show -2147483648 ≤ b + 1 ∧ b + 1 < 2147483648 from ⟨by omega, by omega⟩).1 (show -2147483648 ≤ b + 1 ∧ b + 1 < 2147483648 from ⟨by omega, by omega⟩).2 ?_
        refine z_goto (tgt := 5) dX11_servingOf_86 (by decide) ?_
        refine zW.sub (lv' := [(0, xR 169), (1, xI m), (2, xI l), (3, xI (n + 1)), (4, xI (b + 1))]) [2, 3, 4, 1, 0] rfl ?_
        exact k3 c1 c2 c3
  ·
    refine z_iload 5 dX11_servingOf_26 rfl ?_
    refine z_if_ne (tgt := 47) dX11_servingOf_28 (by decide) (fun c2 => ?_) (fun c2 => ?_)
    ·
      refine z_iconst dX11_servingOf_47 (zi32_d rfl) ?_
      refine z_goto (tgt := 52) dX11_servingOf_48 (by decide) ?_
      refine z_istore (lv' := [(5, xI 1), (0, xR 169), (1, xI m), (2, xI l), (3, xI n), (4, xI b), (6, xI k)]) dX11_servingOf_52 (by decide) rfl ?_
      refine z_iincN (lv' := [(6, xI (k + 1)), (5, xI 1), (0, xR 169), (1, xI m), (2, xI l), (3, xI n), (4, xI b)]) 6 dX11_servingOf_54 rfl (by decide) rfl (show -2147483648 ≤ k + 1 ∧ k + 1 < 2147483648 from ⟨by omega, by omega⟩).1 (show -2147483648 ≤ k + 1 ∧ k + 1 < 2147483648 from ⟨by omega, by omega⟩).2 ?_
      refine z_goto (tgt := 20) dX11_servingOf_57 (by decide) ?_
      refine zW.sub (lv' := [(0, xR 169), (1, xI m), (2, xI l), (3, xI n), (4, xI b), (5, xI 1), (6, xI (k + 1))]) [2, 3, 4, 5, 6, 1, 0] rfl ?_
      exact k4 c1 c2
    ·
      refine z_aload_n 0 dX11_servingOf_31 rfl ?_
      refine z_getS (v := 230) (k := 83) (kz := 83) pk11 dX11_servingOf_32 (by decide) zb_1207 rfl (zOb.lit (by decide +kernel)) rfl (by decide +kernel) ?_
      refine z_bipush dX11_servingOf_35 (zi32_d rfl) (by decide) ?_
      refine z_iload 6 dX11_servingOf_37 rfl ?_
      refine z_imulN dX11_servingOf_39 (show -2147483648 ≤ 60 * k ∧ 60 * k < 2147483648 from ⟨by omega, by omega⟩).1 (show -2147483648 ≤ 60 * k ∧ 60 * k < 2147483648 from ⟨by omega, by omega⟩).2 ?_
      refine z_iload 4 dX11_servingOf_40 rfl ?_
      refine z_iaddN dX11_servingOf_42 (show -2147483648 ≤ (60 * k) + b ∧ (60 * k) + b < 2147483648 from ⟨by omega, by omega⟩).1 (show -2147483648 ≤ (60 * k) + b ∧ (60 * k) + b < 2147483648 from ⟨by omega, by omega⟩).2 ?_
      refine z_zald dX11_servingOf_43 (zOb.lit (by decide +kernel)) (show 0 ≤ ((60 * k) + b) ∧ ((60 * k) + b) < 240 from ⟨by omega, by omega⟩).1 (show 0 ≤ ((60 * k) + b) ∧ ((60 * k) + b) < 240 from ⟨by omega, by omega⟩).2 ?_
      suffices KJ : zW mX11_servingOf X dep bc bs 239 52 [(0, xR 169), (1, xI m), (2, xI l), (3, xI n), (4, xI b), (5, xI y), (6, xI k)] [xI (if (h 230 ((60 * k) + b)) = 0 then 0 else 1 : Int)] h Q by
        refine z_if_eq (tgt := 51) dX11_servingOf_44 (by decide) (fun j1 => ?_) (fun j1 => ?_)
        ·
          refine z_iconst dX11_servingOf_51 (zi32_d rfl) ?_
          rw [if_pos j1] at KJ
          exact KJ
        ·
          refine z_iconst dX11_servingOf_47 (zi32_d rfl) ?_
          refine z_goto (tgt := 52) dX11_servingOf_48 (by decide) ?_
          rw [if_neg j1] at KJ
          exact KJ
      refine z_istore (lv' := [(5, xI (if (h 230 ((60 * k) + b)) = 0 then 0 else 1 : Int)), (0, xR 169), (1, xI m), (2, xI l), (3, xI n), (4, xI b), (6, xI k)]) dX11_servingOf_52 (by decide) rfl ?_
      refine z_iincN (lv' := [(6, xI (k + 1)), (5, xI (if (h 230 ((60 * k) + b)) = 0 then 0 else 1 : Int)), (0, xR 169), (1, xI m), (2, xI l), (3, xI n), (4, xI b)]) 6 dX11_servingOf_54 rfl (by decide) rfl (show -2147483648 ≤ k + 1 ∧ k + 1 < 2147483648 from ⟨by omega, by omega⟩).1 (show -2147483648 ≤ k + 1 ∧ k + 1 < 2147483648 from ⟨by omega, by omega⟩).2 ?_
      refine z_goto (tgt := 20) dX11_servingOf_57 (by decide) ?_
      refine zW.sub (lv' := [(0, xR 169), (1, xI m), (2, xI l), (3, xI n), (4, xI b), (5, xI (if (h 230 ((60 * k) + b)) = 0 then 0 else 1 : Int)), (6, xI (k + 1))]) [2, 3, 4, 5, 6, 1, 0] rfl ?_
      exact k5 c1 c2


/-- what is held of every man on a day, as of day t -/
def mHeld (h : zH) (day t : Int) (g : zH) : Prop := zag [217, 218] h g ∧ (∀ q : Int, 0 ≤ q → q < 360 → g 217 q = zlw (fun r => h 182 r ≤ t ∧ h 180 r ≤ day ∧ day ≤ h 181 r) (fun r => 6 * h 177 r + h 178 r) (h 179) (fun _ => 0) (h 169 27).toNat q) ∧ ∀ m : Int, 0 ≤ m → m < 60 → g 218 m = zlw (fun r => h 186 r ≤ t ∧ h 186 r ≤ day) (h 183) (h 185) (fun _ => 0) (h 169 28).toNat m
theorem l_X11_hold_2 {X : zX} {dep : Nat} {h : zH} {Q : Nat → zH → List zV → Prop} (day t : Int)
    (kx : ∀ g : zH, zag [217, 218] h g → (∀ q, 0 ≤ q → q < 360 → g 217 q = 0) → zW mX11_hold X dep 0 0 239 24 [(0, xR 169), (1, xI day), (2, xI t), (3, xI 0)] [] g Q) :
    ∀ (k : Nat) (i : Int) (g : zH), 0 ≤ i → i + k = 360 → zag [217, 218] h g → (∀ q, 0 ≤ q → q < i → g 217 q = 0) → zW mX11_hold X dep 0 0 239 2 [(0, xR 169), (1, xI day), (2, xI t), (3, xI i)] [] g Q := by
  intro k
  induction k with
  | zero =>
    intro i g h0 hk ha hi
    refine bX11_hold_2 day t i h0 ?_ ?_
    · intro c
      exact kx g ha (fun m q1 q2 => hi m q1 (by omega))
    · intro c
      exfalso
      omega
  | succ k ih =>
    intro i g h0 hk ha hi
    refine bX11_hold_2 day t i h0 ?_ ?_
    · intro c
      exfalso
      omega
    · intro c
      refine ih (i + 1) _ (by omega) (by omega) (ha.st (by decide) _ _) (fun m q1 q2 => ?_)
      rw [zst_or]
      split
      · rfl
      · exact hi m q1 (by omega)
theorem l_X11_hold_24 {X : zX} {dep : Nat} {h f : zH} {Q : Nat → zH → List zV → Prop} (day t : Int)
    (kx : ∀ g : zH, zag [217, 218] h g → (∀ q : Int, g 217 q = f 217 q) → (∀ q, 0 ≤ q → q < 60 → g 218 q = 0) → zW mX11_hold X dep 0 0 239 45 [(0, xR 169), (1, xI day), (2, xI t), (3, xI 0)] [] g Q) :
    ∀ (k : Nat) (i : Int) (g : zH), 0 ≤ i → i + k = 60 → zag [217, 218] h g → (∀ q : Int, g 217 q = f 217 q) → (∀ q, 0 ≤ q → q < i → g 218 q = 0) → zW mX11_hold X dep 0 0 239 24 [(0, xR 169), (1, xI day), (2, xI t), (3, xI i)] [] g Q := by
  intro k
  induction k with
  | zero =>
    intro i g h0 hk ha hb hi
    refine bX11_hold_24 day t i h0 ?_ ?_
    · intro c
      exact kx g ha hb (fun m q1 q2 => hi m q1 (by omega))
    · intro c
      exfalso
      omega
  | succ k ih =>
    intro i g h0 hk ha hb hi
    refine bX11_hold_24 day t i h0 ?_ ?_
    · intro c
      exfalso
      omega
    · intro c
      refine ih (i + 1) _ (by omega) (by omega) (ha.st (by decide) _ _) (fun q => ?_) (fun m q1 q2 => ?_)
      · rw [zst_ne (Or.inl (by decide))]
        exact hb q
      · rw [zst_or]
        split
        · rfl
        · exact hi m q1 (by omega)
theorem l_X11_hold_45 {X : zX} {dep : Nat} {h f : zH} {Q : Nat → zH → List zV → Prop} (hm : 0 ≤ h 169 25 ∧ h 169 25 ≤ 60) (hs : mFaOK h) (day t : Int) (hdep : 1 ≤ dep)
    (kx : ∀ (g : zH), zag [217, 218] h g → (∀ q : Int, g 218 q = f 218 q) → (∀ q : Int, g 217 q = zlw (fun r => h 182 r ≤ t ∧ h 180 r ≤ day ∧ day ≤ h 181 r) (fun r => 6 * h 177 r + h 178 r) (h 179) (f 217) (h 169 27).toNat q) → zW mX11_hold X dep 0 0 239 117 [(0, xR 169), (1, xI day), (2, xI t), (3, xI 0)] [] g Q) :
    ∀ (j r : Nat) (g : zH), (r : Int) + j = h 169 27 → zag [217, 218] h g → (∀ q : Int, g 218 q = f 218 q) → (∀ q : Int, g 217 q = zlw (fun r => h 182 r ≤ t ∧ h 180 r ≤ day ∧ day ≤ h 181 r) (fun r => 6 * h 177 r + h 178 r) (h 179) (f 217) r q) → zW mX11_hold X dep 0 0 239 45 [(0, xR 169), (1, xI day), (2, xI t), (3, xI r)] [] g Q := by
  intro j
  induction j with
  | zero =>
    intro r g hk ha hb hw
    have e3 := ha 169 25 (by decide)
    have e4 := ha 169 27 (by decide)
    refine bX11_hold_45 day t r (by rw [e3]; exact hm) (by rw [e4]; exact hs.1) (by omega) (Or.inl (by omega)) hdep ?_ ?_ ?_ ?_
    · intro c
      refine kx g ha hb ?_
      rw [show (h 169 27).toNat = r by omega]
      exact hw
    all_goals
      intro c
      exfalso
      omega
  | succ j ih =>
    intro r g hk ha hb hw
    have e3 := ha 169 25 (by decide)
    have e4 := ha 169 27 (by decide)
    have e5 := ha 177 r (by decide)
    have e6 := ha 178 r (by decide)
    have e7 := ha 179 r (by decide)
    have e8 := ha 180 r (by decide)
    have e9 := ha 181 r (by decide)
    have e10 := ha 182 r (by decide)
    have hr := hs.2 r (by omega) (by omega)
    have no : ¬ (h 182 r ≤ t ∧ h 180 r ≤ day ∧ day ≤ h 181 r) → zW mX11_hold X dep 0 0 239 45 [(0, xR 169), (1, xI day), (2, xI t), (3, xI ((r : Int) + 1))] [] g Q := fun c => by
      have := ih (r + 1) g (by omega) ha hb (fun q => by
        rw [zlw_f (C := fun r => h 182 r ≤ t ∧ h 180 r ≤ day ∧ day ≤ h 181 r) c]
        exact hw q)
      rw [show ((r + 1 : Nat) : Int) = (r : Int) + 1 by omega] at this
      exact this
    refine bX11_hold_45 day t r (by rw [e3]; exact hm) (by rw [e4]; exact hs.1) (by omega) (Or.inr (by omega)) hdep ?_ ?_ ?_ ?_
    · intro c
      exfalso
      omega
    · intro c1 c2
      exact no (by omega)
    · intro c1 c2 c3
      exact no (by omega)
    · intro c1 c2 c3
      rw [e5, e6, e7]
      have c : h 182 r ≤ t ∧ h 180 r ≤ day ∧ day ≤ h 181 r := by omega
      have := ih (r + 1) _ (by omega) (ha.st (o := 217) (by decide) (6 * h 177 r + h 178 r) (h 179 r)) (fun q => by
        rw [zst_ne (Or.inl (by decide))]
        exact hb q) (fun q => by
        rw [zlw_t (C := fun r => h 182 r ≤ t ∧ h 180 r ≤ day ∧ day ≤ h 181 r) c, zst_or]
        by_cases e : q = 6 * h 177 r + h 178 r
        · rw [if_pos e, if_pos e]
        · rw [if_neg e, if_neg e]
          exact hw q)
      rw [show ((r + 1 : Nat) : Int) = (r : Int) + 1 by omega] at this
      exact this
theorem l_X11_hold_117 {X : zX} {dep : Nat} {h f : zH} {Q : Nat → zH → List zV → Prop} (hm : 0 ≤ h 169 25 ∧ h 169 25 ≤ 60) (hs : mExOK h) (day t : Int)
    (kx : ∀ (g : zH), zag [217, 218] h g → (∀ q : Int, g 217 q = f 217 q) → (∀ q : Int, g 218 q = zlw (fun r => h 186 r ≤ t ∧ h 186 r ≤ day) (h 183) (h 185) (f 218) (h 169 28).toNat q) → Q 239 g []) :
    ∀ (j r : Nat) (g : zH), (r : Int) + j = h 169 28 → zag [217, 218] h g → (∀ q : Int, g 217 q = f 217 q) → (∀ q : Int, g 218 q = zlw (fun r => h 186 r ≤ t ∧ h 186 r ≤ day) (h 183) (h 185) (f 218) r q) → zW mX11_hold X dep 0 0 239 117 [(0, xR 169), (1, xI day), (2, xI t), (3, xI r)] [] g Q := by
  intro j
  induction j with
  | zero =>
    intro r g hk ha hb hw
    have e3 := ha 169 25 (by decide)
    have e4 := ha 169 28 (by decide)
    refine bX11_hold_117 day t r (by rw [e3]; exact hm) (by rw [e4]; exact hs.1) (by omega) (Or.inl (by omega)) ?_ ?_ ?_ ?_
    · intro c
      refine kx g ha hb ?_
      rw [show (h 169 28).toNat = r by omega]
      exact hw
    all_goals
      intro c
      exfalso
      omega
  | succ j ih =>
    intro r g hk ha hb hw
    have e3 := ha 169 25 (by decide)
    have e4 := ha 169 28 (by decide)
    have e5 := ha 183 r (by decide)
    have e6 := ha 185 r (by decide)
    have e7 := ha 186 r (by decide)
    have hr := hs.2 r (by omega) (by omega)
    have no : ¬ (h 186 r ≤ t ∧ h 186 r ≤ day) → zW mX11_hold X dep 0 0 239 117 [(0, xR 169), (1, xI day), (2, xI t), (3, xI ((r : Int) + 1))] [] g Q := fun c => by
      have := ih (r + 1) g (by omega) ha hb (fun q => by
        rw [zlw_f (C := fun r => h 186 r ≤ t ∧ h 186 r ≤ day) c]
        exact hw q)
      rw [show ((r + 1 : Nat) : Int) = (r : Int) + 1 by omega] at this
      exact this
    refine bX11_hold_117 day t r (by rw [e3]; exact hm) (by rw [e4]; exact hs.1) (by omega) (Or.inr (by omega)) ?_ ?_ ?_ ?_
    · intro c
      exfalso
      omega
    · intro c1 c2
      exact no (by omega)
    · intro c1 c2 c3
      exact no (by omega)
    · intro c1 c2 c3
      rw [e5, e6]
      have c : h 186 r ≤ t ∧ h 186 r ≤ day := by omega
      have := ih (r + 1) _ (by omega) (ha.st (o := 218) (by decide) (h 183 r) (h 185 r)) (fun q => by
        rw [zst_ne (Or.inl (by decide))]
        exact hb q) (fun q => by
        rw [zlw_t (C := fun r => h 186 r ≤ t ∧ h 186 r ≤ day) c, zst_or]
        by_cases e : q = h 183 r
        · rw [if_pos e, if_pos e]
        · rw [if_neg e, if_neg e]
          exact hw q)
      rw [show ((r + 1 : Nat) : Int) = (r : Int) + 1 by omega] at this
      exact this
theorem f_X11_hold {X : zX} {dep : Nat} (day t : Int) {h : zH} (hm : 0 ≤ h 169 25 ∧ h 169 25 ≤ 60) (hf : mFaOK h) (he : mExOK h) (hdep : 1 ≤ dep) : zW mX11_hold X dep 0 0 239 0 (zar 0 [xR 169, xI day, xI t]) [] h (zQ0 (mHeld h day t)) := by
  refine bX11_hold_0 day t ?_
  refine l_X11_hold_2 day t (fun g ha hw => ?_) 360 0 h (by omega) (by omega) (zag.rf _ _) (fun m q1 q2 => by omega)
  refine l_X11_hold_24 (f := g) day t (fun g2 ha2 hb2 hw2 => ?_) 60 0 g (by omega) (by omega) ha (fun _ => rfl) (fun m q1 q2 => by omega)
  refine l_X11_hold_45 (f := g2) hm hf day t hdep (fun g3 ha3 hb3 hw3 => ?_) (h 169 27).toNat 0 g2 (by have := hf.1; omega) ha2 (fun _ => rfl) (fun q => rfl)
  refine l_X11_hold_117 (f := g3) hm he day t (fun g4 ha4 hb4 hw4 => ?_) (h 169 28).toNat 0 g3 (by have := he.1; omega) ha3 (fun _ => rfl) (fun q => rfl)
  refine ⟨rfl, rfl, ha4, fun q q0 q1 => ?_, fun m m0 m1 => ?_⟩
  · rw [hb4 q, hw3 q]
    refine zlw_b ?_ _
    rw [hb2 q, hw q q0 q1]
  · rw [hw4 m]
    refine zlw_b ?_ _
    rw [hb3 m, hw2 m m0 m1]
/-- b is a brother of m -/
def mBro (h : zH) (m b : Int) : Prop := m ≠ b ∧ h 215 b ≠ 0 ∧ h 173 m = h 173 b
/-- b serves of a lot before l -/
def mSer (h : zH) (l b : Int) : Prop := ∃ k : Int, (0 ≤ k ∧ k < l) ∧ h 230 (60 * k + b) ≠ 0
theorem f_X11_brothersOf {X : zX} {dep : Nat} (m : Int) {h : zH} (hm : 0 ≤ h 169 25 ∧ h 169 25 ≤ 60) (hx : 0 ≤ m ∧ m < 60) (hdep : 1 ≤ dep) : zW mX11_brothersOf X dep 0 0 239 0 (zar 0 [xR 169, xI m]) [] h (zF h [xI (zcnt (mBro h m) (h 169 25).toNat)]) := by
  refine bX11_brothersOf_0 m ?_
  have main : ∀ (j b : Nat), (b : Int) + j = h 169 25 → zW mX11_brothersOf X dep 0 0 239 4 [(0, xR 169), (1, xI m), (2, xI (zcnt (mBro h m) b)), (3, xI b)] [] h (zF h [xI (zcnt (mBro h m) (h 169 25).toNat)]) := by
    intro j
    induction j with
    | zero =>
      intro b hk
      refine bX11_brothersOf_4 m _ b hm hx (by omega) (zcnt_in _ b) hdep ?_ ?_ ?_
      · intro c
        rw [show (h 169 25).toNat = b by omega]
        exact ⟨rfl, rfl, rfl⟩
      all_goals
        intro c
        exfalso
        omega
    | succ j ih =>
      intro b hk
      have go := ih (b + 1) (by omega)
      rw [show ((b + 1 : Nat) : Int) = (b : Int) + 1 by omega] at go
      refine bX11_brothersOf_4 m _ b hm hx (by omega) (zcnt_in _ b) hdep ?_ ?_ ?_
      · intro c
        exfalso
        omega
      · intro c1 c2
        rw [zcnt_0 (P := mBro h m) c2] at go
        rw [Int.add_zero]
        exact go
      · intro c1 c2
        rw [zcnt_1 (P := mBro h m) c2] at go
        exact go
  exact main (h 169 25).toNat 0 (by omega)
theorem l_X11_servingOf_20 {X : zX} {dep : Nat} {h : zH} {Q : Nat → zH → List zV → Prop} (m l n b : Int) (hm : 0 ≤ h 169 25 ∧ h 169 25 ≤ 60) (hx : 0 ≤ m ∧ m < 60) (hl : 0 ≤ l ∧ l < 4) (hb : 0 ≤ b ∧ b < h 169 25) (hn : 0 ≤ n ∧ n ≤ b) (hdep : 1 ≤ dep)
    (kx : zW mX11_servingOf X dep 0 0 239 5 [(0, xR 169), (1, xI m), (2, xI l), (3, xI (n + zb (mSer h l b ∧ mBro h m b))), (4, xI (b + 1))] [] h Q) :
    ∀ (j : Nat) (k y : Int), 0 ≤ k → k + j = l → (y ≠ 0 ↔ mSer h k b) → zW mX11_servingOf X dep 0 0 239 20 [(0, xR 169), (1, xI m), (2, xI l), (3, xI n), (4, xI b), (5, xI y), (6, xI k)] [] h Q := by
  intro j
  induction j with
  | zero =>
    intro k y h0 hk hy
    obtain rfl : k = l := by omega
    refine bX11_servingOf_20 m k n b y k hm hx hl ⟨hb.1, by omega⟩ hn hb.2 h0 hdep ?_ ?_ ?_ ?_ ?_
    · intro c1 c2
      rw [zb_f (fun z => hy.mpr z.1 c2)] at kx
      exact kx
    · intro c1 c2 c3
      rw [zb_f (fun z => c3 z.2)] at kx
      exact kx
    · intro c1 c2 c3
      rw [zb_t ⟨hy.mp c2, c3⟩] at kx
      exact kx
    all_goals
      intro c
      exfalso
      omega
  | succ j ih =>
    intro k y h0 hk hy
    refine bX11_servingOf_20 m l n b y k hm hx hl ⟨hb.1, by omega⟩ hn hb.2 h0 hdep ?_ ?_ ?_ ?_ ?_
    · intro c1 c2
      exfalso
      omega
    · intro c1 c2 c3
      exfalso
      omega
    · intro c1 c2 c3
      exfalso
      omega
    · intro c1 c2
      refine ih (k + 1) 1 (by omega) (by omega) ⟨fun _ => ?_, fun _ => by decide⟩
      obtain ⟨i, i1, i2⟩ := hy.mp c2
      exact ⟨i, ⟨i1.1, by omega⟩, i2⟩
    · intro c1 c2
      refine ih (k + 1) _ (by omega) (by omega) ⟨fun q => ?_, fun q => ?_⟩
      · by_cases e : h 230 (60 * k + b) = 0
        · rw [if_pos e] at q
          exact absurd rfl q
        · exact ⟨k, ⟨h0, by omega⟩, e⟩
      · obtain ⟨i, i1, i2⟩ := q
        by_cases e : i = k
        · rw [e] at i2
          rw [if_neg i2]
          decide
        · exact absurd c2 (hy.mpr ⟨i, ⟨i1.1, by omega⟩, i2⟩)
theorem f_X11_servingOf {X : zX} {dep : Nat} (m l : Int) {h : zH} (hm : 0 ≤ h 169 25 ∧ h 169 25 ≤ 60) (hx : 0 ≤ m ∧ m < 60) (hl : 0 ≤ l ∧ l < 4) (hdep : 1 ≤ dep) : zW mX11_servingOf X dep 0 0 239 0 (zar 0 [xR 169, xI m, xI l]) [] h (zF h [xI (zcnt (fun b => mSer h l b ∧ mBro h m b) (h 169 25).toNat)]) := by
  refine bX11_servingOf_0 m l ?_
  have main : ∀ (j b : Nat), (b : Int) + j = h 169 25 → zW mX11_servingOf X dep 0 0 239 5 [(0, xR 169), (1, xI m), (2, xI l), (3, xI (zcnt (fun b => mSer h l b ∧ mBro h m b) b)), (4, xI b)] [] h (zF h [xI (zcnt (fun b => mSer h l b ∧ mBro h m b) (h 169 25).toNat)]) := by
    intro j
    induction j with
    | zero =>
      intro b hk
      refine bX11_servingOf_5 m l _ b hm hx hl (by omega) (zcnt_in _ b) ?_ ?_
      · intro c
        rw [show (h 169 25).toNat = b by omega]
        exact ⟨rfl, rfl, rfl⟩
      · intro c
        exfalso
        omega
    | succ j ih =>
      intro b hk
      have go := ih (b + 1) (by omega)
      rw [show ((b + 1 : Nat) : Int) = (b : Int) + 1 by omega, zcnt_s] at go
      refine bX11_servingOf_5 m l _ b hm hx hl (by omega) (zcnt_in _ b) ?_ ?_
      · intro c
        exfalso
        omega
      · intro c
        refine l_X11_servingOf_20 m l _ b hm hx hl (by omega) (zcnt_in _ b) hdep go l.toNat 0 0 (by omega) (by omega) ⟨fun z => absurd rfl z, fun ⟨i, i1, _⟩ => by omega⟩
  exact main (h 169 25).toNat 0 (by omega)
/-- a man's number, of its kind -/
noncomputable def mnum (h : zH) (w m l : Int) : Int :=
  if w = 4 then zage (h 214 m) (h 205 l) else if w = 5 then h 217 (6 * m) else if w = 6 then h 217 (6 * m + 1) else if w = 7 then h 217 (6 * m + 5) else if w = 8 then h 218 m else if w = 9 then zcnt (mBro h m) (h 169 25).toNat else if w = 10 then zcnt (fun b => mSer h l b ∧ mBro h m b) (h 169 25).toNat else h 172 m

set_option maxRecDepth 20000 in
theorem bX11_numberOf_0 {X : zX} {dep bc bs : Nat} (w : Int) (m : Int) (l : Int) {h : zH} {Q : Nat → zH → List zV → Prop} (hm : 0 ≤ h 169 25 ∧ h 169 25 ≤ 60) (hx : 0 ≤ m ∧ m < 60) (hl : 0 ≤ l ∧ l < 4) (hb : -3120 ≤ h 214 m ∧ h 214 m < 520) (hd : 0 ≤ h 205 l ∧ h 205 l ≤ 3639) (hdep : 2 ≤ dep)
    (k1 : w < 4 → Q 239 h [xI (h 172 m)])
    (k2 : 10 < w → Q 239 h [xI (h 172 m)])
    (k3 : w = 4 → Q 239 h [xI (zage (h 214 m) (h 205 l))])
    (k4 : w = 5 → Q 239 h [xI (h 217 (6 * m))])
    (k5 : w = 6 → Q 239 h [xI (h 217 ((6 * m) + 1))])
    (k6 : w = 7 → Q 239 h [xI (h 217 ((6 * m) + 5))])
    (k7 : w = 8 → Q 239 h [xI (h 218 m)])
    (k8 : w = 9 → Q 239 h [xI (zcnt (mBro h m) (h 169 25).toNat)])
    (k9 : w = 10 → Q 239 h [xI (zcnt (fun b => mSer h l b ∧ mBro h m b) (h 169 25).toNat)]) : zW mX11_numberOf X dep bc bs 239 0 [(0, xR 169), (1, xI w), (2, xI m), (3, xI l)] [] h Q := by
  refine z_iload_n 1 dX11_numberOf_0 rfl ?_
  rcases (show w < 4 ∨ 10 < w ∨ w = 4 ∨ w = 5 ∨ w = 6 ∨ w = 7 ∨ w = 8 ∨ w = 9 ∨ w = 10 by omega) with c1 | c1 | c1 | c1 | c1 | c1 | c1 | c1 | c1
  ·
    refine z_tsOut (tgt := 110) dX11_numberOf_1 (Or.inl c1) (by decide) ?_
    refine z_aload_n 0 dX11_numberOf_110 rfl ?_
    refine z_getS (v := 172) (k := 7) (kz := 7) pk11 dX11_numberOf_111 (by decide) zb_1131 rfl (zOb.lit (by decide +kernel)) rfl (by decide +kernel) ?_
    refine z_iload_n 2 dX11_numberOf_114 rfl ?_
    refine z_iald dX11_numberOf_115 (zOb.lit (by decide +kernel)) hx.1 hx.2 ?_
    exact z_iret dX11_numberOf_116 rfl (k1 c1)
  ·
    refine z_tsOut (tgt := 110) dX11_numberOf_1 (Or.inr c1) (by decide) ?_
    refine z_aload_n 0 dX11_numberOf_110 rfl ?_
    refine z_getS (v := 172) (k := 7) (kz := 7) pk11 dX11_numberOf_111 (by decide) zb_1131 rfl (zOb.lit (by decide +kernel)) rfl (by decide +kernel) ?_
    refine z_iload_n 2 dX11_numberOf_114 rfl ?_
    refine z_iald dX11_numberOf_115 (zOb.lit (by decide +kernel)) hx.1 hx.2 ?_
    exact z_iret dX11_numberOf_116 rfl (k2 c1)
  ·
    refine z_tsIn (tgt := 44) dX11_numberOf_1 (by omega) (by omega) (by rw [c1]; rfl) (by decide) ?_
    refine z_aload_n 0 dX11_numberOf_44 rfl ?_
    refine z_iload_n 2 dX11_numberOf_45 rfl ?_
    refine z_aload_n 0 dX11_numberOf_46 rfl ?_
    refine z_getS (v := 205) (k := 57) (kz := 57) pk11 dX11_numberOf_47 (by decide) zb_1181 rfl (zOb.lit (by decide +kernel)) rfl (by decide +kernel) ?_
    refine z_iload_n 3 dX11_numberOf_50 rfl ?_
    refine z_iald dX11_numberOf_51 (zOb.lit (by decide +kernel)) hl.1 hl.2 ?_
    refine z_invF (ci := 11) (N := 97) (as := [xI m, xI (h 205 l)]) (st := []) (ra := [xI (h 205 l), xI m]) (dep' := dep - 1) (rs := [xI (zage (h 214 m) (h 205 l))]) (h' := h) (f_X11_ageOf m (h 205 l) (h := h) hx (show 0 ≤ (h 205 l) ∧ (h 205 l) ≤ 3639 from ⟨by omega, by omega⟩) hb) dX11_numberOf_52 nX11_ageOf zb_1607 zb_1609 zb_58 zb_92 (zOb.lit (by decide +kernel)) rfl (by omega) zne_I (Nat.le_of_ble_eq_true rfl) (Nat.le_of_ble_eq_true rfl) rfl ?_
    exact z_iret dX11_numberOf_55 rfl (k3 c1)
  ·
    refine z_tsIn (tgt := 56) dX11_numberOf_1 (by omega) (by omega) (by rw [c1]; rfl) (by decide) ?_
    refine z_aload_n 0 dX11_numberOf_56 rfl ?_
    refine z_getS (v := 217) (k := 70) (kz := 70) pk11 dX11_numberOf_57 (by decide) zb_1194 rfl (zOb.lit (by decide +kernel)) rfl (by decide +kernel) ?_
    refine z_bipush dX11_numberOf_60 (zi32_d rfl) (by decide) ?_
    refine z_iload_n 2 dX11_numberOf_62 rfl ?_
    refine z_imulN dX11_numberOf_63 (show -2147483648 ≤ 6 * m ∧ 6 * m < 2147483648 from ⟨by omega, by omega⟩).1 (show -2147483648 ≤ 6 * m ∧ 6 * m < 2147483648 from ⟨by omega, by omega⟩).2 ?_
    refine z_iald dX11_numberOf_64 (zOb.lit (by decide +kernel)) (show 0 ≤ (6 * m) ∧ (6 * m) < 360 from ⟨by omega, by omega⟩).1 (show 0 ≤ (6 * m) ∧ (6 * m) < 360 from ⟨by omega, by omega⟩).2 ?_
    exact z_iret dX11_numberOf_65 rfl (k4 c1)
  ·
    refine z_tsIn (tgt := 66) dX11_numberOf_1 (by omega) (by omega) (by rw [c1]; rfl) (by decide) ?_
    refine z_aload_n 0 dX11_numberOf_66 rfl ?_
    refine z_getS (v := 217) (k := 70) (kz := 70) pk11 dX11_numberOf_67 (by decide) zb_1194 rfl (zOb.lit (by decide +kernel)) rfl (by decide +kernel) ?_
    refine z_bipush dX11_numberOf_70 (zi32_d rfl) (by decide) ?_
    refine z_iload_n 2 dX11_numberOf_72 rfl ?_
    refine z_imulN dX11_numberOf_73 (show -2147483648 ≤ 6 * m ∧ 6 * m < 2147483648 from ⟨by omega, by omega⟩).1 (show -2147483648 ≤ 6 * m ∧ 6 * m < 2147483648 from ⟨by omega, by omega⟩).2 ?_
    refine z_iconst dX11_numberOf_74 (zi32_d rfl) ?_
    refine z_iaddN dX11_numberOf_75 (show -2147483648 ≤ (6 * m) + 1 ∧ (6 * m) + 1 < 2147483648 from ⟨by omega, by omega⟩).1 (show -2147483648 ≤ (6 * m) + 1 ∧ (6 * m) + 1 < 2147483648 from ⟨by omega, by omega⟩).2 ?_
    refine z_iald dX11_numberOf_76 (zOb.lit (by decide +kernel)) (show 0 ≤ ((6 * m) + 1) ∧ ((6 * m) + 1) < 360 from ⟨by omega, by omega⟩).1 (show 0 ≤ ((6 * m) + 1) ∧ ((6 * m) + 1) < 360 from ⟨by omega, by omega⟩).2 ?_
    exact z_iret dX11_numberOf_77 rfl (k5 c1)
  ·
    refine z_tsIn (tgt := 78) dX11_numberOf_1 (by omega) (by omega) (by rw [c1]; rfl) (by decide) ?_
    refine z_aload_n 0 dX11_numberOf_78 rfl ?_
    refine z_getS (v := 217) (k := 70) (kz := 70) pk11 dX11_numberOf_79 (by decide) zb_1194 rfl (zOb.lit (by decide +kernel)) rfl (by decide +kernel) ?_
    refine z_bipush dX11_numberOf_82 (zi32_d rfl) (by decide) ?_
    refine z_iload_n 2 dX11_numberOf_84 rfl ?_
    refine z_imulN dX11_numberOf_85 (show -2147483648 ≤ 6 * m ∧ 6 * m < 2147483648 from ⟨by omega, by omega⟩).1 (show -2147483648 ≤ 6 * m ∧ 6 * m < 2147483648 from ⟨by omega, by omega⟩).2 ?_
    refine z_iconst dX11_numberOf_86 (zi32_d rfl) ?_
    refine z_iaddN dX11_numberOf_87 (show -2147483648 ≤ (6 * m) + 5 ∧ (6 * m) + 5 < 2147483648 from ⟨by omega, by omega⟩).1 (show -2147483648 ≤ (6 * m) + 5 ∧ (6 * m) + 5 < 2147483648 from ⟨by omega, by omega⟩).2 ?_
    refine z_iald dX11_numberOf_88 (zOb.lit (by decide +kernel)) (show 0 ≤ ((6 * m) + 5) ∧ ((6 * m) + 5) < 360 from ⟨by omega, by omega⟩).1 (show 0 ≤ ((6 * m) + 5) ∧ ((6 * m) + 5) < 360 from ⟨by omega, by omega⟩).2 ?_
    exact z_iret dX11_numberOf_89 rfl (k6 c1)
  ·
    refine z_tsIn (tgt := 90) dX11_numberOf_1 (by omega) (by omega) (by rw [c1]; rfl) (by decide) ?_
    refine z_aload_n 0 dX11_numberOf_90 rfl ?_
    refine z_getS (v := 218) (k := 71) (kz := 71) pk11 dX11_numberOf_91 (by decide) zb_1195 rfl (zOb.lit (by decide +kernel)) rfl (by decide +kernel) ?_
    refine z_iload_n 2 dX11_numberOf_94 rfl ?_
    refine z_iald dX11_numberOf_95 (zOb.lit (by decide +kernel)) hx.1 hx.2 ?_
    exact z_iret dX11_numberOf_96 rfl (k7 c1)
  ·
    refine z_tsIn (tgt := 97) dX11_numberOf_1 (by omega) (by omega) (by rw [c1]; rfl) (by decide) ?_
    refine z_aload_n 0 dX11_numberOf_97 rfl ?_
    refine z_iload_n 2 dX11_numberOf_98 rfl ?_
    refine z_invF (ci := 11) (N := 97) (as := [xI m]) (st := []) (ra := [xI m]) (dep' := dep - 1) (rs := [xI (zcnt (mBro h m) (h 169 25).toNat)]) (h' := h) (f_X11_brothersOf m (h := h) hm hx (by omega)) dX11_numberOf_99 nX11_brothersOf zb_1615 zb_1617 zb_59 zb_92 (zOb.lit (by decide +kernel)) rfl (by omega) zne_I (Nat.le_of_ble_eq_true rfl) (Nat.le_of_ble_eq_true rfl) rfl ?_
    exact z_iret dX11_numberOf_102 rfl (k8 c1)
  ·
    refine z_tsIn (tgt := 103) dX11_numberOf_1 (by omega) (by omega) (by rw [c1]; rfl) (by decide) ?_
    refine z_aload_n 0 dX11_numberOf_103 rfl ?_
    refine z_iload_n 2 dX11_numberOf_104 rfl ?_
    refine z_iload_n 3 dX11_numberOf_105 rfl ?_
    refine z_invF (ci := 11) (N := 97) (as := [xI m, xI l]) (st := []) (ra := [xI l, xI m]) (dep' := dep - 1) (rs := [xI (zcnt (fun b => mSer h l b ∧ mBro h m b) (h 169 25).toNat)]) (h' := h) (f_X11_servingOf m l (h := h) hm hx hl (by omega)) dX11_numberOf_106 nX11_servingOf zb_1655 zb_1657 zb_68 zb_92 (zOb.lit (by decide +kernel)) rfl (by omega) zne_I (Nat.le_of_ble_eq_true rfl) (Nat.le_of_ble_eq_true rfl) rfl ?_
    exact z_iret dX11_numberOf_109 rfl (k9 c1)
theorem f_X11_numberOf {X : zX} {dep : Nat} (w : Int) (m : Int) (l : Int) {h : zH} (hm : 0 ≤ h 169 25 ∧ h 169 25 ≤ 60) (hx : 0 ≤ m ∧ m < 60) (hl : 0 ≤ l ∧ l < 4) (hb : -3120 ≤ h 214 m ∧ h 214 m < 520) (hd : 0 ≤ h 205 l ∧ h 205 l ≤ 3639) (hdep : 2 ≤ dep) : zW mX11_numberOf X dep 0 0 239 0 (zar 0 [xR 169, xI w, xI m, xI l]) [] h (zF h [xI (mnum h w m l)]) := by
  refine bX11_numberOf_0 w m l hm hx hl hb hd hdep ?_ ?_ ?_ ?_ ?_ ?_ ?_ ?_ ?_
  all_goals intros
  all_goals refine ⟨rfl, rfl, congrArg (fun x => [xI x]) ?_⟩
  all_goals unfold mnum
  all_goals (repeat' split) <;> first | rfl | omega

set_option maxRecDepth 20000 in
theorem bX11_isSo_0 {X : zX} {dep bc bs : Nat} (w : Int) (x : Int) (m : Int) (l : Int) {g : zH} {Q : Nat → zH → List zV → Prop} (hw : 0 ≤ w ∧ w < 8) (hxx : 0 ≤ x ∧ x < 180) (h1 : 0 ≤ g 198 x ∧ g 198 x ≤ g 199 x ∧ g 199 x ≤ 130)
    (k1 : zW mX11_isSo X dep bc bs 239 17 [(0, xR 169), (1, xI w), (2, xI x), (3, xI m), (4, xI l), (5, xI 0), (6, xI ((130 * w) + (g 198 x)))] [] g Q) : zW mX11_isSo X dep bc bs 239 0 [(0, xR 169), (1, xI w), (2, xI x), (3, xI m), (4, xI l)] [] g Q := by
  refine z_iconst dX11_isSo_0 (zi32_d rfl) ?_
  refine z_istore (lv' := [(5, xI 0), (0, xR 169), (1, xI w), (2, xI x), (3, xI m), (4, xI l)]) dX11_isSo_1 (by decide) rfl ?_
  refine z_sipush dX11_isSo_3 (zi32_d rfl) (by decide) ?_
  refine z_iload_n 2 dX11_isSo_6 rfl ?_
  refine z_imulN dX11_isSo_7 (show -2147483648 ≤ 130 * w ∧ 130 * w < 2147483648 from ⟨by omega, by omega⟩).1 (show -2147483648 ≤ 130 * w ∧ 130 * w < 2147483648 from ⟨by omega, by omega⟩).2 ?_
  refine z_aload_n 1 dX11_isSo_8 rfl ?_
  refine z_getS (v := 198) (k := 38) (kz := 38) pk11 dX11_isSo_9 (by decide) zb_1162 rfl (zOb.lit (by decide +kernel)) rfl (by decide +kernel) ?_
  refine z_iload_n 3 dX11_isSo_12 rfl ?_
  refine z_iald dX11_isSo_13 (zOb.lit (by decide +kernel)) hxx.1 hxx.2 ?_
  refine z_iaddN dX11_isSo_14 (show -2147483648 ≤ (130 * w) + (g 198 x) ∧ (130 * w) + (g 198 x) < 2147483648 from ⟨by omega, by omega⟩).1 (show -2147483648 ≤ (130 * w) + (g 198 x) ∧ (130 * w) + (g 198 x) < 2147483648 from ⟨by omega, by omega⟩).2 ?_
  refine z_istore (lv' := [(6, xI ((130 * w) + (g 198 x))), (5, xI 0), (0, xR 169), (1, xI w), (2, xI x), (3, xI m), (4, xI l)]) dX11_isSo_15 (by decide) rfl ?_
  refine zW.sub (lv' := [(0, xR 169), (1, xI w), (2, xI x), (3, xI m), (4, xI l), (5, xI 0), (6, xI ((130 * w) + (g 198 x)))]) [2, 3, 4, 5, 6, 1, 0] rfl ?_
  exact k1

set_option maxRecDepth 20000 in
theorem bX11_isSo_17 {X : zX} {dep bc bs : Nat} (w : Int) (x : Int) (m : Int) (l : Int) (n : Int) (k : Int) {g : zH} {Q : Nat → zH → List zV → Prop} (hm : 0 ≤ g 169 25 ∧ g 169 25 ≤ 60) (hx : 0 ≤ m ∧ m < 60) (hl : 0 ≤ l ∧ l < 4) (hb : -3120 ≤ g 214 m ∧ g 214 m < 520) (hd : 0 ≤ g 205 l ∧ g 205 l ≤ 3639) (hw : 0 ≤ w ∧ w < 8) (hxx : 0 ≤ x ∧ x < 180) (h1 : 0 ≤ g 198 x ∧ g 198 x ≤ g 199 x ∧ g 199 x ≤ 130) (hk : 0 ≤ k ∧ k ≤ 1170) (hn : 0 ≤ n ∧ n ≤ 80) (hc : 130 * w + g 199 x ≤ k ∨ (g 201 k = 20 ∧ 1 ≤ n) ∨ ((g 201 k = 21 ∨ g 201 k = 22) ∧ 2 ≤ n) ∨ (0 ≤ g 201 k ∧ g 201 k < 12 ∧ n < 80)) (hdep : 3 ≤ dep)
    (k1 : ((130 * w) + (g 199 x)) ≤ k → Q 239 g [xI (if n = 0 then 1 else if (g 231 0) = 0 then 0 else 1 : Int)])
    (k2 : ¬ (((130 * w) + (g 199 x)) ≤ k) → ¬ (g 201 k) = 20 → (g 201 k) = 21 → ¬ (g 201 k) = 21 → zW mX11_isSo X dep bc bs 239 17 [(0, xR 169), (1, xI w), (2, xI x), (3, xI m), (4, xI l), (5, xI (n + (-1))), (6, xI (k + 1))] [] (zst g 231 ((n + (-1)) - 1) (if (g 231 ((n + (-1)) - 1)) = 0 then if (g 231 (n + (-1))) = 0 then 0 else 1 else 1 : Int)) Q)
    (k3 : ¬ (((130 * w) + (g 199 x)) ≤ k) → ¬ (g 201 k) = 20 → (g 201 k) = 21 → (g 201 k) = 21 → zW mX11_isSo X dep bc bs 239 17 [(0, xR 169), (1, xI w), (2, xI x), (3, xI m), (4, xI l), (5, xI (n + (-1))), (6, xI (k + 1))] [] (zst g 231 ((n + (-1)) - 1) (if (g 231 ((n + (-1)) - 1)) = 0 then 0 else if (g 231 (n + (-1))) = 0 then 0 else 1 : Int)) Q)
    (k4 : ¬ (((130 * w) + (g 199 x)) ≤ k) → ¬ (g 201 k) = 20 → ¬ ((g 201 k) = 21) → ¬ (g 201 k) = 22 → 4 ≤ (g 201 k) → zW mX11_isSo X dep bc bs 239 17 [(0, xR 169), (1, xI w), (2, xI x), (3, xI m), (4, xI l), (5, xI (n + 1)), (6, xI (k + 1))] [] (zst g 231 n (if (g 202 k) = 60 then if (g 203 k) ≤ (mnum g (g 201 k) m l) then 0 else 1 else if (g 202 k) = 61 then if (mnum g (g 201 k) m l) = (g 203 k) then 1 else 0 else if (mnum g (g 201 k) m l) ≤ (g 203 k) then 0 else 1 : Int)) Q)
    (k5 : ¬ (((130 * w) + (g 199 x)) ≤ k) → ¬ (g 201 k) = 20 → ¬ ((g 201 k) = 21) → ¬ (g 201 k) = 22 → ¬ (4 ≤ (g 201 k)) → ¬ (g 201 k) = 3 → zW mX11_isSo X dep bc bs 239 17 [(0, xR 169), (1, xI w), (2, xI x), (3, xI m), (4, xI l), (5, xI (n + 1)), (6, xI (k + 1))] [] (zst g 231 n (if (g 217 (((6 * m) + 2) + (g 201 k))) = 1 then 1 else 0 : Int)) Q)
    (k6 : ¬ (((130 * w) + (g 199 x)) ≤ k) → ¬ (g 201 k) = 20 → ¬ ((g 201 k) = 21) → ¬ (g 201 k) = 22 → ¬ (4 ≤ (g 201 k)) → (g 201 k) = 3 → zW mX11_isSo X dep bc bs 239 17 [(0, xR 169), (1, xI w), (2, xI x), (3, xI m), (4, xI l), (5, xI (n + 1)), (6, xI (k + 1))] [] (zst g 231 n (if (zcnt (mBro g m) (g 169 25).toNat) = 0 then 1 else 0 : Int)) Q)
    (k7 : ¬ (((130 * w) + (g 199 x)) ≤ k) → ¬ (g 201 k) = 20 → ¬ ((g 201 k) = 21) → (g 201 k) = 22 → ¬ (g 201 k) = 21 → zW mX11_isSo X dep bc bs 239 17 [(0, xR 169), (1, xI w), (2, xI x), (3, xI m), (4, xI l), (5, xI (n + (-1))), (6, xI (k + 1))] [] (zst g 231 ((n + (-1)) - 1) (if (g 231 ((n + (-1)) - 1)) = 0 then if (g 231 (n + (-1))) = 0 then 0 else 1 else 1 : Int)) Q)
    (k8 : ¬ (((130 * w) + (g 199 x)) ≤ k) → ¬ (g 201 k) = 20 → ¬ ((g 201 k) = 21) → (g 201 k) = 22 → (g 201 k) = 21 → zW mX11_isSo X dep bc bs 239 17 [(0, xR 169), (1, xI w), (2, xI x), (3, xI m), (4, xI l), (5, xI (n + (-1))), (6, xI (k + 1))] [] (zst g 231 ((n + (-1)) - 1) (if (g 231 ((n + (-1)) - 1)) = 0 then 0 else if (g 231 (n + (-1))) = 0 then 0 else 1 : Int)) Q)
    (k9 : ¬ (((130 * w) + (g 199 x)) ≤ k) → (g 201 k) = 20 → zW mX11_isSo X dep bc bs 239 17 [(0, xR 169), (1, xI w), (2, xI x), (3, xI m), (4, xI l), (5, xI n), (6, xI (k + 1))] [] (zst g 231 (n - 1) (if (g 231 (n - 1)) = 0 then 1 else 0 : Int)) Q) : zW mX11_isSo X dep bc bs 239 17 [(0, xR 169), (1, xI w), (2, xI x), (3, xI m), (4, xI l), (5, xI n), (6, xI k)] [] g Q := by
  refine z_iload 6 dX11_isSo_17 rfl ?_
  refine z_sipush dX11_isSo_19 (zi32_d rfl) (by decide) ?_
  refine z_iload_n 1 dX11_isSo_22 rfl ?_
  refine z_imulN dX11_isSo_23 (show -2147483648 ≤ 130 * w ∧ 130 * w < 2147483648 from ⟨by omega, by omega⟩).1 (show -2147483648 ≤ 130 * w ∧ 130 * w < 2147483648 from ⟨by omega, by omega⟩).2 ?_
  refine z_aload_n 0 dX11_isSo_24 rfl ?_
  refine z_getS (v := 199) (k := 39) (kz := 39) pk11 dX11_isSo_25 (by decide) zb_1163 rfl (zOb.lit (by decide +kernel)) rfl (by decide +kernel) ?_
  refine z_iload_n 2 dX11_isSo_28 rfl ?_
  refine z_iald dX11_isSo_29 (zOb.lit (by decide +kernel)) hxx.1 hxx.2 ?_
  refine z_iaddN dX11_isSo_30 (show -2147483648 ≤ (130 * w) + (g 199 x) ∧ (130 * w) + (g 199 x) < 2147483648 from ⟨by omega, by omega⟩).1 (show -2147483648 ≤ (130 * w) + (g 199 x) ∧ (130 * w) + (g 199 x) < 2147483648 from ⟨by omega, by omega⟩).2 ?_
  refine z_icmp_ge (tgt := 344) dX11_isSo_31 (by decide) (fun c1 => ?_) (fun c1 => ?_)
  ·
    refine z_iload 5 dX11_isSo_344 rfl ?_
    suffices KJ : zW mX11_isSo X dep bc bs 239 363 [(0, xR 169), (1, xI w), (2, xI x), (3, xI m), (4, xI l), (5, xI n), (6, xI k)] [xI (if n = 0 then 1 else if (g 231 0) = 0 then 0 else 1 : Int)] g Q by
      refine z_if_eq (tgt := 358) dX11_isSo_346 (by decide) (fun j1 => ?_) (fun j1 => ?_)
      ·
        refine z_iconst dX11_isSo_358 (zi32_d rfl) ?_
        refine z_goto (tgt := 363) dX11_isSo_359 (by decide) ?_
        rw [if_pos j1] at KJ
        exact KJ
      ·
        refine z_aload_n 0 dX11_isSo_349 rfl ?_
        refine z_getS (v := 231) (k := 84) (kz := 84) pk11 dX11_isSo_350 (by decide) zb_1208 rfl (zOb.lit (by decide +kernel)) rfl (by decide +kernel) ?_
        refine z_iconst dX11_isSo_353 (zi32_d rfl) ?_
        refine z_zald dX11_isSo_354 (zOb.lit (by decide +kernel)) (by decide) (by decide) ?_
        refine z_if_eq (tgt := 362) dX11_isSo_355 (by decide) (fun j2 => ?_) (fun j2 => ?_)
        ·
          refine z_iconst dX11_isSo_362 (zi32_d rfl) ?_
          rw [if_neg j1] at KJ
          rw [if_pos j2] at KJ
          exact KJ
        ·
          refine z_iconst dX11_isSo_358 (zi32_d rfl) ?_
          refine z_goto (tgt := 363) dX11_isSo_359 (by decide) ?_
          rw [if_neg j1] at KJ
          rw [if_neg j2] at KJ
          exact KJ
    exact z_zret dX11_isSo_363 rfl (by repeat (first | (left; rfl) | (right; rfl) | split)) (k1 c1)
  ·
    refine z_aload_n 0 dX11_isSo_34 rfl ?_
    refine z_getS (v := 201) (k := 41) (kz := 41) pk11 dX11_isSo_35 (by decide) zb_1165 rfl (zOb.lit (by decide +kernel)) rfl (by decide +kernel) ?_
    refine z_iload 6 dX11_isSo_38 rfl ?_
    refine z_iald dX11_isSo_40 (zOb.lit (by decide +kernel)) (show 0 ≤ k ∧ k < 1170 from ⟨by omega, by omega⟩).1 (show 0 ≤ k ∧ k < 1170 from ⟨by omega, by omega⟩).2 ?_
    refine z_istore (lv' := [(7, xI (g 201 k)), (0, xR 169), (1, xI w), (2, xI x), (3, xI m), (4, xI l), (5, xI n), (6, xI k)]) dX11_isSo_41 (by decide) rfl ?_
    refine z_iload 0 dX11_isSo_43 rfl ?_
    refine z_bipush dX11_isSo_45 (zi32_d rfl) (by decide) ?_
    refine z_icmp_ne (tgt := 79) dX11_isSo_47 (by decide) (fun c2 => ?_) (fun c2 => ?_)
    ·
      refine z_iload 0 dX11_isSo_79 rfl ?_
      refine z_bipush dX11_isSo_81 (zi32_d rfl) (by decide) ?_
      refine z_icmp_eq (tgt := 93) dX11_isSo_83 (by decide) (fun c3 => ?_) (fun c3 => ?_)
      ·
        refine z_iincN (lv' := [(5, xI (n + (-1))), (7, xI (g 201 k)), (0, xR 169), (1, xI w), (2, xI x), (3, xI m), (4, xI l), (6, xI k)]) 6 dX11_isSo_93 rfl (by decide) rfl (show -2147483648 ≤ n + (-1) ∧ n + (-1) < 2147483648 from ⟨by omega, by omega⟩).1 (show -2147483648 ≤ n + (-1) ∧ n + (-1) < 2147483648 from ⟨by omega, by omega⟩).2 ?_
        refine z_aload_n 2 dX11_isSo_96 rfl ?_
        refine z_getS (v := 231) (k := 84) (kz := 84) pk11 dX11_isSo_97 (by decide) zb_1208 rfl (zOb.lit (by decide +kernel)) rfl (by decide +kernel) ?_
        refine z_iload 0 dX11_isSo_100 rfl ?_
        refine z_iconst dX11_isSo_102 (zi32_d rfl) ?_
        refine z_isubN dX11_isSo_103 (show -2147483648 ≤ (n + (-1)) - 1 ∧ (n + (-1)) - 1 < 2147483648 from ⟨by omega, by omega⟩).1 (show -2147483648 ≤ (n + (-1)) - 1 ∧ (n + (-1)) - 1 < 2147483648 from ⟨by omega, by omega⟩).2 ?_
        refine z_iload 1 dX11_isSo_104 rfl ?_
        refine z_bipush dX11_isSo_106 (zi32_d rfl) (by decide) ?_
        refine z_icmp_ne (tgt := 141) dX11_isSo_108 (by decide) (fun c4 => ?_) (fun c4 => ?_)
        ·
          refine z_aload_n 2 dX11_isSo_141 rfl ?_
          refine z_getS (v := 231) (k := 84) (kz := 84) pk11 dX11_isSo_142 (by decide) zb_1208 rfl (zOb.lit (by decide +kernel)) rfl (by decide +kernel) ?_
          refine z_iload 0 dX11_isSo_145 rfl ?_
          refine z_iconst dX11_isSo_147 (zi32_d rfl) ?_
          refine z_isubN dX11_isSo_148 (show -2147483648 ≤ (n + (-1)) - 1 ∧ (n + (-1)) - 1 < 2147483648 from ⟨by omega, by omega⟩).1 (show -2147483648 ≤ (n + (-1)) - 1 ∧ (n + (-1)) - 1 < 2147483648 from ⟨by omega, by omega⟩).2 ?_
          refine z_zald dX11_isSo_149 (zOb.lit (by decide +kernel)) (show 0 ≤ ((n + (-1)) - 1) ∧ ((n + (-1)) - 1) < 80 from ⟨by omega, by omega⟩).1 (show 0 ≤ ((n + (-1)) - 1) ∧ ((n + (-1)) - 1) < 80 from ⟨by omega, by omega⟩).2 ?_
          suffices KJ : zW mX11_isSo X dep bc bs 239 168 [(5, xI (n + (-1))), (7, xI (g 201 k)), (0, xR 169), (1, xI w), (2, xI x), (3, xI m), (4, xI l), (6, xI k)] [xI (if (g 231 ((n + (-1)) - 1)) = 0 then if (g 231 (n + (-1))) = 0 then 0 else 1 else 1 : Int), xI ((n + (-1)) - 1), xR 231] g Q by
            refine z_if_ne (tgt := 163) dX11_isSo_150 (by decide) (fun j1 => ?_) (fun j1 => ?_)
            ·
              refine z_iconst dX11_isSo_163 (zi32_d rfl) ?_
              refine z_goto (tgt := 168) dX11_isSo_164 (by decide) ?_
              rw [if_neg j1] at KJ
              exact KJ
            ·
              refine z_aload_n 2 dX11_isSo_153 rfl ?_
              refine z_getS (v := 231) (k := 84) (kz := 84) pk11 dX11_isSo_154 (by decide) zb_1208 rfl (zOb.lit (by decide +kernel)) rfl (by decide +kernel) ?_
              refine z_iload 0 dX11_isSo_157 rfl ?_
              refine z_zald dX11_isSo_159 (zOb.lit (by decide +kernel)) (show 0 ≤ (n + (-1)) ∧ (n + (-1)) < 80 from ⟨by omega, by omega⟩).1 (show 0 ≤ (n + (-1)) ∧ (n + (-1)) < 80 from ⟨by omega, by omega⟩).2 ?_
              refine z_if_eq (tgt := 167) dX11_isSo_160 (by decide) (fun j2 => ?_) (fun j2 => ?_)
              ·
                refine z_iconst dX11_isSo_167 (zi32_d rfl) ?_
                rw [if_pos j1] at KJ
                rw [if_pos j2] at KJ
                exact KJ
              ·
                refine z_iconst dX11_isSo_163 (zi32_d rfl) ?_
                refine z_goto (tgt := 168) dX11_isSo_164 (by decide) ?_
                rw [if_pos j1] at KJ
                rw [if_neg j2] at KJ
                exact KJ
          refine z_zast dX11_isSo_168 (zOb.lit (by decide +kernel)) (show 0 ≤ ((n + (-1)) - 1) ∧ ((n + (-1)) - 1) < 80 from ⟨by omega, by omega⟩).1 (show 0 ≤ ((n + (-1)) - 1) ∧ ((n + (-1)) - 1) < 80 from ⟨by omega, by omega⟩).2 (by repeat (first | (left; rfl) | (right; rfl) | split)) ?_
          refine z_goto (tgt := 338) dX11_isSo_169 (by decide) ?_
          refine z_iincN (lv' := [(6, xI (k + 1)), (5, xI (n + (-1))), (7, xI (g 201 k)), (0, xR 169), (1, xI w), (2, xI x), (3, xI m), (4, xI l)]) 7 dX11_isSo_338 rfl (by decide) rfl (show -2147483648 ≤ k + 1 ∧ k + 1 < 2147483648 from ⟨by omega, by omega⟩).1 (show -2147483648 ≤ k + 1 ∧ k + 1 < 2147483648 from ⟨by omega, by omega⟩).2 ?_
          refine z_goto (tgt := 17) dX11_isSo_341 (by decide) ?_
          refine zW.sub (lv' := [(0, xR 169), (1, xI w), (2, xI x), (3, xI m), (4, xI l), (5, xI (n + (-1))), (6, xI (k + 1))]) [3, 4, 5, 6, 7, 1, 0] rfl ?_
          exact k2 c1 c2 c3 c4
        ·
          refine z_aload_n 2 dX11_isSo_111 rfl ?_
          refine z_getS (v := 231) (k := 84) (kz := 84) pk11 dX11_isSo_112 (by decide) zb_1208 rfl (zOb.lit (by decide +kernel)) rfl (by decide +kernel) ?_
          refine z_iload 0 dX11_isSo_115 rfl ?_
          refine z_iconst dX11_isSo_117 (zi32_d rfl) ?_
          refine z_isubN dX11_isSo_118 (show -2147483648 ≤ (n + (-1)) - 1 ∧ (n + (-1)) - 1 < 2147483648 from ⟨by omega, by omega⟩).1 (show -2147483648 ≤ (n + (-1)) - 1 ∧ (n + (-1)) - 1 < 2147483648 from ⟨by omega, by omega⟩).2 ?_
          refine z_zald dX11_isSo_119 (zOb.lit (by decide +kernel)) (show 0 ≤ ((n + (-1)) - 1) ∧ ((n + (-1)) - 1) < 80 from ⟨by omega, by omega⟩).1 (show 0 ≤ ((n + (-1)) - 1) ∧ ((n + (-1)) - 1) < 80 from ⟨by omega, by omega⟩).2 ?_
          suffices KJ : zW mX11_isSo X dep bc bs 239 168 [(5, xI (n + (-1))), (7, xI (g 201 k)), (0, xR 169), (1, xI w), (2, xI x), (3, xI m), (4, xI l), (6, xI k)] [xI (if (g 231 ((n + (-1)) - 1)) = 0 then 0 else if (g 231 (n + (-1))) = 0 then 0 else 1 : Int), xI ((n + (-1)) - 1), xR 231] g Q by
            refine z_if_eq (tgt := 137) dX11_isSo_120 (by decide) (fun j1 => ?_) (fun j1 => ?_)
            ·
              refine z_iconst dX11_isSo_137 (zi32_d rfl) ?_
              refine z_goto (tgt := 168) dX11_isSo_138 (by decide) ?_
              rw [if_pos j1] at KJ
              exact KJ
            ·
              refine z_aload_n 2 dX11_isSo_123 rfl ?_
              refine z_getS (v := 231) (k := 84) (kz := 84) pk11 dX11_isSo_124 (by decide) zb_1208 rfl (zOb.lit (by decide +kernel)) rfl (by decide +kernel) ?_
              refine z_iload 0 dX11_isSo_127 rfl ?_
              refine z_zald dX11_isSo_129 (zOb.lit (by decide +kernel)) (show 0 ≤ (n + (-1)) ∧ (n + (-1)) < 80 from ⟨by omega, by omega⟩).1 (show 0 ≤ (n + (-1)) ∧ (n + (-1)) < 80 from ⟨by omega, by omega⟩).2 ?_
              refine z_if_eq (tgt := 137) dX11_isSo_130 (by decide) (fun j2 => ?_) (fun j2 => ?_)
              ·
                refine z_iconst dX11_isSo_137 (zi32_d rfl) ?_
                refine z_goto (tgt := 168) dX11_isSo_138 (by decide) ?_
                rw [if_neg j1] at KJ
                rw [if_pos j2] at KJ
                exact KJ
              ·
                refine z_iconst dX11_isSo_133 (zi32_d rfl) ?_
                refine z_goto (tgt := 168) dX11_isSo_134 (by decide) ?_
                rw [if_neg j1] at KJ
                rw [if_neg j2] at KJ
                exact KJ
          refine z_zast dX11_isSo_168 (zOb.lit (by decide +kernel)) (show 0 ≤ ((n + (-1)) - 1) ∧ ((n + (-1)) - 1) < 80 from ⟨by omega, by omega⟩).1 (show 0 ≤ ((n + (-1)) - 1) ∧ ((n + (-1)) - 1) < 80 from ⟨by omega, by omega⟩).2 (by repeat (first | (left; rfl) | (right; rfl) | split)) ?_
          refine z_goto (tgt := 338) dX11_isSo_169 (by decide) ?_
          refine z_iincN (lv' := [(6, xI (k + 1)), (5, xI (n + (-1))), (7, xI (g 201 k)), (0, xR 169), (1, xI w), (2, xI x), (3, xI m), (4, xI l)]) 7 dX11_isSo_338 rfl (by decide) rfl (show -2147483648 ≤ k + 1 ∧ k + 1 < 2147483648 from ⟨by omega, by omega⟩).1 (show -2147483648 ≤ k + 1 ∧ k + 1 < 2147483648 from ⟨by omega, by omega⟩).2 ?_
          refine z_goto (tgt := 17) dX11_isSo_341 (by decide) ?_
          refine zW.sub (lv' := [(0, xR 169), (1, xI w), (2, xI x), (3, xI m), (4, xI l), (5, xI (n + (-1))), (6, xI (k + 1))]) [3, 4, 5, 6, 7, 1, 0] rfl ?_
          exact k3 c1 c2 c3 c4
      ·
        refine z_iload 0 dX11_isSo_86 rfl ?_
        refine z_bipush dX11_isSo_88 (zi32_d rfl) (by decide) ?_
        refine z_icmp_ne (tgt := 172) dX11_isSo_90 (by decide) (fun c4 => ?_) (fun c4 => ?_)
        ·
          refine z_iload 0 dX11_isSo_172 rfl ?_
          refine z_iconst dX11_isSo_174 (zi32_d rfl) ?_
          refine z_icmp_ge (tgt := 236) dX11_isSo_175 (by decide) (fun c5 => ?_) (fun c5 => ?_)
          ·
            refine z_aload_n 1 dX11_isSo_236 rfl ?_
            refine z_iload 0 dX11_isSo_237 rfl ?_
            refine z_iload_n 4 dX11_isSo_239 rfl ?_
            refine z_iload 5 dX11_isSo_240 rfl ?_
            refine z_invF (ci := 11) (N := 97) (as := [xI (g 201 k), xI m, xI l]) (st := []) (ra := [xI l, xI m, xI (g 201 k)]) (dep' := dep - 1) (rs := [xI (mnum g (g 201 k) m l)]) (h' := g) (f_X11_numberOf (g 201 k) m l (h := g) hm hx hl hb hd (by omega)) dX11_isSo_242 nX11_numberOf zb_1651 zb_1653 zb_67 zb_92 (zOb.lit (by decide +kernel)) rfl (by omega) zne_I (Nat.le_of_ble_eq_true rfl) (Nat.le_of_ble_eq_true rfl) rfl ?_
            refine z_istore (lv' := [(8, xI (mnum g (g 201 k) m l)), (7, xI (g 201 k)), (0, xR 169), (1, xI w), (2, xI x), (3, xI m), (4, xI l), (5, xI n), (6, xI k)]) dX11_isSo_245 (by decide) rfl ?_
            refine z_aload_n 2 dX11_isSo_247 rfl ?_
            refine z_getS (v := 231) (k := 84) (kz := 84) pk11 dX11_isSo_248 (by decide) zb_1208 rfl (zOb.lit (by decide +kernel)) rfl (by decide +kernel) ?_
            refine z_iload 7 dX11_isSo_251 rfl ?_
            refine z_aload_n 2 dX11_isSo_253 rfl ?_
            refine z_getS (v := 202) (k := 42) (kz := 42) pk11 dX11_isSo_254 (by decide) zb_1166 rfl (zOb.lit (by decide +kernel)) rfl (by decide +kernel) ?_
            refine z_iload 8 dX11_isSo_257 rfl ?_
            refine z_iald dX11_isSo_259 (zOb.lit (by decide +kernel)) (show 0 ≤ k ∧ k < 1170 from ⟨by omega, by omega⟩).1 (show 0 ≤ k ∧ k < 1170 from ⟨by omega, by omega⟩).2 ?_
            refine z_bipush dX11_isSo_260 (zi32_d rfl) (by decide) ?_
            suffices KJ : zW mX11_isSo X dep bc bs 239 334 [(8, xI (mnum g (g 201 k) m l)), (7, xI (g 201 k)), (0, xR 169), (1, xI w), (2, xI x), (3, xI m), (4, xI l), (5, xI n), (6, xI k)] [xI (if (g 202 k) = 60 then if (g 203 k) ≤ (mnum g (g 201 k) m l) then 0 else 1 else if (g 202 k) = 61 then if (mnum g (g 201 k) m l) = (g 203 k) then 1 else 0 else if (mnum g (g 201 k) m l) ≤ (g 203 k) then 0 else 1 : Int), xI n, xR 231] g Q by
              refine z_icmp_ne (tgt := 285) dX11_isSo_262 (by decide) (fun j1 => ?_) (fun j1 => ?_)
              ·
                refine z_aload_n 2 dX11_isSo_285 rfl ?_
                refine z_getS (v := 202) (k := 42) (kz := 42) pk11 dX11_isSo_286 (by decide) zb_1166 rfl (zOb.lit (by decide +kernel)) rfl (by decide +kernel) ?_
                refine z_iload 8 dX11_isSo_289 rfl ?_
                refine z_iald dX11_isSo_291 (zOb.lit (by decide +kernel)) (show 0 ≤ k ∧ k < 1170 from ⟨by omega, by omega⟩).1 (show 0 ≤ k ∧ k < 1170 from ⟨by omega, by omega⟩).2 ?_
                refine z_bipush dX11_isSo_292 (zi32_d rfl) (by decide) ?_
                refine z_icmp_ne (tgt := 317) dX11_isSo_294 (by decide) (fun j2 => ?_) (fun j2 => ?_)
                ·
                  refine z_iload 0 dX11_isSo_317 rfl ?_
                  refine z_aload_n 2 dX11_isSo_319 rfl ?_
                  refine z_getS (v := 203) (k := 43) (kz := 43) pk11 dX11_isSo_320 (by decide) zb_1167 rfl (zOb.lit (by decide +kernel)) rfl (by decide +kernel) ?_
                  refine z_iload 8 dX11_isSo_323 rfl ?_
                  refine z_iald dX11_isSo_325 (zOb.lit (by decide +kernel)) (show 0 ≤ k ∧ k < 1170 from ⟨by omega, by omega⟩).1 (show 0 ≤ k ∧ k < 1170 from ⟨by omega, by omega⟩).2 ?_
                  refine z_icmp_le (tgt := 333) dX11_isSo_326 (by decide) (fun j3 => ?_) (fun j3 => ?_)
                  ·
                    refine z_iconst dX11_isSo_333 (zi32_d rfl) ?_
                    rw [if_neg j1] at KJ
                    rw [if_neg j2] at KJ
                    rw [if_pos j3] at KJ
                    exact KJ
                  ·
                    refine z_iconst dX11_isSo_329 (zi32_d rfl) ?_
                    refine z_goto (tgt := 334) dX11_isSo_330 (by decide) ?_
                    rw [if_neg j1] at KJ
                    rw [if_neg j2] at KJ
                    rw [if_neg j3] at KJ
                    exact KJ
                ·
                  refine z_iload 0 dX11_isSo_297 rfl ?_
                  refine z_aload_n 2 dX11_isSo_299 rfl ?_
                  refine z_getS (v := 203) (k := 43) (kz := 43) pk11 dX11_isSo_300 (by decide) zb_1167 rfl (zOb.lit (by decide +kernel)) rfl (by decide +kernel) ?_
                  refine z_iload 8 dX11_isSo_303 rfl ?_
                  refine z_iald dX11_isSo_305 (zOb.lit (by decide +kernel)) (show 0 ≤ k ∧ k < 1170 from ⟨by omega, by omega⟩).1 (show 0 ≤ k ∧ k < 1170 from ⟨by omega, by omega⟩).2 ?_
                  refine z_icmp_ne (tgt := 313) dX11_isSo_306 (by decide) (fun j3 => ?_) (fun j3 => ?_)
                  ·
                    refine z_iconst dX11_isSo_313 (zi32_d rfl) ?_
                    refine z_goto (tgt := 334) dX11_isSo_314 (by decide) ?_
                    rw [if_neg j1] at KJ
                    rw [if_pos j2] at KJ
                    rw [if_neg j3] at KJ
                    exact KJ
                  ·
                    refine z_iconst dX11_isSo_309 (zi32_d rfl) ?_
                    refine z_goto (tgt := 334) dX11_isSo_310 (by decide) ?_
                    rw [if_neg j1] at KJ
                    rw [if_pos j2] at KJ
                    rw [if_pos j3] at KJ
                    exact KJ
              ·
                refine z_iload 0 dX11_isSo_265 rfl ?_
                refine z_aload_n 2 dX11_isSo_267 rfl ?_
                refine z_getS (v := 203) (k := 43) (kz := 43) pk11 dX11_isSo_268 (by decide) zb_1167 rfl (zOb.lit (by decide +kernel)) rfl (by decide +kernel) ?_
                refine z_iload 8 dX11_isSo_271 rfl ?_
                refine z_iald dX11_isSo_273 (zOb.lit (by decide +kernel)) (show 0 ≤ k ∧ k < 1170 from ⟨by omega, by omega⟩).1 (show 0 ≤ k ∧ k < 1170 from ⟨by omega, by omega⟩).2 ?_
                refine z_icmp_ge (tgt := 281) dX11_isSo_274 (by decide) (fun j2 => ?_) (fun j2 => ?_)
                ·
                  refine z_iconst dX11_isSo_281 (zi32_d rfl) ?_
                  refine z_goto (tgt := 334) dX11_isSo_282 (by decide) ?_
                  rw [if_pos j1] at KJ
                  rw [if_pos j2] at KJ
                  exact KJ
                ·
                  refine z_iconst dX11_isSo_277 (zi32_d rfl) ?_
                  refine z_goto (tgt := 334) dX11_isSo_278 (by decide) ?_
                  rw [if_pos j1] at KJ
                  rw [if_neg j2] at KJ
                  exact KJ
            refine z_zast dX11_isSo_334 (zOb.lit (by decide +kernel)) (show 0 ≤ n ∧ n < 80 from ⟨by omega, by omega⟩).1 (show 0 ≤ n ∧ n < 80 from ⟨by omega, by omega⟩).2 (by repeat (first | (left; rfl) | (right; rfl) | split)) ?_
            refine z_iincN (lv' := [(5, xI (n + 1)), (8, xI (mnum g (g 201 k) m l)), (7, xI (g 201 k)), (0, xR 169), (1, xI w), (2, xI x), (3, xI m), (4, xI l), (6, xI k)]) 7 dX11_isSo_335 rfl (by decide) rfl (show -2147483648 ≤ n + 1 ∧ n + 1 < 2147483648 from ⟨by omega, by omega⟩).1 (show -2147483648 ≤ n + 1 ∧ n + 1 < 2147483648 from ⟨by omega, by omega⟩).2 ?_
            refine z_iincN (lv' := [(6, xI (k + 1)), (5, xI (n + 1)), (8, xI (mnum g (g 201 k) m l)), (7, xI (g 201 k)), (0, xR 169), (1, xI w), (2, xI x), (3, xI m), (4, xI l)]) 8 dX11_isSo_338 rfl (by decide) rfl (show -2147483648 ≤ k + 1 ∧ k + 1 < 2147483648 from ⟨by omega, by omega⟩).1 (show -2147483648 ≤ k + 1 ∧ k + 1 < 2147483648 from ⟨by omega, by omega⟩).2 ?_
            refine z_goto (tgt := 17) dX11_isSo_341 (by decide) ?_
            refine zW.sub (lv' := [(0, xR 169), (1, xI w), (2, xI x), (3, xI m), (4, xI l), (5, xI (n + 1)), (6, xI (k + 1))]) [4, 5, 6, 7, 8, 1, 0] rfl ?_
            exact k4 c1 c2 c3 c4 c5
          ·
            refine z_aload_n 1 dX11_isSo_178 rfl ?_
            refine z_getS (v := 231) (k := 84) (kz := 84) pk11 dX11_isSo_179 (by decide) zb_1208 rfl (zOb.lit (by decide +kernel)) rfl (by decide +kernel) ?_
            refine z_iload 6 dX11_isSo_182 rfl ?_
            refine z_iload 0 dX11_isSo_184 rfl ?_
            refine z_iconst dX11_isSo_186 (zi32_d rfl) ?_
            refine z_icmp_ne (tgt := 206) dX11_isSo_187 (by decide) (fun c6 => ?_) (fun c6 => ?_)
            ·
              refine z_aload_n 1 dX11_isSo_206 rfl ?_
              refine z_getS (v := 217) (k := 70) (kz := 70) pk11 dX11_isSo_207 (by decide) zb_1194 rfl (zOb.lit (by decide +kernel)) rfl (by decide +kernel) ?_
              refine z_bipush dX11_isSo_210 (zi32_d rfl) (by decide) ?_
              refine z_iload_n 4 dX11_isSo_212 rfl ?_
              refine z_imulN dX11_isSo_213 (show -2147483648 ≤ 6 * m ∧ 6 * m < 2147483648 from ⟨by omega, by omega⟩).1 (show -2147483648 ≤ 6 * m ∧ 6 * m < 2147483648 from ⟨by omega, by omega⟩).2 ?_
              refine z_iconst dX11_isSo_214 (zi32_d rfl) ?_
              refine z_iaddN dX11_isSo_215 (show -2147483648 ≤ (6 * m) + 2 ∧ (6 * m) + 2 < 2147483648 from ⟨by omega, by omega⟩).1 (show -2147483648 ≤ (6 * m) + 2 ∧ (6 * m) + 2 < 2147483648 from ⟨by omega, by omega⟩).2 ?_
              refine z_iload 0 dX11_isSo_216 rfl ?_
              refine z_iaddN dX11_isSo_218 (show -2147483648 ≤ ((6 * m) + 2) + (g 201 k) ∧ ((6 * m) + 2) + (g 201 k) < 2147483648 from ⟨by omega, by omega⟩).1 (show -2147483648 ≤ ((6 * m) + 2) + (g 201 k) ∧ ((6 * m) + 2) + (g 201 k) < 2147483648 from ⟨by omega, by omega⟩).2 ?_
              refine z_iald dX11_isSo_219 (zOb.lit (by decide +kernel)) (show 0 ≤ (((6 * m) + 2) + (g 201 k)) ∧ (((6 * m) + 2) + (g 201 k)) < 360 from ⟨by omega, by omega⟩).1 (show 0 ≤ (((6 * m) + 2) + (g 201 k)) ∧ (((6 * m) + 2) + (g 201 k)) < 360 from ⟨by omega, by omega⟩).2 ?_
              refine z_iconst dX11_isSo_220 (zi32_d rfl) ?_
              suffices KJ : zW mX11_isSo X dep bc bs 239 229 [(7, xI (g 201 k)), (0, xR 169), (1, xI w), (2, xI x), (3, xI m), (4, xI l), (5, xI n), (6, xI k)] [xI (if (g 217 (((6 * m) + 2) + (g 201 k))) = 1 then 1 else 0 : Int), xI n, xR 231] g Q by
                refine z_icmp_ne (tgt := 228) dX11_isSo_221 (by decide) (fun j1 => ?_) (fun j1 => ?_)
                ·
                  refine z_iconst dX11_isSo_228 (zi32_d rfl) ?_
                  rw [if_neg j1] at KJ
                  exact KJ
                ·
                  refine z_iconst dX11_isSo_224 (zi32_d rfl) ?_
                  refine z_goto (tgt := 229) dX11_isSo_225 (by decide) ?_
                  rw [if_pos j1] at KJ
                  exact KJ
              refine z_zast dX11_isSo_229 (zOb.lit (by decide +kernel)) (show 0 ≤ n ∧ n < 80 from ⟨by omega, by omega⟩).1 (show 0 ≤ n ∧ n < 80 from ⟨by omega, by omega⟩).2 (by repeat (first | (left; rfl) | (right; rfl) | split)) ?_
              refine z_iincN (lv' := [(5, xI (n + 1)), (7, xI (g 201 k)), (0, xR 169), (1, xI w), (2, xI x), (3, xI m), (4, xI l), (6, xI k)]) 6 dX11_isSo_230 rfl (by decide) rfl (show -2147483648 ≤ n + 1 ∧ n + 1 < 2147483648 from ⟨by omega, by omega⟩).1 (show -2147483648 ≤ n + 1 ∧ n + 1 < 2147483648 from ⟨by omega, by omega⟩).2 ?_
              refine z_goto (tgt := 338) dX11_isSo_233 (by decide) ?_
              refine z_iincN (lv' := [(6, xI (k + 1)), (5, xI (n + 1)), (7, xI (g 201 k)), (0, xR 169), (1, xI w), (2, xI x), (3, xI m), (4, xI l)]) 7 dX11_isSo_338 rfl (by decide) rfl (show -2147483648 ≤ k + 1 ∧ k + 1 < 2147483648 from ⟨by omega, by omega⟩).1 (show -2147483648 ≤ k + 1 ∧ k + 1 < 2147483648 from ⟨by omega, by omega⟩).2 ?_
              refine z_goto (tgt := 17) dX11_isSo_341 (by decide) ?_
              refine zW.sub (lv' := [(0, xR 169), (1, xI w), (2, xI x), (3, xI m), (4, xI l), (5, xI (n + 1)), (6, xI (k + 1))]) [3, 4, 5, 6, 7, 1, 0] rfl ?_
              exact k5 c1 c2 c3 c4 c5 c6
            ·
              refine z_aload_n 1 dX11_isSo_190 rfl ?_
              refine z_iload_n 4 dX11_isSo_191 rfl ?_
              refine z_invF (ci := 11) (N := 97) (as := [xI m]) (st := [xI n, xR 231]) (ra := [xI m]) (dep' := dep - 1) (rs := [xI (zcnt (mBro g m) (g 169 25).toNat)]) (h' := g) (f_X11_brothersOf m (h := g) hm hx (by omega)) dX11_isSo_192 nX11_brothersOf zb_1615 zb_1617 zb_59 zb_92 (zOb.lit (by decide +kernel)) rfl (by omega) zne_I (Nat.le_of_ble_eq_true rfl) (Nat.le_of_ble_eq_true rfl) rfl ?_
              suffices KJ : zW mX11_isSo X dep bc bs 239 229 [(7, xI (g 201 k)), (0, xR 169), (1, xI w), (2, xI x), (3, xI m), (4, xI l), (5, xI n), (6, xI k)] [xI (if (zcnt (mBro g m) (g 169 25).toNat) = 0 then 1 else 0 : Int), xI n, xR 231] g Q by
                refine z_if_ne (tgt := 202) dX11_isSo_195 (by decide) (fun j1 => ?_) (fun j1 => ?_)
                ·
                  refine z_iconst dX11_isSo_202 (zi32_d rfl) ?_
                  refine z_goto (tgt := 229) dX11_isSo_203 (by decide) ?_
                  rw [if_neg j1] at KJ
                  exact KJ
                ·
                  refine z_iconst dX11_isSo_198 (zi32_d rfl) ?_
                  refine z_goto (tgt := 229) dX11_isSo_199 (by decide) ?_
                  rw [if_pos j1] at KJ
                  exact KJ
              refine z_zast dX11_isSo_229 (zOb.lit (by decide +kernel)) (show 0 ≤ n ∧ n < 80 from ⟨by omega, by omega⟩).1 (show 0 ≤ n ∧ n < 80 from ⟨by omega, by omega⟩).2 (by repeat (first | (left; rfl) | (right; rfl) | split)) ?_
              refine z_iincN (lv' := [(5, xI (n + 1)), (7, xI (g 201 k)), (0, xR 169), (1, xI w), (2, xI x), (3, xI m), (4, xI l), (6, xI k)]) 6 dX11_isSo_230 rfl (by decide) rfl (show -2147483648 ≤ n + 1 ∧ n + 1 < 2147483648 from ⟨by omega, by omega⟩).1 (show -2147483648 ≤ n + 1 ∧ n + 1 < 2147483648 from ⟨by omega, by omega⟩).2 ?_
              refine z_goto (tgt := 338) dX11_isSo_233 (by decide) ?_
              refine z_iincN (lv' := [(6, xI (k + 1)), (5, xI (n + 1)), (7, xI (g 201 k)), (0, xR 169), (1, xI w), (2, xI x), (3, xI m), (4, xI l)]) 7 dX11_isSo_338 rfl (by decide) rfl (show -2147483648 ≤ k + 1 ∧ k + 1 < 2147483648 from ⟨by omega, by omega⟩).1 (show -2147483648 ≤ k + 1 ∧ k + 1 < 2147483648 from ⟨by omega, by omega⟩).2 ?_
              refine z_goto (tgt := 17) dX11_isSo_341 (by decide) ?_
              refine zW.sub (lv' := [(0, xR 169), (1, xI w), (2, xI x), (3, xI m), (4, xI l), (5, xI (n + 1)), (6, xI (k + 1))]) [3, 4, 5, 6, 7, 1, 0] rfl ?_
              exact k6 c1 c2 c3 c4 c5 c6
        ·
          refine z_iincN (lv' := [(5, xI (n + (-1))), (7, xI (g 201 k)), (0, xR 169), (1, xI w), (2, xI x), (3, xI m), (4, xI l), (6, xI k)]) 6 dX11_isSo_93 rfl (by decide) rfl (show -2147483648 ≤ n + (-1) ∧ n + (-1) < 2147483648 from ⟨by omega, by omega⟩).1 (show -2147483648 ≤ n + (-1) ∧ n + (-1) < 2147483648 from ⟨by omega, by omega⟩).2 ?_
          refine z_aload_n 2 dX11_isSo_96 rfl ?_
          refine z_getS (v := 231) (k := 84) (kz := 84) pk11 dX11_isSo_97 (by decide) zb_1208 rfl (zOb.lit (by decide +kernel)) rfl (by decide +kernel) ?_
          refine z_iload 0 dX11_isSo_100 rfl ?_
          refine z_iconst dX11_isSo_102 (zi32_d rfl) ?_
          refine z_isubN dX11_isSo_103 (show -2147483648 ≤ (n + (-1)) - 1 ∧ (n + (-1)) - 1 < 2147483648 from ⟨by omega, by omega⟩).1 (show -2147483648 ≤ (n + (-1)) - 1 ∧ (n + (-1)) - 1 < 2147483648 from ⟨by omega, by omega⟩).2 ?_
          refine z_iload 1 dX11_isSo_104 rfl ?_
          refine z_bipush dX11_isSo_106 (zi32_d rfl) (by decide) ?_
          refine z_icmp_ne (tgt := 141) dX11_isSo_108 (by decide) (fun c5 => ?_) (fun c5 => ?_)
          ·
            refine z_aload_n 2 dX11_isSo_141 rfl ?_
            refine z_getS (v := 231) (k := 84) (kz := 84) pk11 dX11_isSo_142 (by decide) zb_1208 rfl (zOb.lit (by decide +kernel)) rfl (by decide +kernel) ?_
            refine z_iload 0 dX11_isSo_145 rfl ?_
            refine z_iconst dX11_isSo_147 (zi32_d rfl) ?_
            refine z_isubN dX11_isSo_148 (show -2147483648 ≤ (n + (-1)) - 1 ∧ (n + (-1)) - 1 < 2147483648 from ⟨by omega, by omega⟩).1 (show -2147483648 ≤ (n + (-1)) - 1 ∧ (n + (-1)) - 1 < 2147483648 from ⟨by omega, by omega⟩).2 ?_
            refine z_zald dX11_isSo_149 (zOb.lit (by decide +kernel)) (show 0 ≤ ((n + (-1)) - 1) ∧ ((n + (-1)) - 1) < 80 from ⟨by omega, by omega⟩).1 (show 0 ≤ ((n + (-1)) - 1) ∧ ((n + (-1)) - 1) < 80 from ⟨by omega, by omega⟩).2 ?_
            suffices KJ : zW mX11_isSo X dep bc bs 239 168 [(5, xI (n + (-1))), (7, xI (g 201 k)), (0, xR 169), (1, xI w), (2, xI x), (3, xI m), (4, xI l), (6, xI k)] [xI (if (g 231 ((n + (-1)) - 1)) = 0 then if (g 231 (n + (-1))) = 0 then 0 else 1 else 1 : Int), xI ((n + (-1)) - 1), xR 231] g Q by
              refine z_if_ne (tgt := 163) dX11_isSo_150 (by decide) (fun j1 => ?_) (fun j1 => ?_)
              ·
                refine z_iconst dX11_isSo_163 (zi32_d rfl) ?_
                refine z_goto (tgt := 168) dX11_isSo_164 (by decide) ?_
                rw [if_neg j1] at KJ
                exact KJ
              ·
                refine z_aload_n 2 dX11_isSo_153 rfl ?_
                refine z_getS (v := 231) (k := 84) (kz := 84) pk11 dX11_isSo_154 (by decide) zb_1208 rfl (zOb.lit (by decide +kernel)) rfl (by decide +kernel) ?_
                refine z_iload 0 dX11_isSo_157 rfl ?_
                refine z_zald dX11_isSo_159 (zOb.lit (by decide +kernel)) (show 0 ≤ (n + (-1)) ∧ (n + (-1)) < 80 from ⟨by omega, by omega⟩).1 (show 0 ≤ (n + (-1)) ∧ (n + (-1)) < 80 from ⟨by omega, by omega⟩).2 ?_
                refine z_if_eq (tgt := 167) dX11_isSo_160 (by decide) (fun j2 => ?_) (fun j2 => ?_)
                ·
                  refine z_iconst dX11_isSo_167 (zi32_d rfl) ?_
                  rw [if_pos j1] at KJ
                  rw [if_pos j2] at KJ
                  exact KJ
                ·
                  refine z_iconst dX11_isSo_163 (zi32_d rfl) ?_
                  refine z_goto (tgt := 168) dX11_isSo_164 (by decide) ?_
                  rw [if_pos j1] at KJ
                  rw [if_neg j2] at KJ
                  exact KJ
            refine z_zast dX11_isSo_168 (zOb.lit (by decide +kernel)) (show 0 ≤ ((n + (-1)) - 1) ∧ ((n + (-1)) - 1) < 80 from ⟨by omega, by omega⟩).1 (show 0 ≤ ((n + (-1)) - 1) ∧ ((n + (-1)) - 1) < 80 from ⟨by omega, by omega⟩).2 (by repeat (first | (left; rfl) | (right; rfl) | split)) ?_
            refine z_goto (tgt := 338) dX11_isSo_169 (by decide) ?_
            refine z_iincN (lv' := [(6, xI (k + 1)), (5, xI (n + (-1))), (7, xI (g 201 k)), (0, xR 169), (1, xI w), (2, xI x), (3, xI m), (4, xI l)]) 7 dX11_isSo_338 rfl (by decide) rfl (show -2147483648 ≤ k + 1 ∧ k + 1 < 2147483648 from ⟨by omega, by omega⟩).1 (show -2147483648 ≤ k + 1 ∧ k + 1 < 2147483648 from ⟨by omega, by omega⟩).2 ?_
            refine z_goto (tgt := 17) dX11_isSo_341 (by decide) ?_
            refine zW.sub (lv' := [(0, xR 169), (1, xI w), (2, xI x), (3, xI m), (4, xI l), (5, xI (n + (-1))), (6, xI (k + 1))]) [3, 4, 5, 6, 7, 1, 0] rfl ?_
            exact k7 c1 c2 c3 c4 c5
          ·
            refine z_aload_n 2 dX11_isSo_111 rfl ?_
            refine z_getS (v := 231) (k := 84) (kz := 84) pk11 dX11_isSo_112 (by decide) zb_1208 rfl (zOb.lit (by decide +kernel)) rfl (by decide +kernel) ?_
            refine z_iload 0 dX11_isSo_115 rfl ?_
            refine z_iconst dX11_isSo_117 (zi32_d rfl) ?_
            refine z_isubN dX11_isSo_118 (show -2147483648 ≤ (n + (-1)) - 1 ∧ (n + (-1)) - 1 < 2147483648 from ⟨by omega, by omega⟩).1 (show -2147483648 ≤ (n + (-1)) - 1 ∧ (n + (-1)) - 1 < 2147483648 from ⟨by omega, by omega⟩).2 ?_
            refine z_zald dX11_isSo_119 (zOb.lit (by decide +kernel)) (show 0 ≤ ((n + (-1)) - 1) ∧ ((n + (-1)) - 1) < 80 from ⟨by omega, by omega⟩).1 (show 0 ≤ ((n + (-1)) - 1) ∧ ((n + (-1)) - 1) < 80 from ⟨by omega, by omega⟩).2 ?_
            suffices KJ : zW mX11_isSo X dep bc bs 239 168 [(5, xI (n + (-1))), (7, xI (g 201 k)), (0, xR 169), (1, xI w), (2, xI x), (3, xI m), (4, xI l), (6, xI k)] [xI (if (g 231 ((n + (-1)) - 1)) = 0 then 0 else if (g 231 (n + (-1))) = 0 then 0 else 1 : Int), xI ((n + (-1)) - 1), xR 231] g Q by
              refine z_if_eq (tgt := 137) dX11_isSo_120 (by decide) (fun j1 => ?_) (fun j1 => ?_)
              ·
                refine z_iconst dX11_isSo_137 (zi32_d rfl) ?_
                refine z_goto (tgt := 168) dX11_isSo_138 (by decide) ?_
                rw [if_pos j1] at KJ
                exact KJ
              ·
                refine z_aload_n 2 dX11_isSo_123 rfl ?_
                refine z_getS (v := 231) (k := 84) (kz := 84) pk11 dX11_isSo_124 (by decide) zb_1208 rfl (zOb.lit (by decide +kernel)) rfl (by decide +kernel) ?_
                refine z_iload 0 dX11_isSo_127 rfl ?_
                refine z_zald dX11_isSo_129 (zOb.lit (by decide +kernel)) (show 0 ≤ (n + (-1)) ∧ (n + (-1)) < 80 from ⟨by omega, by omega⟩).1 (show 0 ≤ (n + (-1)) ∧ (n + (-1)) < 80 from ⟨by omega, by omega⟩).2 ?_
                refine z_if_eq (tgt := 137) dX11_isSo_130 (by decide) (fun j2 => ?_) (fun j2 => ?_)
                ·
                  refine z_iconst dX11_isSo_137 (zi32_d rfl) ?_
                  refine z_goto (tgt := 168) dX11_isSo_138 (by decide) ?_
                  rw [if_neg j1] at KJ
                  rw [if_pos j2] at KJ
                  exact KJ
                ·
                  refine z_iconst dX11_isSo_133 (zi32_d rfl) ?_
                  refine z_goto (tgt := 168) dX11_isSo_134 (by decide) ?_
                  rw [if_neg j1] at KJ
                  rw [if_neg j2] at KJ
                  exact KJ
            refine z_zast dX11_isSo_168 (zOb.lit (by decide +kernel)) (show 0 ≤ ((n + (-1)) - 1) ∧ ((n + (-1)) - 1) < 80 from ⟨by omega, by omega⟩).1 (show 0 ≤ ((n + (-1)) - 1) ∧ ((n + (-1)) - 1) < 80 from ⟨by omega, by omega⟩).2 (by repeat (first | (left; rfl) | (right; rfl) | split)) ?_
            refine z_goto (tgt := 338) dX11_isSo_169 (by decide) ?_
            refine z_iincN (lv' := [(6, xI (k + 1)), (5, xI (n + (-1))), (7, xI (g 201 k)), (0, xR 169), (1, xI w), (2, xI x), (3, xI m), (4, xI l)]) 7 dX11_isSo_338 rfl (by decide) rfl (show -2147483648 ≤ k + 1 ∧ k + 1 < 2147483648 from ⟨by omega, by omega⟩).1 (show -2147483648 ≤ k + 1 ∧ k + 1 < 2147483648 from ⟨by omega, by omega⟩).2 ?_
            refine z_goto (tgt := 17) dX11_isSo_341 (by decide) ?_
            refine zW.sub (lv' := [(0, xR 169), (1, xI w), (2, xI x), (3, xI m), (4, xI l), (5, xI (n + (-1))), (6, xI (k + 1))]) [3, 4, 5, 6, 7, 1, 0] rfl ?_
            exact k8 c1 c2 c3 c4 c5
    ·
      refine z_aload_n 1 dX11_isSo_50 rfl ?_
      refine z_getS (v := 231) (k := 84) (kz := 84) pk11 dX11_isSo_51 (by decide) zb_1208 rfl (zOb.lit (by decide +kernel)) rfl (by decide +kernel) ?_
      refine z_iload 6 dX11_isSo_54 rfl ?_
      refine z_iconst dX11_isSo_56 (zi32_d rfl) ?_
      refine z_isubN dX11_isSo_57 (show -2147483648 ≤ n - 1 ∧ n - 1 < 2147483648 from ⟨by omega, by omega⟩).1 (show -2147483648 ≤ n - 1 ∧ n - 1 < 2147483648 from ⟨by omega, by omega⟩).2 ?_
      refine z_aload_n 1 dX11_isSo_58 rfl ?_
      refine z_getS (v := 231) (k := 84) (kz := 84) pk11 dX11_isSo_59 (by decide) zb_1208 rfl (zOb.lit (by decide +kernel)) rfl (by decide +kernel) ?_
      refine z_iload 6 dX11_isSo_62 rfl ?_
      refine z_iconst dX11_isSo_64 (zi32_d rfl) ?_
      refine z_isubN dX11_isSo_65 (show -2147483648 ≤ n - 1 ∧ n - 1 < 2147483648 from ⟨by omega, by omega⟩).1 (show -2147483648 ≤ n - 1 ∧ n - 1 < 2147483648 from ⟨by omega, by omega⟩).2 ?_
      refine z_zald dX11_isSo_66 (zOb.lit (by decide +kernel)) (show 0 ≤ (n - 1) ∧ (n - 1) < 80 from ⟨by omega, by omega⟩).1 (show 0 ≤ (n - 1) ∧ (n - 1) < 80 from ⟨by omega, by omega⟩).2 ?_
      suffices KJ : zW mX11_isSo X dep bc bs 239 75 [(7, xI (g 201 k)), (0, xR 169), (1, xI w), (2, xI x), (3, xI m), (4, xI l), (5, xI n), (6, xI k)] [xI (if (g 231 (n - 1)) = 0 then 1 else 0 : Int), xI (n - 1), xR 231] g Q by
        refine z_if_ne (tgt := 74) dX11_isSo_67 (by decide) (fun j1 => ?_) (fun j1 => ?_)
        ·
          refine z_iconst dX11_isSo_74 (zi32_d rfl) ?_
          rw [if_neg j1] at KJ
          exact KJ
        ·
          refine z_iconst dX11_isSo_70 (zi32_d rfl) ?_
          refine z_goto (tgt := 75) dX11_isSo_71 (by decide) ?_
          rw [if_pos j1] at KJ
          exact KJ
      refine z_zast dX11_isSo_75 (zOb.lit (by decide +kernel)) (show 0 ≤ (n - 1) ∧ (n - 1) < 80 from ⟨by omega, by omega⟩).1 (show 0 ≤ (n - 1) ∧ (n - 1) < 80 from ⟨by omega, by omega⟩).2 (by repeat (first | (left; rfl) | (right; rfl) | split)) ?_
      refine z_goto (tgt := 338) dX11_isSo_76 (by decide) ?_
      refine z_iincN (lv' := [(6, xI (k + 1)), (7, xI (g 201 k)), (0, xR 169), (1, xI w), (2, xI x), (3, xI m), (4, xI l), (5, xI n)]) 7 dX11_isSo_338 rfl (by decide) rfl (show -2147483648 ≤ k + 1 ∧ k + 1 < 2147483648 from ⟨by omega, by omega⟩).1 (show -2147483648 ≤ k + 1 ∧ k + 1 < 2147483648 from ⟨by omega, by omega⟩).2 ?_
      refine z_goto (tgt := 17) dX11_isSo_341 (by decide) ?_
      refine zW.sub (lv' := [(0, xR 169), (1, xI w), (2, xI x), (3, xI m), (4, xI l), (5, xI n), (6, xI (k + 1))]) [2, 3, 4, 5, 6, 7, 0] rfl ?_
      exact k9 c1 c2


theorem mBro_ag {S : List Int} {h g : zH} (ha : zag S h g) (h1 : (215 : Int) ∉ S) (h2 : (173 : Int) ∉ S) : mBro g = mBro h := by
  funext m b
  unfold mBro
  rw [ha 215 b h1, ha 173 m h2, ha 173 b h2]
theorem mSer_ag {S : List Int} {h g : zH} (ha : zag S h g) (h1 : (230 : Int) ∉ S) : mSer g = mSer h := by
  funext l b
  unfold mSer
  exact propext ⟨fun ⟨k, k1, k2⟩ => ⟨k, k1, by rw [← ha 230 _ h1]; exact k2⟩, fun ⟨k, k1, k2⟩ => ⟨k, k1, by rw [ha 230 _ h1]; exact k2⟩⟩
theorem mnum_ag {S : List Int} {h g : zH} (ha : zag S h g) (hS : ∀ o ∈ [(214 : Int), 205, 217, 218, 215, 173, 230, 169, 172], o ∉ S) : mnum g = mnum h := by
  funext w m l
  unfold mnum
  rw [mBro_ag ha (hS _ (by decide)) (hS _ (by decide)), mSer_ag ha (hS _ (by decide)), ha 214 _ (hS _ (by decide)), ha 205 _ (hS _ (by decide)), ha 217 _ (hS _ (by decide)), ha 217 _ (hS _ (by decide)), ha 217 _ (hS _ (by decide)), ha 218 _ (hS _ (by decide)), ha 169 _ (hS _ (by decide)), ha 172 _ (hS _ (by decide))]
/-- what a step tells of a man: 1 where it is so -/
noncomputable def mat (h : zH) (k m l : Int) : Int :=
  if 4 ≤ h 201 k then (if h 202 k = 60 then if h 203 k ≤ mnum h (h 201 k) m l then 0 else 1 else if h 202 k = 61 then if mnum h (h 201 k) m l = h 203 k then 1 else 0 else if mnum h (h 201 k) m l ≤ h 203 k then 0 else 1)
  else if h 201 k = 3 then (if zcnt (mBro h m) (h 169 25).toNat = 0 then 1 else 0) else (if h 217 (6 * m + 2 + h 201 k) = 1 then 1 else 0)
/-- the steps' pile: how high, and what lies there -/
def mdp (h : zH) (a : Int) : Nat → Int
  | 0 => 0
  | j + 1 => mdp h a j + (if h 201 (a + j) = 20 then 0 else if h 201 (a + j) = 21 ∨ h 201 (a + j) = 22 then -1 else 1)
noncomputable def mstk (h : zH) (m l a : Int) : Nat → Int → Int
  | 0, _ => 0
  | j + 1, q =>
    if h 201 (a + j) = 20 then (if q = mdp h a j - 1 then (if mstk h m l a j (mdp h a j - 1) = 0 then 1 else 0) else mstk h m l a j q)
    else if h 201 (a + j) = 21 then (if q = mdp h a j - 2 then (if mstk h m l a j (mdp h a j - 2) = 0 then 0 else if mstk h m l a j (mdp h a j - 1) = 0 then 0 else 1) else mstk h m l a j q)
    else if h 201 (a + j) = 22 then (if q = mdp h a j - 2 then (if mstk h m l a j (mdp h a j - 2) = 0 then if mstk h m l a j (mdp h a j - 1) = 0 then 0 else 1 else 1) else mstk h m l a j q)
    else if q = mdp h a j then mat h (a + j) m l else mstk h m l a j q
/-- steps that can be answered -/
def mGood (h : zH) (a : Int) (N : Nat) : Prop := ∀ j : Nat, j < N → (0 ≤ mdp h a j ∧ mdp h a j ≤ 80) ∧ ((h 201 (a + j) = 20 ∧ 1 ≤ mdp h a j) ∨ ((h 201 (a + j) = 21 ∨ h 201 (a + j) = 22) ∧ 2 ≤ mdp h a j) ∨ (0 ≤ h 201 (a + j) ∧ h 201 (a + j) < 12 ∧ mdp h a j < 80))
def mSo (h : zH) (w x m l : Int) : Prop := mdp h (130 * w + h 198 x) (h 199 x - h 198 x).toNat = 0 ∨ mstk h m l (130 * w + h 198 x) (h 199 x - h 198 x).toNat 0 ≠ 0
def mPer (h : zH) (m l : Int) : Prop := (0 ≤ h 169 25 ∧ h 169 25 ≤ 60) ∧ (0 ≤ m ∧ m < 60) ∧ (0 ≤ l ∧ l < 4) ∧ (-3120 ≤ h 214 m ∧ h 214 m < 520) ∧ 0 ≤ h 205 l ∧ h 205 l ≤ 3639
theorem mdp_in {h : zH} {a : Int} {N : Nat} (hg : mGood h a N) (j : Nat) (hj : j ≤ N) : 0 ≤ mdp h a j ∧ mdp h a j ≤ 80 := by
  match j, hj with
  | 0, _ => exact ⟨Int.le_refl _, by unfold mdp; omega⟩
  | j + 1, hj =>
    have := hg j (by omega)
    unfold mdp
    (repeat' split) <;> omega
theorem f_X11_isSo {X : zX} {dep : Nat} (w x m l : Int) {h : zH} (hp : mPer h m l) (hw : 0 ≤ w ∧ w < 8) (hx : 0 ≤ x ∧ x < 180) (h1 : 0 ≤ h 198 x ∧ h 198 x ≤ h 199 x ∧ h 199 x ≤ 130) (hg : mGood h (130 * w + h 198 x) (h 199 x - h 198 x).toNat) (hdep : 3 ≤ dep) :
    zW mX11_isSo X dep 0 0 239 0 (zar 0 [xR 169, xI w, xI x, xI m, xI l]) [] h (zQI (fun v g => zag [231] h g ∧ v = zb (mSo h w x m l))) := by
  refine bX11_isSo_0 w x m l hw hx h1 ?_
  generalize ea : 130 * w + h 198 x = a at hg ⊢
  generalize eN : (h 199 x - h 198 x).toNat = N at hg
  have main : ∀ (r j : Nat) (g : zH), j + r = N → zag [231] h g → (∀ q : Int, 0 ≤ q → q < mdp h a j → g 231 q = mstk h m l a j q) → zW mX11_isSo X dep 0 0 239 17 [(0, xR 169), (1, xI w), (2, xI x), (3, xI m), (4, xI l), (5, xI (mdp h a j)), (6, xI (a + j))] [] g (zQI (fun v g => zag [231] h g ∧ v = zb (mSo h w x m l))) := by
    intro r
    induction r with
    | zero =>
      intro j g hk ha hs
      obtain rfl : j = N := by omega
      have hn := mdp_in hg j (Nat.le_refl _)
      have e1 := ha 198 x (by decide)
      have e2 := ha 199 x (by decide)
      refine bX11_isSo_17 w x m l _ _ (by rw [ha 169 25 (by decide)]; exact hp.1) hp.2.1 hp.2.2.1 (by rw [ha 214 m (by decide)]; exact hp.2.2.2.1) (by rw [ha 205 l (by decide)]; exact hp.2.2.2.2) hw hx (by rw [e1, e2]; exact h1) (by omega) hn (Or.inl (by omega)) hdep ?_ ?_ ?_ ?_ ?_ ?_ ?_ ?_ ?_
      · intro c
        refine ⟨rfl, _, rfl, ha, ?_⟩
        unfold mSo zb
        rw [ea, eN]
        by_cases z : mdp h a j = 0
        · rw [if_pos z, if_pos (Or.inl z)]
        · rw [if_neg z, hs 0 (by omega) (by omega)]
          by_cases y : mstk h m l a j 0 = 0
          · rw [if_pos y, if_neg (fun q => q.elim z (fun q => q y))]
          · rw [if_neg y, if_pos (Or.inr y)]
      all_goals
        intro c
        exfalso
        omega
    | succ r ih =>
      intro j g hk ha hs
      have hn := mdp_in hg j (by omega)
      have hj := hg j (by omega)
      have e1 := ha 198 x (by decide)
      have e2 := ha 199 x (by decide)
      have e3 := ha 201 (a + j) (by decide)
      have e4 := ha 202 (a + j) (by decide)
      have e5 := ha 203 (a + j) (by decide)
      have go : ∀ (q0 v n' : Int), n' = mdp h a (j + 1) → (∀ q : Int, 0 ≤ q → q < mdp h a (j + 1) → mstk h m l a (j + 1) q = if q = q0 then v else mstk h m l a j q) → (∀ q : Int, 0 ≤ q → q < mdp h a (j + 1) → q ≠ q0 → q < mdp h a j) →
          zW mX11_isSo X dep 0 0 239 17 [(0, xR 169), (1, xI w), (2, xI x), (3, xI m), (4, xI l), (5, xI n'), (6, xI (a + j + 1))] [] (zst g 231 q0 v) (zQI (fun v g => zag [231] h g ∧ v = zb (mSo h w x m l))) := fun q0 v n' en hv hlt => by
        have := ih (j + 1) (zst g 231 q0 v) (by omega) (ha.st (by decide) _ _) (fun q q1 q2 => by
          rw [zst_or, hv q q1 q2]
          by_cases e : q = q0
          · rw [if_pos e, if_pos e]
          · rw [if_neg e, if_neg e]
            exact hs q q1 (hlt q q1 q2 e))
        rw [show a + ((j + 1 : Nat) : Int) = a + j + 1 by omega, ← en] at this
        exact this
      have ds : mdp h a (j + 1) = mdp h a j + (if h 201 (a + j) = 20 then 0 else if h 201 (a + j) = 21 ∨ h 201 (a + j) = 22 then -1 else 1) := rfl
      have em : mnum g = mnum h := mnum_ag ha (by decide)
      have eb : mBro g = mBro h := mBro_ag ha (by decide) (by decide)
      have em1 := ha 169 25 (by decide)
      refine bX11_isSo_17 w x m l _ _ (by rw [ha 169 25 (by decide)]; exact hp.1) hp.2.1 hp.2.2.1 (by rw [ha 214 m (by decide)]; exact hp.2.2.2.1) (by rw [ha 205 l (by decide)]; exact hp.2.2.2.2) hw hx (by rw [e1, e2]; exact h1) (by omega) hn (by rw [e3]; exact Or.inr (by omega)) hdep ?_ ?_ ?_ ?_ ?_ ?_ ?_ ?_ ?_
      · intro c
        exfalso
        omega
      · intro c1 c2 c3 c4
        exact absurd c3 c4
      · intro c1 c2 c3 c4
        rw [e3] at c2 c3
        rw [if_neg c2, if_pos (Or.inl c3)] at ds
        rw [show mdp h a j + -1 - 1 = mdp h a j - 2 by omega, show mdp h a j + -1 = mdp h a j - 1 by omega, hs (mdp h a j - 2) (by omega) (by omega), hs (mdp h a j - 1) (by omega) (by omega)]
        exact go _ _ _ (by omega) (fun q q1 q2 => by show (if _ then _ else _) = _; rw [if_neg c2, if_pos c3]) (fun q q1 q2 q3 => by omega)
      · intro c1 c2 c3 c4 c5
        rw [e3] at c2 c3 c4 c5
        rw [if_neg c2, if_neg (by omega)] at ds
        rw [e3, e4, e5, em]
        refine go _ _ _ (by omega) (fun q q1 q2 => ?_) (fun q q1 q2 q3 => by omega)
        show (if _ then _ else _) = _
        rw [if_neg c2, if_neg c3, if_neg c4]
        unfold mat
        rw [if_pos c5]
      · intro c1 c2 c3 c4 c5 c6
        rw [e3] at c2 c3 c4 c5 c6
        rw [if_neg c2, if_neg (by omega)] at ds
        rw [e3, ha 217 _ (by decide)]
        refine go _ _ _ (by omega) (fun q q1 q2 => ?_) (fun q q1 q2 q3 => by omega)
        show (if _ then _ else _) = _
        rw [if_neg c2, if_neg c3, if_neg c4]
        unfold mat
        rw [if_neg c5, if_neg c6]
      · intro c1 c2 c3 c4 c5 c6
        rw [e3] at c2 c3 c4 c5 c6
        rw [if_neg c2, if_neg (by omega)] at ds
        rw [eb, em1]
        refine go _ _ _ (by omega) (fun q q1 q2 => ?_) (fun q q1 q2 q3 => by omega)
        show (if _ then _ else _) = _
        rw [if_neg c2, if_neg c3, if_neg c4]
        unfold mat
        rw [if_neg c5, if_pos c6]
      · intro c1 c2 c3 c4 c5
        rw [e3] at c2 c3 c4
        rw [if_neg c2, if_pos (Or.inr c4)] at ds
        rw [show mdp h a j + -1 - 1 = mdp h a j - 2 by omega, show mdp h a j + -1 = mdp h a j - 1 by omega, hs (mdp h a j - 2) (by omega) (by omega), hs (mdp h a j - 1) (by omega) (by omega)]
        exact go _ _ _ (by omega) (fun q q1 q2 => by show (if _ then _ else _) = _; rw [if_neg c2, if_neg c3, if_pos c4]) (fun q q1 q2 q3 => by omega)
      · intro c1 c2 c3 c4 c5
        exfalso
        omega
      · intro c1 c2
        rw [e3] at c2
        rw [if_pos c2] at ds
        rw [hs (mdp h a j - 1) (by omega) (by omega)]
        exact go _ _ _ (by omega) (fun q q1 q2 => by show (if _ then _ else _) = _; rw [if_pos c2]) (fun q q1 q2 q3 => by omega)
  have e0 := main N 0 h (by omega) (zag.rf _ _) (fun q q1 q2 => by have : mdp h a 0 = 0 := rfl; omega)
  rw [show a + ((0 : Nat) : Int) = a by omega] at e0
  exact e0

