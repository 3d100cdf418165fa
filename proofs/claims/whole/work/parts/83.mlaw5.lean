/-! the model reads a law: its blocks -/
set_option maxRecDepth 20000 in
theorem bX11_readNumber_0 {X : zX} {dep bc bs : Nat} (a : Int) (b : Int) {g : zH} {Q : Nat → zH → List zV → Prop} (hdep : 1 ≤ dep)
    (k1 : (g 169 49) = 2 → a ≤ (g 169 52) ∧ (g 169 52) ≤ b → zW mX11_readNumber X dep bc bs 239 32 [(0, xR 169), (1, xI a), (2, xI b)] [] g Q)
    (k2 : (g 169 49) = 2 → ¬ (a ≤ (g 169 52) ∧ (g 169 52) ≤ b) → zW mX11_readNumber X dep bc bs 239 26 [(0, xR 169)] [] g Q)
    (k3 : ¬ ((g 169 49) = 2) → zW mX11_readNumber X dep bc bs 239 8 [(0, xR 169)] [] g Q) : zW mX11_readNumber X dep bc bs 239 0 [(0, xR 169), (1, xI a), (2, xI b)] [] g Q := by
  refine z_aload_n 0 dX11_readNumber_0 rfl ?_
  refine z_getI (k := 49) (kz := 49) pk11 dX11_readNumber_1 (by decide) zb_1173 rfl (zOb.lit (by decide +kernel)) rfl ?_
  refine z_iconst dX11_readNumber_4 (zi32_d rfl) ?_
  refine z_icmp_eq (tgt := 14) dX11_readNumber_5 (by decide) (fun c1 => ?_) (fun c1 => ?_)
  ·
    refine z_aload_n 0 dX11_readNumber_14 rfl ?_
    refine z_getI (k := 52) (kz := 52) pk11 dX11_readNumber_15 (by decide) zb_1176 rfl (zOb.lit (by decide +kernel)) rfl ?_
    refine z_iload_n 1 dX11_readNumber_18 rfl ?_
    refine z_iload_n 2 dX11_readNumber_19 rfl ?_
    refine z_invSF (as := [xI (g 169 52), xI a, xI b]) (st := []) (ra := [xI b, xI a, xI (g 169 52)]) (dep' := dep - 1) (rs := [xI (zb (a ≤ (g 169 52) ∧ (g 169 52) ≤ b))]) (h' := g) (f_X11_isIn (g 169 52) a b (h := g) ) dX11_readNumber_20 nX11_isIn zb_1437 zb_1438 zb_92 (by omega) zne_I (Nat.le_of_ble_eq_true rfl) (Nat.le_of_ble_eq_true rfl) rfl ?_
    refine z_ifB_ne (C := a ≤ (g 169 52) ∧ (g 169 52) ≤ b) (tgt := 32) dX11_readNumber_23 (by decide) (fun c2 => ?_) (fun c2 => ?_)
    ·
      exact k1 c1 c2
    ·
      refine zW.sub (lv' := [(0, xR 169)]) [0] rfl ?_
      exact k2 c1 c2
  ·
    refine zW.sub (lv' := [(0, xR 169)]) [0] rfl ?_
    exact k3 c1

set_option maxRecDepth 20000 in
theorem bX11_readNumber_8 {X : zX} {dep bc bs : Nat} {g : zH} {Q : Nat → zH → List zV → Prop}
    (k1 : zW mX11_readNumber X dep bc bs 239 10 [(0, xR 169)] [xI 1, xR 169] g Q) : zW mX11_readNumber X dep bc bs 239 8 [(0, xR 169)] [] g Q := by
  refine z_aload_n 0 dX11_readNumber_8 rfl ?_
  refine z_iconst dX11_readNumber_9 (zi32_d rfl) ?_
  exact k1

set_option maxRecDepth 20000 in
theorem rX11_readNumber_10 {X : zX} {dep bc bs : Nat} {g : zH} {Q : Nat → zH → List zV → Prop} {P : Int → zH → Prop}
    (hZ : zW mX11_bad X (dep - 1) 0 0 239 0 (zar 0 [xR 169, xI 1]) [] g (zQI P)) (hdep : 1 ≤ dep)
    (k : ∀ (v : Int) (g : zH), P v g → zW mX11_readNumber X dep bc bs 239 13 [(0, xR 169)] [xI v] g Q) : zW mX11_readNumber X dep bc bs 239 10 [(0, xR 169)] [xI 1, xR 169] g Q :=
  z_invQI (ci := 11) (N := 97) (as := [xI 1]) (st := []) (ra := [xI 1]) hZ dX11_readNumber_10 nX11_bad zb_1500 zb_1502 zb_42 zb_92 (zOb.lit (by decide +kernel)) rfl (by omega) (Nat.le_of_ble_eq_true rfl) (Nat.le_of_ble_eq_true rfl) rfl (fun v g hg => k v g hg)

set_option maxRecDepth 20000 in
theorem bX11_readNumber_13 {X : zX} {dep bc bs : Nat} (v : Int) {g : zH} {Q : Nat → zH → List zV → Prop} (hv : v = 0 ∨ v = 1)
    (k1 : Q 239 g [xI v]) : zW mX11_readNumber X dep bc bs 239 13 [(0, xR 169)] [xI v] g Q := by
  exact z_zret dX11_readNumber_13 rfl hv (k1)

set_option maxRecDepth 20000 in
theorem bX11_readNumber_26 {X : zX} {dep bc bs : Nat} {g : zH} {Q : Nat → zH → List zV → Prop}
    (k1 : zW mX11_readNumber X dep bc bs 239 28 [(0, xR 169)] [xI 2, xR 169] g Q) : zW mX11_readNumber X dep bc bs 239 26 [(0, xR 169)] [] g Q := by
  refine z_aload_n 0 dX11_readNumber_26 rfl ?_
  refine z_iconst dX11_readNumber_27 (zi32_d rfl) ?_
  exact k1

set_option maxRecDepth 20000 in
theorem rX11_readNumber_28 {X : zX} {dep bc bs : Nat} {g : zH} {Q : Nat → zH → List zV → Prop} {P : Int → zH → Prop}
    (hZ : zW mX11_bad X (dep - 1) 0 0 239 0 (zar 0 [xR 169, xI 2]) [] g (zQI P)) (hdep : 1 ≤ dep)
    (k : ∀ (v : Int) (g : zH), P v g → zW mX11_readNumber X dep bc bs 239 31 [(0, xR 169)] [xI v] g Q) : zW mX11_readNumber X dep bc bs 239 28 [(0, xR 169)] [xI 2, xR 169] g Q :=
  z_invQI (ci := 11) (N := 97) (as := [xI 2]) (st := []) (ra := [xI 2]) hZ dX11_readNumber_28 nX11_bad zb_1500 zb_1502 zb_42 zb_92 (zOb.lit (by decide +kernel)) rfl (by omega) (Nat.le_of_ble_eq_true rfl) (Nat.le_of_ble_eq_true rfl) rfl (fun v g hg => k v g hg)

set_option maxRecDepth 20000 in
theorem bX11_readNumber_31 {X : zX} {dep bc bs : Nat} (v : Int) {g : zH} {Q : Nat → zH → List zV → Prop} (hv : v = 0 ∨ v = 1)
    (k1 : Q 239 g [xI v]) : zW mX11_readNumber X dep bc bs 239 31 [(0, xR 169)] [xI v] g Q := by
  exact z_zret dX11_readNumber_31 rfl hv (k1)

set_option maxRecDepth 20000 in
theorem bX11_readNumber_32 {X : zX} {dep bc bs : Nat} (a : Int) (b : Int) {g : zH} {Q : Nat → zH → List zV → Prop} (hl : 0 ≤ g 195 8 ∧ g 195 8 < 20)
    (k1 : zW mX11_readNumber X dep bc bs 239 53 [(0, xR 169)] [xR 169] (zst g 197 (160 + (g 195 8)) (g 169 52)) Q) : zW mX11_readNumber X dep bc bs 239 32 [(0, xR 169), (1, xI a), (2, xI b)] [] g Q := by
  refine z_aload_n 0 dX11_readNumber_32 rfl ?_
  refine z_getS (v := 197) (k := 37) (kz := 37) pk11 dX11_readNumber_33 (by decide) zb_1161 rfl (zOb.lit (by decide +kernel)) rfl (by decide +kernel) ?_
  refine z_sipush dX11_readNumber_36 (zi32_d rfl) (by decide) ?_
  refine z_aload_n 0 dX11_readNumber_39 rfl ?_
  refine z_getS (v := 195) (k := 35) (kz := 35) pk11 dX11_readNumber_40 (by decide) zb_1159 rfl (zOb.lit (by decide +kernel)) rfl (by decide +kernel) ?_
  refine z_bipush dX11_readNumber_43 (zi32_d rfl) (by decide) ?_
  refine z_iald (N := 9) dX11_readNumber_45 (zOb.lit (by decide +kernel)) (by decide) (by decide) ?_
  refine z_iaddN dX11_readNumber_46 (show -2147483648 ≤ 160 + (g 195 8) ∧ 160 + (g 195 8) < 2147483648 from ⟨by omega, by omega⟩).1 (show -2147483648 ≤ 160 + (g 195 8) ∧ 160 + (g 195 8) < 2147483648 from ⟨by omega, by omega⟩).2 ?_
  refine z_aload_n 0 dX11_readNumber_47 rfl ?_
  refine z_getI (k := 52) (kz := 52) pk11 dX11_readNumber_48 (by decide) zb_1176 rfl (zOb.lit (by decide +kernel)) rfl ?_
  refine z_iast dX11_readNumber_51 (zOb.lit (by decide +kernel)) (show 0 ≤ (160 + (g 195 8)) ∧ (160 + (g 195 8)) < 180 from ⟨by omega, by omega⟩).1 (show 0 ≤ (160 + (g 195 8)) ∧ (160 + (g 195 8)) < 180 from ⟨by omega, by omega⟩).2 ?_
  refine z_aload_n 0 dX11_readNumber_52 rfl ?_
  refine zW.sub (lv' := [(0, xR 169)]) [0] rfl ?_
  exact k1

set_option maxRecDepth 20000 in
theorem rX11_readNumber_53 {X : zX} {dep bc bs : Nat} {g : zH} {Q : Nat → zH → List zV → Prop} {P : zH → Prop}
    (hZ : zW mX11_next_ X (dep - 1) 0 0 239 0 (zar 0 [xR 169]) [] g (zQ0 P)) (hdep : 1 ≤ dep)
    (k : ∀ g : zH, P g → zW mX11_readNumber X dep bc bs 239 56 [(0, xR 169)] [] g Q) : zW mX11_readNumber X dep bc bs 239 53 [(0, xR 169)] [xR 169] g Q :=
  z_invQ0 (ci := 11) (N := 97) (as := []) (st := []) (ra := []) hZ dX11_readNumber_53 nX11_next_ zb_1475 zb_1477 zb_38 zb_92 (zOb.lit (by decide +kernel)) rfl (by omega) (Nat.le_of_ble_eq_true rfl) (Nat.le_of_ble_eq_true rfl) rfl (fun g hg => k g hg)

set_option maxRecDepth 20000 in
theorem bX11_readNumber_56 {X : zX} {dep bc bs : Nat} {g : zH} {Q : Nat → zH → List zV → Prop}
    (k1 : Q 239 g [xI 1]) : zW mX11_readNumber X dep bc bs 239 56 [(0, xR 169)] [] g Q := by
  refine z_iconst dX11_readNumber_56 (zi32_d rfl) ?_
  exact z_zret dX11_readNumber_57 rfl (Or.inr rfl) (k1)

set_option maxRecDepth 20000 in
theorem bX11_ages_0 {X : zX} {dep bc bs : Nat} (l : Int) {g : zH} {Q : Nat → zH → List zV → Prop}
    (k1 : zW mX11_ages X dep bc bs 239 4 [(0, xR 169), (1, xI l)] [xI 99, xI 0, xR 169] g Q) : zW mX11_ages X dep bc bs 239 0 [(0, xR 169), (1, xI l)] [] g Q := by
  refine z_aload_n 0 dX11_ages_0 rfl ?_
  refine z_iconst dX11_ages_1 (zi32_d rfl) ?_
  refine z_bipush dX11_ages_2 (zi32_d rfl) (by decide) ?_
  exact k1

set_option maxRecDepth 20000 in
theorem rX11_ages_4 {X : zX} {dep bc bs : Nat} (l : Int) {g : zH} {Q : Nat → zH → List zV → Prop} {P : Int → zH → Prop}
    (hZ : zW mX11_readNumber X (dep - 1) 0 0 239 0 (zar 0 [xR 169, xI 0, xI 99]) [] g (zQI P)) (hdep : 1 ≤ dep)
    (k : ∀ (v : Int) (g : zH), P v g → zW mX11_ages X dep bc bs 239 7 [(0, xR 169), (1, xI l)] [xI v] g Q) : zW mX11_ages X dep bc bs 239 4 [(0, xR 169), (1, xI l)] [xI 99, xI 0, xR 169] g Q :=
  z_invQI (ci := 11) (N := 97) (as := [xI 0, xI 99]) (st := []) (ra := [xI 99, xI 0]) hZ dX11_ages_4 nX11_readNumber zb_1504 zb_1506 zb_43 zb_92 (zOb.lit (by decide +kernel)) rfl (by omega) (Nat.le_of_ble_eq_true rfl) (Nat.le_of_ble_eq_true rfl) rfl (fun v g hg => k v g hg)

set_option maxRecDepth 20000 in
theorem bX11_ages_7 {X : zX} {dep bc bs : Nat} (l : Int) (v : Int) {g : zH} {Q : Nat → zH → List zV → Prop}
    (k1 : ¬ v = 0 → zW mX11_ages X dep bc bs 239 12 [(0, xR 169), (1, xI l)] [] g Q)
    (k2 : v = 0 → Q 239 g [xI 0]) : zW mX11_ages X dep bc bs 239 7 [(0, xR 169), (1, xI l)] [xI v] g Q := by
  refine z_if_ne (tgt := 12) dX11_ages_7 (by decide) (fun c1 => ?_) (fun c1 => ?_)
  ·
    exact k1 c1
  ·
    refine z_iconst dX11_ages_10 (zi32_d rfl) ?_
    exact z_zret dX11_ages_11 rfl (Or.inl rfl) (k2 c1)

set_option maxRecDepth 20000 in
theorem bX11_ages_12 {X : zX} {dep bc bs : Nat} (l : Int) {g : zH} {Q : Nat → zH → List zV → Prop} (hg : 160 ≤ l ∧ l < 180) (hdep : 1 ≤ dep)
    (k1 : (g 169 49) = 1 ∧ (g 169 56) = 29807 → zW mX11_ages X dep bc bs 239 42 [(0, xR 169), (1, xI l)] [xR 169] (zst g 192 8 (g 197 l)) Q)
    (k2 : ¬ ((g 169 49) = 1 ∧ (g 169 56) = 29807) → zW mX11_ages X dep bc bs 239 35 [(0, xR 169)] [] (zst g 192 8 (g 197 l)) Q) : zW mX11_ages X dep bc bs 239 12 [(0, xR 169), (1, xI l)] [] g Q := by
  refine z_aload_n 0 dX11_ages_12 rfl ?_
  refine z_getS (v := 192) (k := 32) (kz := 32) pk11 dX11_ages_13 (by decide) zb_1156 rfl (zOb.lit (by decide +kernel)) rfl (by decide +kernel) ?_
  refine z_bipush dX11_ages_16 (zi32_d rfl) (by decide) ?_
  refine z_aload_n 0 dX11_ages_18 rfl ?_
  refine z_getS (v := 197) (k := 37) (kz := 37) pk11 dX11_ages_19 (by decide) zb_1161 rfl (zOb.lit (by decide +kernel)) rfl (by decide +kernel) ?_
  refine z_iload_n 1 dX11_ages_22 rfl ?_
  refine z_iald dX11_ages_23 (zOb.lit (by decide +kernel)) (show 0 ≤ l ∧ l < 180 from ⟨by omega, by omega⟩).1 (show 0 ≤ l ∧ l < 180 from ⟨by omega, by omega⟩).2 ?_
  refine z_iast (N := 9) dX11_ages_24 (zOb.lit (by decide +kernel)) (by decide) (by decide) ?_
  refine z_aload_n 0 dX11_ages_25 rfl ?_
  refine z_ldc2c (v := 29807) ⟨by decide, by decide⟩ dX11_ages_26 zb_1512 (by decide) ?_
  refine z_invF (ci := 11) (N := 97) (as := [xL 29807]) (st := []) (ra := [xL 29807]) (dep' := dep - 1) (rs := [xI (zb ((g 169 49) = 1 ∧ (g 169 56) = 29807))]) (h' := (zst g 192 8 (g 197 l))) (by have e1 : (zst g 192 8 (g 197 l)) 169 49 = (g 169 49) := (zst_ne (Or.inl (by decide))); have e2 : (zst g 192 8 (g 197 l)) 169 56 = (g 169 56) := (zst_ne (Or.inl (by decide))); have z9 := f_X11_isWord (X := X) (dep := dep - 1) 29807 (h := (zst g 192 8 (g 197 l))) ; rw [e1, e2] at z9; exact z9) dX11_ages_29 nX11_isWord zb_1491 zb_1493 zb_41 zb_92 (zOb.lit (by decide +kernel)) rfl (by omega) zne_I (Nat.le_of_ble_eq_true rfl) (Nat.le_of_ble_eq_true rfl) rfl ?_
  refine z_ifB_ne (C := (g 169 49) = 1 ∧ (g 169 56) = 29807) (tgt := 41) dX11_ages_32 (by decide) (fun c1 => ?_) (fun c1 => ?_)
  ·
    refine z_aload_n 0 dX11_ages_41 rfl ?_
    exact k1 c1
  ·
    refine zW.sub (lv' := [(0, xR 169)]) [0] rfl ?_
    exact k2 c1

set_option maxRecDepth 20000 in
theorem bX11_ages_35 {X : zX} {dep bc bs : Nat} {g : zH} {Q : Nat → zH → List zV → Prop}
    (k1 : zW mX11_ages X dep bc bs 239 37 [(0, xR 169)] [xI 1, xR 169] g Q) : zW mX11_ages X dep bc bs 239 35 [(0, xR 169)] [] g Q := by
  refine z_aload_n 0 dX11_ages_35 rfl ?_
  refine z_iconst dX11_ages_36 (zi32_d rfl) ?_
  exact k1

set_option maxRecDepth 20000 in
theorem rX11_ages_37 {X : zX} {dep bc bs : Nat} {g : zH} {Q : Nat → zH → List zV → Prop} {P : Int → zH → Prop}
    (hZ : zW mX11_bad X (dep - 1) 0 0 239 0 (zar 0 [xR 169, xI 1]) [] g (zQI P)) (hdep : 1 ≤ dep)
    (k : ∀ (v : Int) (g : zH), P v g → zW mX11_ages X dep bc bs 239 40 [(0, xR 169)] [xI v] g Q) : zW mX11_ages X dep bc bs 239 37 [(0, xR 169)] [xI 1, xR 169] g Q :=
  z_invQI (ci := 11) (N := 97) (as := [xI 1]) (st := []) (ra := [xI 1]) hZ dX11_ages_37 nX11_bad zb_1500 zb_1502 zb_42 zb_92 (zOb.lit (by decide +kernel)) rfl (by omega) (Nat.le_of_ble_eq_true rfl) (Nat.le_of_ble_eq_true rfl) rfl (fun v g hg => k v g hg)

set_option maxRecDepth 20000 in
theorem bX11_ages_40 {X : zX} {dep bc bs : Nat} (v : Int) {g : zH} {Q : Nat → zH → List zV → Prop} (hv : v = 0 ∨ v = 1)
    (k1 : Q 239 g [xI v]) : zW mX11_ages X dep bc bs 239 40 [(0, xR 169)] [xI v] g Q := by
  exact z_zret dX11_ages_40 rfl hv (k1)

set_option maxRecDepth 20000 in
theorem rX11_ages_42 {X : zX} {dep bc bs : Nat} (l : Int) {g : zH} {Q : Nat → zH → List zV → Prop} {P : zH → Prop}
    (hZ : zW mX11_next_ X (dep - 1) 0 0 239 0 (zar 0 [xR 169]) [] g (zQ0 P)) (hdep : 1 ≤ dep)
    (k : ∀ g : zH, P g → zW mX11_ages X dep bc bs 239 45 [(0, xR 169), (1, xI l)] [] g Q) : zW mX11_ages X dep bc bs 239 42 [(0, xR 169), (1, xI l)] [xR 169] g Q :=
  z_invQ0 (ci := 11) (N := 97) (as := []) (st := []) (ra := []) hZ dX11_ages_42 nX11_next_ zb_1475 zb_1477 zb_38 zb_92 (zOb.lit (by decide +kernel)) rfl (by omega) (Nat.le_of_ble_eq_true rfl) (Nat.le_of_ble_eq_true rfl) rfl (fun g hg => k g hg)

set_option maxRecDepth 20000 in
theorem bX11_ages_45 {X : zX} {dep bc bs : Nat} (l : Int) {g : zH} {Q : Nat → zH → List zV → Prop}
    (k1 : zW mX11_ages X dep bc bs 239 55 [(0, xR 169), (1, xI l)] [xI 99, xI (g 192 8), xR 169] g Q) : zW mX11_ages X dep bc bs 239 45 [(0, xR 169), (1, xI l)] [] g Q := by
  refine z_aload_n 0 dX11_ages_45 rfl ?_
  refine z_aload_n 0 dX11_ages_46 rfl ?_
  refine z_getS (v := 192) (k := 32) (kz := 32) pk11 dX11_ages_47 (by decide) zb_1156 rfl (zOb.lit (by decide +kernel)) rfl (by decide +kernel) ?_
  refine z_bipush dX11_ages_50 (zi32_d rfl) (by decide) ?_
  refine z_iald (N := 9) dX11_ages_52 (zOb.lit (by decide +kernel)) (by decide) (by decide) ?_
  refine z_bipush dX11_ages_53 (zi32_d rfl) (by decide) ?_
  exact k1

set_option maxRecDepth 20000 in
theorem rX11_ages_55 {X : zX} {dep bc bs : Nat} (l : Int) (x : Int) {g : zH} {Q : Nat → zH → List zV → Prop} {P : Int → zH → Prop}
    (hZ : zW mX11_readNumber X (dep - 1) 0 0 239 0 (zar 0 [xR 169, xI x, xI 99]) [] g (zQI P)) (hdep : 1 ≤ dep)
    (k : ∀ (v : Int) (g : zH), P v g → zW mX11_ages X dep bc bs 239 58 [(0, xR 169), (1, xI l)] [xI v] g Q) : zW mX11_ages X dep bc bs 239 55 [(0, xR 169), (1, xI l)] [xI 99, xI x, xR 169] g Q :=
  z_invQI (ci := 11) (N := 97) (as := [xI x, xI 99]) (st := []) (ra := [xI 99, xI x]) hZ dX11_ages_55 nX11_readNumber zb_1504 zb_1506 zb_43 zb_92 (zOb.lit (by decide +kernel)) rfl (by omega) (Nat.le_of_ble_eq_true rfl) (Nat.le_of_ble_eq_true rfl) rfl (fun v g hg => k v g hg)

set_option maxRecDepth 20000 in
theorem bX11_ages_58 {X : zX} {dep bc bs : Nat} (l : Int) (v : Int) {g : zH} {Q : Nat → zH → List zV → Prop}
    (k1 : ¬ v = 0 → zW mX11_ages X dep bc bs 239 63 [(0, xR 169), (1, xI l)] [] g Q)
    (k2 : v = 0 → Q 239 g [xI 0]) : zW mX11_ages X dep bc bs 239 58 [(0, xR 169), (1, xI l)] [xI v] g Q := by
  refine z_if_ne (tgt := 63) dX11_ages_58 (by decide) (fun c1 => ?_) (fun c1 => ?_)
  ·
    exact k1 c1
  ·
    refine z_iconst dX11_ages_61 (zi32_d rfl) ?_
    exact z_zret dX11_ages_62 rfl (Or.inl rfl) (k2 c1)

set_option maxRecDepth 20000 in
theorem bX11_ages_63 {X : zX} {dep bc bs : Nat} (l : Int) {g : zH} {Q : Nat → zH → List zV → Prop} (hg : 160 ≤ l ∧ l < 180)
    (k1 : Q 239 (zst g 193 8 (g 197 l)) [xI 1]) : zW mX11_ages X dep bc bs 239 63 [(0, xR 169), (1, xI l)] [] g Q := by
  refine z_aload_n 0 dX11_ages_63 rfl ?_
  refine z_getS (v := 193) (k := 33) (kz := 33) pk11 dX11_ages_64 (by decide) zb_1157 rfl (zOb.lit (by decide +kernel)) rfl (by decide +kernel) ?_
  refine z_bipush dX11_ages_67 (zi32_d rfl) (by decide) ?_
  refine z_aload_n 0 dX11_ages_69 rfl ?_
  refine z_getS (v := 197) (k := 37) (kz := 37) pk11 dX11_ages_70 (by decide) zb_1161 rfl (zOb.lit (by decide +kernel)) rfl (by decide +kernel) ?_
  refine z_iload_n 1 dX11_ages_73 rfl ?_
  refine z_iald dX11_ages_74 (zOb.lit (by decide +kernel)) (show 0 ≤ l ∧ l < 180 from ⟨by omega, by omega⟩).1 (show 0 ≤ l ∧ l < 180 from ⟨by omega, by omega⟩).2 ?_
  refine z_iast (N := 9) dX11_ages_75 (zOb.lit (by decide +kernel)) (by decide) (by decide) ?_
  refine z_iconst dX11_ages_76 (zi32_d rfl) ?_
  exact z_zret dX11_ages_77 rfl (Or.inr rfl) (k1)

set_option maxRecDepth 20000 in
theorem bX11_line_0 {X : zX} {dep bc bs : Nat} {g : zH} {Q : Nat → zH → List zV → Prop} (hdep : 1 ≤ dep)
    (k1 : ¬ (g 169 49 = 1 ∧ g 169 56 = 6383461) → ¬ (g 169 49 = 1 ∧ g 169 56 = 1718773093) → ¬ (g 169 49 = 1 ∧ g 169 56 = 465491486066) → ¬ (g 169 49 = 1 ∧ g 169 56 = 427020088179) → ¬ (g 169 49 = 1 ∧ g 169 56 = 1936027236) → ¬ (g 169 49 = 1 ∧ g 169 56 = 107135549923692) → zW mX11_line X dep bc bs 239 86 [(0, xR 169), (1, xI (-1))] [] g Q)
    (k2 : ¬ (g 169 49 = 1 ∧ g 169 56 = 6383461) → ¬ (g 169 49 = 1 ∧ g 169 56 = 1718773093) → ¬ (g 169 49 = 1 ∧ g 169 56 = 465491486066) → ¬ (g 169 49 = 1 ∧ g 169 56 = 427020088179) → ¬ (g 169 49 = 1 ∧ g 169 56 = 1936027236) → g 169 49 = 1 ∧ g 169 56 = 107135549923692 → zW mX11_line X dep bc bs 239 86 [(0, xR 169), (1, xI 5)] [] g Q)
    (k3 : ¬ (g 169 49 = 1 ∧ g 169 56 = 6383461) → ¬ (g 169 49 = 1 ∧ g 169 56 = 1718773093) → ¬ (g 169 49 = 1 ∧ g 169 56 = 465491486066) → ¬ (g 169 49 = 1 ∧ g 169 56 = 427020088179) → g 169 49 = 1 ∧ g 169 56 = 1936027236 → zW mX11_line X dep bc bs 239 86 [(0, xR 169), (1, xI 4)] [] g Q)
    (k4 : ¬ (g 169 49 = 1 ∧ g 169 56 = 6383461) → ¬ (g 169 49 = 1 ∧ g 169 56 = 1718773093) → ¬ (g 169 49 = 1 ∧ g 169 56 = 465491486066) → g 169 49 = 1 ∧ g 169 56 = 427020088179 → zW mX11_line X dep bc bs 239 86 [(0, xR 169), (1, xI 3)] [] g Q)
    (k5 : ¬ (g 169 49 = 1 ∧ g 169 56 = 6383461) → ¬ (g 169 49 = 1 ∧ g 169 56 = 1718773093) → g 169 49 = 1 ∧ g 169 56 = 465491486066 → zW mX11_line X dep bc bs 239 86 [(0, xR 169), (1, xI 2)] [] g Q)
    (k6 : ¬ (g 169 49 = 1 ∧ g 169 56 = 6383461) → g 169 49 = 1 ∧ g 169 56 = 1718773093 → zW mX11_line X dep bc bs 239 86 [(0, xR 169), (1, xI 1)] [] g Q)
    (k7 : g 169 49 = 1 ∧ g 169 56 = 6383461 → zW mX11_line X dep bc bs 239 86 [(0, xR 169), (1, xI 0)] [] g Q) : zW mX11_line X dep bc bs 239 0 [(0, xR 169)] [] g Q := by
  refine z_aload_n 0 dX11_line_0 rfl ?_
  refine z_ldc2c (v := 6383461) ⟨by decide, by decide⟩ dX11_line_1 zb_1490 (by decide) ?_
  refine z_invF (ci := 11) (N := 97) (as := [xL 6383461]) (st := []) (ra := [xL 6383461]) (dep' := dep - 1) (rs := [xI (zb (g 169 49 = 1 ∧ g 169 56 = 6383461))]) (h' := g) (f_X11_isWord 6383461 (h := g) ) dX11_line_4 nX11_isWord zb_1491 zb_1493 zb_41 zb_92 (zOb.lit (by decide +kernel)) rfl (by omega) zne_I (Nat.le_of_ble_eq_true rfl) (Nat.le_of_ble_eq_true rfl) rfl ?_
  refine z_ifB_eq (C := g 169 49 = 1 ∧ g 169 56 = 6383461) (tgt := 14) dX11_line_7 (by decide) (fun c1 => ?_) (fun c1 => ?_)
  ·
    refine z_aload_n 0 dX11_line_14 rfl ?_
    refine z_ldc2c (v := 1718773093) ⟨by decide, by decide⟩ dX11_line_15 zb_1495 (by decide) ?_
    refine z_invF (ci := 11) (N := 97) (as := [xL 1718773093]) (st := []) (ra := [xL 1718773093]) (dep' := dep - 1) (rs := [xI (zb (g 169 49 = 1 ∧ g 169 56 = 1718773093))]) (h' := g) (f_X11_isWord 1718773093 (h := g) ) dX11_line_18 nX11_isWord zb_1491 zb_1493 zb_41 zb_92 (zOb.lit (by decide +kernel)) rfl (by omega) zne_I (Nat.le_of_ble_eq_true rfl) (Nat.le_of_ble_eq_true rfl) rfl ?_
    refine z_ifB_eq (C := g 169 49 = 1 ∧ g 169 56 = 1718773093) (tgt := 28) dX11_line_21 (by decide) (fun c2 => ?_) (fun c2 => ?_)
    ·
      refine z_aload_n 0 dX11_line_28 rfl ?_
      refine z_ldc2c (v := 465491486066) ⟨by decide, by decide⟩ dX11_line_29 zb_1496 (by decide) ?_
      refine z_invF (ci := 11) (N := 97) (as := [xL 465491486066]) (st := []) (ra := [xL 465491486066]) (dep' := dep - 1) (rs := [xI (zb (g 169 49 = 1 ∧ g 169 56 = 465491486066))]) (h' := g) (f_X11_isWord 465491486066 (h := g) ) dX11_line_32 nX11_isWord zb_1491 zb_1493 zb_41 zb_92 (zOb.lit (by decide +kernel)) rfl (by omega) zne_I (Nat.le_of_ble_eq_true rfl) (Nat.le_of_ble_eq_true rfl) rfl ?_
      refine z_ifB_eq (C := g 169 49 = 1 ∧ g 169 56 = 465491486066) (tgt := 42) dX11_line_35 (by decide) (fun c3 => ?_) (fun c3 => ?_)
      ·
        refine z_aload_n 0 dX11_line_42 rfl ?_
        refine z_ldc2c (v := 427020088179) ⟨by decide, by decide⟩ dX11_line_43 zb_1497 (by decide) ?_
        refine z_invF (ci := 11) (N := 97) (as := [xL 427020088179]) (st := []) (ra := [xL 427020088179]) (dep' := dep - 1) (rs := [xI (zb (g 169 49 = 1 ∧ g 169 56 = 427020088179))]) (h' := g) (f_X11_isWord 427020088179 (h := g) ) dX11_line_46 nX11_isWord zb_1491 zb_1493 zb_41 zb_92 (zOb.lit (by decide +kernel)) rfl (by omega) zne_I (Nat.le_of_ble_eq_true rfl) (Nat.le_of_ble_eq_true rfl) rfl ?_
        refine z_ifB_eq (C := g 169 49 = 1 ∧ g 169 56 = 427020088179) (tgt := 56) dX11_line_49 (by decide) (fun c4 => ?_) (fun c4 => ?_)
        ·
          refine z_aload_n 0 dX11_line_56 rfl ?_
          refine z_ldc2c (v := 1936027236) ⟨by decide, by decide⟩ dX11_line_57 zb_1498 (by decide) ?_
          refine z_invF (ci := 11) (N := 97) (as := [xL 1936027236]) (st := []) (ra := [xL 1936027236]) (dep' := dep - 1) (rs := [xI (zb (g 169 49 = 1 ∧ g 169 56 = 1936027236))]) (h' := g) (f_X11_isWord 1936027236 (h := g) ) dX11_line_60 nX11_isWord zb_1491 zb_1493 zb_41 zb_92 (zOb.lit (by decide +kernel)) rfl (by omega) zne_I (Nat.le_of_ble_eq_true rfl) (Nat.le_of_ble_eq_true rfl) rfl ?_
          refine z_ifB_eq (C := g 169 49 = 1 ∧ g 169 56 = 1936027236) (tgt := 70) dX11_line_63 (by decide) (fun c5 => ?_) (fun c5 => ?_)
          ·
            refine z_aload_n 0 dX11_line_70 rfl ?_
            refine z_ldc2c (v := 107135549923692) ⟨by decide, by decide⟩ dX11_line_71 zb_1499 (by decide) ?_
            refine z_invF (ci := 11) (N := 97) (as := [xL 107135549923692]) (st := []) (ra := [xL 107135549923692]) (dep' := dep - 1) (rs := [xI (zb (g 169 49 = 1 ∧ g 169 56 = 107135549923692))]) (h' := g) (f_X11_isWord 107135549923692 (h := g) ) dX11_line_74 nX11_isWord zb_1491 zb_1493 zb_41 zb_92 (zOb.lit (by decide +kernel)) rfl (by omega) zne_I (Nat.le_of_ble_eq_true rfl) (Nat.le_of_ble_eq_true rfl) rfl ?_
            refine z_ifB_eq (C := g 169 49 = 1 ∧ g 169 56 = 107135549923692) (tgt := 84) dX11_line_77 (by decide) (fun c6 => ?_) (fun c6 => ?_)
            ·
              refine z_iconst dX11_line_84 (zi32_d rfl) ?_
              refine z_istore_n (lv' := [(1, xI (-1)), (0, xR 169)]) dX11_line_85 (by decide) rfl ?_
              refine zW.sub (lv' := [(0, xR 169), (1, xI (-1))]) [1, 0] rfl ?_
              exact k1 c1 c2 c3 c4 c5 c6
            ·
              refine z_iconst dX11_line_80 (zi32_d rfl) ?_
              refine z_goto (tgt := 85) dX11_line_81 (by decide) ?_
              refine z_istore_n (lv' := [(1, xI 5), (0, xR 169)]) dX11_line_85 (by decide) rfl ?_
              refine zW.sub (lv' := [(0, xR 169), (1, xI 5)]) [1, 0] rfl ?_
              exact k2 c1 c2 c3 c4 c5 c6
          ·
            refine z_iconst dX11_line_66 (zi32_d rfl) ?_
            refine z_goto (tgt := 85) dX11_line_67 (by decide) ?_
            refine z_istore_n (lv' := [(1, xI 4), (0, xR 169)]) dX11_line_85 (by decide) rfl ?_
            refine zW.sub (lv' := [(0, xR 169), (1, xI 4)]) [1, 0] rfl ?_
            exact k3 c1 c2 c3 c4 c5
        ·
          refine z_iconst dX11_line_52 (zi32_d rfl) ?_
          refine z_goto (tgt := 85) dX11_line_53 (by decide) ?_
          refine z_istore_n (lv' := [(1, xI 3), (0, xR 169)]) dX11_line_85 (by decide) rfl ?_
          refine zW.sub (lv' := [(0, xR 169), (1, xI 3)]) [1, 0] rfl ?_
          exact k4 c1 c2 c3 c4
      ·
        refine z_iconst dX11_line_38 (zi32_d rfl) ?_
        refine z_goto (tgt := 85) dX11_line_39 (by decide) ?_
        refine z_istore_n (lv' := [(1, xI 2), (0, xR 169)]) dX11_line_85 (by decide) rfl ?_
        refine zW.sub (lv' := [(0, xR 169), (1, xI 2)]) [1, 0] rfl ?_
        exact k5 c1 c2 c3
    ·
      refine z_iconst dX11_line_24 (zi32_d rfl) ?_
      refine z_goto (tgt := 85) dX11_line_25 (by decide) ?_
      refine z_istore_n (lv' := [(1, xI 1), (0, xR 169)]) dX11_line_85 (by decide) rfl ?_
      refine zW.sub (lv' := [(0, xR 169), (1, xI 1)]) [1, 0] rfl ?_
      exact k6 c1 c2
  ·
    refine z_iconst dX11_line_10 (zi32_d rfl) ?_
    refine z_goto (tgt := 85) dX11_line_11 (by decide) ?_
    refine z_istore_n (lv' := [(1, xI 0), (0, xR 169)]) dX11_line_85 (by decide) rfl ?_
    refine zW.sub (lv' := [(0, xR 169), (1, xI 0)]) [1, 0] rfl ?_
    exact k7 c1

set_option maxRecDepth 20000 in
theorem bX11_line_86 {X : zX} {dep bc bs : Nat} (kk : Int) {g : zH} {Q : Nat → zH → List zV → Prop}
    (k1 : 0 ≤ kk → zW mX11_line X dep bc bs 239 96 [(0, xR 169), (1, xI kk)] [] g Q)
    (k2 : ¬ (0 ≤ kk) → zW mX11_line X dep bc bs 239 90 [(0, xR 169)] [] g Q) : zW mX11_line X dep bc bs 239 86 [(0, xR 169), (1, xI kk)] [] g Q := by
  refine z_iload_n 1 dX11_line_86 rfl ?_
  refine z_if_ge (tgt := 96) dX11_line_87 (by decide) (fun c1 => ?_) (fun c1 => ?_)
  ·
    exact k1 c1
  ·
    refine zW.sub (lv' := [(0, xR 169)]) [0] rfl ?_
    exact k2 c1

set_option maxRecDepth 20000 in
theorem bX11_line_90 {X : zX} {dep bc bs : Nat} {g : zH} {Q : Nat → zH → List zV → Prop}
    (k1 : zW mX11_line X dep bc bs 239 92 [(0, xR 169)] [xI 1, xR 169] g Q) : zW mX11_line X dep bc bs 239 90 [(0, xR 169)] [] g Q := by
  refine z_aload_n 0 dX11_line_90 rfl ?_
  refine z_iconst dX11_line_91 (zi32_d rfl) ?_
  exact k1

set_option maxRecDepth 20000 in
theorem rX11_line_92 {X : zX} {dep bc bs : Nat} {g : zH} {Q : Nat → zH → List zV → Prop} {P : Int → zH → Prop}
    (hZ : zW mX11_bad X (dep - 1) 0 0 239 0 (zar 0 [xR 169, xI 1]) [] g (zQI P)) (hdep : 1 ≤ dep)
    (k : ∀ (v : Int) (g : zH), P v g → zW mX11_line X dep bc bs 239 95 [(0, xR 169)] [xI v] g Q) : zW mX11_line X dep bc bs 239 92 [(0, xR 169)] [xI 1, xR 169] g Q :=
  z_invQI (ci := 11) (N := 97) (as := [xI 1]) (st := []) (ra := [xI 1]) hZ dX11_line_92 nX11_bad zb_1500 zb_1502 zb_42 zb_92 (zOb.lit (by decide +kernel)) rfl (by omega) (Nat.le_of_ble_eq_true rfl) (Nat.le_of_ble_eq_true rfl) rfl (fun v g hg => k v g hg)

set_option maxRecDepth 20000 in
theorem bX11_line_95 {X : zX} {dep bc bs : Nat} (v : Int) {g : zH} {Q : Nat → zH → List zV → Prop} (hv : v = 0 ∨ v = 1)
    (k1 : Q 239 g [xI v]) : zW mX11_line X dep bc bs 239 95 [(0, xR 169)] [xI v] g Q := by
  exact z_zret dX11_line_95 rfl hv (k1)

set_option maxRecDepth 20000 in
theorem bX11_line_96 {X : zX} {dep bc bs : Nat} (kk : Int) {g : zH} {Q : Nat → zH → List zV → Prop}
    (k1 : (g 195 8) = 20 → zW mX11_line X dep bc bs 239 129 [(0, xR 169)] [] g Q)
    (k2 : ¬ ((g 195 8) = 20) → kk = 0 → ¬ (zand (zshr (g 169 55) kk) 1) = 1 → zW mX11_line X dep bc bs 239 135 [(0, xR 169), (1, xI kk)] [] g Q)
    (k3 : ¬ ((g 195 8) = 20) → kk = 0 → (zand (zshr (g 169 55) kk) 1) = 1 → zW mX11_line X dep bc bs 239 129 [(0, xR 169)] [] g Q)
    (k4 : ¬ ((g 195 8) = 20) → ¬ (kk = 0) → ¬ kk = 5 → zW mX11_line X dep bc bs 239 135 [(0, xR 169), (1, xI kk)] [] g Q)
    (k5 : ¬ ((g 195 8) = 20) → ¬ (kk = 0) → kk = 5 → ¬ (zand (zshr (g 169 55) kk) 1) = 1 → zW mX11_line X dep bc bs 239 135 [(0, xR 169), (1, xI kk)] [] g Q)
    (k6 : ¬ ((g 195 8) = 20) → ¬ (kk = 0) → kk = 5 → (zand (zshr (g 169 55) kk) 1) = 1 → zW mX11_line X dep bc bs 239 129 [(0, xR 169)] [] g Q) : zW mX11_line X dep bc bs 239 96 [(0, xR 169), (1, xI kk)] [] g Q := by
  refine z_aload_n 0 dX11_line_96 rfl ?_
  refine z_getS (v := 195) (k := 35) (kz := 35) pk11 dX11_line_97 (by decide) zb_1159 rfl (zOb.lit (by decide +kernel)) rfl (by decide +kernel) ?_
  refine z_bipush dX11_line_100 (zi32_d rfl) (by decide) ?_
  refine z_iald (N := 9) dX11_line_102 (zOb.lit (by decide +kernel)) (by decide) (by decide) ?_
  refine z_bipush dX11_line_103 (zi32_d rfl) (by decide) ?_
  refine z_icmp_eq (tgt := 129) dX11_line_105 (by decide) (fun c1 => ?_) (fun c1 => ?_)
  ·
    refine zW.sub (lv' := [(0, xR 169)]) [0] rfl ?_
    exact k1 c1
  ·
    refine z_iload_n 1 dX11_line_108 rfl ?_
    refine z_if_eq (tgt := 117) dX11_line_109 (by decide) (fun c2 => ?_) (fun c2 => ?_)
    ·
      refine z_aload_n 0 dX11_line_117 rfl ?_
      refine z_getI (k := 55) (kz := 55) pk11 dX11_line_118 (by decide) zb_1179 rfl (zOb.lit (by decide +kernel)) rfl ?_
      refine z_iload_n 1 dX11_line_121 rfl ?_
      refine z_ishr dX11_line_122 ?_
      refine z_iconst dX11_line_123 (zi32_d rfl) ?_
      refine z_iand dX11_line_124 ?_
      refine z_iconst dX11_line_125 (zi32_d rfl) ?_
      refine z_icmp_ne (tgt := 135) dX11_line_126 (by decide) (fun c3 => ?_) (fun c3 => ?_)
      ·
        exact k2 c1 c2 c3
      ·
        refine zW.sub (lv' := [(0, xR 169)]) [0] rfl ?_
        exact k3 c1 c2 c3
    ·
      refine z_iload_n 1 dX11_line_112 rfl ?_
      refine z_iconst dX11_line_113 (zi32_d rfl) ?_
      refine z_icmp_ne (tgt := 135) dX11_line_114 (by decide) (fun c3 => ?_) (fun c3 => ?_)
      ·
        exact k4 c1 c2 c3
      ·
        refine z_aload_n 0 dX11_line_117 rfl ?_
        refine z_getI (k := 55) (kz := 55) pk11 dX11_line_118 (by decide) zb_1179 rfl (zOb.lit (by decide +kernel)) rfl ?_
        refine z_iload_n 1 dX11_line_121 rfl ?_
        refine z_ishr dX11_line_122 ?_
        refine z_iconst dX11_line_123 (zi32_d rfl) ?_
        refine z_iand dX11_line_124 ?_
        refine z_iconst dX11_line_125 (zi32_d rfl) ?_
        refine z_icmp_ne (tgt := 135) dX11_line_126 (by decide) (fun c4 => ?_) (fun c4 => ?_)
        ·
          exact k5 c1 c2 c3 c4
        ·
          refine zW.sub (lv' := [(0, xR 169)]) [0] rfl ?_
          exact k6 c1 c2 c3 c4

set_option maxRecDepth 20000 in
theorem bX11_line_129 {X : zX} {dep bc bs : Nat} {g : zH} {Q : Nat → zH → List zV → Prop}
    (k1 : zW mX11_line X dep bc bs 239 131 [(0, xR 169)] [xI 3, xR 169] g Q) : zW mX11_line X dep bc bs 239 129 [(0, xR 169)] [] g Q := by
  refine z_aload_n 0 dX11_line_129 rfl ?_
  refine z_iconst dX11_line_130 (zi32_d rfl) ?_
  exact k1

set_option maxRecDepth 20000 in
theorem rX11_line_131 {X : zX} {dep bc bs : Nat} {g : zH} {Q : Nat → zH → List zV → Prop} {P : Int → zH → Prop}
    (hZ : zW mX11_bad X (dep - 1) 0 0 239 0 (zar 0 [xR 169, xI 3]) [] g (zQI P)) (hdep : 1 ≤ dep)
    (k : ∀ (v : Int) (g : zH), P v g → zW mX11_line X dep bc bs 239 134 [(0, xR 169)] [xI v] g Q) : zW mX11_line X dep bc bs 239 131 [(0, xR 169)] [xI 3, xR 169] g Q :=
  z_invQI (ci := 11) (N := 97) (as := [xI 3]) (st := []) (ra := [xI 3]) hZ dX11_line_131 nX11_bad zb_1500 zb_1502 zb_42 zb_92 (zOb.lit (by decide +kernel)) rfl (by omega) (Nat.le_of_ble_eq_true rfl) (Nat.le_of_ble_eq_true rfl) rfl (fun v g hg => k v g hg)

set_option maxRecDepth 20000 in
theorem bX11_line_134 {X : zX} {dep bc bs : Nat} (v : Int) {g : zH} {Q : Nat → zH → List zV → Prop} (hv : v = 0 ∨ v = 1)
    (k1 : Q 239 g [xI v]) : zW mX11_line X dep bc bs 239 134 [(0, xR 169)] [xI v] g Q := by
  exact z_zret dX11_line_134 rfl hv (k1)

set_option maxRecDepth 20000 in
theorem bX11_line_135 {X : zX} {dep bc bs : Nat} (kk : Int) {g : zH} {Q : Nat → zH → List zV → Prop} (hl : 0 ≤ g 195 8 ∧ g 195 8 < 20)
    (k1 : zW mX11_line X dep bc bs 239 201 [(2, xI (160 + (g 195 8))), (0, xR 169), (1, xI kk)] [xR 169] (zst (zst (zst (zst (zst (zst g 196 (160 + (g 195 8)) kk) 197 (160 + (g 195 8)) 0) 200 (160 + (g 195 8)) 0) 198 (160 + (g 195 8)) (g 169 46)) 199 (160 + (g 195 8)) (g 169 46)) 169 55 (zor (g 169 55) (zshl 1 kk))) Q) : zW mX11_line X dep bc bs 239 135 [(0, xR 169), (1, xI kk)] [] g Q := by
  refine z_sipush dX11_line_135 (zi32_d rfl) (by decide) ?_
  refine z_aload_n 0 dX11_line_138 rfl ?_
  refine z_getS (v := 195) (k := 35) (kz := 35) pk11 dX11_line_139 (by decide) zb_1159 rfl (zOb.lit (by decide +kernel)) rfl (by decide +kernel) ?_
  refine z_bipush dX11_line_142 (zi32_d rfl) (by decide) ?_
  refine z_iald (N := 9) dX11_line_144 (zOb.lit (by decide +kernel)) (by decide) (by decide) ?_
  refine z_iaddN dX11_line_145 (show -2147483648 ≤ 160 + (g 195 8) ∧ 160 + (g 195 8) < 2147483648 from ⟨by omega, by omega⟩).1 (show -2147483648 ≤ 160 + (g 195 8) ∧ 160 + (g 195 8) < 2147483648 from ⟨by omega, by omega⟩).2 ?_
  refine z_istore_n (lv' := [(2, xI (160 + (g 195 8))), (0, xR 169), (1, xI kk)]) dX11_line_146 (by decide) rfl ?_
  refine z_aload_n 1 dX11_line_147 rfl ?_
  refine z_getS (v := 196) (k := 36) (kz := 36) pk11 dX11_line_148 (by decide) zb_1160 rfl (zOb.lit (by decide +kernel)) rfl (by decide +kernel) ?_
  refine z_iload_n 0 dX11_line_151 rfl ?_
  refine z_iload_n 2 dX11_line_152 rfl ?_
  refine z_iast dX11_line_153 (zOb.lit (by decide +kernel)) (show 0 ≤ (160 + (g 195 8)) ∧ (160 + (g 195 8)) < 180 from ⟨by omega, by omega⟩).1 (show 0 ≤ (160 + (g 195 8)) ∧ (160 + (g 195 8)) < 180 from ⟨by omega, by omega⟩).2 ?_
  refine z_aload_n 1 dX11_line_154 rfl ?_
  refine z_getS (v := 197) (k := 37) (kz := 37) pk11 dX11_line_155 (by decide) zb_1161 rfl (zOb.lit (by decide +kernel)) rfl (by decide +kernel) ?_
  refine z_iload_n 0 dX11_line_158 rfl ?_
  refine z_iconst dX11_line_159 (zi32_d rfl) ?_
  refine z_iast dX11_line_160 (zOb.lit (by decide +kernel)) (show 0 ≤ (160 + (g 195 8)) ∧ (160 + (g 195 8)) < 180 from ⟨by omega, by omega⟩).1 (show 0 ≤ (160 + (g 195 8)) ∧ (160 + (g 195 8)) < 180 from ⟨by omega, by omega⟩).2 ?_
  refine z_aload_n 1 dX11_line_161 rfl ?_
  refine z_getS (v := 200) (k := 40) (kz := 40) pk11 dX11_line_162 (by decide) zb_1164 rfl (zOb.lit (by decide +kernel)) rfl (by decide +kernel) ?_
  refine z_iload_n 0 dX11_line_165 rfl ?_
  refine z_iconst dX11_line_166 (zi32_d rfl) ?_
  refine z_zast dX11_line_167 (zOb.lit (by decide +kernel)) (show 0 ≤ (160 + (g 195 8)) ∧ (160 + (g 195 8)) < 180 from ⟨by omega, by omega⟩).1 (show 0 ≤ (160 + (g 195 8)) ∧ (160 + (g 195 8)) < 180 from ⟨by omega, by omega⟩).2 (Or.inl rfl) ?_
  refine z_aload_n 1 dX11_line_168 rfl ?_
  refine z_getS (v := 198) (k := 38) (kz := 38) pk11 dX11_line_169 (by decide) zb_1162 rfl (zOb.lit (by decide +kernel)) rfl (by decide +kernel) ?_
  refine z_iload_n 0 dX11_line_172 rfl ?_
  refine z_aload_n 1 dX11_line_173 rfl ?_
  refine z_getIV (v := (g 169 46)) (k := 46) (kz := 46) pk11 dX11_line_174 (by decide) zb_1170 rfl (zOb.lit (by decide +kernel)) rfl ((zst_ne (Or.inl (by decide))).trans ((zst_ne (Or.inl (by decide))).trans (zst_ne (Or.inl (by decide))))) ?_
  refine z_iast dX11_line_177 (zOb.lit (by decide +kernel)) (show 0 ≤ (160 + (g 195 8)) ∧ (160 + (g 195 8)) < 180 from ⟨by omega, by omega⟩).1 (show 0 ≤ (160 + (g 195 8)) ∧ (160 + (g 195 8)) < 180 from ⟨by omega, by omega⟩).2 ?_
  refine z_aload_n 1 dX11_line_178 rfl ?_
  refine z_getS (v := 199) (k := 39) (kz := 39) pk11 dX11_line_179 (by decide) zb_1163 rfl (zOb.lit (by decide +kernel)) rfl (by decide +kernel) ?_
  refine z_iload_n 0 dX11_line_182 rfl ?_
  refine z_aload_n 1 dX11_line_183 rfl ?_
  refine z_getIV (v := (g 169 46)) (k := 46) (kz := 46) pk11 dX11_line_184 (by decide) zb_1170 rfl (zOb.lit (by decide +kernel)) rfl ((zst_ne (Or.inl (by decide))).trans ((zst_ne (Or.inl (by decide))).trans ((zst_ne (Or.inl (by decide))).trans (zst_ne (Or.inl (by decide)))))) ?_
  refine z_iast dX11_line_187 (zOb.lit (by decide +kernel)) (show 0 ≤ (160 + (g 195 8)) ∧ (160 + (g 195 8)) < 180 from ⟨by omega, by omega⟩).1 (show 0 ≤ (160 + (g 195 8)) ∧ (160 + (g 195 8)) < 180 from ⟨by omega, by omega⟩).2 ?_
  refine z_aload_n 1 dX11_line_188 rfl ?_
  refine z_aload_n 1 dX11_line_189 rfl ?_
  refine z_getIV (v := (g 169 55)) (k := 55) (kz := 55) pk11 dX11_line_190 (by decide) zb_1179 rfl (zOb.lit (by decide +kernel)) rfl ((zst_ne (Or.inl (by decide))).trans ((zst_ne (Or.inl (by decide))).trans ((zst_ne (Or.inl (by decide))).trans ((zst_ne (Or.inl (by decide))).trans (zst_ne (Or.inl (by decide))))))) ?_
  refine z_iconst dX11_line_193 (zi32_d rfl) ?_
  refine z_iload_n 2 dX11_line_194 rfl ?_
  refine z_ishl dX11_line_195 ?_
  refine z_ior dX11_line_196 ?_
  refine z_putI (k := 55) (kz := 55) pk11 dX11_line_197 (by decide) zb_1179 rfl (zFit_int _) (zOb.lit (by decide +kernel)) rfl ?_
  refine z_aload_n 1 dX11_line_200 rfl ?_
  exact k1

set_option maxRecDepth 20000 in
theorem rX11_line_201 {X : zX} {dep bc bs : Nat} (kk : Int) (l : Int) {g : zH} {Q : Nat → zH → List zV → Prop} {P : zH → Prop}
    (hZ : zW mX11_next_ X (dep - 1) 0 0 239 0 (zar 0 [xR 169]) [] g (zQ0 P)) (hdep : 1 ≤ dep)
    (k : ∀ g : zH, P g → zW mX11_line X dep bc bs 239 204 [(0, xR 169), (1, xI kk), (2, xI l)] [] g Q) : zW mX11_line X dep bc bs 239 201 [(0, xR 169), (1, xI kk), (2, xI l)] [xR 169] g Q :=
  z_invQ0 (ci := 11) (N := 97) (as := []) (st := []) (ra := []) hZ dX11_line_201 nX11_next_ zb_1475 zb_1477 zb_38 zb_92 (zOb.lit (by decide +kernel)) rfl (by omega) (Nat.le_of_ble_eq_true rfl) (Nat.le_of_ble_eq_true rfl) rfl (fun g hg => k g hg)

set_option maxRecDepth 20000 in
theorem bX11_line_204 {X : zX} {dep bc bs : Nat} (kk : Int) (l : Int) {g : zH} {Q : Nat → zH → List zV → Prop}
    (k1 : ¬ kk = 5 → zW mX11_line X dep bc bs 239 237 [(0, xR 169), (1, xI kk), (2, xI l)] [] g Q)
    (k2 : kk = 5 → zW mX11_line X dep bc bs 239 214 [(0, xR 169), (1, xI kk), (2, xI l)] [xI 999, xI 0, xR 169] g Q) : zW mX11_line X dep bc bs 239 204 [(0, xR 169), (1, xI kk), (2, xI l)] [] g Q := by
  refine z_iload_n 1 dX11_line_204 rfl ?_
  refine z_iconst dX11_line_205 (zi32_d rfl) ?_
  refine z_icmp_ne (tgt := 237) dX11_line_206 (by decide) (fun c1 => ?_) (fun c1 => ?_)
  ·
    exact k1 c1
  ·
    refine z_aload_n 0 dX11_line_209 rfl ?_
    refine z_iconst dX11_line_210 (zi32_d rfl) ?_
    refine z_sipush dX11_line_211 (zi32_d rfl) (by decide) ?_
    exact k2 c1

set_option maxRecDepth 20000 in
theorem rX11_line_214 {X : zX} {dep bc bs : Nat} (kk : Int) (l : Int) {g : zH} {Q : Nat → zH → List zV → Prop} {P : Int → zH → Prop}
    (hZ : zW mX11_readNumber X (dep - 1) 0 0 239 0 (zar 0 [xR 169, xI 0, xI 999]) [] g (zQI P)) (hdep : 1 ≤ dep)
    (k : ∀ (v : Int) (g : zH), P v g → zW mX11_line X dep bc bs 239 217 [(0, xR 169), (1, xI kk), (2, xI l)] [xI v] g Q) : zW mX11_line X dep bc bs 239 214 [(0, xR 169), (1, xI kk), (2, xI l)] [xI 999, xI 0, xR 169] g Q :=
  z_invQI (ci := 11) (N := 97) (as := [xI 0, xI 999]) (st := []) (ra := [xI 999, xI 0]) hZ dX11_line_214 nX11_readNumber zb_1504 zb_1506 zb_43 zb_92 (zOb.lit (by decide +kernel)) rfl (by omega) (Nat.le_of_ble_eq_true rfl) (Nat.le_of_ble_eq_true rfl) rfl (fun v g hg => k v g hg)

set_option maxRecDepth 20000 in
theorem bX11_line_217 {X : zX} {dep bc bs : Nat} (kk : Int) (l : Int) (v : Int) {g : zH} {Q : Nat → zH → List zV → Prop}
    (k1 : ¬ v = 0 → zW mX11_line X dep bc bs 239 222 [(0, xR 169), (2, xI l)] [] g Q)
    (k2 : v = 0 → Q 239 g [xI 0]) : zW mX11_line X dep bc bs 239 217 [(0, xR 169), (1, xI kk), (2, xI l)] [xI v] g Q := by
  refine z_if_ne (tgt := 222) dX11_line_217 (by decide) (fun c1 => ?_) (fun c1 => ?_)
  ·
    refine zW.sub (lv' := [(0, xR 169), (2, xI l)]) [0, 2] rfl ?_
    exact k1 c1
  ·
    refine z_iconst dX11_line_220 (zi32_d rfl) ?_
    exact z_zret dX11_line_221 rfl (Or.inl rfl) (k2 c1)

set_option maxRecDepth 20000 in
theorem bX11_line_222 {X : zX} {dep bc bs : Nat} (l : Int) {g : zH} {Q : Nat → zH → List zV → Prop} (hg : 160 ≤ l ∧ l < 180)
    (k1 : Q 239 (zst g 194 8 (g 197 l)) [xI 1]) : zW mX11_line X dep bc bs 239 222 [(0, xR 169), (2, xI l)] [] g Q := by
  refine z_aload_n 0 dX11_line_222 rfl ?_
  refine z_getS (v := 194) (k := 34) (kz := 34) pk11 dX11_line_223 (by decide) zb_1158 rfl (zOb.lit (by decide +kernel)) rfl (by decide +kernel) ?_
  refine z_bipush dX11_line_226 (zi32_d rfl) (by decide) ?_
  refine z_aload_n 0 dX11_line_228 rfl ?_
  refine z_getS (v := 197) (k := 37) (kz := 37) pk11 dX11_line_229 (by decide) zb_1161 rfl (zOb.lit (by decide +kernel)) rfl (by decide +kernel) ?_
  refine z_iload_n 1 dX11_line_232 rfl ?_
  refine z_iald dX11_line_233 (zOb.lit (by decide +kernel)) (show 0 ≤ l ∧ l < 180 from ⟨by omega, by omega⟩).1 (show 0 ≤ l ∧ l < 180 from ⟨by omega, by omega⟩).2 ?_
  refine z_iast (N := 9) dX11_line_234 (zOb.lit (by decide +kernel)) (by decide) (by decide) ?_
  refine z_iconst dX11_line_235 (zi32_d rfl) ?_
  exact z_zret dX11_line_236 rfl (Or.inr rfl) (k1)

set_option maxRecDepth 20000 in
theorem bX11_line_237 {X : zX} {dep bc bs : Nat} (kk : Int) (l : Int) {g : zH} {Q : Nat → zH → List zV → Prop}
    (k1 : ¬ kk = 0 → zW mX11_line X dep bc bs 239 247 [(0, xR 169), (1, xI kk), (2, xI l)] [] g Q)
    (k2 : kk = 0 → zW mX11_line X dep bc bs 239 243 [(0, xR 169), (1, xI kk), (2, xI l)] [xI l, xR 169] g Q) : zW mX11_line X dep bc bs 239 237 [(0, xR 169), (1, xI kk), (2, xI l)] [] g Q := by
  refine z_iload_n 1 dX11_line_237 rfl ?_
  refine z_if_ne (tgt := 247) dX11_line_238 (by decide) (fun c1 => ?_) (fun c1 => ?_)
  ·
    exact k1 c1
  ·
    refine z_aload_n 0 dX11_line_241 rfl ?_
    refine z_iload_n 2 dX11_line_242 rfl ?_
    exact k2 c1

set_option maxRecDepth 20000 in
theorem rX11_line_243 {X : zX} {dep bc bs : Nat} (kk : Int) (l : Int) {g : zH} {Q : Nat → zH → List zV → Prop} {P : Int → zH → Prop}
    (hZ : zW mX11_ages X (dep - 1) 0 0 239 0 (zar 0 [xR 169, xI l]) [] g (zQI P)) (hdep : 1 ≤ dep)
    (k : ∀ (v : Int) (g : zH), P v g → zW mX11_line X dep bc bs 239 246 [(0, xR 169), (1, xI kk), (2, xI l)] [xI v] g Q) : zW mX11_line X dep bc bs 239 243 [(0, xR 169), (1, xI kk), (2, xI l)] [xI l, xR 169] g Q :=
  z_invQI (ci := 11) (N := 97) (as := [xI l]) (st := []) (ra := [xI l]) hZ dX11_line_243 nX11_ages zb_1508 zb_1510 zb_44 zb_92 (zOb.lit (by decide +kernel)) rfl (by omega) (Nat.le_of_ble_eq_true rfl) (Nat.le_of_ble_eq_true rfl) rfl (fun v g hg => k v g hg)

set_option maxRecDepth 20000 in
theorem bX11_line_246 {X : zX} {dep bc bs : Nat} (kk : Int) (l : Int) (v : Int) {g : zH} {Q : Nat → zH → List zV → Prop} (hv : v = 0 ∨ v = 1)
    (k1 : Q 239 g [xI v]) : zW mX11_line X dep bc bs 239 246 [(0, xR 169), (1, xI kk), (2, xI l)] [xI v] g Q := by
  exact z_zret dX11_line_246 rfl hv (k1)

set_option maxRecDepth 20000 in
theorem bX11_line_247 {X : zX} {dep bc bs : Nat} (kk : Int) (l : Int) {g : zH} {Q : Nat → zH → List zV → Prop}
    (k1 : ¬ kk = 2 → zW mX11_line X dep bc bs 239 263 [(0, xR 169), (1, xI kk), (2, xI l)] [] g Q)
    (k2 : kk = 2 → zW mX11_line X dep bc bs 239 257 [(0, xR 169), (1, xI kk), (2, xI l)] [xI 3000, xI 1, xR 169] g Q) : zW mX11_line X dep bc bs 239 247 [(0, xR 169), (1, xI kk), (2, xI l)] [] g Q := by
  refine z_iload_n 1 dX11_line_247 rfl ?_
  refine z_iconst dX11_line_248 (zi32_d rfl) ?_
  refine z_icmp_ne (tgt := 263) dX11_line_249 (by decide) (fun c1 => ?_) (fun c1 => ?_)
  ·
    exact k1 c1
  ·
    refine z_aload_n 0 dX11_line_252 rfl ?_
    refine z_iconst dX11_line_253 (zi32_d rfl) ?_
    refine z_sipush dX11_line_254 (zi32_d rfl) (by decide) ?_
    exact k2 c1

set_option maxRecDepth 20000 in
theorem rX11_line_257 {X : zX} {dep bc bs : Nat} (kk : Int) (l : Int) {g : zH} {Q : Nat → zH → List zV → Prop} {P : Int → zH → Prop}
    (hZ : zW mX11_readNumber X (dep - 1) 0 0 239 0 (zar 0 [xR 169, xI 1, xI 3000]) [] g (zQI P)) (hdep : 1 ≤ dep)
    (k : ∀ (v : Int) (g : zH), P v g → zW mX11_line X dep bc bs 239 260 [(0, xR 169), (1, xI kk), (2, xI l)] [xI v] g Q) : zW mX11_line X dep bc bs 239 257 [(0, xR 169), (1, xI kk), (2, xI l)] [xI 3000, xI 1, xR 169] g Q :=
  z_invQI (ci := 11) (N := 97) (as := [xI 1, xI 3000]) (st := []) (ra := [xI 3000, xI 1]) hZ dX11_line_257 nX11_readNumber zb_1504 zb_1506 zb_43 zb_92 (zOb.lit (by decide +kernel)) rfl (by omega) (Nat.le_of_ble_eq_true rfl) (Nat.le_of_ble_eq_true rfl) rfl (fun v g hg => k v g hg)

set_option maxRecDepth 20000 in
theorem bX11_line_260 {X : zX} {dep bc bs : Nat} (kk : Int) (l : Int) (v : Int) {g : zH} {Q : Nat → zH → List zV → Prop}
    (k1 : v = 0 → Q 239 g [xI 0])
    (k2 : ¬ (v = 0) → zW mX11_line X dep bc bs 239 263 [(0, xR 169), (1, xI kk), (2, xI l)] [] g Q) : zW mX11_line X dep bc bs 239 260 [(0, xR 169), (1, xI kk), (2, xI l)] [xI v] g Q := by
  refine z_if_eq (tgt := 278) dX11_line_260 (by decide) (fun c1 => ?_) (fun c1 => ?_)
  ·
    refine z_iconst dX11_line_278 (zi32_d rfl) ?_
    exact z_zret dX11_line_279 rfl (Or.inl rfl) (k1 c1)
  ·
    exact k2 c1

set_option maxRecDepth 20000 in
theorem bX11_line_263 {X : zX} {dep bc bs : Nat} (kk : Int) (l : Int) {g : zH} {Q : Nat → zH → List zV → Prop}
    (k1 : ¬ kk = 3 → zW mX11_line X dep bc bs 239 280 [(0, xR 169), (1, xI kk), (2, xI l)] [] g Q)
    (k2 : kk = 3 → zW mX11_line X dep bc bs 239 272 [(0, xR 169), (1, xI kk), (2, xI l)] [xI 8, xI 0, xR 169] g Q) : zW mX11_line X dep bc bs 239 263 [(0, xR 169), (1, xI kk), (2, xI l)] [] g Q := by
  refine z_iload_n 1 dX11_line_263 rfl ?_
  refine z_iconst dX11_line_264 (zi32_d rfl) ?_
  refine z_icmp_ne (tgt := 280) dX11_line_265 (by decide) (fun c1 => ?_) (fun c1 => ?_)
  ·
    exact k1 c1
  ·
    refine z_aload_n 0 dX11_line_268 rfl ?_
    refine z_iconst dX11_line_269 (zi32_d rfl) ?_
    refine z_bipush dX11_line_270 (zi32_d rfl) (by decide) ?_
    exact k2 c1

set_option maxRecDepth 20000 in
theorem rX11_line_272 {X : zX} {dep bc bs : Nat} (kk : Int) (l : Int) {g : zH} {Q : Nat → zH → List zV → Prop} {P : Int → zH → Prop}
    (hZ : zW mX11_readNumber X (dep - 1) 0 0 239 0 (zar 0 [xR 169, xI 0, xI 8]) [] g (zQI P)) (hdep : 1 ≤ dep)
    (k : ∀ (v : Int) (g : zH), P v g → zW mX11_line X dep bc bs 239 275 [(0, xR 169), (1, xI kk), (2, xI l)] [xI v] g Q) : zW mX11_line X dep bc bs 239 272 [(0, xR 169), (1, xI kk), (2, xI l)] [xI 8, xI 0, xR 169] g Q :=
  z_invQI (ci := 11) (N := 97) (as := [xI 0, xI 8]) (st := []) (ra := [xI 8, xI 0]) hZ dX11_line_272 nX11_readNumber zb_1504 zb_1506 zb_43 zb_92 (zOb.lit (by decide +kernel)) rfl (by omega) (Nat.le_of_ble_eq_true rfl) (Nat.le_of_ble_eq_true rfl) rfl (fun v g hg => k v g hg)

set_option maxRecDepth 20000 in
theorem bX11_line_275 {X : zX} {dep bc bs : Nat} (kk : Int) (l : Int) (v : Int) {g : zH} {Q : Nat → zH → List zV → Prop}
    (k1 : ¬ v = 0 → zW mX11_line X dep bc bs 239 280 [(0, xR 169), (1, xI kk), (2, xI l)] [] g Q)
    (k2 : v = 0 → Q 239 g [xI 0]) : zW mX11_line X dep bc bs 239 275 [(0, xR 169), (1, xI kk), (2, xI l)] [xI v] g Q := by
  refine z_if_ne (tgt := 280) dX11_line_275 (by decide) (fun c1 => ?_) (fun c1 => ?_)
  ·
    exact k1 c1
  ·
    refine z_iconst dX11_line_278 (zi32_d rfl) ?_
    exact z_zret dX11_line_279 rfl (Or.inl rfl) (k2 c1)

set_option maxRecDepth 20000 in
theorem bX11_line_280 {X : zX} {dep bc bs : Nat} (kk : Int) (l : Int) {g : zH} {Q : Nat → zH → List zV → Prop} (hg : 160 ≤ l ∧ l < 180) (hdep : 1 ≤ dep)
    (k1 : ¬ kk = 4 → zW mX11_line X dep bc bs 239 306 [(0, xR 169), (2, xI l)] [] g Q)
    (k2 : kk = 4 → ¬ (g 169 49 = 1 ∧ g 169 56 = 7237492) → zW mX11_line X dep bc bs 239 306 [(0, xR 169), (2, xI l)] [] g Q)
    (k3 : kk = 4 → g 169 49 = 1 ∧ g 169 56 = 7237492 → zW mX11_line X dep bc bs 239 302 [(0, xR 169), (2, xI l)] [] (zst g 200 l 1) Q) : zW mX11_line X dep bc bs 239 280 [(0, xR 169), (1, xI kk), (2, xI l)] [] g Q := by
  refine z_iload_n 1 dX11_line_280 rfl ?_
  refine z_iconst dX11_line_281 (zi32_d rfl) ?_
  refine z_icmp_ne (tgt := 306) dX11_line_282 (by decide) (fun c1 => ?_) (fun c1 => ?_)
  ·
    refine zW.sub (lv' := [(0, xR 169), (2, xI l)]) [0, 2] rfl ?_
    exact k1 c1
  ·
    refine z_aload_n 0 dX11_line_285 rfl ?_
    refine z_ldc2c (v := 7237492) ⟨by decide, by decide⟩ dX11_line_286 zb_1513 (by decide) ?_
    refine z_invF (ci := 11) (N := 97) (as := [xL 7237492]) (st := []) (ra := [xL 7237492]) (dep' := dep - 1) (rs := [xI (zb (g 169 49 = 1 ∧ g 169 56 = 7237492))]) (h' := g) (f_X11_isWord 7237492 (h := g) ) dX11_line_289 nX11_isWord zb_1491 zb_1493 zb_41 zb_92 (zOb.lit (by decide +kernel)) rfl (by omega) zne_I (Nat.le_of_ble_eq_true rfl) (Nat.le_of_ble_eq_true rfl) rfl ?_
    refine z_ifB_eq (C := g 169 49 = 1 ∧ g 169 56 = 7237492) (tgt := 306) dX11_line_292 (by decide) (fun c2 => ?_) (fun c2 => ?_)
    ·
      refine zW.sub (lv' := [(0, xR 169), (2, xI l)]) [0, 2] rfl ?_
      exact k2 c1 c2
    ·
      refine z_aload_n 0 dX11_line_295 rfl ?_
      refine z_getS (v := 200) (k := 40) (kz := 40) pk11 dX11_line_296 (by decide) zb_1164 rfl (zOb.lit (by decide +kernel)) rfl (by decide +kernel) ?_
      refine z_iload_n 2 dX11_line_299 rfl ?_
      refine z_iconst dX11_line_300 (zi32_d rfl) ?_
      refine z_zast dX11_line_301 (zOb.lit (by decide +kernel)) (show 0 ≤ l ∧ l < 180 from ⟨by omega, by omega⟩).1 (show 0 ≤ l ∧ l < 180 from ⟨by omega, by omega⟩).2 (Or.inr rfl) ?_
      refine zW.sub (lv' := [(0, xR 169), (2, xI l)]) [0, 2] rfl ?_
      exact k3 c1 c2

set_option maxRecDepth 20000 in
theorem bX11_line_302 {X : zX} {dep bc bs : Nat} (l : Int) {g : zH} {Q : Nat → zH → List zV → Prop}
    (k1 : zW mX11_line X dep bc bs 239 303 [(0, xR 169), (2, xI l)] [xR 169] g Q) : zW mX11_line X dep bc bs 239 302 [(0, xR 169), (2, xI l)] [] g Q := by
  refine z_aload_n 0 dX11_line_302 rfl ?_
  exact k1

set_option maxRecDepth 20000 in
theorem rX11_line_303 {X : zX} {dep bc bs : Nat} (l : Int) {g : zH} {Q : Nat → zH → List zV → Prop} {P : zH → Prop}
    (hZ : zW mX11_next_ X (dep - 1) 0 0 239 0 (zar 0 [xR 169]) [] g (zQ0 P)) (hdep : 1 ≤ dep)
    (k : ∀ g : zH, P g → zW mX11_line X dep bc bs 239 306 [(0, xR 169), (2, xI l)] [] g Q) : zW mX11_line X dep bc bs 239 303 [(0, xR 169), (2, xI l)] [xR 169] g Q :=
  z_invQ0 (ci := 11) (N := 97) (as := []) (st := []) (ra := []) hZ dX11_line_303 nX11_next_ zb_1475 zb_1477 zb_38 zb_92 (zOb.lit (by decide +kernel)) rfl (by omega) (Nat.le_of_ble_eq_true rfl) (Nat.le_of_ble_eq_true rfl) rfl (fun g hg => k g hg)

set_option maxRecDepth 20000 in
theorem bX11_line_306 {X : zX} {dep bc bs : Nat} (l : Int) {g : zH} {Q : Nat → zH → List zV → Prop} (hdep : 1 ≤ dep)
    (k1 : ¬ (g 169 49 = 1 ∧ g 169 56 = 26982) → zW mX11_line X dep bc bs 239 329 [(0, xR 169), (2, xI l)] [] g Q)
    (k2 : g 169 49 = 1 ∧ g 169 56 = 26982 → zW mX11_line X dep bc bs 239 316 [(0, xR 169), (2, xI l)] [] g Q) : zW mX11_line X dep bc bs 239 306 [(0, xR 169), (2, xI l)] [] g Q := by
  refine z_aload_n 0 dX11_line_306 rfl ?_
  refine z_ldc2c (v := 26982) ⟨by decide, by decide⟩ dX11_line_307 zb_1514 (by decide) ?_
  refine z_invF (ci := 11) (N := 97) (as := [xL 26982]) (st := []) (ra := [xL 26982]) (dep' := dep - 1) (rs := [xI (zb (g 169 49 = 1 ∧ g 169 56 = 26982))]) (h' := g) (f_X11_isWord 26982 (h := g) ) dX11_line_310 nX11_isWord zb_1491 zb_1493 zb_41 zb_92 (zOb.lit (by decide +kernel)) rfl (by omega) zne_I (Nat.le_of_ble_eq_true rfl) (Nat.le_of_ble_eq_true rfl) rfl ?_
  refine z_ifB_eq (C := g 169 49 = 1 ∧ g 169 56 = 26982) (tgt := 329) dX11_line_313 (by decide) (fun c1 => ?_) (fun c1 => ?_)
  ·
    exact k1 c1
  ·
    exact k2 c1

set_option maxRecDepth 20000 in
theorem bX11_line_316 {X : zX} {dep bc bs : Nat} (l : Int) {g : zH} {Q : Nat → zH → List zV → Prop}
    (k1 : zW mX11_line X dep bc bs 239 317 [(0, xR 169), (2, xI l)] [xR 169] g Q) : zW mX11_line X dep bc bs 239 316 [(0, xR 169), (2, xI l)] [] g Q := by
  refine z_aload_n 0 dX11_line_316 rfl ?_
  exact k1

set_option maxRecDepth 20000 in
theorem rX11_line_317 {X : zX} {dep bc bs : Nat} (l : Int) {g : zH} {Q : Nat → zH → List zV → Prop} {P : zH → Prop}
    (hZ : zW mX11_next_ X (dep - 1) 0 0 239 0 (zar 0 [xR 169]) [] g (zQ0 P)) (hdep : 1 ≤ dep)
    (k : ∀ g : zH, P g → zW mX11_line X dep bc bs 239 320 [(0, xR 169), (2, xI l)] [] g Q) : zW mX11_line X dep bc bs 239 317 [(0, xR 169), (2, xI l)] [xR 169] g Q :=
  z_invQ0 (ci := 11) (N := 97) (as := []) (st := []) (ra := []) hZ dX11_line_317 nX11_next_ zb_1475 zb_1477 zb_38 zb_92 (zOb.lit (by decide +kernel)) rfl (by omega) (Nat.le_of_ble_eq_true rfl) (Nat.le_of_ble_eq_true rfl) rfl (fun g hg => k g hg)

set_option maxRecDepth 20000 in
theorem bX11_line_320 {X : zX} {dep bc bs : Nat} (l : Int) {g : zH} {Q : Nat → zH → List zV → Prop}
    (k1 : zW mX11_line X dep bc bs 239 321 [(0, xR 169), (2, xI l)] [xR 169] g Q) : zW mX11_line X dep bc bs 239 320 [(0, xR 169), (2, xI l)] [] g Q := by
  refine z_aload_n 0 dX11_line_320 rfl ?_
  exact k1

set_option maxRecDepth 20000 in
theorem rX11_line_321 {X : zX} {dep bc bs : Nat} (l : Int) {g : zH} {Q : Nat → zH → List zV → Prop} {P : Int → zH → Prop}
    (hZ : zW mX11_cond X (dep - 1) 0 0 239 0 (zar 0 [xR 169]) [] g (zQI P)) (hdep : 1 ≤ dep)
    (k : ∀ (v : Int) (g : zH), P v g → zW mX11_line X dep bc bs 239 324 [(0, xR 169), (2, xI l)] [xI v] g Q) : zW mX11_line X dep bc bs 239 321 [(0, xR 169), (2, xI l)] [xR 169] g Q :=
  z_invQI (ci := 11) (N := 97) (as := []) (st := []) (ra := []) hZ dX11_line_321 nX11_cond zb_1515 zb_1517 zb_45 zb_92 (zOb.lit (by decide +kernel)) rfl (by omega) (Nat.le_of_ble_eq_true rfl) (Nat.le_of_ble_eq_true rfl) rfl (fun v g hg => k v g hg)

set_option maxRecDepth 20000 in
theorem bX11_line_324 {X : zX} {dep bc bs : Nat} (l : Int) (v : Int) {g : zH} {Q : Nat → zH → List zV → Prop}
    (k1 : ¬ v = 0 → zW mX11_line X dep bc bs 239 329 [(0, xR 169), (2, xI l)] [] g Q)
    (k2 : v = 0 → Q 239 g [xI 0]) : zW mX11_line X dep bc bs 239 324 [(0, xR 169), (2, xI l)] [xI v] g Q := by
  refine z_if_ne (tgt := 329) dX11_line_324 (by decide) (fun c1 => ?_) (fun c1 => ?_)
  ·
    exact k1 c1
  ·
    refine z_iconst dX11_line_327 (zi32_d rfl) ?_
    exact z_zret dX11_line_328 rfl (Or.inl rfl) (k2 c1)

set_option maxRecDepth 20000 in
theorem bX11_line_329 {X : zX} {dep bc bs : Nat} (l : Int) {g : zH} {Q : Nat → zH → List zV → Prop} (hg : 160 ≤ l ∧ l < 180)
    (k1 : Q 239 (zst g 199 l (g 169 46)) [xI 1]) : zW mX11_line X dep bc bs 239 329 [(0, xR 169), (2, xI l)] [] g Q := by
  refine z_aload_n 0 dX11_line_329 rfl ?_
  refine z_getS (v := 199) (k := 39) (kz := 39) pk11 dX11_line_330 (by decide) zb_1163 rfl (zOb.lit (by decide +kernel)) rfl (by decide +kernel) ?_
  refine z_iload_n 1 dX11_line_333 rfl ?_
  refine z_aload_n 0 dX11_line_334 rfl ?_
  refine z_getI (k := 46) (kz := 46) pk11 dX11_line_335 (by decide) zb_1170 rfl (zOb.lit (by decide +kernel)) rfl ?_
  refine z_iast dX11_line_338 (zOb.lit (by decide +kernel)) (show 0 ≤ l ∧ l < 180 from ⟨by omega, by omega⟩).1 (show 0 ≤ l ∧ l < 180 from ⟨by omega, by omega⟩).2 ?_
  refine z_iconst dX11_line_339 (zi32_d rfl) ?_
  exact z_zret dX11_line_340 rfl (Or.inr rfl) (k1)

set_option maxRecDepth 20000 in
theorem bX11_law_0 {X : zX} {dep bc bs : Nat} (d : Int) {g : zH} {Q : Nat → zH → List zV → Prop} (hw : 0 ≤ g 169 45 ∧ g 169 45 ≤ 8) (hdep : 1 ≤ dep)
    (k1 : (g 169 45) = 8 → Q 239 (zst (zst (zst (zst g 169 0 0) 169 3 ((g 169 2))) 169 2 0) 169 4 0) [xI (-1000)])
    (k2 : ¬ ((g 169 45) = 8) → (g 169 5) ≤ d ∧ d ≤ 3639 → zW mX11_law X dep bc bs 239 36 [(0, xR 169), (1, xI d)] [] (zst (zst (zst (zst g 169 0 0) 169 3 ((g 169 2))) 169 2 0) 169 4 0) Q)
    (k3 : ¬ ((g 169 45) = 8) → ¬ ((g 169 5) ≤ d ∧ d ≤ 3639) → Q 239 (zst (zst (zst (zst g 169 0 0) 169 3 ((g 169 2))) 169 2 0) 169 4 0) [xI (-1000)]) : zW mX11_law X dep bc bs 239 0 [(0, xR 169), (1, xI d)] [] g Q := by
  refine z_aload_n 0 dX11_law_0 rfl ?_
  refine z_iconst dX11_law_1 (zi32_d rfl) ?_
  refine z_putI (k := 0) (kz := 0) pk11 dX11_law_2 (by decide) zb_1124 rfl (zFit_int _) (zOb.lit (by decide +kernel)) rfl ?_
  refine z_aload_n 0 dX11_law_5 rfl ?_
  refine z_invF (ci := 11) (N := 97) (as := []) (st := []) (ra := []) (dep' := dep - 1) (rs := []) (h' := (zst (zst (zst (zst g 169 0 0) 169 3 ((g 169 2))) 169 2 0) 169 4 0)) (by have e1 : (zst g 169 0 0) 169 2 = (g 169 2) := (zst_ne (Or.inr (by decide))); have z9 := f_X11_taken (X := X) (dep := dep - 1)  (h := (zst g 169 0 0)) ; rw [e1] at z9; exact z9) dX11_law_6 nX11_taken zb_1444 zb_1446 zb_36 zb_92 (zOb.lit (by decide +kernel)) rfl (by omega) zne_0 (Nat.le_of_ble_eq_true rfl) (Nat.le_of_ble_eq_true rfl) rfl ?_
  refine z_aload_n 0 dX11_law_9 rfl ?_
  refine z_getIV (v := (g 169 45)) (k := 45) (kz := 45) pk11 dX11_law_10 (by decide) zb_1169 rfl (zOb.lit (by decide +kernel)) rfl ((zst_ne (Or.inr (by decide))).trans ((zst_ne (Or.inr (by decide))).trans ((zst_ne (Or.inr (by decide))).trans (zst_ne (Or.inr (by decide)))))) ?_
  refine z_bipush dX11_law_13 (zi32_d rfl) (by decide) ?_
  refine z_icmp_eq (tgt := 32) dX11_law_15 (by decide) (fun c1 => ?_) (fun c1 => ?_)
  ·
    refine z_sipush dX11_law_32 (zi32_d rfl) (by decide) ?_
    exact z_iret dX11_law_35 rfl (k1 c1)
  ·
    refine z_iload_n 1 dX11_law_18 rfl ?_
    refine z_aload_n 0 dX11_law_19 rfl ?_
    refine z_getIV (v := (g 169 5)) (k := 5) (kz := 5) pk11 dX11_law_20 (by decide) zb_1129 rfl (zOb.lit (by decide +kernel)) rfl ((zst_ne (Or.inr (by decide))).trans ((zst_ne (Or.inr (by decide))).trans ((zst_ne (Or.inr (by decide))).trans (zst_ne (Or.inr (by decide)))))) ?_
    refine z_sipush dX11_law_23 (zi32_d rfl) (by decide) ?_
    refine z_invSF (as := [xI d, xI (g 169 5), xI 3639]) (st := []) (ra := [xI 3639, xI (g 169 5), xI d]) (dep' := dep - 1) (rs := [xI (zb ((g 169 5) ≤ d ∧ d ≤ 3639))]) (h' := (zst (zst (zst (zst g 169 0 0) 169 3 ((g 169 2))) 169 2 0) 169 4 0)) (f_X11_isIn d (g 169 5) 3639 (h := (zst (zst (zst (zst g 169 0 0) 169 3 ((g 169 2))) 169 2 0) 169 4 0)) ) dX11_law_26 nX11_isIn zb_1437 zb_1438 zb_92 (by omega) zne_I (Nat.le_of_ble_eq_true rfl) (Nat.le_of_ble_eq_true rfl) rfl ?_
    refine z_ifB_ne (C := (g 169 5) ≤ d ∧ d ≤ 3639) (tgt := 36) dX11_law_29 (by decide) (fun c2 => ?_) (fun c2 => ?_)
    ·
      exact k2 c1 c2
    ·
      refine z_sipush dX11_law_32 (zi32_d rfl) (by decide) ?_
      exact z_iret dX11_law_35 rfl (k3 c1 c2)

set_option maxRecDepth 20000 in
theorem bX11_law_36 {X : zX} {dep bc bs : Nat} (d : Int) {g : zH} {Q : Nat → zH → List zV → Prop}
    (k1 : zW mX11_law X dep bc bs 239 92 [(0, xR 169), (1, xI d)] [xR 169] (zst (zst (zst (zst (zst (zst (zst (zst g 169 53 0) 169 55 0) 169 46 0) 169 48 0) 195 8 0) 192 8 20) 193 8 25) 194 8 30) Q) : zW mX11_law X dep bc bs 239 36 [(0, xR 169), (1, xI d)] [] g Q := by
  refine z_aload_n 0 dX11_law_36 rfl ?_
  refine z_iconst dX11_law_37 (zi32_d rfl) ?_
  refine z_putI (k := 53) (kz := 53) pk11 dX11_law_38 (by decide) zb_1177 rfl (zFit_int _) (zOb.lit (by decide +kernel)) rfl ?_
  refine z_aload_n 0 dX11_law_41 rfl ?_
  refine z_iconst dX11_law_42 (zi32_d rfl) ?_
  refine z_putI (k := 55) (kz := 55) pk11 dX11_law_43 (by decide) zb_1179 rfl (zFit_int _) (zOb.lit (by decide +kernel)) rfl ?_
  refine z_aload_n 0 dX11_law_46 rfl ?_
  refine z_iconst dX11_law_47 (zi32_d rfl) ?_
  refine z_putI (k := 46) (kz := 46) pk11 dX11_law_48 (by decide) zb_1170 rfl (zFit_int _) (zOb.lit (by decide +kernel)) rfl ?_
  refine z_aload_n 0 dX11_law_51 rfl ?_
  refine z_iconst dX11_law_52 (zi32_d rfl) ?_
  refine z_putI (k := 48) (kz := 48) pk11 dX11_law_53 (by decide) zb_1172 rfl (zFit_int _) (zOb.lit (by decide +kernel)) rfl ?_
  refine z_aload_n 0 dX11_law_56 rfl ?_
  refine z_getS (v := 195) (k := 35) (kz := 35) pk11 dX11_law_57 (by decide) zb_1159 rfl (zOb.lit (by decide +kernel)) rfl (by decide +kernel) ?_
  refine z_bipush dX11_law_60 (zi32_d rfl) (by decide) ?_
  refine z_iconst dX11_law_62 (zi32_d rfl) ?_
  refine z_iast (N := 9) dX11_law_63 (zOb.lit (by decide +kernel)) (by decide) (by decide) ?_
  refine z_aload_n 0 dX11_law_64 rfl ?_
  refine z_getS (v := 192) (k := 32) (kz := 32) pk11 dX11_law_65 (by decide) zb_1156 rfl (zOb.lit (by decide +kernel)) rfl (by decide +kernel) ?_
  refine z_bipush dX11_law_68 (zi32_d rfl) (by decide) ?_
  refine z_bipush dX11_law_70 (zi32_d rfl) (by decide) ?_
  refine z_iast (N := 9) dX11_law_72 (zOb.lit (by decide +kernel)) (by decide) (by decide) ?_
  refine z_aload_n 0 dX11_law_73 rfl ?_
  refine z_getS (v := 193) (k := 33) (kz := 33) pk11 dX11_law_74 (by decide) zb_1157 rfl (zOb.lit (by decide +kernel)) rfl (by decide +kernel) ?_
  refine z_bipush dX11_law_77 (zi32_d rfl) (by decide) ?_
  refine z_bipush dX11_law_79 (zi32_d rfl) (by decide) ?_
  refine z_iast (N := 9) dX11_law_81 (zOb.lit (by decide +kernel)) (by decide) (by decide) ?_
  refine z_aload_n 0 dX11_law_82 rfl ?_
  refine z_getS (v := 194) (k := 34) (kz := 34) pk11 dX11_law_83 (by decide) zb_1158 rfl (zOb.lit (by decide +kernel)) rfl (by decide +kernel) ?_
  refine z_bipush dX11_law_86 (zi32_d rfl) (by decide) ?_
  refine z_bipush dX11_law_88 (zi32_d rfl) (by decide) ?_
  refine z_iast (N := 9) dX11_law_90 (zOb.lit (by decide +kernel)) (by decide) (by decide) ?_
  refine z_aload_n 0 dX11_law_91 rfl ?_
  exact k1

set_option maxRecDepth 20000 in
theorem rX11_law_92 {X : zX} {dep bc bs : Nat} (d : Int) {g : zH} {Q : Nat → zH → List zV → Prop} {P : zH → Prop}
    (hZ : zW mX11_next_ X (dep - 1) 0 0 239 0 (zar 0 [xR 169]) [] g (zQ0 P)) (hdep : 1 ≤ dep)
    (k : ∀ g : zH, P g → zW mX11_law X dep bc bs 239 95 [(0, xR 169), (1, xI d)] [] g Q) : zW mX11_law X dep bc bs 239 92 [(0, xR 169), (1, xI d)] [xR 169] g Q :=
  z_invQ0 (ci := 11) (N := 97) (as := []) (st := []) (ra := []) hZ dX11_law_92 nX11_next_ zb_1475 zb_1477 zb_38 zb_92 (zOb.lit (by decide +kernel)) rfl (by omega) (Nat.le_of_ble_eq_true rfl) (Nat.le_of_ble_eq_true rfl) rfl (fun g hg => k g hg)

set_option maxRecDepth 20000 in
theorem bX11_law_95 {X : zX} {dep bc bs : Nat} (d : Int) {g : zH} {Q : Nat → zH → List zV → Prop}
    (k1 : (g 169 49) = 0 → zW mX11_law X dep bc bs 239 139 [(0, xR 169), (1, xI d)] [] g Q)
    (k2 : ¬ ((g 169 49) = 0) → zW mX11_law X dep bc bs 239 103 [(0, xR 169), (1, xI d)] [xR 169] g Q) : zW mX11_law X dep bc bs 239 95 [(0, xR 169), (1, xI d)] [] g Q := by
  refine z_aload_n 0 dX11_law_95 rfl ?_
  refine z_getI (k := 49) (kz := 49) pk11 dX11_law_96 (by decide) zb_1173 rfl (zOb.lit (by decide +kernel)) rfl ?_
  refine z_if_eq (tgt := 139) dX11_law_99 (by decide) (fun c1 => ?_) (fun c1 => ?_)
  ·
    exact k1 c1
  ·
    refine z_aload_n 0 dX11_law_102 rfl ?_
    exact k2 c1

set_option maxRecDepth 20000 in
theorem rX11_law_103 {X : zX} {dep bc bs : Nat} (d : Int) {g : zH} {Q : Nat → zH → List zV → Prop} {P : Int → zH → Prop}
    (hZ : zW mX11_line X (dep - 1) 0 0 239 0 (zar 0 [xR 169]) [] g (zQI P)) (hdep : 1 ≤ dep)
    (k : ∀ (v : Int) (g : zH), P v g → zW mX11_law X dep bc bs 239 106 [(0, xR 169), (1, xI d)] [xI v] g Q) : zW mX11_law X dep bc bs 239 103 [(0, xR 169), (1, xI d)] [xR 169] g Q :=
  z_invQI (ci := 11) (N := 97) (as := []) (st := []) (ra := []) hZ dX11_law_103 nX11_line zb_1486 zb_1488 zb_40 zb_92 (zOb.lit (by decide +kernel)) rfl (by omega) (Nat.le_of_ble_eq_true rfl) (Nat.le_of_ble_eq_true rfl) rfl (fun v g hg => k v g hg)

set_option maxRecDepth 20000 in
theorem bX11_law_106 {X : zX} {dep bc bs : Nat} (d : Int) (v : Int) {g : zH} {Q : Nat → zH → List zV → Prop}
    (k1 : v = 0 → zW mX11_law X dep bc bs 239 118 [(0, xR 169)] [] g Q)
    (k2 : ¬ (v = 0) → zW mX11_law X dep bc bs 239 112 [(0, xR 169), (1, xI d)] [xI 59, xR 169] g Q) : zW mX11_law X dep bc bs 239 106 [(0, xR 169), (1, xI d)] [xI v] g Q := by
  refine z_if_eq (tgt := 118) dX11_law_106 (by decide) (fun c1 => ?_) (fun c1 => ?_)
  ·
    refine zW.sub (lv' := [(0, xR 169)]) [0] rfl ?_
    exact k1 c1
  ·
    refine z_aload_n 0 dX11_law_109 rfl ?_
    refine z_bipush dX11_law_110 (zi32_d rfl) (by decide) ?_
    exact k2 c1

set_option maxRecDepth 20000 in
theorem rX11_law_112 {X : zX} {dep bc bs : Nat} (d : Int) {g : zH} {Q : Nat → zH → List zV → Prop} {P : Int → zH → Prop}
    (hZ : zW mX11_sign X (dep - 1) 0 0 239 0 (zar 0 [xR 169, xI 59]) [] g (zQI P)) (hdep : 1 ≤ dep)
    (k : ∀ (v : Int) (g : zH), P v g → zW mX11_law X dep bc bs 239 115 [(0, xR 169), (1, xI d)] [xI v] g Q) : zW mX11_law X dep bc bs 239 112 [(0, xR 169), (1, xI d)] [xI 59, xR 169] g Q :=
  z_invQI (ci := 11) (N := 97) (as := [xI 59]) (st := []) (ra := [xI 59]) hZ dX11_law_112 nX11_sign zb_1563 zb_1565 zb_53 zb_92 (zOb.lit (by decide +kernel)) rfl (by omega) (Nat.le_of_ble_eq_true rfl) (Nat.le_of_ble_eq_true rfl) rfl (fun v g hg => k v g hg)

set_option maxRecDepth 20000 in
theorem bX11_law_115 {X : zX} {dep bc bs : Nat} (d : Int) (v : Int) {g : zH} {Q : Nat → zH → List zV → Prop}
    (k1 : ¬ v = 0 → zW mX11_law X dep bc bs 239 125 [(0, xR 169), (1, xI d)] [] g Q)
    (k2 : v = 0 → zW mX11_law X dep bc bs 239 118 [(0, xR 169)] [] g Q) : zW mX11_law X dep bc bs 239 115 [(0, xR 169), (1, xI d)] [xI v] g Q := by
  refine z_if_ne (tgt := 125) dX11_law_115 (by decide) (fun c1 => ?_) (fun c1 => ?_)
  ·
    exact k1 c1
  ·
    refine zW.sub (lv' := [(0, xR 169)]) [0] rfl ?_
    exact k2 c1

set_option maxRecDepth 20000 in
theorem bX11_law_118 {X : zX} {dep bc bs : Nat} {g : zH} {Q : Nat → zH → List zV → Prop} (hf : 0 ≤ g 169 54 ∧ g 169 54 ≤ 400)
    (k1 : Q 239 g [xI ((-1) - (g 169 54))]) : zW mX11_law X dep bc bs 239 118 [(0, xR 169)] [] g Q := by
  refine z_iconst dX11_law_118 (zi32_d rfl) ?_
  refine z_aload_n 0 dX11_law_119 rfl ?_
  refine z_getI (k := 54) (kz := 54) pk11 dX11_law_120 (by decide) zb_1178 rfl (zOb.lit (by decide +kernel)) rfl ?_
  refine z_isubN dX11_law_123 (show -2147483648 ≤ (-1) - (g 169 54) ∧ (-1) - (g 169 54) < 2147483648 from ⟨by omega, by omega⟩).1 (show -2147483648 ≤ (-1) - (g 169 54) ∧ (-1) - (g 169 54) < 2147483648 from ⟨by omega, by omega⟩).2 ?_
  exact z_iret dX11_law_124 rfl (k1)

set_option maxRecDepth 20000 in
theorem bX11_law_125 {X : zX} {dep bc bs : Nat} (d : Int) {g : zH} {Q : Nat → zH → List zV → Prop} (hl : 0 ≤ g 195 8 ∧ g 195 8 ≤ 20)
    (k1 : zW mX11_law X dep bc bs 239 95 [(0, xR 169), (1, xI d)] [] (zst g 195 8 ((g 195 8) + 1)) Q) : zW mX11_law X dep bc bs 239 125 [(0, xR 169), (1, xI d)] [] g Q := by
  refine z_aload_n 0 dX11_law_125 rfl ?_
  refine z_getS (v := 195) (k := 35) (kz := 35) pk11 dX11_law_126 (by decide) zb_1159 rfl (zOb.lit (by decide +kernel)) rfl (by decide +kernel) ?_
  refine z_bipush dX11_law_129 (zi32_d rfl) (by decide) ?_
  refine z_dup2 dX11_law_131 zt0 zt2 ?_
  refine z_iald (N := 9) dX11_law_132 (zOb.lit (by decide +kernel)) (by decide) (by decide) ?_
  refine z_iconst dX11_law_133 (zi32_d rfl) ?_
  refine z_iaddN dX11_law_134 (show -2147483648 ≤ (g 195 8) + 1 ∧ (g 195 8) + 1 < 2147483648 from ⟨by omega, by omega⟩).1 (show -2147483648 ≤ (g 195 8) + 1 ∧ (g 195 8) + 1 < 2147483648 from ⟨by omega, by omega⟩).2 ?_
  refine z_iast (N := 9) dX11_law_135 (zOb.lit (by decide +kernel)) (by decide) (by decide) ?_
  refine z_goto (tgt := 95) dX11_law_136 (by decide) ?_
  exact k1

set_option maxRecDepth 20000 in
theorem bX11_law_139 {X : zX} {dep bc bs : Nat} (d : Int) {g : zH} {Q : Nat → zH → List zV → Prop}
    (k1 : zW mX11_law X dep bc bs 239 141 [(0, xR 169), (1, xI d)] [xI d, xR 169] g Q) : zW mX11_law X dep bc bs 239 139 [(0, xR 169), (1, xI d)] [] g Q := by
  refine z_aload_n 0 dX11_law_139 rfl ?_
  refine z_iload_n 1 dX11_law_140 rfl ?_
  exact k1

set_option maxRecDepth 20000 in
theorem rX11_law_141 {X : zX} {dep bc bs : Nat} (d : Int) {g : zH} {Q : Nat → zH → List zV → Prop} {P : zH → Prop}
    (hZ : zW mX11_keep X (dep - 1) 0 0 239 0 (zar 0 [xR 169, xI d]) [] g (zQ0 P)) (hdep : 1 ≤ dep)
    (k : ∀ g : zH, P g → zW mX11_law X dep bc bs 239 144 [(0, xR 169), (1, xI d)] [] g Q) : zW mX11_law X dep bc bs 239 141 [(0, xR 169), (1, xI d)] [xI d, xR 169] g Q :=
  z_invQ0 (ci := 11) (N := 97) (as := [xI d]) (st := []) (ra := [xI d]) hZ dX11_law_141 nX11_keep zb_1567 zb_1569 zb_54 zb_92 (zOb.lit (by decide +kernel)) rfl (by omega) (Nat.le_of_ble_eq_true rfl) (Nat.le_of_ble_eq_true rfl) rfl (fun g hg => k g hg)

set_option maxRecDepth 20000 in
theorem bX11_law_144 {X : zX} {dep bc bs : Nat} (d : Int) {g : zH} {Q : Nat → zH → List zV → Prop} (hw : 0 ≤ g 169 45 ∧ g 169 45 ≤ 8)
    (k1 : Q 239 (zst g 169 45 ((g 169 45) + 1)) [xI (g 195 8)]) : zW mX11_law X dep bc bs 239 144 [(0, xR 169), (1, xI d)] [] g Q := by
  refine z_aload_n 0 dX11_law_144 rfl ?_
  refine z_dup dX11_law_145 zt2 ?_
  refine z_getI (k := 45) (kz := 45) pk11 dX11_law_146 (by decide) zb_1169 rfl (zOb.lit (by decide +kernel)) rfl ?_
  refine z_iconst dX11_law_149 (zi32_d rfl) ?_
  refine z_iaddN dX11_law_150 (show -2147483648 ≤ (g 169 45) + 1 ∧ (g 169 45) + 1 < 2147483648 from ⟨by omega, by omega⟩).1 (show -2147483648 ≤ (g 169 45) + 1 ∧ (g 169 45) + 1 < 2147483648 from ⟨by omega, by omega⟩).2 ?_
  refine z_putI (k := 45) (kz := 45) pk11 dX11_law_151 (by decide) zb_1169 rfl (zFit_int _) (zOb.lit (by decide +kernel)) rfl ?_
  refine z_aload_n 0 dX11_law_154 rfl ?_
  refine z_getS (v := 195) (k := 35) (kz := 35) pk11 dX11_law_155 (by decide) zb_1159 rfl (zOb.lit (by decide +kernel)) rfl (by decide +kernel) ?_
  refine z_bipush dX11_law_158 (zi32_d rfl) (by decide) ?_
  refine z_ialdV (v := (g 195 8)) (N := 9) dX11_law_160 (zOb.lit (by decide +kernel)) (by decide) (by decide) (zst_ne (Or.inl (by decide))) ?_
  exact z_iret dX11_law_161 rfl (k1)

set_option maxRecDepth 20000 in
theorem bX11_keep_0 {X : zX} {dep bc bs : Nat} (d : Int) {g : zH} {Q : Nat → zH → List zV → Prop} (hw : 0 ≤ g 169 45 ∧ g 169 45 < 8)
    (k1 : zW mX11_keep X dep bc bs 239 89 [(0, xR 169), (2, xI 0)] [] (zst (zst (zst (zst (zst (zst g 190 (g 169 45) d) 191 (g 169 45) (g 169 5)) 192 (g 169 45) (g 192 8)) 193 (g 169 45) (g 193 8)) 194 (g 169 45) (g 194 8)) 195 (g 169 45) (g 195 8)) Q) : zW mX11_keep X dep bc bs 239 0 [(0, xR 169), (1, xI d)] [] g Q := by
  refine z_aload_n 0 dX11_keep_0 rfl ?_
  refine z_getS (v := 190) (k := 30) (kz := 30) pk11 dX11_keep_1 (by decide) zb_1154 rfl (zOb.lit (by decide +kernel)) rfl (by decide +kernel) ?_
  refine z_aload_n 0 dX11_keep_4 rfl ?_
  refine z_getI (k := 45) (kz := 45) pk11 dX11_keep_5 (by decide) zb_1169 rfl (zOb.lit (by decide +kernel)) rfl ?_
  refine z_iload_n 1 dX11_keep_8 rfl ?_
  refine z_iast dX11_keep_9 (zOb.lit (by decide +kernel)) (show 0 ≤ (g 169 45) ∧ (g 169 45) < 9 from ⟨by omega, by omega⟩).1 (show 0 ≤ (g 169 45) ∧ (g 169 45) < 9 from ⟨by omega, by omega⟩).2 ?_
  refine z_aload_n 0 dX11_keep_10 rfl ?_
  refine z_getS (v := 191) (k := 31) (kz := 31) pk11 dX11_keep_11 (by decide) zb_1155 rfl (zOb.lit (by decide +kernel)) rfl (by decide +kernel) ?_
  refine z_aload_n 0 dX11_keep_14 rfl ?_
  refine z_getIV (v := (g 169 45)) (k := 45) (kz := 45) pk11 dX11_keep_15 (by decide) zb_1169 rfl (zOb.lit (by decide +kernel)) rfl (zst_ne (Or.inl (by decide))) ?_
  refine z_aload_n 0 dX11_keep_18 rfl ?_
  refine z_getIV (v := (g 169 5)) (k := 5) (kz := 5) pk11 dX11_keep_19 (by decide) zb_1129 rfl (zOb.lit (by decide +kernel)) rfl (zst_ne (Or.inl (by decide))) ?_
  refine z_iast dX11_keep_22 (zOb.lit (by decide +kernel)) (show 0 ≤ (g 169 45) ∧ (g 169 45) < 9 from ⟨by omega, by omega⟩).1 (show 0 ≤ (g 169 45) ∧ (g 169 45) < 9 from ⟨by omega, by omega⟩).2 ?_
  refine z_aload_n 0 dX11_keep_23 rfl ?_
  refine z_getS (v := 192) (k := 32) (kz := 32) pk11 dX11_keep_24 (by decide) zb_1156 rfl (zOb.lit (by decide +kernel)) rfl (by decide +kernel) ?_
  refine z_aload_n 0 dX11_keep_27 rfl ?_
  refine z_getIV (v := (g 169 45)) (k := 45) (kz := 45) pk11 dX11_keep_28 (by decide) zb_1169 rfl (zOb.lit (by decide +kernel)) rfl ((zst_ne (Or.inl (by decide))).trans (zst_ne (Or.inl (by decide)))) ?_
  refine z_aload_n 0 dX11_keep_31 rfl ?_
  refine z_getS (v := 192) (k := 32) (kz := 32) pk11 dX11_keep_32 (by decide) zb_1156 rfl (zOb.lit (by decide +kernel)) rfl (by decide +kernel) ?_
  refine z_bipush dX11_keep_35 (zi32_d rfl) (by decide) ?_
  refine z_ialdV (v := (g 192 8)) (N := 9) dX11_keep_37 (zOb.lit (by decide +kernel)) (by decide) (by decide) ((zst_ne (Or.inl (by decide))).trans (zst_ne (Or.inl (by decide)))) ?_
  refine z_iast dX11_keep_38 (zOb.lit (by decide +kernel)) (show 0 ≤ (g 169 45) ∧ (g 169 45) < 9 from ⟨by omega, by omega⟩).1 (show 0 ≤ (g 169 45) ∧ (g 169 45) < 9 from ⟨by omega, by omega⟩).2 ?_
  refine z_aload_n 0 dX11_keep_39 rfl ?_
  refine z_getS (v := 193) (k := 33) (kz := 33) pk11 dX11_keep_40 (by decide) zb_1157 rfl (zOb.lit (by decide +kernel)) rfl (by decide +kernel) ?_
  refine z_aload_n 0 dX11_keep_43 rfl ?_
  refine z_getIV (v := (g 169 45)) (k := 45) (kz := 45) pk11 dX11_keep_44 (by decide) zb_1169 rfl (zOb.lit (by decide +kernel)) rfl ((zst_ne (Or.inl (by decide))).trans ((zst_ne (Or.inl (by decide))).trans (zst_ne (Or.inl (by decide))))) ?_
  refine z_aload_n 0 dX11_keep_47 rfl ?_
  refine z_getS (v := 193) (k := 33) (kz := 33) pk11 dX11_keep_48 (by decide) zb_1157 rfl (zOb.lit (by decide +kernel)) rfl (by decide +kernel) ?_
  refine z_bipush dX11_keep_51 (zi32_d rfl) (by decide) ?_
  refine z_ialdV (v := (g 193 8)) (N := 9) dX11_keep_53 (zOb.lit (by decide +kernel)) (by decide) (by decide) ((zst_ne (Or.inl (by decide))).trans ((zst_ne (Or.inl (by decide))).trans (zst_ne (Or.inl (by decide))))) ?_
  refine z_iast dX11_keep_54 (zOb.lit (by decide +kernel)) (show 0 ≤ (g 169 45) ∧ (g 169 45) < 9 from ⟨by omega, by omega⟩).1 (show 0 ≤ (g 169 45) ∧ (g 169 45) < 9 from ⟨by omega, by omega⟩).2 ?_
  refine z_aload_n 0 dX11_keep_55 rfl ?_
  refine z_getS (v := 194) (k := 34) (kz := 34) pk11 dX11_keep_56 (by decide) zb_1158 rfl (zOb.lit (by decide +kernel)) rfl (by decide +kernel) ?_
  refine z_aload_n 0 dX11_keep_59 rfl ?_
  refine z_getIV (v := (g 169 45)) (k := 45) (kz := 45) pk11 dX11_keep_60 (by decide) zb_1169 rfl (zOb.lit (by decide +kernel)) rfl ((zst_ne (Or.inl (by decide))).trans ((zst_ne (Or.inl (by decide))).trans ((zst_ne (Or.inl (by decide))).trans (zst_ne (Or.inl (by decide)))))) ?_
  refine z_aload_n 0 dX11_keep_63 rfl ?_
  refine z_getS (v := 194) (k := 34) (kz := 34) pk11 dX11_keep_64 (by decide) zb_1158 rfl (zOb.lit (by decide +kernel)) rfl (by decide +kernel) ?_
  refine z_bipush dX11_keep_67 (zi32_d rfl) (by decide) ?_
  refine z_ialdV (v := (g 194 8)) (N := 9) dX11_keep_69 (zOb.lit (by decide +kernel)) (by decide) (by decide) ((zst_ne (Or.inl (by decide))).trans ((zst_ne (Or.inl (by decide))).trans ((zst_ne (Or.inl (by decide))).trans (zst_ne (Or.inl (by decide)))))) ?_
  refine z_iast dX11_keep_70 (zOb.lit (by decide +kernel)) (show 0 ≤ (g 169 45) ∧ (g 169 45) < 9 from ⟨by omega, by omega⟩).1 (show 0 ≤ (g 169 45) ∧ (g 169 45) < 9 from ⟨by omega, by omega⟩).2 ?_
  refine z_aload_n 0 dX11_keep_71 rfl ?_
  refine z_getS (v := 195) (k := 35) (kz := 35) pk11 dX11_keep_72 (by decide) zb_1159 rfl (zOb.lit (by decide +kernel)) rfl (by decide +kernel) ?_
  refine z_aload_n 0 dX11_keep_75 rfl ?_
  refine z_getIV (v := (g 169 45)) (k := 45) (kz := 45) pk11 dX11_keep_76 (by decide) zb_1169 rfl (zOb.lit (by decide +kernel)) rfl ((zst_ne (Or.inl (by decide))).trans ((zst_ne (Or.inl (by decide))).trans ((zst_ne (Or.inl (by decide))).trans ((zst_ne (Or.inl (by decide))).trans (zst_ne (Or.inl (by decide))))))) ?_
  refine z_aload_n 0 dX11_keep_79 rfl ?_
  refine z_getS (v := 195) (k := 35) (kz := 35) pk11 dX11_keep_80 (by decide) zb_1159 rfl (zOb.lit (by decide +kernel)) rfl (by decide +kernel) ?_
  refine z_bipush dX11_keep_83 (zi32_d rfl) (by decide) ?_
  refine z_ialdV (v := (g 195 8)) (N := 9) dX11_keep_85 (zOb.lit (by decide +kernel)) (by decide) (by decide) ((zst_ne (Or.inl (by decide))).trans ((zst_ne (Or.inl (by decide))).trans ((zst_ne (Or.inl (by decide))).trans ((zst_ne (Or.inl (by decide))).trans (zst_ne (Or.inl (by decide))))))) ?_
  refine z_iast dX11_keep_86 (zOb.lit (by decide +kernel)) (show 0 ≤ (g 169 45) ∧ (g 169 45) < 9 from ⟨by omega, by omega⟩).1 (show 0 ≤ (g 169 45) ∧ (g 169 45) < 9 from ⟨by omega, by omega⟩).2 ?_
  refine z_iconst dX11_keep_87 (zi32_d rfl) ?_
  refine z_istore_n (lv' := [(2, xI 0), (0, xR 169), (1, xI d)]) dX11_keep_88 (by decide) rfl ?_
  refine zW.sub (lv' := [(0, xR 169), (2, xI 0)]) [1, 0] rfl ?_
  exact k1

set_option maxRecDepth 20000 in
theorem bX11_keep_89 {X : zX} {dep bc bs : Nat} (i : Int) {g : zH} {Q : Nat → zH → List zV → Prop} (hw : 0 ≤ g 169 45 ∧ g 169 45 < 8) (hi : 0 ≤ i ∧ i ≤ 20) (hb : 20 ≤ i ∨ 0 ≤ g 200 (160 + i) ∧ g 200 (160 + i) ≤ 1)
    (k1 : 20 ≤ i → zW mX11_keep X dep bc bs 239 185 [(0, xR 169), (2, xI 0)] [] g Q)
    (k2 : ¬ (20 ≤ i) → zW mX11_keep X dep bc bs 239 89 [(0, xR 169), (2, xI (i + 1))] [] (zst (zst (zst (zst (zst g 196 ((20 * (g 169 45)) + i) (g 196 (160 + i))) 197 ((20 * (g 169 45)) + i) (g 197 (160 + i))) 200 ((20 * (g 169 45)) + i) (g 200 (160 + i))) 198 ((20 * (g 169 45)) + i) (g 198 (160 + i))) 199 ((20 * (g 169 45)) + i) (g 199 (160 + i))) Q) : zW mX11_keep X dep bc bs 239 89 [(0, xR 169), (2, xI i)] [] g Q := by
  refine z_iload_n 1 dX11_keep_89 rfl ?_
  refine z_bipush dX11_keep_90 (zi32_d rfl) (by decide) ?_
  refine z_icmp_ge (tgt := 183) dX11_keep_92 (by decide) (fun c1 => ?_) (fun c1 => ?_)
  ·
    refine z_iconst dX11_keep_183 (zi32_d rfl) ?_
    refine z_istore_n (lv' := [(2, xI 0), (0, xR 169)]) dX11_keep_184 (by decide) rfl ?_
    refine zW.sub (lv' := [(0, xR 169), (2, xI 0)]) [1, 0] rfl ?_
    exact k1 c1
  ·
    refine z_bipush dX11_keep_95 (zi32_d rfl) (by decide) ?_
    refine z_aload_n 0 dX11_keep_97 rfl ?_
    refine z_getI (k := 45) (kz := 45) pk11 dX11_keep_98 (by decide) zb_1169 rfl (zOb.lit (by decide +kernel)) rfl ?_
    refine z_imulN dX11_keep_101 (show -2147483648 ≤ 20 * (g 169 45) ∧ 20 * (g 169 45) < 2147483648 from ⟨by omega, by omega⟩).1 (show -2147483648 ≤ 20 * (g 169 45) ∧ 20 * (g 169 45) < 2147483648 from ⟨by omega, by omega⟩).2 ?_
    refine z_iload_n 1 dX11_keep_102 rfl ?_
    refine z_iaddN dX11_keep_103 (show -2147483648 ≤ (20 * (g 169 45)) + i ∧ (20 * (g 169 45)) + i < 2147483648 from ⟨by omega, by omega⟩).1 (show -2147483648 ≤ (20 * (g 169 45)) + i ∧ (20 * (g 169 45)) + i < 2147483648 from ⟨by omega, by omega⟩).2 ?_
    refine z_istore_n (lv' := [(3, xI ((20 * (g 169 45)) + i)), (0, xR 169), (2, xI i)]) dX11_keep_104 (by decide) rfl ?_
    refine z_sipush dX11_keep_105 (zi32_d rfl) (by decide) ?_
    refine z_iload_n 2 dX11_keep_108 rfl ?_
    refine z_iaddN dX11_keep_109 (show -2147483648 ≤ 160 + i ∧ 160 + i < 2147483648 from ⟨by omega, by omega⟩).1 (show -2147483648 ≤ 160 + i ∧ 160 + i < 2147483648 from ⟨by omega, by omega⟩).2 ?_
    refine z_istore (lv' := [(4, xI (160 + i)), (3, xI ((20 * (g 169 45)) + i)), (0, xR 169), (2, xI i)]) dX11_keep_110 (by decide) rfl ?_
    refine z_aload_n 2 dX11_keep_112 rfl ?_
    refine z_getS (v := 196) (k := 36) (kz := 36) pk11 dX11_keep_113 (by decide) zb_1160 rfl (zOb.lit (by decide +kernel)) rfl (by decide +kernel) ?_
    refine z_iload_n 1 dX11_keep_116 rfl ?_
    refine z_aload_n 2 dX11_keep_117 rfl ?_
    refine z_getS (v := 196) (k := 36) (kz := 36) pk11 dX11_keep_118 (by decide) zb_1160 rfl (zOb.lit (by decide +kernel)) rfl (by decide +kernel) ?_
    refine z_iload 0 dX11_keep_121 rfl ?_
    refine z_iald dX11_keep_123 (zOb.lit (by decide +kernel)) (show 0 ≤ (160 + i) ∧ (160 + i) < 180 from ⟨by omega, by omega⟩).1 (show 0 ≤ (160 + i) ∧ (160 + i) < 180 from ⟨by omega, by omega⟩).2 ?_
    refine z_iast dX11_keep_124 (zOb.lit (by decide +kernel)) (show 0 ≤ ((20 * (g 169 45)) + i) ∧ ((20 * (g 169 45)) + i) < 180 from ⟨by omega, by omega⟩).1 (show 0 ≤ ((20 * (g 169 45)) + i) ∧ ((20 * (g 169 45)) + i) < 180 from ⟨by omega, by omega⟩).2 ?_
    refine z_aload_n 2 dX11_keep_125 rfl ?_
    refine z_getS (v := 197) (k := 37) (kz := 37) pk11 dX11_keep_126 (by decide) zb_1161 rfl (zOb.lit (by decide +kernel)) rfl (by decide +kernel) ?_
    refine z_iload_n 1 dX11_keep_129 rfl ?_
    refine z_aload_n 2 dX11_keep_130 rfl ?_
    refine z_getS (v := 197) (k := 37) (kz := 37) pk11 dX11_keep_131 (by decide) zb_1161 rfl (zOb.lit (by decide +kernel)) rfl (by decide +kernel) ?_
    refine z_iload 0 dX11_keep_134 rfl ?_
    refine z_ialdV (v := (g 197 (160 + i))) dX11_keep_136 (zOb.lit (by decide +kernel)) (show 0 ≤ (160 + i) ∧ (160 + i) < 180 from ⟨by omega, by omega⟩).1 (show 0 ≤ (160 + i) ∧ (160 + i) < 180 from ⟨by omega, by omega⟩).2 (zst_ne (Or.inl (by decide))) ?_
    refine z_iast dX11_keep_137 (zOb.lit (by decide +kernel)) (show 0 ≤ ((20 * (g 169 45)) + i) ∧ ((20 * (g 169 45)) + i) < 180 from ⟨by omega, by omega⟩).1 (show 0 ≤ ((20 * (g 169 45)) + i) ∧ ((20 * (g 169 45)) + i) < 180 from ⟨by omega, by omega⟩).2 ?_
    refine z_aload_n 2 dX11_keep_138 rfl ?_
    refine z_getS (v := 200) (k := 40) (kz := 40) pk11 dX11_keep_139 (by decide) zb_1164 rfl (zOb.lit (by decide +kernel)) rfl (by decide +kernel) ?_
    refine z_iload_n 1 dX11_keep_142 rfl ?_
    refine z_aload_n 2 dX11_keep_143 rfl ?_
    refine z_getS (v := 200) (k := 40) (kz := 40) pk11 dX11_keep_144 (by decide) zb_1164 rfl (zOb.lit (by decide +kernel)) rfl (by decide +kernel) ?_
    refine z_iload 0 dX11_keep_147 rfl ?_
    refine z_zaldV (v := (g 200 (160 + i))) dX11_keep_149 (zOb.lit (by decide +kernel)) (show 0 ≤ (160 + i) ∧ (160 + i) < 180 from ⟨by omega, by omega⟩).1 (show 0 ≤ (160 + i) ∧ (160 + i) < 180 from ⟨by omega, by omega⟩).2 ((zst_ne (Or.inl (by decide))).trans (zst_ne (Or.inl (by decide)))) ?_
    refine z_zast dX11_keep_150 (zOb.lit (by decide +kernel)) (show 0 ≤ ((20 * (g 169 45)) + i) ∧ ((20 * (g 169 45)) + i) < 180 from ⟨by omega, by omega⟩).1 (show 0 ≤ ((20 * (g 169 45)) + i) ∧ ((20 * (g 169 45)) + i) < 180 from ⟨by omega, by omega⟩).2 (show (g 200 (160 + i)) = 0 ∨ (g 200 (160 + i)) = 1 by omega) ?_
    refine z_aload_n 2 dX11_keep_151 rfl ?_
    refine z_getS (v := 198) (k := 38) (kz := 38) pk11 dX11_keep_152 (by decide) zb_1162 rfl (zOb.lit (by decide +kernel)) rfl (by decide +kernel) ?_
    refine z_iload_n 1 dX11_keep_155 rfl ?_
    refine z_aload_n 2 dX11_keep_156 rfl ?_
    refine z_getS (v := 198) (k := 38) (kz := 38) pk11 dX11_keep_157 (by decide) zb_1162 rfl (zOb.lit (by decide +kernel)) rfl (by decide +kernel) ?_
    refine z_iload 0 dX11_keep_160 rfl ?_
    refine z_ialdV (v := (g 198 (160 + i))) dX11_keep_162 (zOb.lit (by decide +kernel)) (show 0 ≤ (160 + i) ∧ (160 + i) < 180 from ⟨by omega, by omega⟩).1 (show 0 ≤ (160 + i) ∧ (160 + i) < 180 from ⟨by omega, by omega⟩).2 ((zst_ne (Or.inl (by decide))).trans ((zst_ne (Or.inl (by decide))).trans (zst_ne (Or.inl (by decide))))) ?_
    refine z_iast dX11_keep_163 (zOb.lit (by decide +kernel)) (show 0 ≤ ((20 * (g 169 45)) + i) ∧ ((20 * (g 169 45)) + i) < 180 from ⟨by omega, by omega⟩).1 (show 0 ≤ ((20 * (g 169 45)) + i) ∧ ((20 * (g 169 45)) + i) < 180 from ⟨by omega, by omega⟩).2 ?_
    refine z_aload_n 2 dX11_keep_164 rfl ?_
    refine z_getS (v := 199) (k := 39) (kz := 39) pk11 dX11_keep_165 (by decide) zb_1163 rfl (zOb.lit (by decide +kernel)) rfl (by decide +kernel) ?_
    refine z_iload_n 1 dX11_keep_168 rfl ?_
    refine z_aload_n 2 dX11_keep_169 rfl ?_
    refine z_getS (v := 199) (k := 39) (kz := 39) pk11 dX11_keep_170 (by decide) zb_1163 rfl (zOb.lit (by decide +kernel)) rfl (by decide +kernel) ?_
    refine z_iload 0 dX11_keep_173 rfl ?_
    refine z_ialdV (v := (g 199 (160 + i))) dX11_keep_175 (zOb.lit (by decide +kernel)) (show 0 ≤ (160 + i) ∧ (160 + i) < 180 from ⟨by omega, by omega⟩).1 (show 0 ≤ (160 + i) ∧ (160 + i) < 180 from ⟨by omega, by omega⟩).2 ((zst_ne (Or.inl (by decide))).trans ((zst_ne (Or.inl (by decide))).trans ((zst_ne (Or.inl (by decide))).trans (zst_ne (Or.inl (by decide)))))) ?_
    refine z_iast dX11_keep_176 (zOb.lit (by decide +kernel)) (show 0 ≤ ((20 * (g 169 45)) + i) ∧ ((20 * (g 169 45)) + i) < 180 from ⟨by omega, by omega⟩).1 (show 0 ≤ ((20 * (g 169 45)) + i) ∧ ((20 * (g 169 45)) + i) < 180 from ⟨by omega, by omega⟩).2 ?_
    refine z_iincN (lv' := [(2, xI (i + 1)), (4, xI (160 + i)), (3, xI ((20 * (g 169 45)) + i)), (0, xR 169)]) 3 dX11_keep_177 rfl (by decide) rfl (show -2147483648 ≤ i + 1 ∧ i + 1 < 2147483648 from ⟨by omega, by omega⟩).1 (show -2147483648 ≤ i + 1 ∧ i + 1 < 2147483648 from ⟨by omega, by omega⟩).2 ?_
    refine z_goto (tgt := 89) dX11_keep_180 (by decide) ?_
    refine zW.sub (lv' := [(0, xR 169), (2, xI (i + 1))]) [3, 0] rfl ?_
    exact k2 c1

set_option maxRecDepth 20000 in
theorem bX11_keep_185 {X : zX} {dep bc bs : Nat} (i : Int) {g : zH} {Q : Nat → zH → List zV → Prop} (hw : 0 ≤ g 169 45 ∧ g 169 45 < 8) (hm : 0 ≤ g 169 46 ∧ g 169 46 ≤ 120) (hi : 0 ≤ i ∧ i ≤ 120)
    (k1 : (g 169 46) ≤ i → Q 239 g [])
    (k2 : ¬ ((g 169 46) ≤ i) → zW mX11_keep X dep bc bs 239 185 [(0, xR 169), (2, xI (i + 1))] [] (zst (zst (zst g 201 ((130 * (g 169 45)) + i) (g 201 (1040 + i))) 202 ((130 * (g 169 45)) + i) (g 202 (1040 + i))) 203 ((130 * (g 169 45)) + i) (g 203 (1040 + i))) Q) : zW mX11_keep X dep bc bs 239 185 [(0, xR 169), (2, xI i)] [] g Q := by
  refine z_iload_n 1 dX11_keep_185 rfl ?_
  refine z_aload_n 0 dX11_keep_186 rfl ?_
  refine z_getI (k := 46) (kz := 46) pk11 dX11_keep_187 (by decide) zb_1170 rfl (zOb.lit (by decide +kernel)) rfl ?_
  refine z_icmp_ge (tgt := 274) dX11_keep_190 (by decide) (fun c1 => ?_) (fun c1 => ?_)
  ·
    exact z_ret dX11_keep_274 rfl (k1 c1)
  ·
    refine z_aload_n 0 dX11_keep_193 rfl ?_
    refine z_getS (v := 201) (k := 41) (kz := 41) pk11 dX11_keep_194 (by decide) zb_1165 rfl (zOb.lit (by decide +kernel)) rfl (by decide +kernel) ?_
    refine z_sipush dX11_keep_197 (zi32_d rfl) (by decide) ?_
    refine z_aload_n 0 dX11_keep_200 rfl ?_
    refine z_getI (k := 45) (kz := 45) pk11 dX11_keep_201 (by decide) zb_1169 rfl (zOb.lit (by decide +kernel)) rfl ?_
    refine z_imulN dX11_keep_204 (show -2147483648 ≤ 130 * (g 169 45) ∧ 130 * (g 169 45) < 2147483648 from ⟨by omega, by omega⟩).1 (show -2147483648 ≤ 130 * (g 169 45) ∧ 130 * (g 169 45) < 2147483648 from ⟨by omega, by omega⟩).2 ?_
    refine z_iload_n 1 dX11_keep_205 rfl ?_
    refine z_iaddN dX11_keep_206 (show -2147483648 ≤ (130 * (g 169 45)) + i ∧ (130 * (g 169 45)) + i < 2147483648 from ⟨by omega, by omega⟩).1 (show -2147483648 ≤ (130 * (g 169 45)) + i ∧ (130 * (g 169 45)) + i < 2147483648 from ⟨by omega, by omega⟩).2 ?_
    refine z_aload_n 0 dX11_keep_207 rfl ?_
    refine z_getS (v := 201) (k := 41) (kz := 41) pk11 dX11_keep_208 (by decide) zb_1165 rfl (zOb.lit (by decide +kernel)) rfl (by decide +kernel) ?_
    refine z_sipush dX11_keep_211 (zi32_d rfl) (by decide) ?_
    refine z_iload_n 1 dX11_keep_214 rfl ?_
    refine z_iaddN dX11_keep_215 (show -2147483648 ≤ 1040 + i ∧ 1040 + i < 2147483648 from ⟨by omega, by omega⟩).1 (show -2147483648 ≤ 1040 + i ∧ 1040 + i < 2147483648 from ⟨by omega, by omega⟩).2 ?_
    refine z_iald dX11_keep_216 (zOb.lit (by decide +kernel)) (show 0 ≤ (1040 + i) ∧ (1040 + i) < 1170 from ⟨by omega, by omega⟩).1 (show 0 ≤ (1040 + i) ∧ (1040 + i) < 1170 from ⟨by omega, by omega⟩).2 ?_
    refine z_iast dX11_keep_217 (zOb.lit (by decide +kernel)) (show 0 ≤ ((130 * (g 169 45)) + i) ∧ ((130 * (g 169 45)) + i) < 1170 from ⟨by omega, by omega⟩).1 (show 0 ≤ ((130 * (g 169 45)) + i) ∧ ((130 * (g 169 45)) + i) < 1170 from ⟨by omega, by omega⟩).2 ?_
    refine z_aload_n 0 dX11_keep_218 rfl ?_
    refine z_getS (v := 202) (k := 42) (kz := 42) pk11 dX11_keep_219 (by decide) zb_1166 rfl (zOb.lit (by decide +kernel)) rfl (by decide +kernel) ?_
    refine z_sipush dX11_keep_222 (zi32_d rfl) (by decide) ?_
    refine z_aload_n 0 dX11_keep_225 rfl ?_
    refine z_getIV (v := (g 169 45)) (k := 45) (kz := 45) pk11 dX11_keep_226 (by decide) zb_1169 rfl (zOb.lit (by decide +kernel)) rfl (zst_ne (Or.inl (by decide))) ?_
    refine z_imulN dX11_keep_229 (show -2147483648 ≤ 130 * (g 169 45) ∧ 130 * (g 169 45) < 2147483648 from ⟨by omega, by omega⟩).1 (show -2147483648 ≤ 130 * (g 169 45) ∧ 130 * (g 169 45) < 2147483648 from ⟨by omega, by omega⟩).2 ?_
    refine z_iload_n 1 dX11_keep_230 rfl ?_
    refine z_iaddN dX11_keep_231 (show -2147483648 ≤ (130 * (g 169 45)) + i ∧ (130 * (g 169 45)) + i < 2147483648 from ⟨by omega, by omega⟩).1 (show -2147483648 ≤ (130 * (g 169 45)) + i ∧ (130 * (g 169 45)) + i < 2147483648 from ⟨by omega, by omega⟩).2 ?_
    refine z_aload_n 0 dX11_keep_232 rfl ?_
    refine z_getS (v := 202) (k := 42) (kz := 42) pk11 dX11_keep_233 (by decide) zb_1166 rfl (zOb.lit (by decide +kernel)) rfl (by decide +kernel) ?_
    refine z_sipush dX11_keep_236 (zi32_d rfl) (by decide) ?_
    refine z_iload_n 1 dX11_keep_239 rfl ?_
    refine z_iaddN dX11_keep_240 (show -2147483648 ≤ 1040 + i ∧ 1040 + i < 2147483648 from ⟨by omega, by omega⟩).1 (show -2147483648 ≤ 1040 + i ∧ 1040 + i < 2147483648 from ⟨by omega, by omega⟩).2 ?_
    refine z_ialdV (v := (g 202 (1040 + i))) dX11_keep_241 (zOb.lit (by decide +kernel)) (show 0 ≤ (1040 + i) ∧ (1040 + i) < 1170 from ⟨by omega, by omega⟩).1 (show 0 ≤ (1040 + i) ∧ (1040 + i) < 1170 from ⟨by omega, by omega⟩).2 (zst_ne (Or.inl (by decide))) ?_
    refine z_iast dX11_keep_242 (zOb.lit (by decide +kernel)) (show 0 ≤ ((130 * (g 169 45)) + i) ∧ ((130 * (g 169 45)) + i) < 1170 from ⟨by omega, by omega⟩).1 (show 0 ≤ ((130 * (g 169 45)) + i) ∧ ((130 * (g 169 45)) + i) < 1170 from ⟨by omega, by omega⟩).2 ?_
    refine z_aload_n 0 dX11_keep_243 rfl ?_
    refine z_getS (v := 203) (k := 43) (kz := 43) pk11 dX11_keep_244 (by decide) zb_1167 rfl (zOb.lit (by decide +kernel)) rfl (by decide +kernel) ?_
    refine z_sipush dX11_keep_247 (zi32_d rfl) (by decide) ?_
    refine z_aload_n 0 dX11_keep_250 rfl ?_
    refine z_getIV (v := (g 169 45)) (k := 45) (kz := 45) pk11 dX11_keep_251 (by decide) zb_1169 rfl (zOb.lit (by decide +kernel)) rfl ((zst_ne (Or.inl (by decide))).trans (zst_ne (Or.inl (by decide)))) ?_
    refine z_imulN dX11_keep_254 (show -2147483648 ≤ 130 * (g 169 45) ∧ 130 * (g 169 45) < 2147483648 from ⟨by omega, by omega⟩).1 (show -2147483648 ≤ 130 * (g 169 45) ∧ 130 * (g 169 45) < 2147483648 from ⟨by omega, by omega⟩).2 ?_
    refine z_iload_n 1 dX11_keep_255 rfl ?_
    refine z_iaddN dX11_keep_256 (show -2147483648 ≤ (130 * (g 169 45)) + i ∧ (130 * (g 169 45)) + i < 2147483648 from ⟨by omega, by omega⟩).1 (show -2147483648 ≤ (130 * (g 169 45)) + i ∧ (130 * (g 169 45)) + i < 2147483648 from ⟨by omega, by omega⟩).2 ?_
    refine z_aload_n 0 dX11_keep_257 rfl ?_
    refine z_getS (v := 203) (k := 43) (kz := 43) pk11 dX11_keep_258 (by decide) zb_1167 rfl (zOb.lit (by decide +kernel)) rfl (by decide +kernel) ?_
    refine z_sipush dX11_keep_261 (zi32_d rfl) (by decide) ?_
    refine z_iload_n 1 dX11_keep_264 rfl ?_
    refine z_iaddN dX11_keep_265 (show -2147483648 ≤ 1040 + i ∧ 1040 + i < 2147483648 from ⟨by omega, by omega⟩).1 (show -2147483648 ≤ 1040 + i ∧ 1040 + i < 2147483648 from ⟨by omega, by omega⟩).2 ?_
    refine z_ialdV (v := (g 203 (1040 + i))) dX11_keep_266 (zOb.lit (by decide +kernel)) (show 0 ≤ (1040 + i) ∧ (1040 + i) < 1170 from ⟨by omega, by omega⟩).1 (show 0 ≤ (1040 + i) ∧ (1040 + i) < 1170 from ⟨by omega, by omega⟩).2 ((zst_ne (Or.inl (by decide))).trans (zst_ne (Or.inl (by decide)))) ?_
    refine z_iast dX11_keep_267 (zOb.lit (by decide +kernel)) (show 0 ≤ ((130 * (g 169 45)) + i) ∧ ((130 * (g 169 45)) + i) < 1170 from ⟨by omega, by omega⟩).1 (show 0 ≤ ((130 * (g 169 45)) + i) ∧ ((130 * (g 169 45)) + i) < 1170 from ⟨by omega, by omega⟩).2 ?_
    refine z_iincN (lv' := [(2, xI (i + 1)), (0, xR 169)]) 1 dX11_keep_268 rfl (by decide) rfl (show -2147483648 ≤ i + 1 ∧ i + 1 < 2147483648 from ⟨by omega, by omega⟩).1 (show -2147483648 ≤ i + 1 ∧ i + 1 < 2147483648 from ⟨by omega, by omega⟩).2 ?_
    refine z_goto (tgt := 185) dX11_keep_271 (by decide) ?_
    refine zW.sub (lv' := [(0, xR 169), (2, xI (i + 1))]) [1, 0] rfl ?_
    exact k2 c1
