/-! calling up, chains -/
theorem zget_st (h : zH) (q k x o r c : Int) (hn : q < o ∨ o + 1 < q) : zget (zst h q k x) o r c = zget h o r c := by
  unfold zget
  rw [zst_ne (Or.inl (by omega)), zst_ne (Or.inl (by omega))]
theorem zahead_st (h : zH) (q k x o m : Int) (hn : q ≠ 4 ∧ q ≠ o + 5 ∧ q ≠ o + 7) : zahead (zst h q k x) o m = zahead h o m := by
  funext i
  unfold zahead
  rw [zst_ne (Or.inl (by omega)), zst_ne (Or.inl (by omega)), zst_ne (Or.inl (by omega)), zst_ne (Or.inl (by omega)), zst_ne (Or.inl (by omega))]

set_option maxRecDepth 20000 in
theorem bX6_callUp_0 {X : zX} {dep bc bs : Nat} (o : Int) {h : zH} {Q : Nat → zH → List zV → Prop} (ho : zRollO o)
    (k1 : zW mX6_callUp X dep bc bs 239 2 [(0, xR o), (1, xR 3), (2, xI 0)] [] h Q) : zW mX6_callUp X dep bc bs 239 0 [(0, xR o), (1, xR 3)] [] h Q := by
  refine z_iconst dX6_callUp_0 (zi32_d rfl) ?_
  refine z_istore_n (lv' := [(2, xI 0), (0, xR o), (1, xR 3)]) dX6_callUp_1 (by decide) rfl ?_
  refine zW.sub (lv' := [(0, xR o), (1, xR 3), (2, xI 0)]) [1, 2, 0] rfl ?_
  exact k1

set_option maxRecDepth 20000 in
theorem bX6_callUp_2 {X : zX} {dep bc bs : Nat} (o : Int) (i : Int) {g : zH} {Q : Nat → zH → List zV → Prop} (ho : zRollO o) (hb : 113 ≤ o ∧ o ≤ 155) (h3 : 0 ≤ g 3 0 ∧ g 3 0 ≤ 60) (hi : 0 ≤ i) (hp : i < g 3 0 → 0 ≤ g 4 i ∧ g 4 i < 8) (hdep : 2 ≤ dep)
    (k1 : (g 3 0) ≤ i → Q 239 g [])
    (k2 : ¬ ((g 3 0) ≤ i) → ¬ ((g (o + 5) i) = 4 ∨ (g (o + 5) i) = 5) → zW mX6_callUp X dep bc bs 239 2 [(0, xR o), (1, xR 3), (2, xI (i + 1))] [] (zst g (o + 8) i (-1)) Q)
    (k3 : ¬ ((g 3 0) ≤ i) → (g (o + 5) i) = 4 ∨ (g (o + 5) i) = 5 → zW mX6_callUp X dep bc bs 239 2 [(0, xR o), (1, xR 3), (2, xI (i + 1))] [] (zst (zst (zst g (o + 8) i (-1)) (o + 8) i (zcnt ((zahead g o i)) ((g 3 0)).toNat)) (o + 5) i (if (g (o + 10) (g 4 i)) ≤ (zcnt ((zahead g o i)) ((g 3 0)).toNat) then 4 else 5 : Int)) Q) : zW mX6_callUp X dep bc bs 239 2 [(0, xR o), (1, xR 3), (2, xI i)] [] g Q := by
  refine z_iload_n 2 dX6_callUp_2 rfl ?_
  refine z_aload_n 1 dX6_callUp_3 rfl ?_
  refine z_getI (k := 0) (kz := 0) pk4 dX6_callUp_4 (by decide) zb_155 rfl (zOb.lit (by decide +kernel)) rfl ?_
  refine z_icmp_ge (tgt := 74) dX6_callUp_7 (by decide) (fun c1 => ?_) (fun c1 => ?_)
  ·
    exact z_ret dX6_callUp_74 rfl (k1 c1)
  ·
    refine z_aload_n 0 dX6_callUp_10 rfl ?_
    refine z_getS (v := (o + 8)) (k := 6) (kz := 6) pk6 dX6_callUp_11 (by decide) zb_419 rfl ho.1 rfl ho.2.2.2.2.2.2.2.2.2.2.2.2.2.2.2.2.2.2.2.1 ?_
    refine z_iload_n 2 dX6_callUp_14 rfl ?_
    refine z_iconst dX6_callUp_15 (zi32_d rfl) ?_
    refine z_iast dX6_callUp_16 ho.2.2.2.2.2.2.2.2.1 (show 0 ≤ i ∧ i < 60 from ⟨by omega, by omega⟩).1 (show 0 ≤ i ∧ i < 60 from ⟨by omega, by omega⟩).2 ?_
    refine z_aload_n 0 dX6_callUp_17 rfl ?_
    refine z_iload_n 2 dX6_callUp_18 rfl ?_
    refine z_invF (ci := 6) (N := 13) (as := [xI i]) (st := []) (ra := [xI i]) (dep' := dep - 1) (rs := [xI (zb ((g (o + 5) i) = 4 ∨ (g (o + 5) i) = 5))]) (h' := (zst g (o + 8) i (-1))) (by have e1 : (zst g (o + 8) i (-1)) (o + 5) i = (g (o + 5) i) := (zst_ne (Or.inl (by omega))); have z9 := f_X6_isListed (X := X) (dep := dep - 1) o i (h := (zst g (o + 8) i (-1))) ho (show 0 ≤ i ∧ i < 60 from ⟨by omega, by omega⟩); rw [e1] at z9; exact z9) dX6_callUp_19 nX6_isListed zb_930 zb_931 zb_932 zb_90 ho.1 rfl (by omega) zne_I (Nat.le_of_ble_eq_true rfl) (Nat.le_of_ble_eq_true rfl) rfl ?_
    refine z_ifB_eq (C := (g (o + 5) i) = 4 ∨ (g (o + 5) i) = 5) (tgt := 68) dX6_callUp_22 (by decide) (fun c2 => ?_) (fun c2 => ?_)
    ·
      refine z_iincN (lv' := [(2, xI (i + 1)), (0, xR o), (1, xR 3)]) 2 dX6_callUp_68 rfl (by decide) rfl (show -2147483648 ≤ i + 1 ∧ i + 1 < 2147483648 from ⟨by omega, by omega⟩).1 (show -2147483648 ≤ i + 1 ∧ i + 1 < 2147483648 from ⟨by omega, by omega⟩).2 ?_
      refine z_goto (tgt := 2) dX6_callUp_71 (by decide) ?_
      refine zW.sub (lv' := [(0, xR o), (1, xR 3), (2, xI (i + 1))]) [1, 2, 0] rfl ?_
      exact k2 c1 c2
    ·
      refine z_aload_n 0 dX6_callUp_25 rfl ?_
      refine z_getS (v := (o + 8)) (k := 6) (kz := 6) pk6 dX6_callUp_26 (by decide) zb_419 rfl ho.1 rfl ho.2.2.2.2.2.2.2.2.2.2.2.2.2.2.2.2.2.2.2.1 ?_
      refine z_iload_n 2 dX6_callUp_29 rfl ?_
      refine z_aload_n 0 dX6_callUp_30 rfl ?_
      refine z_aload_n 1 dX6_callUp_31 rfl ?_
      refine z_iload_n 2 dX6_callUp_32 rfl ?_
      refine z_invF (ci := 6) (N := 13) (as := [xR 3, xI i]) (st := [xI i, xR (o + 8)]) (ra := [xI i, xR 3]) (dep' := dep - 1) (rs := [xI (zcnt ((zahead g o i)) ((g 3 0)).toNat)]) (h' := (zst g (o + 8) i (-1))) (by have e1 : zahead (zst g (o + 8) i (-1)) o i = zahead g o i := (((zahead_st g (o + 8) i (-1) o i (by omega)))); have e2 : (zst g (o + 8) i (-1)) 3 0 = (g 3 0) := (zst_ne (Or.inl (by omega))); have z9 := f_X6_countAhead (X := X) (dep := dep - 1) o i (h := (zst g (o + 8) i (-1))) ho (show 0 ≤ i ∧ i < 60 from ⟨by omega, by omega⟩) (by have y1 : (zst g (o + 8) i (-1)) 3 0 = (g 3 0) := (zst_ne (Or.inl (by omega))); simp only [y1]; omega) (by omega); rw [e1, e2] at z9; exact z9) dX6_callUp_33 nX6_countAhead zb_942 zb_944 zb_31 zb_90 ho.1 rfl (by omega) zne_I (Nat.le_of_ble_eq_true rfl) (Nat.le_of_ble_eq_true rfl) rfl ?_
      refine z_iast dX6_callUp_36 ho.2.2.2.2.2.2.2.2.1 (show 0 ≤ i ∧ i < 60 from ⟨by omega, by omega⟩).1 (show 0 ≤ i ∧ i < 60 from ⟨by omega, by omega⟩).2 ?_
      refine z_aload_n 0 dX6_callUp_37 rfl ?_
      refine z_getS (v := (o + 5)) (k := 3) (kz := 3) pk6 dX6_callUp_38 (by decide) zb_414 rfl ho.1 rfl ho.2.2.2.2.2.2.2.2.2.2.2.2.2.2.2.2.1 ?_
      refine z_iload_n 2 dX6_callUp_41 rfl ?_
      refine z_aload_n 0 dX6_callUp_42 rfl ?_
      refine z_getS (v := (o + 8)) (k := 6) (kz := 6) pk6 dX6_callUp_43 (by decide) zb_419 rfl ho.1 rfl ho.2.2.2.2.2.2.2.2.2.2.2.2.2.2.2.2.2.2.2.1 ?_
      refine z_iload_n 2 dX6_callUp_46 rfl ?_
      refine z_ialdV (v := zcnt ((zahead g o i)) ((g 3 0)).toNat) dX6_callUp_47 ho.2.2.2.2.2.2.2.2.1 (show 0 ≤ i ∧ i < 60 from ⟨by omega, by omega⟩).1 (show 0 ≤ i ∧ i < 60 from ⟨by omega, by omega⟩).2 (zst_self _ _ _ _) ?_
      refine z_aload_n 0 dX6_callUp_48 rfl ?_
      refine z_getS (v := (o + 10)) (k := 8) (kz := 8) pk6 dX6_callUp_49 (by decide) zb_422 rfl ho.1 rfl ho.2.2.2.2.2.2.2.2.2.2.2.2.2.2.2.2.2.2.2.2.2.1 ?_
      refine z_aload_n 1 dX6_callUp_52 rfl ?_
      refine z_getS (v := 4) (k := 1) (kz := 1) pk4 dX6_callUp_53 (by decide) zb_158 rfl (zOb.lit (by decide +kernel)) rfl (by decide +kernel) ?_
      refine z_iload_n 2 dX6_callUp_56 rfl ?_
      refine z_ialdV (v := (g 4 i)) dX6_callUp_57 (zOb.lit (by decide +kernel)) (show 0 ≤ i ∧ i < 60 from ⟨by omega, by omega⟩).1 (show 0 ≤ i ∧ i < 60 from ⟨by omega, by omega⟩).2 ((zst_ne (Or.inl (by omega))).trans (zst_ne (Or.inl (by omega)))) ?_
      refine z_ialdV (v := (g (o + 10) (g 4 i))) dX6_callUp_58 ho.2.2.2.2.2.2.2.2.2.2.1 (show 0 ≤ (g 4 i) ∧ (g 4 i) < 8 from ⟨by omega, by omega⟩).1 (show 0 ≤ (g 4 i) ∧ (g 4 i) < 8 from ⟨by omega, by omega⟩).2 ((zst_ne (Or.inl (by omega))).trans (zst_ne (Or.inl (by omega)))) ?_
      suffices KJ : zW mX6_callUp X dep bc bs 239 67 [(0, xR o), (1, xR 3), (2, xI i)] [xI (if (g (o + 10) (g 4 i)) ≤ (zcnt ((zahead g o i)) ((g 3 0)).toNat) then 4 else 5 : Int), xI i, xR (o + 5)] (zst (zst g (o + 8) i (-1)) (o + 8) i (zcnt ((zahead g o i)) ((g 3 0)).toNat)) Q by
        refine z_icmp_ge (tgt := 66) dX6_callUp_59 (by decide) (fun j1 => ?_) (fun j1 => ?_)
        ·
          refine z_iconst dX6_callUp_66 (zi32_d rfl) ?_
          rw [if_pos j1] at KJ
          exact KJ
        ·
          refine z_iconst dX6_callUp_62 (zi32_d rfl) ?_
          refine z_goto (tgt := 67) dX6_callUp_63 (by decide) ?_
          rw [if_neg j1] at KJ
          exact KJ
      refine z_iast dX6_callUp_67 ho.2.2.2.2.2.1 (show 0 ≤ i ∧ i < 60 from ⟨by omega, by omega⟩).1 (show 0 ≤ i ∧ i < 60 from ⟨by omega, by omega⟩).2 ?_
      refine z_iincN (lv' := [(2, xI (i + 1)), (0, xR o), (1, xR 3)]) 2 dX6_callUp_68 rfl (by decide) rfl (show -2147483648 ≤ i + 1 ∧ i + 1 < 2147483648 from ⟨by omega, by omega⟩).1 (show -2147483648 ≤ i + 1 ∧ i + 1 < 2147483648 from ⟨by omega, by omega⟩).2 ?_
      refine z_goto (tgt := 2) dX6_callUp_71 (by decide) ?_
      refine zW.sub (lv' := [(0, xR o), (1, xR 3), (2, xI (i + 1))]) [1, 2, 0] rfl ?_
      exact k3 c1 c2

set_option maxRecDepth 20000 in
theorem bX6_followChains_0 {X : zX} {dep bc bs : Nat} (o : Int) {h : zH} {Q : Nat → zH → List zV → Prop} (ho : zRollO o)
    (k1 : zW mX6_followChains X dep bc bs 239 2 [(0, xR o), (1, xR 3), (2, xI 0)] [] h Q) : zW mX6_followChains X dep bc bs 239 0 [(0, xR o), (1, xR 3)] [] h Q := by
  refine z_iconst dX6_followChains_0 (zi32_d rfl) ?_
  refine z_istore_n (lv' := [(2, xI 0), (0, xR o), (1, xR 3)]) dX6_followChains_1 (by decide) rfl ?_
  refine zW.sub (lv' := [(0, xR o), (1, xR 3), (2, xI 0)]) [1, 2, 0] rfl ?_
  exact k1

set_option maxRecDepth 20000 in
theorem bX6_followChains_2 {X : zX} {dep bc bs : Nat} (o : Int) (i : Int) {g : zH} {Q : Nat → zH → List zV → Prop} (ho : zRollO o) (h3 : 0 ≤ g 3 0 ∧ g 3 0 ≤ 60) (hi : 0 ≤ i)
    (k1 : (g 3 0) ≤ i → zW mX6_followChains X dep bc bs 239 30 [(0, xR o), (1, xR 3)] [] g Q)
    (k2 : ¬ ((g 3 0) ≤ i) → zW mX6_followChains X dep bc bs 239 2 [(0, xR o), (1, xR 3), (2, xI (i + 1))] [] (zst (zst g (o + 12) i (-1)) (o + 13) i 0) Q) : zW mX6_followChains X dep bc bs 239 2 [(0, xR o), (1, xR 3), (2, xI i)] [] g Q := by
  refine z_iload_n 2 dX6_followChains_2 rfl ?_
  refine z_aload_n 1 dX6_followChains_3 rfl ?_
  refine z_getI (k := 0) (kz := 0) pk4 dX6_followChains_4 (by decide) zb_155 rfl (zOb.lit (by decide +kernel)) rfl ?_
  refine z_icmp_ge (tgt := 30) dX6_followChains_7 (by decide) (fun c1 => ?_) (fun c1 => ?_)
  ·
    refine zW.sub (lv' := [(0, xR o), (1, xR 3)]) [0, 1] rfl ?_
    exact k1 c1
  ·
    refine z_aload_n 0 dX6_followChains_10 rfl ?_
    refine z_getS (v := (o + 12)) (k := 11) (kz := 11) pk6 dX6_followChains_11 (by decide) zb_428 rfl ho.1 rfl ho.2.2.2.2.2.2.2.2.2.2.2.2.2.2.2.2.2.2.2.2.2.2.2.1 ?_
    refine z_iload_n 2 dX6_followChains_14 rfl ?_
    refine z_iconst dX6_followChains_15 (zi32_d rfl) ?_
    refine z_iast dX6_followChains_16 ho.2.2.2.2.2.2.2.2.2.2.2.2.1 (show 0 ≤ i ∧ i < 60 from ⟨by omega, by omega⟩).1 (show 0 ≤ i ∧ i < 60 from ⟨by omega, by omega⟩).2 ?_
    refine z_aload_n 0 dX6_followChains_17 rfl ?_
    refine z_getS (v := (o + 13)) (k := 12) (kz := 12) pk6 dX6_followChains_18 (by decide) zb_429 rfl ho.1 rfl ho.2.2.2.2.2.2.2.2.2.2.2.2.2.2.2.2.2.2.2.2.2.2.2.2.1 ?_
    refine z_iload_n 2 dX6_followChains_21 rfl ?_
    refine z_iconst dX6_followChains_22 (zi32_d rfl) ?_
    refine z_zast dX6_followChains_23 ho.2.2.2.2.2.2.2.2.2.2.2.2.2.1 (show 0 ≤ i ∧ i < 60 from ⟨by omega, by omega⟩).1 (show 0 ≤ i ∧ i < 60 from ⟨by omega, by omega⟩).2 (Or.inl rfl) ?_
    refine z_iincN (lv' := [(2, xI (i + 1)), (0, xR o), (1, xR 3)]) 2 dX6_followChains_24 rfl (by decide) rfl (show -2147483648 ≤ i + 1 ∧ i + 1 < 2147483648 from ⟨by omega, by omega⟩).1 (show -2147483648 ≤ i + 1 ∧ i + 1 < 2147483648 from ⟨by omega, by omega⟩).2 ?_
    refine z_goto (tgt := 2) dX6_followChains_27 (by decide) ?_
    refine zW.sub (lv' := [(0, xR o), (1, xR 3), (2, xI (i + 1))]) [1, 2, 0] rfl ?_
    exact k2 c1

set_option maxRecDepth 20000 in
theorem bX6_followChains_30 {X : zX} {dep bc bs : Nat} (o : Int) {g : zH} {Q : Nat → zH → List zV → Prop} (ho : zRollO o) (hN : 0 ≤ g 15 2 ∧ g 15 2 ≤ 60) (hdep : 2 ≤ dep)
    (k1 : zW mX6_followChains X dep bc bs 239 47 [(0, xR o), (1, xR 3), (2, xR 15), (3, xI (zknown g 15 (g 3 9))), (4, xI 0)] [] g Q) : zW mX6_followChains X dep bc bs 239 30 [(0, xR o), (1, xR 3)] [] g Q := by
  refine z_aload_n 1 dX6_followChains_30 rfl ?_
  refine z_getS (v := 15) (k := 8) (kz := 8) pk4 dX6_followChains_31 (by decide) zb_173 rfl (zOb.lit (by decide +kernel)) rfl (by decide +kernel) ?_
  refine z_astore_n (lv' := [(2, xR 15), (0, xR o), (1, xR 3)]) dX6_followChains_34 (by decide) rfl ?_
  refine z_aload_n 0 dX6_followChains_35 rfl ?_
  refine z_aload_n 2 dX6_followChains_36 rfl ?_
  refine z_getI (k := 9) (kz := 9) pk4 dX6_followChains_37 (by decide) zb_176 rfl (zOb.lit (by decide +kernel)) rfl ?_
  refine z_invF (ci := 2) (N := 3) (as := [xI (g 3 9)]) (st := []) (ra := [xI (g 3 9)]) (dep' := dep - 1) (rs := [xI (zknown g 15 (g 3 9))]) (h' := g) (f_X2_knownBy 15 (g 3 9) (h := g) zLedO_15 (show 0 ≤ g 15 2 ∧ g 15 2 ≤ 240 ∧ 6 * g 15 2 ≤ 360 ∧ 360 ≤ 1440 from ⟨by omega, by omega, by omega, by omega⟩) (by omega)) dX6_followChains_40 nX2_knownBy zb_892 zb_826 zb_827 zb_85 (zOb.lit (by decide +kernel)) rfl (by omega) zne_I (Nat.le_of_ble_eq_true rfl) (Nat.le_of_ble_eq_true rfl) rfl ?_
  refine z_istore_n (lv' := [(3, xI (zknown g 15 (g 3 9))), (2, xR 15), (0, xR o), (1, xR 3)]) dX6_followChains_43 (by decide) rfl ?_
  refine z_iconst dX6_followChains_44 (zi32_d rfl) ?_
  refine z_istore (lv' := [(4, xI 0), (3, xI (zknown g 15 (g 3 9))), (2, xR 15), (0, xR o), (1, xR 3)]) dX6_followChains_45 (by decide) rfl ?_
  refine zW.sub (lv' := [(0, xR o), (1, xR 3), (2, xR 15), (3, xI (zknown g 15 (g 3 9))), (4, xI 0)]) [3, 4, 2, 1, 0] rfl ?_
  exact k1

set_option maxRecDepth 20000 in
theorem bX6_followChains_47 {X : zX} {dep bc bs : Nat} (o : Int) (n : Int) (r : Int) {g : zH} {Q : Nat → zH → List zV → Prop} (ho : zRollO o) (hb : 113 ≤ o ∧ o ≤ 155) (hN : 0 ≤ g 15 2 ∧ g 15 2 ≤ 60) (hr : 0 ≤ r) (hn : n ≤ g 15 2) (hs : r < n → (0 ≤ zget g 15 r 2 ∧ zget g 15 r 2 < 60) ∧ 0 ≤ zget g 15 r 3 ∧ zget g 15 r 3 < 60) (hdep : 1 ≤ dep)
    (k1 : n ≤ r → zW mX6_followChains X dep bc bs 239 105 [(0, xR o), (1, xR 3)] [] g Q)
    (k2 : ¬ (n ≤ r) → ¬ (zget g 15 r 1) = (g o 0) → zW mX6_followChains X dep bc bs 239 47 [(0, xR o), (1, xR 3), (2, xR 15), (3, xI n), (4, xI (r + 1))] [] g Q)
    (k3 : ¬ (n ≤ r) → (zget g 15 r 1) = (g o 0) → zW mX6_followChains X dep bc bs 239 47 [(0, xR o), (1, xR 3), (2, xR 15), (3, xI n), (4, xI (r + 1))] [] (zst (zst g (o + 12) (zget g 15 r 2) (zget g 15 r 3)) (o + 13) (zget g 15 r 3) 1) Q) : zW mX6_followChains X dep bc bs 239 47 [(0, xR o), (1, xR 3), (2, xR 15), (3, xI n), (4, xI r)] [] g Q := by
  refine z_iload 4 dX6_followChains_47 rfl ?_
  refine z_iload_n 3 dX6_followChains_49 rfl ?_
  refine z_icmp_ge (tgt := 105) dX6_followChains_50 (by decide) (fun c1 => ?_) (fun c1 => ?_)
  ·
    refine zW.sub (lv' := [(0, xR o), (1, xR 3)]) [0, 1] rfl ?_
    exact k1 c1
  ·
    refine z_aload_n 2 dX6_followChains_53 rfl ?_
    refine z_iload 4 dX6_followChains_54 rfl ?_
    refine z_iconst dX6_followChains_56 (zi32_d rfl) ?_
    refine z_invF (ci := 2) (N := 3) (as := [xI r, xI 1]) (st := []) (ra := [xI 1, xI r]) (dep' := dep - 1) (rs := [xI (zget g 15 r 1)]) (h' := g) (f_X2_get 15 r 1 (h := g) zLedO_15 (show 0 ≤ g 15 2 ∧ g 15 2 ≤ 240 ∧ 6 * g 15 2 ≤ 360 ∧ 360 ≤ 1440 from ⟨by omega, by omega, by omega, by omega⟩)) dX6_followChains_57 nX2_get zb_893 zb_830 zb_831 zb_85 (zOb.lit (by decide +kernel)) rfl (by omega) zne_I (Nat.le_of_ble_eq_true rfl) (Nat.le_of_ble_eq_true rfl) rfl ?_
    refine z_aload_n 0 dX6_followChains_60 rfl ?_
    refine z_getI (k := 0) (kz := 0) pk6 dX6_followChains_61 (by decide) zb_410 rfl ho.1 rfl ?_
    refine z_icmp_ne (tgt := 99) dX6_followChains_64 (by decide) (fun c2 => ?_) (fun c2 => ?_)
    ·
      refine z_iincN (lv' := [(4, xI (r + 1)), (0, xR o), (1, xR 3), (2, xR 15), (3, xI n)]) 4 dX6_followChains_99 rfl (by decide) rfl (show -2147483648 ≤ r + 1 ∧ r + 1 < 2147483648 from ⟨by omega, by omega⟩).1 (show -2147483648 ≤ r + 1 ∧ r + 1 < 2147483648 from ⟨by omega, by omega⟩).2 ?_
      refine z_goto (tgt := 47) dX6_followChains_102 (by decide) ?_
      refine zW.sub (lv' := [(0, xR o), (1, xR 3), (2, xR 15), (3, xI n), (4, xI (r + 1))]) [1, 2, 3, 4, 0] rfl ?_
      exact k2 c1 c2
    ·
      refine z_aload_n 0 dX6_followChains_67 rfl ?_
      refine z_getS (v := (o + 12)) (k := 11) (kz := 11) pk6 dX6_followChains_68 (by decide) zb_428 rfl ho.1 rfl ho.2.2.2.2.2.2.2.2.2.2.2.2.2.2.2.2.2.2.2.2.2.2.2.1 ?_
      refine z_aload_n 2 dX6_followChains_71 rfl ?_
      refine z_iload 4 dX6_followChains_72 rfl ?_
      refine z_iconst dX6_followChains_74 (zi32_d rfl) ?_
      refine z_invF (ci := 2) (N := 3) (as := [xI r, xI 2]) (st := [xR (o + 12)]) (ra := [xI 2, xI r]) (dep' := dep - 1) (rs := [xI (zget g 15 r 2)]) (h' := g) (f_X2_get 15 r 2 (h := g) zLedO_15 (show 0 ≤ g 15 2 ∧ g 15 2 ≤ 240 ∧ 6 * g 15 2 ≤ 360 ∧ 360 ≤ 1440 from ⟨by omega, by omega, by omega, by omega⟩)) dX6_followChains_75 nX2_get zb_893 zb_830 zb_831 zb_85 (zOb.lit (by decide +kernel)) rfl (by omega) zne_I (Nat.le_of_ble_eq_true rfl) (Nat.le_of_ble_eq_true rfl) rfl ?_
      refine z_aload_n 2 dX6_followChains_78 rfl ?_
      refine z_iload 4 dX6_followChains_79 rfl ?_
      refine z_iconst dX6_followChains_81 (zi32_d rfl) ?_
      refine z_invF (ci := 2) (N := 3) (as := [xI r, xI 3]) (st := [xI (zget g 15 r 2), xR (o + 12)]) (ra := [xI 3, xI r]) (dep' := dep - 1) (rs := [xI (zget g 15 r 3)]) (h' := g) (f_X2_get 15 r 3 (h := g) zLedO_15 (show 0 ≤ g 15 2 ∧ g 15 2 ≤ 240 ∧ 6 * g 15 2 ≤ 360 ∧ 360 ≤ 1440 from ⟨by omega, by omega, by omega, by omega⟩)) dX6_followChains_82 nX2_get zb_893 zb_830 zb_831 zb_85 (zOb.lit (by decide +kernel)) rfl (by omega) zne_I (Nat.le_of_ble_eq_true rfl) (Nat.le_of_ble_eq_true rfl) rfl ?_
      refine z_iast dX6_followChains_85 ho.2.2.2.2.2.2.2.2.2.2.2.2.1 (show 0 ≤ zget g 15 r 2 ∧ zget g 15 r 2 < 60 from ⟨by omega, by omega⟩).1 (show 0 ≤ zget g 15 r 2 ∧ zget g 15 r 2 < 60 from ⟨by omega, by omega⟩).2 ?_
      refine z_aload_n 0 dX6_followChains_86 rfl ?_
      refine z_getS (v := (o + 13)) (k := 12) (kz := 12) pk6 dX6_followChains_87 (by decide) zb_429 rfl ho.1 rfl ho.2.2.2.2.2.2.2.2.2.2.2.2.2.2.2.2.2.2.2.2.2.2.2.2.1 ?_
      refine z_aload_n 2 dX6_followChains_90 rfl ?_
      refine z_iload 4 dX6_followChains_91 rfl ?_
      refine z_iconst dX6_followChains_93 (zi32_d rfl) ?_
      refine z_invF (ci := 2) (N := 3) (as := [xI r, xI 3]) (st := [xR (o + 13)]) (ra := [xI 3, xI r]) (dep' := dep - 1) (rs := [xI (zget g 15 r 3)]) (h' := (zst g (o + 12) (zget g 15 r 2) (zget g 15 r 3))) (by have e1 : zget (zst g (o + 12) (zget g 15 r 2) (zget g 15 r 3)) 15 r 3 = zget g 15 r 3 := (((zget_st g (o + 12) (zget g 15 r 2) (zget g 15 r 3) 15 r 3 (by omega)))); have z9 := f_X2_get (X := X) (dep := dep - 1) 15 r 3 (h := (zst g (o + 12) (zget g 15 r 2) (zget g 15 r 3))) zLedO_15 (by have y1 : (zst g (o + 12) (zget g 15 r 2) (zget g 15 r 3)) 15 2 = (g 15 2) := (zst_ne (Or.inl (by omega))); simp only [y1]; omega); rw [e1] at z9; exact z9) dX6_followChains_94 nX2_get zb_893 zb_830 zb_831 zb_85 (zOb.lit (by decide +kernel)) rfl (by omega) zne_I (Nat.le_of_ble_eq_true rfl) (Nat.le_of_ble_eq_true rfl) rfl ?_
      refine z_iconst dX6_followChains_97 (zi32_d rfl) ?_
      refine z_zast dX6_followChains_98 ho.2.2.2.2.2.2.2.2.2.2.2.2.2.1 (show 0 ≤ (zget g 15 r 3) ∧ (zget g 15 r 3) < 60 from ⟨by omega, by omega⟩).1 (show 0 ≤ (zget g 15 r 3) ∧ (zget g 15 r 3) < 60 from ⟨by omega, by omega⟩).2 (Or.inr rfl) ?_
      refine z_iincN (lv' := [(4, xI (r + 1)), (0, xR o), (1, xR 3), (2, xR 15), (3, xI n)]) 4 dX6_followChains_99 rfl (by decide) rfl (show -2147483648 ≤ r + 1 ∧ r + 1 < 2147483648 from ⟨by omega, by omega⟩).1 (show -2147483648 ≤ r + 1 ∧ r + 1 < 2147483648 from ⟨by omega, by omega⟩).2 ?_
      refine z_goto (tgt := 47) dX6_followChains_102 (by decide) ?_
      refine zW.sub (lv' := [(0, xR o), (1, xR 3), (2, xR 15), (3, xI n), (4, xI (r + 1))]) [1, 2, 3, 4, 0] rfl ?_
      exact k3 c1 c2

set_option maxRecDepth 20000 in
theorem bX6_followChains_105 {X : zX} {dep bc bs : Nat} (o : Int) {g : zH} {Q : Nat → zH → List zV → Prop} (ho : zRollO o)
    (k1 : zW mX6_followChains X dep bc bs 239 108 [(0, xR o), (1, xR 3), (4, xI 0)] [] g Q) : zW mX6_followChains X dep bc bs 239 105 [(0, xR o), (1, xR 3)] [] g Q := by
  refine z_iconst dX6_followChains_105 (zi32_d rfl) ?_
  refine z_istore (lv' := [(4, xI 0), (0, xR o), (1, xR 3)]) dX6_followChains_106 (by decide) rfl ?_
  refine zW.sub (lv' := [(0, xR o), (1, xR 3), (4, xI 0)]) [1, 2, 0] rfl ?_
  exact k1

set_option maxRecDepth 20000 in
theorem bX6_followChains_108 {X : zX} {dep bc bs : Nat} (o : Int) (i : Int) {g : zH} {Q : Nat → zH → List zV → Prop} (ho : zRollO o) (h3 : 0 ≤ g 3 0 ∧ g 3 0 ≤ 60) (hi : 0 ≤ i) (hs : ∀ q : Int, 0 ≤ q → q < 60 → -1 ≤ g (o + 12) q ∧ g (o + 12) q < 60) (hc : i < g 3 0 → 0 ≤ zchain g (o + 12) 60 i ∧ zchain g (o + 12) 60 i < 60) (hdep : 1 ≤ dep)
    (k1 : (g 3 0) ≤ i → Q 239 g [])
    (k2 : ¬ ((g 3 0) ≤ i) → ¬ (g (o + 5) i) = 5 → zW mX6_followChains X dep bc bs 239 108 [(0, xR o), (1, xR 3), (4, xI (i + 1))] [] g Q)
    (k3 : ¬ ((g 3 0) ≤ i) → (g (o + 5) i) = 5 → zW mX6_followChains X dep bc bs 239 108 [(0, xR o), (1, xR 3), (4, xI (i + 1))] [] (zst g 23 (zchain g (o + 12) 60 i) 1) Q) : zW mX6_followChains X dep bc bs 239 108 [(0, xR o), (1, xR 3), (4, xI i)] [] g Q := by
  refine z_iload 2 dX6_followChains_108 rfl ?_
  refine z_aload_n 1 dX6_followChains_110 rfl ?_
  refine z_getI (k := 0) (kz := 0) pk4 dX6_followChains_111 (by decide) zb_155 rfl (zOb.lit (by decide +kernel)) rfl ?_
  refine z_icmp_ge (tgt := 146) dX6_followChains_114 (by decide) (fun c1 => ?_) (fun c1 => ?_)
  ·
    exact z_ret dX6_followChains_146 rfl (k1 c1)
  ·
    refine z_aload_n 0 dX6_followChains_117 rfl ?_
    refine z_getS (v := (o + 5)) (k := 3) (kz := 3) pk6 dX6_followChains_118 (by decide) zb_414 rfl ho.1 rfl ho.2.2.2.2.2.2.2.2.2.2.2.2.2.2.2.2.1 ?_
    refine z_iload 2 dX6_followChains_121 rfl ?_
    refine z_iald dX6_followChains_123 ho.2.2.2.2.2.1 (show 0 ≤ i ∧ i < 60 from ⟨by omega, by omega⟩).1 (show 0 ≤ i ∧ i < 60 from ⟨by omega, by omega⟩).2 ?_
    refine z_iconst dX6_followChains_124 (zi32_d rfl) ?_
    refine z_icmp_ne (tgt := 140) dX6_followChains_125 (by decide) (fun c2 => ?_) (fun c2 => ?_)
    ·
      refine z_iincN (lv' := [(4, xI (i + 1)), (0, xR o), (1, xR 3)]) 2 dX6_followChains_140 rfl (by decide) rfl (show -2147483648 ≤ i + 1 ∧ i + 1 < 2147483648 from ⟨by omega, by omega⟩).1 (show -2147483648 ≤ i + 1 ∧ i + 1 < 2147483648 from ⟨by omega, by omega⟩).2 ?_
      refine z_goto (tgt := 108) dX6_followChains_143 (by decide) ?_
      refine zW.sub (lv' := [(0, xR o), (1, xR 3), (4, xI (i + 1))]) [1, 2, 0] rfl ?_
      exact k2 c1 c2
    ·
      refine z_aload_n 1 dX6_followChains_128 rfl ?_
      refine z_getS (v := 23) (k := 16) (kz := 16) pk4 dX6_followChains_129 (by decide) zb_190 rfl (zOb.lit (by decide +kernel)) rfl (by decide +kernel) ?_
      refine z_aload_n 0 dX6_followChains_132 rfl ?_
      refine z_iload 2 dX6_followChains_133 rfl ?_
      refine z_invF (ci := 6) (N := 13) (as := [xI i]) (st := [xR 23]) (ra := [xI i]) (dep' := dep - 1) (rs := [xI (zchain g (o + 12) 60 i)]) (h' := g) (f_X6_endOfChain o i (h := g) ho (by omega) hs) dX6_followChains_135 nX6_endOfChain zb_950 zb_951 zb_952 zb_90 ho.1 rfl (by omega) zne_I (Nat.le_of_ble_eq_true rfl) (Nat.le_of_ble_eq_true rfl) rfl ?_
      refine z_iconst dX6_followChains_138 (zi32_d rfl) ?_
      refine z_zast dX6_followChains_139 (zOb.lit (by decide +kernel)) (show 0 ≤ (zchain g (o + 12) 60 i) ∧ (zchain g (o + 12) 60 i) < 60 from ⟨by omega, by omega⟩).1 (show 0 ≤ (zchain g (o + 12) 60 i) ∧ (zchain g (o + 12) 60 i) < 60 from ⟨by omega, by omega⟩).2 (Or.inr rfl) ?_
      refine z_iincN (lv' := [(4, xI (i + 1)), (0, xR o), (1, xR 3)]) 2 dX6_followChains_140 rfl (by decide) rfl (show -2147483648 ≤ i + 1 ∧ i + 1 < 2147483648 from ⟨by omega, by omega⟩).1 (show -2147483648 ≤ i + 1 ∧ i + 1 < 2147483648 from ⟨by omega, by omega⟩).2 ?_
      refine z_goto (tgt := 108) dX6_followChains_143 (by decide) ?_
      refine zW.sub (lv' := [(0, xR o), (1, xR 3), (4, xI (i + 1))]) [1, 2, 0] rfl ?_
      exact k3 c1 c2

/-- the place of a listed man, and his state when all are called -/
noncomputable def zplc (h : zH) (o i : Int) : Int := if zli h o i then zcnt (zahead h o i) (h 3 0).toNat else -1
noncomputable def zsta (h : zH) (o i : Int) : Int := if zli h o i then (if h (o + 10) (h 4 i) ≤ zcnt (zahead h o i) (h 3 0).toNat then 4 else 5) else h (o + 5) i
theorem zsta_li (h : zH) (o i : Int) : (zsta h o i = 4 ∨ zsta h o i = 5) ↔ zli h o i := by
  unfold zsta
  by_cases c : zli h o i
  · rw [if_pos c]
    refine ⟨fun _ => c, fun _ => ?_⟩
    split
    · exact Or.inl rfl
    · exact Or.inr rfl
  · rw [if_neg c]
theorem zahead_eq {h g : zH} {o : Int} (h5 : ∀ k : Int, zli g o k ↔ zli h o k) (h4 : ∀ k : Int, g 4 k = h 4 k) (h7 : ∀ k : Int, g (o + 7) k = h (o + 7) k) (m : Int) : zahead g o m = zahead h o m := by
  funext i
  unfold zahead
  have := h5 i
  unfold zli at this
  rw [h4, h4, h7, h7, propext this]
def zCu (h : zH) (o : Int) (j : Int) (g : zH) : Prop := zap (fun q => q = o + 5 ∨ q = o + 8) h g ∧ (∀ i : Int, 0 ≤ i → i < j → g (o + 8) i = zplc h o i ∧ g (o + 5) i = zsta h o i) ∧ ∀ i : Int, i < 0 ∨ j ≤ i → g (o + 8) i = h (o + 8) i ∧ g (o + 5) i = h (o + 5) i
theorem zCu.li {h g : zH} {o j : Int} (a : zCu h o j g) (k : Int) : zli g o k ↔ zli h o k := by
  by_cases c : 0 ≤ k ∧ k < j
  · have := (a.2.1 k c.1 c.2).2
    rw [← zsta_li h o k, ← this]
  · have := (a.2.2 k (by omega)).2
    unfold zli
    rw [this]
theorem zCu.step {h g : zH} {o : Int} {j : Nat} (a : zCu h o j g) {f : zH} (hf : zap (fun q => q = o + 5 ∨ q = o + 8) g f) (h8 : f (o + 8) j = zplc h o j) (h5 : f (o + 5) j = zsta h o j) (hn : ∀ i : Int, i ≠ j → f (o + 8) i = g (o + 8) i ∧ f (o + 5) i = g (o + 5) i) : zCu h o ((j : Int) + 1) f :=
  ⟨a.1.tr hf, fun i i0 i1 => by
    by_cases d : i = j
    · rw [d]; exact ⟨h8, h5⟩
    · have := hn i d
      rw [this.1, this.2]
      exact a.2.1 i i0 (by omega), fun i i0 => by
    have := hn i (by omega)
    rw [this.1, this.2]
    exact a.2.2 i (by omega)⟩
theorem l_X6_callUp {X : zX} {dep : Nat} (o : Int) {h : zH} (ho : zRollO o) (hb : 113 ≤ o ∧ o ≤ 155) (h3 : 0 ≤ h 3 0 ∧ h 3 0 ≤ 60) (hp : ∀ i : Int, 0 ≤ i → i < h 3 0 → 0 ≤ h 4 i ∧ h 4 i < 8) (hdep : 2 ≤ dep) :
    ∀ (k j : Nat) (g : zH), (j : Int) + k = h 3 0 → zCu h o j g → zW mX6_callUp X dep 0 0 239 2 [(0, xR o), (1, xR 3), (2, xI j)] [] g (zQ0 (zCu h o (h 3 0))) := by
  intro k
  induction k with
  | zero =>
    intro j g hk a
    have e3 := a.1 3 0 (by omega)
    refine bX6_callUp_2 o j ho hb (by rw [e3]; exact h3) (by omega) (fun z => by omega) hdep ?_ ?_ ?_
    · intro c
      rw [show h 3 0 = (j : Int) by omega]
      exact ⟨rfl, rfl, a⟩
    all_goals intros; exfalso; omega
  | succ k ih =>
    intro j g hk a
    have e3 := a.1 3 0 (by omega)
    have e4 := a.1 4 j (by omega)
    have e10 := fun p => a.1 (o + 10) p (by omega)
    have ea := zahead_eq (fun k => a.li k) (fun k => a.1 4 k (by omega)) (fun k => a.1 (o + 7) k (by omega)) (j : Int)
    have hpj := hp j (by omega) (by omega)
    have aj := (a.2.2 j (by omega)).2
    have ih1 := fun (f : zH) (hf : zCu h o ((j : Int) + 1) f) => ih (j + 1) f (by omega) (show zCu h o ((j + 1 : Nat) : Int) f by rw [show ((j + 1 : Nat) : Int) = (j : Int) + 1 by omega]; exact hf)
    rw [show ((j + 1 : Nat) : Int) = (j : Int) + 1 by omega] at ih1
    refine bX6_callUp_2 o j ho hb (by rw [e3]; exact h3) (by omega) (fun z => by rw [e4]; exact hpj) hdep ?_ ?_ ?_
    · intros; exfalso; omega
    · intro c c1
      have c2 : ¬ zli h o j := fun z => c1 ((a.li j).mpr z)
      refine ih1 _ (a.step ((zap.rf _ g).st (Or.inr rfl) _ _) ?_ ?_ fun i hi => ?_)
      · rw [zst_self]
        unfold zplc
        rw [if_neg c2]
      · rw [zst_ne (Or.inl (by omega)), aj]
        unfold zsta
        rw [if_neg c2]
      · rw [zst_ne (Or.inr hi), zst_ne (Or.inl (by omega))]
        exact ⟨rfl, rfl⟩
    · intro c c1
      have c2 : zli h o j := (a.li j).mp c1
      rw [ea, e3, e4, e10]
      refine ih1 _ (a.step ((((zap.rf _ g).st (Or.inr rfl) _ _).st (Or.inr rfl) _ _).st (Or.inl rfl) _ _) ?_ ?_ fun i hi => ?_)
      · rw [zst_ne (Or.inl (by omega)), zst_self]
        unfold zplc
        rw [if_pos c2]
      · rw [zst_self]
        unfold zsta
        rw [if_pos c2]
      · rw [zst_ne (Or.inl (by omega)), zst_ne (Or.inr hi), zst_ne (Or.inr hi), zst_ne (o' := o + 5) (o := o + 5) (Or.inr hi), zst_ne (Or.inl (by omega)), zst_ne (Or.inl (by omega))]
        exact ⟨rfl, rfl⟩
theorem f_X6_callUp {X : zX} {dep : Nat} (o : Int) {h : zH} (ho : zRollO o) (hb : 113 ≤ o ∧ o ≤ 155) (h3 : 0 ≤ h 3 0 ∧ h 3 0 ≤ 60) (hp : ∀ i : Int, 0 ≤ i → i < h 3 0 → 0 ≤ h 4 i ∧ h 4 i < 8) (hdep : 2 ≤ dep) :
    zW mX6_callUp X dep 0 0 239 0 (zar 0 [xR o, xR 3]) [] h (zQ0 (zCu h o (h 3 0))) := by
  refine bX6_callUp_0 o ho ?_
  exact l_X6_callUp o ho hb h3 hp hdep (h 3 0).toNat 0 h (by omega) ⟨zap.rf _ h, fun i i0 i1 => by omega, fun i _ => ⟨rfl, rfl⟩⟩
/-- who is sent by whom, by the first rows told; who was sent -/
def zse (h : zH) (num : Int) : Nat → Int → Int
  | 0, _ => -1
  | r + 1, m => if zget h 15 r 1 = num ∧ zget h 15 r 2 = m then zget h 15 r 3 else zse h num r m
def zwse (h : zH) (num : Int) : Nat → Int → Int
  | 0, _ => 0
  | r + 1, m => if zget h 15 r 1 = num ∧ zget h 15 r 3 = m then 1 else zwse h num r m
def zSendOK (h : zH) : Prop := (0 ≤ h 15 2 ∧ h 15 2 ≤ 60) ∧ ∀ r : Int, 0 ≤ r → r < h 15 2 → (0 ≤ zget h 15 r 2 ∧ zget h 15 r 2 < h 3 0) ∧ 0 ≤ zget h 15 r 3 ∧ zget h 15 r 3 < h 3 0
theorem zse_in {h : zH} {num : Int} (hs : zSendOK h) (h3 : h 3 0 ≤ 60) : ∀ (r : Nat), (r : Int) ≤ h 15 2 → ∀ m, -1 ≤ zse h num r m ∧ zse h num r m < 60
  | 0, _, m => by unfold zse; omega
  | r + 1, hr, m => by
    have i1 := zse_in (num := num) hs h3 r (by omega) m
    have i2 := hs.2 r (by omega) (by omega)
    unfold zse
    split <;> omega
/-- what following has changed so far -/
abbrev zFS (o : Int) : Int → Prop := fun q => q = o + 12 ∨ q = o + 13 ∨ q = 23
theorem l_X6_followChains_2 {X : zX} {dep : Nat} {Q : Nat → zH → List zV → Prop} (o : Int) {h : zH} (ho : zRollO o) (hb : 113 ≤ o ∧ o ≤ 155) (h3 : 0 ≤ h 3 0 ∧ h 3 0 ≤ 60)
    (K : ∀ g : zH, zap (zFS o) h g → (∀ k, g 23 k = h 23 k) → (∀ i : Int, 0 ≤ i → i < h 3 0 → g (o + 12) i = -1 ∧ g (o + 13) i = 0) → (∀ i : Int, i < 0 ∨ h 3 0 ≤ i → g (o + 12) i = h (o + 12) i ∧ g (o + 13) i = h (o + 13) i) → zW mX6_followChains X dep 0 0 239 30 [(0, xR o), (1, xR 3)] [] g Q) :
    ∀ (k j : Nat) (g : zH), (j : Int) + k = h 3 0 → zap (zFS o) h g → (∀ k, g 23 k = h 23 k) → (∀ i : Int, 0 ≤ i → i < j → g (o + 12) i = -1 ∧ g (o + 13) i = 0) → (∀ i : Int, i < 0 ∨ (j : Int) ≤ i → g (o + 12) i = h (o + 12) i ∧ g (o + 13) i = h (o + 13) i) → zW mX6_followChains X dep 0 0 239 2 [(0, xR o), (1, xR 3), (2, xI j)] [] g Q := by
  intro k
  induction k with
  | zero =>
    intro j g hk a hv h1 h2
    have e3 := a 3 0 (by simp only [zFS]; omega)
    refine bX6_followChains_2 o j ho (by rw [e3]; exact h3) (by omega) ?_ ?_
    · intro c
      rw [show h 3 0 = (j : Int) by omega] at K
      exact K g a hv h1 h2
    · intros; exfalso; omega
  | succ k ih =>
    intro j g hk a hv h1 h2
    have e3 := a 3 0 (by simp only [zFS]; omega)
    refine bX6_followChains_2 o j ho (by rw [e3]; exact h3) (by omega) ?_ ?_
    · intros; exfalso; omega
    · intro c
      have ih1 := ih (j + 1) (zst (zst g (o + 12) j (-1)) (o + 13) j 0) (by omega) ((a.st (Or.inl rfl) _ _).st (Or.inr (Or.inl rfl)) _ _) (fun k => by rw [zst_ne (Or.inl (by omega)), zst_ne (Or.inl (by omega))]; exact hv k) (fun i i0 i1 => by
        by_cases d : i = j
        · rw [d, zst_self, zst_ne (Or.inl (by omega)), zst_self]
          exact ⟨rfl, rfl⟩
        · rw [zst_ne (o' := o + 13) (o := o + 13) (Or.inr d), zst_ne (o' := o + 12) (o := o + 13) (Or.inl (by omega)), zst_ne (o' := o + 13) (o := o + 12) (Or.inl (by omega)), zst_ne (o' := o + 12) (o := o + 12) (Or.inr d)]
          exact h1 i i0 (by omega)) (fun i i0 => by
        have d : i ≠ j := by omega
        rw [zst_ne (o' := o + 13) (o := o + 13) (Or.inr d), zst_ne (o' := o + 12) (o := o + 13) (Or.inl (by omega)), zst_ne (o' := o + 13) (o := o + 12) (Or.inl (by omega)), zst_ne (o' := o + 12) (o := o + 12) (Or.inr d)]
        exact h2 i (by omega))
      rw [show ((j + 1 : Nat) : Int) = (j : Int) + 1 by omega] at ih1
      exact ih1
theorem l_X6_followChains_47 {X : zX} {dep : Nat} {Q : Nat → zH → List zV → Prop} (o : Int) {h : zH} (ho : zRollO o) (hb : 113 ≤ o ∧ o ≤ 155) (h3 : 0 ≤ h 3 0 ∧ h 3 0 ≤ 60) (hS : zSendOK h) (hdep : 1 ≤ dep) (n : Nat) (hn : (n : Int) ≤ h 15 2)
    (K : ∀ g : zH, zap (zFS o) h g → (∀ k, g 23 k = h 23 k) → (∀ i : Int, 0 ≤ i → i < h 3 0 → g (o + 12) i = zse h (h o 0) n i ∧ g (o + 13) i = zwse h (h o 0) n i) → (∀ i : Int, i < 0 ∨ h 3 0 ≤ i → g (o + 12) i = h (o + 12) i ∧ g (o + 13) i = h (o + 13) i) → zW mX6_followChains X dep 0 0 239 105 [(0, xR o), (1, xR 3)] [] g Q) :
    ∀ (k j : Nat) (g : zH), j + k = n → zap (zFS o) h g → (∀ k, g 23 k = h 23 k) → (∀ i : Int, 0 ≤ i → i < h 3 0 → g (o + 12) i = zse h (h o 0) j i ∧ g (o + 13) i = zwse h (h o 0) j i) → (∀ i : Int, i < 0 ∨ h 3 0 ≤ i → g (o + 12) i = h (o + 12) i ∧ g (o + 13) i = h (o + 13) i) → zW mX6_followChains X dep 0 0 239 47 [(0, xR o), (1, xR 3), (2, xR 15), (3, xI n), (4, xI j)] [] g Q := by
  intro k
  induction k with
  | zero =>
    intro j g hk a hv h1 h2
    have e15 := a 15 2 (by simp only [zFS]; omega)
    obtain rfl : j = n := by omega
    refine bX6_followChains_47 o j j ho hb (by rw [e15]; exact hS.1) (by omega) (by omega) (fun z => by omega) hdep ?_ ?_ ?_
    · intro c
      exact K g a hv h1 h2
    all_goals intros; exfalso; omega
  | succ k ih =>
    intro j g hk a hv h1 h2
    have e15 := a 15 2 (by simp only [zFS]; omega)
    have eo := a o 0 (by simp only [zFS]; omega)
    have eg := fun c => zget_ap a (o := 15) (r := j) (c := c) (by simp only [zFS]; omega) (by simp only [zFS]; omega)
    have sj := hS.2 j (by omega) (by omega)
    refine bX6_followChains_47 o n j ho hb (by rw [e15]; exact hS.1) (by omega) (by omega) (fun z => by rw [eg, eg]; omega) hdep ?_ ?_ ?_
    · intros; exfalso; omega
    · intro c c1
      rw [eg, eo] at c1
      have ih1 := ih (j + 1) g (by omega) a hv (fun i i0 i1 => by
        unfold zse zwse
        rw [if_neg (fun z => c1 z.1), if_neg (fun z => c1 z.1)]
        exact h1 i i0 i1) h2
      rw [show ((j + 1 : Nat) : Int) = (j : Int) + 1 by omega] at ih1
      exact ih1
    · intro c c1
      rw [eg, eo] at c1
      rw [eg, eg]
      have ih1 := ih (j + 1) (zst (zst g (o + 12) (zget h 15 j 2) (zget h 15 j 3)) (o + 13) (zget h 15 j 3) 1) (by omega) ((a.st (Or.inl rfl) _ _).st (Or.inr (Or.inl rfl)) _ _) (fun k => by rw [zst_ne (Or.inl (by omega)), zst_ne (Or.inl (by omega))]; exact hv k) (fun i i0 i1 => by
        have q := h1 i i0 i1
        unfold zse zwse
        refine ⟨?_, ?_⟩
        · rw [zst_ne (Or.inl (by omega))]
          by_cases d : zget h 15 j 2 = i
          · rw [if_pos ⟨c1, d⟩, ← d, zst_self]
          · rw [if_neg (fun z => d z.2), zst_ne (Or.inr (fun z => d z.symm))]
            exact q.1
        · by_cases d : zget h 15 j 3 = i
          · rw [if_pos ⟨c1, d⟩, ← d, zst_self]
          · rw [if_neg (fun z => d z.2), zst_ne (Or.inr (fun z => d z.symm)), zst_ne (Or.inl (by omega))]
            exact q.2) (fun i i0 => by
        rw [zst_ne (o' := o + 13) (o := o + 13) (Or.inr (by omega)), zst_ne (o' := o + 12) (o := o + 13) (Or.inl (by omega)), zst_ne (o' := o + 13) (o := o + 12) (Or.inl (by omega)), zst_ne (o' := o + 12) (o := o + 12) (Or.inr (by omega))]
        exact h2 i i0)
      rw [show ((j + 1 : Nat) : Int) = (j : Int) + 1 by omega] at ih1
      exact ih1
theorem zchain_eq {h g : zH} {s : Int} (he : ∀ k : Int, g s k = h s k) : ∀ (n : Nat) (m : Int), zchain g s n m = zchain h s n m
  | 0, _ => rfl
  | k + 1, m => by
    unfold zchain
    rw [he, zchain_eq he k]
/-- who serves when the first j men's chains are followed -/
noncomputable def zsv (f : zH) (o : Int) (b : Int → Int) : Nat → Int → Int
  | 0, k => b k
  | j + 1, k => if f (o + 5) j = 5 ∧ zchain f (o + 12) 60 j = k then 1 else zsv f o b j k
theorem l_X6_followChains_108 {X : zX} {dep : Nat} {Q : Nat → zH → List zV → Prop} (o : Int) {f : zH} (ho : zRollO o) (hb : 113 ≤ o ∧ o ≤ 155) (h3 : 0 ≤ f 3 0 ∧ f 3 0 ≤ 60) (hs : ∀ q : Int, 0 ≤ q → q < 60 → -1 ≤ f (o + 12) q ∧ f (o + 12) q < 60) (hdep : 1 ≤ dep)
    (K : ∀ g : zH, zap (fun q => q = 23) f g → (∀ k : Int, g 23 k = zsv f o (f 23) (f 3 0).toNat k) → Q 239 g []) :
    ∀ (k j : Nat) (g : zH), (j : Int) + k = f 3 0 → zap (fun q => q = 23) f g → (∀ k : Int, g 23 k = zsv f o (f 23) j k) → zW mX6_followChains X dep 0 0 239 108 [(0, xR o), (1, xR 3), (4, xI j)] [] g Q := by
  intro k
  induction k with
  | zero =>
    intro j g hk a hv
    have e3 := a 3 0 (by omega)
    have e12 := fun q => a (o + 12) q (by omega)
    refine bX6_followChains_108 o j ho (by rw [e3]; exact h3) (by omega) (fun q q0 q1 => by rw [e12]; exact hs q q0 q1) (fun z => by omega) hdep ?_ ?_ ?_
    · intro c
      rw [show (f 3 0).toNat = j by omega] at K
      exact K g a hv
    all_goals intros; exfalso; omega
  | succ k ih =>
    intro j g hk a hv
    have e3 := a 3 0 (by omega)
    have e5 := a (o + 5) j (by omega)
    have e12 := fun q => a (o + 12) q (by omega)
    have ec := zchain_eq (fun q => e12 q) 60 (j : Int)
    have ci := zchain_in hs 60 (j : Int) (by omega) (by omega)
    refine bX6_followChains_108 o j ho (by rw [e3]; exact h3) (by omega) (fun q q0 q1 => by rw [e12]; exact hs q q0 q1) (fun z => by rw [ec]; exact ci) hdep ?_ ?_ ?_
    · intros; exfalso; omega
    · intro c c1
      rw [e5] at c1
      have ih1 := ih (j + 1) g (by omega) a (fun k => by
        unfold zsv
        rw [if_neg (fun z => c1 z.1)]
        exact hv k)
      rw [show ((j + 1 : Nat) : Int) = (j : Int) + 1 by omega] at ih1
      exact ih1
    · intro c c1
      rw [e5] at c1
      rw [ec]
      have ih1 := ih (j + 1) (zst g 23 (zchain f (o + 12) 60 j) 1) (by omega) (a.st rfl _ _) (fun k => by
        unfold zsv
        by_cases d : zchain f (o + 12) 60 j = k
        · rw [if_pos ⟨c1, d⟩, d, zst_self]
        · rw [if_neg (fun z => d z.2), zst_ne (Or.inr (fun z => d z.symm))]
          exact hv k)
      rw [show ((j + 1 : Nat) : Int) = (j : Int) + 1 by omega] at ih1
      exact ih1
noncomputable def zFc (h : zH) (o : Int) (g : zH) : Prop := zap (zFS o) h g ∧ (∀ i : Int, 0 ≤ i → i < h 3 0 → g (o + 12) i = zse h (h o 0) (zknown h 15 (h 3 9)).toNat i ∧ g (o + 13) i = zwse h (h o 0) (zknown h 15 (h 3 9)).toNat i) ∧ (∀ i : Int, i < 0 ∨ h 3 0 ≤ i → g (o + 12) i = h (o + 12) i ∧ g (o + 13) i = h (o + 13) i) ∧ ∀ k : Int, g 23 k = zsv g o (h 23) (h 3 0).toNat k
theorem zsv_eq {h g : zH} {o : Int} (h5 : ∀ k : Int, g (o + 5) k = h (o + 5) k) (h12 : ∀ k : Int, g (o + 12) k = h (o + 12) k) (b : Int → Int) : ∀ (n : Nat) (k : Int), zsv g o b n k = zsv h o b n k
  | 0, _ => rfl
  | j + 1, k => by
    unfold zsv
    rw [h5, zchain_eq h12, zsv_eq h5 h12 b j]
theorem f_X6_followChains {X : zX} {dep : Nat} (o : Int) {h : zH} (ho : zRollO o) (hb : 113 ≤ o ∧ o ≤ 155) (h3 : 0 ≤ h 3 0 ∧ h 3 0 ≤ 60) (hS : zSendOK h) (hs : ∀ q : Int, 0 ≤ q → q < 60 → -1 ≤ h (o + 12) q ∧ h (o + 12) q < 60) (hdep : 2 ≤ dep) :
    zW mX6_followChains X dep 0 0 239 0 (zar 0 [xR o, xR 3]) [] h (zQ0 (zFc h o)) := by
  refine bX6_followChains_0 o ho ?_
  refine l_X6_followChains_2 o ho hb h3 (fun g a hv h1 h2 => ?_) (h 3 0).toNat 0 h (by omega) (zap.rf _ h) (fun _ => rfl) (fun i i0 i1 => by omega) (fun i _ => ⟨rfl, rfl⟩)
  have e15 := a 15 2 (by simp only [zFS]; omega)
  have e39 := a 3 9 (by simp only [zFS]; omega)
  have ek := zknown_ap a (o := 15) (t := h 3 9) (by simp only [zFS]; omega) (by simp only [zFS]; omega)
  refine bX6_followChains_30 o ho (by rw [e15]; exact hS.1) hdep ?_
  rw [e39, ek]
  have kin := zknown_le (h := h) (o := 15) (t := h 3 9) hS.1.1
  have hkk : ((zknown h 15 (h 3 9)).toNat : Int) = zknown h 15 (h 3 9) := by omega
  have go := l_X6_followChains_47 (X := X) (dep := dep) (Q := zQ0 (zFc h o)) o ho hb h3 hS (by omega) (zknown h 15 (h 3 9)).toNat (by omega) (fun f b hw q1 q2 => ?_) (zknown h 15 (h 3 9)).toNat 0 g (by omega) a hv h1 h2
  · rw [hkk] at go
    exact go
  · refine bX6_followChains_105 o ho ?_
    have f3 := b 3 0 (by simp only [zFS]; omega)
    refine l_X6_followChains_108 o ho hb (by rw [f3]; exact h3) (fun q p0 p1 => ?_) (by omega) (fun e c hc => ?_) (f 3 0).toNat 0 f (by omega) (zap.rf _ f) (fun _ => rfl)
    · by_cases d : q < h 3 0
      · rw [(q1 q p0 d).1]
        exact zse_in hS h3.2 _ (by omega) q
      · rw [(q2 q (by omega)).1]
        exact hs q p0 p1
    · have c5 := fun k => c (o + 5) k (by omega)
      have c12 := fun k => c (o + 12) k (by omega)
      have c13 := fun k => c (o + 13) k (by omega)
      refine ⟨rfl, rfl, b.tr (c.mono (fun q z => Or.inr (Or.inr z))), fun i i0 i1 => ?_, fun i i0 => ?_, fun k => ?_⟩
      · rw [c12, c13]; exact q1 i i0 i1
      · rw [c12, c13]; exact q2 i i0
      · rw [hc k, f3, zsv_eq c5 c12, show f 23 = h 23 from funext hw]
