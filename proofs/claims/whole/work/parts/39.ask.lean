/-! what a law asks -/
/-- what is asked of a man ahead of facts and grades -/
noncomputable def zask0 (h : zH) (o L m c : Int) : Int :=
  if c = 6 then zage (h 19 m) (h (o + 1) 0) else if c = 8 then h 21 (h 5 m) - 1 else if c = 10 then h 4 m else if c = 9 then (if h L 5 = 0 then 0 else zcnt (zsbP h m) (h 3 0).toNat) else 0
/-- what must hold of the people that are looked at, and of a lot -/
def zPeo (h : zH) : Prop := zMenOK h ∧ ∀ m : Int, 0 ≤ m → m < h 3 0 → (-3120 ≤ h 19 m ∧ h 19 m < 520) ∧ 0 ≤ h 21 (h 5 m) ∧ h 21 (h 5 m) ≤ 60
theorem zcnt_ag {P R : Int → Prop} (hh : ∀ k, P k ↔ R k) : ∀ n : Nat, zcnt P n = zcnt R n
  | 0 => rfl
  | k + 1 => by
    unfold zcnt
    rw [zcnt_ag hh k, zb_iff (hh k)]
/-- g is h but in the objects that S holds of -/
def zap (S : Int → Prop) (h g : zH) : Prop := ∀ o k : Int, ¬ S o → g o k = h o k
theorem zap.rf (S : Int → Prop) (h : zH) : zap S h h := fun _ _ _ => rfl
theorem zap.st {S : Int → Prop} {h g : zH} (a : zap S h g) {o : Int} (ho : S o) (k x : Int) : zap S h (zst g o k x) := fun o' k' hn => by
  rw [zst_ne (o' := o') (k' := k') (Or.inl (fun e => hn (by rw [e]; exact ho)))]
  exact a o' k' hn
theorem zap.tr {S : Int → Prop} {h g f : zH} (a : zap S h g) (b : zap S g f) : zap S h f := fun o k hn => (b o k hn).trans (a o k hn)
theorem zap.mono {S S' : Int → Prop} {h g : zH} (a : zap S h g) (hs : ∀ o, S o → S' o) : zap S' h g := fun o k hn => a o k (fun z => hn (hs o z))
theorem zap.ag {S : Int → Prop} {l : List Int} {h g : zH} (a : zap S h g) (hs : ∀ o, S o → o ∈ l) : zag l h g := fun o k hn => a o k (fun z => hn (hs o z))
theorem zfill_ap {S : Int → Prop} {h g : zH} (ha : zap S h g) {a : Int} (hs : S a) (v n : Int) : zap S h (zfill g a v n) := fun o k hn => by
  unfold zfill
  rw [if_neg (fun z => hn (by rw [z.1]; exact hs))]
  exact ha o k hn

set_option maxRecDepth 20000 in
theorem bX6_ask_0 {X : zX} {dep bc bs : Nat} (o : Int) (L : Int) {h : zH} {Q : Nat → zH → List zV → Prop} (ho : zRollO o) (hdep : 1 ≤ dep)
    (k1 : zW mX6_ask X dep bc bs 239 10 [(0, xR o), (1, xR 3), (2, xR L), (3, xI 0)] [] (zfill h (o + 4) 0 660) Q) : zW mX6_ask X dep bc bs 239 0 [(0, xR o), (1, xR 3), (2, xR L)] [] h Q := by
  refine z_aload_n 0 dX6_ask_0 rfl ?_
  refine z_getS (v := (o + 4)) (k := 2) (kz := 2) pk6 dX6_ask_1 (by decide) zb_413 rfl ho.1 rfl ho.2.2.2.2.2.2.2.2.2.2.2.2.2.2.2.1 ?_
  refine z_iconst dX6_ask_4 (zi32_d rfl) ?_
  refine z_invSF (as := [xR (o + 4), xI 0]) (st := []) (ra := [xI 0, xR (o + 4)]) (dep' := dep - 1) (rs := []) (h' := (zfill h (o + 4) 0 660)) (f_J7_fill_53178 (N := 660) (o + 4) 0 (h := h) ho.2.2.2.2.1 (by decide)) dX6_ask_5 nJ7_fill_53178 zb_881 zb_843 zb_100 (by omega) zne_0 (Nat.le_of_ble_eq_true rfl) (Nat.le_of_ble_eq_true rfl) rfl ?_
  refine z_iconst dX6_ask_8 (zi32_d rfl) ?_
  refine z_istore_n (lv' := [(3, xI 0), (0, xR o), (1, xR 3), (2, xR L)]) dX6_ask_9 (by decide) rfl ?_
  refine zW.sub (lv' := [(0, xR o), (1, xR 3), (2, xR L), (3, xI 0)]) [1, 2, 3, 0] rfl ?_
  exact k1

set_option maxRecDepth 20000 in
theorem bX6_ask_10 {X : zX} {dep bc bs : Nat} (o : Int) (L : Int) (i : Int) {g : zH} {Q : Nat → zH → List zV → Prop} (ho : zRollO o) (hb : 113 ≤ o ∧ o ≤ 155) (hL : zLawO L) (hbl : 30 ≤ L ∧ L ≤ 107) (h3 : 0 ≤ g 3 0 ∧ g 3 0 ≤ 60) (hi : 0 ≤ i) (hd : 0 ≤ g (o + 1) 0 ∧ g (o + 1) 0 ≤ 3639) (hp : i < g 3 0 → (0 ≤ g 5 i ∧ g 5 i < 60) ∧ (-3120 ≤ g 19 i ∧ g 19 i < 520) ∧ 0 ≤ g 21 (g 5 i) ∧ g 21 (g 5 i) ≤ 60) (hdep : 1 ≤ dep)
    (k1 : (g 3 0) ≤ i → zW mX6_ask X dep bc bs 239 105 [(0, xR o), (1, xR 3)] [] g Q)
    (k2 : ¬ ((g 3 0) ≤ i) → (g L 5) = 0 → zW mX6_ask X dep bc bs 239 10 [(0, xR o), (1, xR 3), (2, xR L), (3, xI (i + 1))] [] (zst (zst (zst g (o + 4) ((i * 11) + 6) (zage (g 19 i) (g (o + 1) 0))) (o + 4) ((i * 11) + 8) ((g 21 ((g 5 i))) - 1)) (o + 4) ((i * 11) + 10) (g 4 i)) Q)
    (k3 : ¬ ((g 3 0) ≤ i) → ¬ ((g L 5) = 0) → zW mX6_ask X dep bc bs 239 10 [(0, xR o), (1, xR 3), (2, xR L), (3, xI (i + 1))] [] (zst (zst (zst (zst g (o + 4) ((i * 11) + 6) (zage (g 19 i) (g (o + 1) 0))) (o + 4) ((i * 11) + 8) ((g 21 ((g 5 i))) - 1)) (o + 4) ((i * 11) + 10) (g 4 i)) (o + 4) ((i * 11) + 9) (zcnt (zsbP (zst (zst (zst g (o + 4) ((i * 11) + 6) (zage (g 19 i) (g (o + 1) 0))) (o + 4) ((i * 11) + 8) ((g 21 ((g 5 i))) - 1)) (o + 4) ((i * 11) + 10) (g 4 i)) i) ((g 3 0)).toNat)) Q) : zW mX6_ask X dep bc bs 239 10 [(0, xR o), (1, xR 3), (2, xR L), (3, xI i)] [] g Q := by
  refine z_iload_n 3 dX6_ask_10 rfl ?_
  refine z_aload_n 1 dX6_ask_11 rfl ?_
  refine z_getI (k := 0) (kz := 0) pk4 dX6_ask_12 (by decide) zb_155 rfl (zOb.lit (by decide +kernel)) rfl ?_
  refine z_icmp_ge (tgt := 105) dX6_ask_15 (by decide) (fun c1 => ?_) (fun c1 => ?_)
  ·
    refine zW.sub (lv' := [(0, xR o), (1, xR 3)]) [0, 1] rfl ?_
    exact k1 c1
  ·
    refine z_iload_n 3 dX6_ask_18 rfl ?_
    refine z_bipush dX6_ask_19 (zi32_d rfl) (by decide) ?_
    refine z_imulN dX6_ask_21 (show -2147483648 ≤ i * 11 ∧ i * 11 < 2147483648 from ⟨by omega, by omega⟩).1 (show -2147483648 ≤ i * 11 ∧ i * 11 < 2147483648 from ⟨by omega, by omega⟩).2 ?_
    refine z_istore (lv' := [(4, xI (i * 11)), (0, xR o), (1, xR 3), (2, xR L), (3, xI i)]) dX6_ask_22 (by decide) rfl ?_
    refine z_aload_n 1 dX6_ask_24 rfl ?_
    refine z_getS (v := (o + 4)) (k := 2) (kz := 2) pk6 dX6_ask_25 (by decide) zb_413 rfl ho.1 rfl ho.2.2.2.2.2.2.2.2.2.2.2.2.2.2.2.1 ?_
    refine z_iload 0 dX6_ask_28 rfl ?_
    refine z_bipush dX6_ask_30 (zi32_d rfl) (by decide) ?_
    refine z_iaddN dX6_ask_32 (show -2147483648 ≤ (i * 11) + 6 ∧ (i * 11) + 6 < 2147483648 from ⟨by omega, by omega⟩).1 (show -2147483648 ≤ (i * 11) + 6 ∧ (i * 11) + 6 < 2147483648 from ⟨by omega, by omega⟩).2 ?_
    refine z_aload_n 2 dX6_ask_33 rfl ?_
    refine z_iload_n 4 dX6_ask_34 rfl ?_
    refine z_aload_n 1 dX6_ask_35 rfl ?_
    refine z_getS (v := (o + 1)) (k := 1) (kz := 1) pk6 dX6_ask_36 (by decide) zb_411 rfl ho.1 rfl ho.2.2.2.2.2.2.2.2.2.2.2.2.2.2.1 ?_
    refine z_getI (k := 0) (kz := 0) pk3 dX6_ask_39 (by decide) zb_387 rfl ho.2.1 rfl ?_
    refine z_invF (ci := 4) (N := 17) (as := [xI i, xI (g (o + 1) 0)]) (st := [xI ((i * 11) + 6), xR (o + 4)]) (ra := [xI (g (o + 1) 0), xI i]) (dep' := dep - 1) (rs := [xI (zage (g 19 i) (g (o + 1) 0))]) (h' := g) (f_X4_ageOn i (g (o + 1) 0) (h := g) (show 0 ≤ i ∧ i < 60 from ⟨by omega, by omega⟩) (show 0 ≤ (g (o + 1) 0) ∧ (g (o + 1) 0) ≤ 3639 from ⟨by omega, by omega⟩) (show -3120 ≤ g 19 i ∧ g 19 i < 520 from ⟨by omega, by omega⟩)) dX6_ask_42 nX4_ageOn zb_882 zb_850 zb_851 zb_84 (zOb.lit (by decide +kernel)) rfl (by omega) zne_I (Nat.le_of_ble_eq_true rfl) (Nat.le_of_ble_eq_true rfl) rfl ?_
    refine z_iast dX6_ask_45 ho.2.2.2.2.1 (show 0 ≤ ((i * 11) + 6) ∧ ((i * 11) + 6) < 660 from ⟨by omega, by omega⟩).1 (show 0 ≤ ((i * 11) + 6) ∧ ((i * 11) + 6) < 660 from ⟨by omega, by omega⟩).2 ?_
    refine z_aload_n 1 dX6_ask_46 rfl ?_
    refine z_getS (v := (o + 4)) (k := 2) (kz := 2) pk6 dX6_ask_47 (by decide) zb_413 rfl ho.1 rfl ho.2.2.2.2.2.2.2.2.2.2.2.2.2.2.2.1 ?_
    refine z_iload 0 dX6_ask_50 rfl ?_
    refine z_bipush dX6_ask_52 (zi32_d rfl) (by decide) ?_
    refine z_iaddN dX6_ask_54 (show -2147483648 ≤ (i * 11) + 8 ∧ (i * 11) + 8 < 2147483648 from ⟨by omega, by omega⟩).1 (show -2147483648 ≤ (i * 11) + 8 ∧ (i * 11) + 8 < 2147483648 from ⟨by omega, by omega⟩).2 ?_
    refine z_aload_n 2 dX6_ask_55 rfl ?_
    refine z_iload_n 4 dX6_ask_56 rfl ?_
    refine z_invF (ci := 4) (N := 17) (as := [xI i]) (st := [xI ((i * 11) + 8), xR (o + 4)]) (ra := [xI i]) (dep' := dep - 1) (rs := [xI ((g 21 ((g 5 i))) - 1)]) (h' := (zst g (o + 4) ((i * 11) + 6) (zage (g 19 i) (g (o + 1) 0)))) (by have e1 : (zst g (o + 4) ((i * 11) + 6) (zage (g 19 i) (g (o + 1) 0))) 5 i = (g 5 i) := (zst_ne (Or.inl (by omega))); have e2 : (zst g (o + 4) ((i * 11) + 6) (zage (g 19 i) (g (o + 1) 0))) 21 ((g 5 i)) = (g 21 ((g 5 i))) := (zst_ne (Or.inl (by omega))); have z9 := f_X4_brothersOf (X := X) (dep := dep - 1) i (h := (zst g (o + 4) ((i * 11) + 6) (zage (g 19 i) (g (o + 1) 0)))) (show 0 ≤ i ∧ i < 60 from ⟨by omega, by omega⟩) (by have y1 : (zst g (o + 4) ((i * 11) + 6) (zage (g 19 i) (g (o + 1) 0))) 5 i = (g 5 i) := (zst_ne (Or.inl (by omega))); simp only [y1]; omega) (by have y1 : (zst g (o + 4) ((i * 11) + 6) (zage (g 19 i) (g (o + 1) 0))) 5 i = (g 5 i) := (zst_ne (Or.inl (by omega))); have y2 : (zst g (o + 4) ((i * 11) + 6) (zage (g 19 i) (g (o + 1) 0))) 21 ((g 5 i)) = (g 21 ((g 5 i))) := (zst_ne (Or.inl (by omega))); simp only [y1, y2]; omega); rw [e1, e2] at z9; exact z9) dX6_ask_57 nX4_brothersOf zb_883 zb_858 zb_859 zb_84 (zOb.lit (by decide +kernel)) rfl (by omega) zne_I (Nat.le_of_ble_eq_true rfl) (Nat.le_of_ble_eq_true rfl) rfl ?_
    refine z_iast dX6_ask_60 ho.2.2.2.2.1 (show 0 ≤ ((i * 11) + 8) ∧ ((i * 11) + 8) < 660 from ⟨by omega, by omega⟩).1 (show 0 ≤ ((i * 11) + 8) ∧ ((i * 11) + 8) < 660 from ⟨by omega, by omega⟩).2 ?_
    refine z_aload_n 1 dX6_ask_61 rfl ?_
    refine z_getS (v := (o + 4)) (k := 2) (kz := 2) pk6 dX6_ask_62 (by decide) zb_413 rfl ho.1 rfl ho.2.2.2.2.2.2.2.2.2.2.2.2.2.2.2.1 ?_
    refine z_iload 0 dX6_ask_65 rfl ?_
    refine z_bipush dX6_ask_67 (zi32_d rfl) (by decide) ?_
    refine z_iaddN dX6_ask_69 (show -2147483648 ≤ (i * 11) + 10 ∧ (i * 11) + 10 < 2147483648 from ⟨by omega, by omega⟩).1 (show -2147483648 ≤ (i * 11) + 10 ∧ (i * 11) + 10 < 2147483648 from ⟨by omega, by omega⟩).2 ?_
    refine z_aload_n 2 dX6_ask_70 rfl ?_
    refine z_getS (v := 4) (k := 1) (kz := 1) pk4 dX6_ask_71 (by decide) zb_158 rfl (zOb.lit (by decide +kernel)) rfl (by decide +kernel) ?_
    refine z_iload_n 4 dX6_ask_74 rfl ?_
    refine z_ialdV (v := (g 4 i)) dX6_ask_75 (zOb.lit (by decide +kernel)) (show 0 ≤ i ∧ i < 60 from ⟨by omega, by omega⟩).1 (show 0 ≤ i ∧ i < 60 from ⟨by omega, by omega⟩).2 ((zst_ne (Or.inl (by omega))).trans (zst_ne (Or.inl (by omega)))) ?_
    refine z_iast dX6_ask_76 ho.2.2.2.2.1 (show 0 ≤ ((i * 11) + 10) ∧ ((i * 11) + 10) < 660 from ⟨by omega, by omega⟩).1 (show 0 ≤ ((i * 11) + 10) ∧ ((i * 11) + 10) < 660 from ⟨by omega, by omega⟩).2 ?_
    refine z_aload_n 3 dX6_ask_77 rfl ?_
    refine z_getIV (v := (g L 5)) (k := 5) (kz := 5) pk1 dX6_ask_78 (by decide) zb_285 rfl hL.1 rfl ((zst_ne (Or.inl (by omega))).trans ((zst_ne (Or.inl (by omega))).trans (zst_ne (Or.inl (by omega))))) ?_
    refine z_if_eq (tgt := 99) dX6_ask_81 (by decide) (fun c2 => ?_) (fun c2 => ?_)
    ·
      refine z_iincN (lv' := [(3, xI (i + 1)), (4, xI (i * 11)), (0, xR o), (1, xR 3), (2, xR L)]) 4 dX6_ask_99 rfl (by decide) rfl (show -2147483648 ≤ i + 1 ∧ i + 1 < 2147483648 from ⟨by omega, by omega⟩).1 (show -2147483648 ≤ i + 1 ∧ i + 1 < 2147483648 from ⟨by omega, by omega⟩).2 ?_
      refine z_goto (tgt := 10) dX6_ask_102 (by decide) ?_
      refine zW.sub (lv' := [(0, xR o), (1, xR 3), (2, xR L), (3, xI (i + 1))]) [2, 3, 4, 0] rfl ?_
      exact k2 c1 c2
    ·
      refine z_aload_n 1 dX6_ask_84 rfl ?_
      refine z_getS (v := (o + 4)) (k := 2) (kz := 2) pk6 dX6_ask_85 (by decide) zb_413 rfl ho.1 rfl ho.2.2.2.2.2.2.2.2.2.2.2.2.2.2.2.1 ?_
      refine z_iload 0 dX6_ask_88 rfl ?_
      refine z_bipush dX6_ask_90 (zi32_d rfl) (by decide) ?_
      refine z_iaddN dX6_ask_92 (show -2147483648 ≤ (i * 11) + 9 ∧ (i * 11) + 9 < 2147483648 from ⟨by omega, by omega⟩).1 (show -2147483648 ≤ (i * 11) + 9 ∧ (i * 11) + 9 < 2147483648 from ⟨by omega, by omega⟩).2 ?_
      refine z_aload_n 2 dX6_ask_93 rfl ?_
      refine z_iload_n 4 dX6_ask_94 rfl ?_
      refine z_invF (ci := 4) (N := 17) (as := [xI i]) (st := [xI ((i * 11) + 9), xR (o + 4)]) (ra := [xI i]) (dep' := dep - 1) (rs := [xI (zcnt (zsbP (zst (zst (zst g (o + 4) ((i * 11) + 6) (zage (g 19 i) (g (o + 1) 0))) (o + 4) ((i * 11) + 8) ((g 21 ((g 5 i))) - 1)) (o + 4) ((i * 11) + 10) (g 4 i)) i) ((g 3 0)).toNat)]) (h' := (zst (zst (zst g (o + 4) ((i * 11) + 6) (zage (g 19 i) (g (o + 1) 0))) (o + 4) ((i * 11) + 8) ((g 21 ((g 5 i))) - 1)) (o + 4) ((i * 11) + 10) (g 4 i))) (by have e1 : (zst (zst (zst g (o + 4) ((i * 11) + 6) (zage (g 19 i) (g (o + 1) 0))) (o + 4) ((i * 11) + 8) ((g 21 ((g 5 i))) - 1)) (o + 4) ((i * 11) + 10) (g 4 i)) 3 0 = (g 3 0) := ((zst_ne (Or.inl (by omega))).trans ((zst_ne (Or.inl (by omega))).trans (zst_ne (Or.inl (by omega))))); have z9 := f_X4_servingBrothersOf (X := X) (dep := dep - 1) i (h := (zst (zst (zst g (o + 4) ((i * 11) + 6) (zage (g 19 i) (g (o + 1) 0))) (o + 4) ((i * 11) + 8) ((g 21 ((g 5 i))) - 1)) (o + 4) ((i * 11) + 10) (g 4 i))) (by have y1 : (zst (zst (zst g (o + 4) ((i * 11) + 6) (zage (g 19 i) (g (o + 1) 0))) (o + 4) ((i * 11) + 8) ((g 21 ((g 5 i))) - 1)) (o + 4) ((i * 11) + 10) (g 4 i)) 3 0 = (g 3 0) := ((zst_ne (Or.inl (by omega))).trans ((zst_ne (Or.inl (by omega))).trans (zst_ne (Or.inl (by omega))))); simp only [y1]; omega) (show 0 ≤ i ∧ i < 60 from ⟨by omega, by omega⟩); rw [e1] at z9; exact z9) dX6_ask_95 nX4_servingBrothersOf zb_884 zb_885 zb_886 zb_84 (zOb.lit (by decide +kernel)) rfl (by omega) zne_I (Nat.le_of_ble_eq_true rfl) (Nat.le_of_ble_eq_true rfl) rfl ?_
      refine z_iast dX6_ask_98 ho.2.2.2.2.1 (show 0 ≤ ((i * 11) + 9) ∧ ((i * 11) + 9) < 660 from ⟨by omega, by omega⟩).1 (show 0 ≤ ((i * 11) + 9) ∧ ((i * 11) + 9) < 660 from ⟨by omega, by omega⟩).2 ?_
      refine z_iincN (lv' := [(3, xI (i + 1)), (4, xI (i * 11)), (0, xR o), (1, xR 3), (2, xR L)]) 4 dX6_ask_99 rfl (by decide) rfl (show -2147483648 ≤ i + 1 ∧ i + 1 < 2147483648 from ⟨by omega, by omega⟩).1 (show -2147483648 ≤ i + 1 ∧ i + 1 < 2147483648 from ⟨by omega, by omega⟩).2 ?_
      refine z_goto (tgt := 10) dX6_ask_102 (by decide) ?_
      refine zW.sub (lv' := [(0, xR o), (1, xR 3), (2, xR L), (3, xI (i + 1))]) [2, 3, 4, 0] rfl ?_
      exact k3 c1 c2

theorem zsbP_ap {S : Int → Prop} {h g : zH} (a : zap S h g) (h5 : ¬ S 5) (h20 : ¬ S 20) (h23 : ¬ S 23) (m k : Int) : zsbP g m k ↔ zsbP h m k := by
  unfold zsbP
  rw [a 20 k h20, a 23 k h23, a 5 k h5, a 5 m h5]
/-- what is asked, ahead of facts and grades -/
theorem l_X6_ask_10 {X : zX} {dep : Nat} {h : zH} {Q : Nat → zH → List zV → Prop} (o L : Int) (ho : zRollO o) (hb : 113 ≤ o ∧ o ≤ 155) (hL : zLawO L) (hbl : 30 ≤ L ∧ L ≤ 107) (hP : zPeo h) (hd : 0 ≤ h (o + 1) 0 ∧ h (o + 1) 0 ≤ 3639) (hdep : 1 ≤ dep)
    (kx : ∀ g : zH, zap (fun q => q = o + 4) h g → (∀ m c : Int, 0 ≤ m → m < 60 → 0 ≤ c → c < 11 → g (o + 4) (m * 11 + c) = if m < h 3 0 then zask0 h o L m c else 0) → zW mX6_ask X dep 0 0 239 105 [(0, xR o), (1, xR 3)] [] g Q) :
    ∀ (k : Nat) (i : Int) (g : zH), 0 ≤ i → i + k = h 3 0 → zap (fun q => q = o + 4) h g → (∀ m c : Int, 0 ≤ m → m < 60 → 0 ≤ c → c < 11 → g (o + 4) (m * 11 + c) = if m < i then zask0 h o L m c else 0) → zW mX6_ask X dep 0 0 239 10 [(0, xR o), (1, xR 3), (2, xR L), (3, xI i)] [] g Q := by
  have hm1 := hP.1.1
  intro k
  induction k with
  | zero =>
    intro i g h0 hk ha hv
    have e3 := ha 3 0 (by omega)
    have ed := ha (o + 1) 0 (by omega)
    refine bX6_ask_10 o L i ho hb hL hbl (by omega) h0 (by omega) (fun c => by exfalso; omega) hdep ?_ ?_ ?_
    · intro c
      exact kx g ha (by rw [show h 3 0 = i by omega]; exact hv)
    all_goals
      intros
      exfalso
      omega
  | succ k ih =>
    intro i g h0 hk ha hv
    have e3 := ha 3 0 (by omega)
    have ed := ha (o + 1) 0 (by omega)
    have e5 := ha 5 i (by omega)
    have e4 := ha 4 i (by omega)
    have e19 := ha 19 i (by omega)
    have e21 := ha 21 (h 5 i) (by omega)
    have eL := ha L 5 (by omega)
    have p1 := hP.1.2 i h0 (by omega)
    have p2 := hP.2 i h0 (by omega)
    refine bX6_ask_10 o L i ho hb hL hbl (by omega) h0 (by omega) (fun c => by rw [e5, e19, e21]; exact ⟨p1.1, p2⟩) hdep ?_ ?_ ?_
    · intro c; exfalso; omega
    · intro c c2
      rw [e5, e4, e19, e21, ed]
      rw [eL] at c2
      refine ih (i + 1) _ (by omega) (by omega) (((ha.st rfl _ _).st rfl _ _).st rfl _ _) (fun m c q1 q2 q3 q4 => ?_)
      simp only [zst_or, hv m c q1 q2 q3 q4]
      by_cases e : m = i
      · subst e
        unfold zask0
        rw [if_neg (Int.lt_irrefl m), if_pos (show m < m + 1 by omega)]
        (repeat' split) <;> first | rfl | (exfalso; omega)
      · rw [if_neg (by omega), if_neg (by omega), if_neg (by omega)]
        by_cases e2 : m < i
        · rw [if_pos e2, if_pos (by omega)]
        · rw [if_neg e2, if_neg (by omega)]
    · intro c c2
      have hz := (((ha.st (o := o + 4) rfl (i * 11 + 6) (zage (h 19 i) (h (o + 1) 0))).st (o := o + 4) rfl (i * 11 + 8) (h 21 (h 5 i) - 1)).st (o := o + 4) rfl (i * 11 + 10) (h 4 i))
      rw [e5, e4, e19, e21, ed, zcnt_ag (fun q => zsbP_ap hz (by omega) (by omega) (by omega) i q), e3]
      rw [eL] at c2
      refine ih (i + 1) _ (by omega) (by omega) (hz.st rfl _ _) (fun m c q1 q2 q3 q4 => ?_)
      simp only [zst_or, hv m c q1 q2 q3 q4]
      by_cases e : m = i
      · subst e
        unfold zask0
        rw [if_neg (Int.lt_irrefl m), if_pos (show m < m + 1 by omega)]
        (repeat' split) <;> first | rfl | (exfalso; omega)
      · rw [if_neg (by omega), if_neg (by omega), if_neg (by omega), if_neg (by omega)]
        by_cases e2 : m < i
        · rw [if_pos e2, if_pos (by omega)]
        · rw [if_neg e2, if_neg (by omega)]
