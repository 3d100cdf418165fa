/-! judging a man -/
theorem zans_ap {S : Int → Prop} {h g : zH} (a : zap S h g) {A : Int} (hA : ¬ S A) (s p : Int) : zans g A s p = zans h A s p := by
  unfold zans
  rw [a A _ hA]
theorem zwrun_ap {S : Int → Prop} {h g : zH} (a : zap S h g) {L A : Int} (hA : ¬ S A) (h5 : ¬ S (L + 5)) (p : Int) : ∀ (k : Nat) (i w : Int), zwrun g L A p k i w = zwrun h L A p k i w
  | 0, _, _ => rfl
  | k + 1, i, w => by
    unfold zwrun zwst
    rw [a (L + 5) i h5, zans_ap a hA, zwrun_ap a hA h5 p k]
theorem zhold_ap {S : Int → Prop} {h g : zH} (a : zap S h g) {L A : Int} (hA : ¬ S A) (h3 : ¬ S (L + 3)) (h4 : ¬ S (L + 4)) (h5 : ¬ S (L + 5)) (p l : Int) : zhold g L A p l ↔ zhold h L A p l := by
  unfold zhold
  rw [a (L + 3) l h3, a (L + 4) l h4, zwrun_ap a hA h5]
theorem zlf_ap {S : Int → Prop} {h g : zH} (a : zap S h g) {L A : Int} (hA : ¬ S A) (h1 : ¬ S (L + 1)) (h3 : ¬ S (L + 3)) (h4 : ¬ S (L + 4)) (h5 : ¬ S (L + 5)) (p kd : Int) : ∀ (k : Nat) (i : Int), zlf g L A p kd k i = zlf h L A p kd k i
  | 0, _ => rfl
  | k + 1, i => by
    unfold zlf
    have e := zhold_ap a hA h3 h4 h5 p i
    rw [a (L + 1) i h1, zlf_ap a hA h1 h3 h4 h5 p kd k]
    by_cases c : h (L + 1) i = kd ∧ zhold h L A p i
    · rw [if_pos c, if_pos ⟨c.1, e.mpr c.2⟩]
    · rw [if_neg c, if_neg (fun z => c ⟨z.1, e.mp z.2⟩)]
theorem zline_ap {S : Int → Prop} {h g : zH} (a : zap S h g) {L A : Int} (hA : ¬ S A) (h0 : ¬ S L) (h1 : ¬ S (L + 1)) (h3 : ¬ S (L + 3)) (h4 : ¬ S (L + 4)) (h5 : ¬ S (L + 5)) (p kd : Int) : zline g L A p kd = zline h L A p kd := by
  unfold zline
  rw [a L 6 h0, zlf_ap a hA h1 h3 h4 h5]
theorem zLawOK_st {h : zH} {L : Int} (w : zLawOK h L) {o : Int} (k x : Int) (hn : o < L ∨ L + 5 < o) : zLawOK (zst h o k x) L := by
  unfold zLawOK
  rw [zst_ne (Or.inl (by omega))]
  refine ⟨w.1, fun l q1 q2 => ?_⟩
  rw [zst_ne (Or.inl (by omega)), zst_ne (Or.inl (by omega))]
  exact w.2 l q1 q2
theorem zline_st {h : zH} {L A : Int} {o : Int} (k x p kd : Int) (hn : o < L ∨ L + 5 < o) (hA : A ≠ o) : zline (zst h o k x) L A p kd = zline h L A p kd :=
  zline_ap (S := fun q => q = o) ((zap.rf (fun q => q = o) h).st (o := o) rfl k x) hA (by omega) (by omega) (by omega) (by omega) (by omega) p kd

set_option maxHeartbeats 4000000 in
set_option maxRecDepth 20000 in
theorem bX6_judge_0 {X : zX} {dep bc bs : Nat} (o : Int) (L : Int) (m : Int) {h : zH} {Q : Nat → zH → List zV → Prop} (ho : zRollO o) (hb : 113 ≤ o ∧ o ≤ 155) (hL : zLawO L) (hbl : 30 ≤ L ∧ L ≤ 107) (hm : 0 ≤ m ∧ m < 60)
    (k1 : ¬ (h 20 m) = 0 → (h (o + 4) ((m * 11) + 6)) < (h L 2) → Q 239 (zst (zst h (o + 6) m (-1)) (o + 5) m 1) [])
    (k2 : ¬ (h 20 m) = 0 → ¬ ((h (o + 4) ((m * 11) + 6)) < (h L 2)) → (h (o + 4) ((m * 11) + 6)) ≤ (h L 3) → zW mX6_judge X dep bc bs 239 79 [(0, xR o), (1, xR 3), (2, xR L), (3, xI m), (4, xI (m * 11))] [] (zst (zst h (o + 6) m (-1)) (o + 5) m 2) Q)
    (k3 : ¬ (h 20 m) = 0 → ¬ ((h (o + 4) ((m * 11) + 6)) < (h L 2)) → ¬ ((h (o + 4) ((m * 11) + 6)) ≤ (h L 3)) → Q 239 (zst (zst h (o + 6) m (-1)) (o + 5) m 1) [])
    (k4 : (h 20 m) = 0 → Q 239 (zst (zst h (o + 6) m (-1)) (o + 5) m 0) []) : zW mX6_judge X dep bc bs 239 0 [(0, xR o), (1, xR 3), (2, xR L), (3, xI m)] [] h Q := by
  refine z_iload_n 3 dX6_judge_0 rfl ?_
  refine z_bipush dX6_judge_1 (zi32_d rfl) (by decide) ?_
  refine z_imulN dX6_judge_3 (show -2147483648 ≤ m * 11 ∧ m * 11 < 2147483648 from ⟨by omega, by omega⟩).1 (show -2147483648 ≤ m * 11 ∧ m * 11 < 2147483648 from ⟨by omega, by omega⟩).2 ?_
  refine z_istore (lv' := [(4, xI (m * 11)), (0, xR o), (1, xR 3), (2, xR L), (3, xI m)]) dX6_judge_4 (by decide) rfl ?_
  refine z_aload_n 1 dX6_judge_6 rfl ?_
  refine z_getS (v := (o + 6)) (k := 4) (kz := 4) pk6 dX6_judge_7 (by decide) zb_416 rfl ho.1 rfl ho.2.2.2.2.2.2.2.2.2.2.2.2.2.2.2.2.2.1 ?_
  refine z_iload_n 4 dX6_judge_10 rfl ?_
  refine z_iconst dX6_judge_11 (zi32_d rfl) ?_
  refine z_iast dX6_judge_12 ho.2.2.2.2.2.2.1 hm.1 hm.2 ?_
  refine z_aload_n 2 dX6_judge_13 rfl ?_
  refine z_getS (v := 20) (k := 13) (kz := 13) pk4 dX6_judge_14 (by decide) zb_184 rfl (zOb.lit (by decide +kernel)) rfl (by decide +kernel) ?_
  refine z_iload_n 4 dX6_judge_17 rfl ?_
  refine z_zaldV (v := (h 20 m)) dX6_judge_18 (zOb.lit (by decide +kernel)) hm.1 hm.2 (zst_ne (Or.inl (by omega))) ?_
  refine z_if_ne (tgt := 30) dX6_judge_19 (by decide) (fun c1 => ?_) (fun c1 => ?_)
  ·
    refine z_aload_n 1 dX6_judge_30 rfl ?_
    refine z_getS (v := (o + 4)) (k := 2) (kz := 2) pk6 dX6_judge_31 (by decide) zb_413 rfl ho.1 rfl ho.2.2.2.2.2.2.2.2.2.2.2.2.2.2.2.1 ?_
    refine z_iload 0 dX6_judge_34 rfl ?_
    refine z_bipush dX6_judge_36 (zi32_d rfl) (by decide) ?_
    refine z_iaddN dX6_judge_38 (show -2147483648 ≤ (m * 11) + 6 ∧ (m * 11) + 6 < 2147483648 from ⟨by omega, by omega⟩).1 (show -2147483648 ≤ (m * 11) + 6 ∧ (m * 11) + 6 < 2147483648 from ⟨by omega, by omega⟩).2 ?_
    refine z_ialdV (v := (h (o + 4) ((m * 11) + 6))) dX6_judge_39 ho.2.2.2.2.1 (show 0 ≤ ((m * 11) + 6) ∧ ((m * 11) + 6) < 660 from ⟨by omega, by omega⟩).1 (show 0 ≤ ((m * 11) + 6) ∧ ((m * 11) + 6) < 660 from ⟨by omega, by omega⟩).2 (zst_ne (Or.inl (by omega))) ?_
    refine z_aload_n 3 dX6_judge_40 rfl ?_
    refine z_getIV (v := (h L 2)) (k := 2) (kz := 2) pk1 dX6_judge_41 (by decide) zb_277 rfl hL.1 rfl (zst_ne (Or.inl (by omega))) ?_
    refine z_icmp_lt (tgt := 64) dX6_judge_44 (by decide) (fun c2 => ?_) (fun c2 => ?_)
    ·
      refine z_aload_n 1 dX6_judge_64 rfl ?_
      refine z_getS (v := (o + 5)) (k := 3) (kz := 3) pk6 dX6_judge_65 (by decide) zb_414 rfl ho.1 rfl ho.2.2.2.2.2.2.2.2.2.2.2.2.2.2.2.2.1 ?_
      refine z_iload_n 4 dX6_judge_68 rfl ?_
      refine z_iconst dX6_judge_69 (zi32_d rfl) ?_
      refine z_iast dX6_judge_70 ho.2.2.2.2.2.1 hm.1 hm.2 ?_
      exact z_ret dX6_judge_71 rfl (k1 c1 c2)
    ·
      refine z_aload_n 1 dX6_judge_47 rfl ?_
      refine z_getS (v := (o + 4)) (k := 2) (kz := 2) pk6 dX6_judge_48 (by decide) zb_413 rfl ho.1 rfl ho.2.2.2.2.2.2.2.2.2.2.2.2.2.2.2.1 ?_
      refine z_iload 0 dX6_judge_51 rfl ?_
      refine z_bipush dX6_judge_53 (zi32_d rfl) (by decide) ?_
      refine z_iaddN dX6_judge_55 (show -2147483648 ≤ (m * 11) + 6 ∧ (m * 11) + 6 < 2147483648 from ⟨by omega, by omega⟩).1 (show -2147483648 ≤ (m * 11) + 6 ∧ (m * 11) + 6 < 2147483648 from ⟨by omega, by omega⟩).2 ?_
      refine z_ialdV (v := (h (o + 4) ((m * 11) + 6))) dX6_judge_56 ho.2.2.2.2.1 (show 0 ≤ ((m * 11) + 6) ∧ ((m * 11) + 6) < 660 from ⟨by omega, by omega⟩).1 (show 0 ≤ ((m * 11) + 6) ∧ ((m * 11) + 6) < 660 from ⟨by omega, by omega⟩).2 (zst_ne (Or.inl (by omega))) ?_
      refine z_aload_n 3 dX6_judge_57 rfl ?_
      refine z_getIV (v := (h L 3)) (k := 3) (kz := 3) pk1 dX6_judge_58 (by decide) zb_280 rfl hL.1 rfl (zst_ne (Or.inl (by omega))) ?_
      refine z_icmp_le (tgt := 72) dX6_judge_61 (by decide) (fun c3 => ?_) (fun c3 => ?_)
      ·
        refine z_aload_n 1 dX6_judge_72 rfl ?_
        refine z_getS (v := (o + 5)) (k := 3) (kz := 3) pk6 dX6_judge_73 (by decide) zb_414 rfl ho.1 rfl ho.2.2.2.2.2.2.2.2.2.2.2.2.2.2.2.2.1 ?_
        refine z_iload_n 4 dX6_judge_76 rfl ?_
        refine z_iconst dX6_judge_77 (zi32_d rfl) ?_
        refine z_iast dX6_judge_78 ho.2.2.2.2.2.1 hm.1 hm.2 ?_
        refine zW.sub (lv' := [(0, xR o), (1, xR 3), (2, xR L), (3, xI m), (4, xI (m * 11))]) [1, 2, 3, 4, 0] rfl ?_
        exact k2 c1 c2 c3
      ·
        refine z_aload_n 1 dX6_judge_64 rfl ?_
        refine z_getS (v := (o + 5)) (k := 3) (kz := 3) pk6 dX6_judge_65 (by decide) zb_414 rfl ho.1 rfl ho.2.2.2.2.2.2.2.2.2.2.2.2.2.2.2.2.1 ?_
        refine z_iload_n 4 dX6_judge_68 rfl ?_
        refine z_iconst dX6_judge_69 (zi32_d rfl) ?_
        refine z_iast dX6_judge_70 ho.2.2.2.2.2.1 hm.1 hm.2 ?_
        exact z_ret dX6_judge_71 rfl (k3 c1 c2 c3)
  ·
    refine z_aload_n 1 dX6_judge_22 rfl ?_
    refine z_getS (v := (o + 5)) (k := 3) (kz := 3) pk6 dX6_judge_23 (by decide) zb_414 rfl ho.1 rfl ho.2.2.2.2.2.2.2.2.2.2.2.2.2.2.2.2.1 ?_
    refine z_iload_n 4 dX6_judge_26 rfl ?_
    refine z_iconst dX6_judge_27 (zi32_d rfl) ?_
    refine z_iast dX6_judge_28 ho.2.2.2.2.2.1 hm.1 hm.2 ?_
    exact z_ret dX6_judge_29 rfl (k4 c1)

set_option maxHeartbeats 4000000 in
set_option maxRecDepth 20000 in
theorem bX6_judge_79 {X : zX} {dep bc bs : Nat} (o : Int) (L : Int) (m : Int) {h : zH} {Q : Nat → zH → List zV → Prop} (ho : zRollO o) (hb : 113 ≤ o ∧ o ≤ 155) (hL : zLawO L) (hbl : 30 ≤ L ∧ L ≤ 107) (hm : 0 ≤ m ∧ m < 60) (hw : zLawOK h L) (hdep : 3 ≤ dep)
    (k1 : ¬ (zline h L (o + 4) (m * 11) 1) = (-1) → zW mX6_judge X dep bc bs 239 130 [(0, xR o), (1, xR 3), (2, xR L), (3, xI m), (4, xI (m * 11))] [] (zst h (o + 6) m (zline h L (o + 4) (m * 11) 1)) Q)
    (k2 : (zline h L (o + 4) (m * 11) 1) = (-1) → zW mX6_judge X dep bc bs 239 106 [(0, xR o), (1, xR 3), (2, xR L), (3, xI m), (4, xI (m * 11))] [] (zst h (o + 6) m (zline h L (o + 4) (m * 11) 1)) Q) : zW mX6_judge X dep bc bs 239 79 [(0, xR o), (1, xR 3), (2, xR L), (3, xI m), (4, xI (m * 11))] [] h Q := by
  refine z_aload_n 0 dX6_judge_79 rfl ?_
  refine z_getS (v := (o + 6)) (k := 4) (kz := 4) pk6 dX6_judge_80 (by decide) zb_416 rfl ho.1 rfl ho.2.2.2.2.2.2.2.2.2.2.2.2.2.2.2.2.2.1 ?_
  refine z_iload_n 3 dX6_judge_83 rfl ?_
  refine z_aload_n 2 dX6_judge_84 rfl ?_
  refine z_iconst dX6_judge_85 (zi32_d rfl) ?_
  refine z_aload_n 0 dX6_judge_86 rfl ?_
  refine z_getS (v := (o + 4)) (k := 2) (kz := 2) pk6 dX6_judge_87 (by decide) zb_413 rfl ho.1 rfl ho.2.2.2.2.2.2.2.2.2.2.2.2.2.2.2.1 ?_
  refine z_iload 4 dX6_judge_90 rfl ?_
  refine z_invF (ci := 1) (N := 13) (as := [xI 1, xR (o + 4), xI (m * 11)]) (st := [xI m, xR (o + 6)]) (ra := [xI (m * 11), xR (o + 4), xI 1]) (dep' := dep - 1) (rs := [xI (zline h L (o + 4) (m * 11) 1)]) (h' := h) (f_X1_lineFor (X := X) (dep := dep - 1) L 1 (o + 4) (m * 11) (h := h) hL ho.2.2.2.2.1 (show 0 ≤ (m * 11) ∧ (m * 11) ≤ 660 by omega) hw (by omega)) dX6_judge_92 nX1_lineFor zb_903 zb_904 zb_905 zb_88 hL.1 rfl (by omega) zne_I (Nat.le_of_ble_eq_true rfl) (Nat.le_of_ble_eq_true rfl) rfl ?_
  refine z_iast dX6_judge_95 ho.2.2.2.2.2.2.1 hm.1 hm.2 ?_
  refine z_aload_n 0 dX6_judge_96 rfl ?_
  refine z_getS (v := (o + 6)) (k := 4) (kz := 4) pk6 dX6_judge_97 (by decide) zb_416 rfl ho.1 rfl ho.2.2.2.2.2.2.2.2.2.2.2.2.2.2.2.2.2.1 ?_
  refine z_iload_n 3 dX6_judge_100 rfl ?_
  refine z_ialdV (v := zline h L (o + 4) (m * 11) 1) dX6_judge_101 ho.2.2.2.2.2.2.1 hm.1 hm.2 (zst_self _ _ _ _) ?_
  refine z_iconst dX6_judge_102 (zi32_d rfl) ?_
  refine z_icmp_ne (tgt := 130) dX6_judge_103 (by decide) (fun c1 => ?_) (fun c1 => ?_)
  ·
    exact k1 c1
  ·
    exact k2 c1

set_option maxHeartbeats 4000000 in
set_option maxRecDepth 20000 in
theorem bX6_judge_106 {X : zX} {dep bc bs : Nat} (o : Int) (L : Int) (m : Int) {h : zH} {Q : Nat → zH → List zV → Prop} (ho : zRollO o) (hb : 113 ≤ o ∧ o ≤ 155) (hL : zLawO L) (hbl : 30 ≤ L ∧ L ≤ 107) (hm : 0 ≤ m ∧ m < 60) (hw : zLawOK h L) (hdep : 3 ≤ dep)
    (k1 : zW mX6_judge X dep bc bs 239 130 [(0, xR o), (1, xR 3), (2, xR L), (3, xI m), (4, xI (m * 11))] [] (zst (zst h (o + 5) m 3) (o + 6) m (zline h L (o + 4) (m * 11) 2)) Q) : zW mX6_judge X dep bc bs 239 106 [(0, xR o), (1, xR 3), (2, xR L), (3, xI m), (4, xI (m * 11))] [] h Q := by
  refine z_aload_n 0 dX6_judge_106 rfl ?_
  refine z_getS (v := (o + 5)) (k := 3) (kz := 3) pk6 dX6_judge_107 (by decide) zb_414 rfl ho.1 rfl ho.2.2.2.2.2.2.2.2.2.2.2.2.2.2.2.2.1 ?_
  refine z_iload_n 3 dX6_judge_110 rfl ?_
  refine z_iconst dX6_judge_111 (zi32_d rfl) ?_
  refine z_iast dX6_judge_112 ho.2.2.2.2.2.1 hm.1 hm.2 ?_
  refine z_aload_n 0 dX6_judge_113 rfl ?_
  refine z_getS (v := (o + 6)) (k := 4) (kz := 4) pk6 dX6_judge_114 (by decide) zb_416 rfl ho.1 rfl ho.2.2.2.2.2.2.2.2.2.2.2.2.2.2.2.2.2.1 ?_
  refine z_iload_n 3 dX6_judge_117 rfl ?_
  refine z_aload_n 2 dX6_judge_118 rfl ?_
  refine z_iconst dX6_judge_119 (zi32_d rfl) ?_
  refine z_aload_n 0 dX6_judge_120 rfl ?_
  refine z_getS (v := (o + 4)) (k := 2) (kz := 2) pk6 dX6_judge_121 (by decide) zb_413 rfl ho.1 rfl ho.2.2.2.2.2.2.2.2.2.2.2.2.2.2.2.1 ?_
  refine z_iload 4 dX6_judge_124 rfl ?_
  refine z_invF (ci := 1) (N := 13) (as := [xI 2, xR (o + 4), xI (m * 11)]) (st := [xI m, xR (o + 6)]) (ra := [xI (m * 11), xR (o + 4), xI 2]) (dep' := dep - 1) (rs := [xI (zline h L (o + 4) (m * 11) 2)]) (h' := (zst h (o + 5) m 3)) (by have z9 := f_X1_lineFor (X := X) (dep := dep - 1) L 2 (o + 4) (m * 11) (h := (zst h (o + 5) m 3)) hL ho.2.2.2.2.1 (show 0 ≤ (m * 11) ∧ (m * 11) ≤ 660 by omega) (zLawOK_st hw m 3 (by omega)) (by omega); rw [zline_st m 3 (m * 11) 2 (by omega) (by omega)] at z9; exact z9) dX6_judge_126 nX1_lineFor zb_903 zb_904 zb_905 zb_88 hL.1 rfl (by omega) zne_I (Nat.le_of_ble_eq_true rfl) (Nat.le_of_ble_eq_true rfl) rfl ?_
  refine z_iast dX6_judge_129 ho.2.2.2.2.2.2.1 hm.1 hm.2 ?_
  exact k1

set_option maxHeartbeats 4000000 in
set_option maxRecDepth 20000 in
theorem bX6_judge_130 {X : zX} {dep bc bs : Nat} (o : Int) (L : Int) (m : Int) {h : zH} {Q : Nat → zH → List zV → Prop} (ho : zRollO o) (hm : 0 ≤ m ∧ m < 60)
    (k1 : ¬ (h (o + 6) m) = (-1) → Q 239 h [])
    (k2 : (h (o + 6) m) = (-1) → zW mX6_judge X dep bc bs 239 140 [(0, xR o), (1, xR 3), (2, xR L), (3, xI m), (4, xI (m * 11))] [] h Q) : zW mX6_judge X dep bc bs 239 130 [(0, xR o), (1, xR 3), (2, xR L), (3, xI m), (4, xI (m * 11))] [] h Q := by
  refine z_aload_n 0 dX6_judge_130 rfl ?_
  refine z_getS (v := (o + 6)) (k := 4) (kz := 4) pk6 dX6_judge_131 (by decide) zb_416 rfl ho.1 rfl ho.2.2.2.2.2.2.2.2.2.2.2.2.2.2.2.2.2.1 ?_
  refine z_iload_n 3 dX6_judge_134 rfl ?_
  refine z_iald dX6_judge_135 ho.2.2.2.2.2.2.1 hm.1 hm.2 ?_
  refine z_iconst dX6_judge_136 (zi32_d rfl) ?_
  refine z_icmp_ne (tgt := 188) dX6_judge_137 (by decide) (fun c1 => ?_) (fun c1 => ?_)
  ·
    exact z_ret dX6_judge_188 rfl (k1 c1)
  ·
    exact k2 c1

set_option maxHeartbeats 4000000 in
set_option maxRecDepth 20000 in
theorem bX6_judge_140 {X : zX} {dep bc bs : Nat} (o : Int) (L : Int) (m : Int) {h : zH} {Q : Nat → zH → List zV → Prop} (ho : zRollO o) (hb : 113 ≤ o ∧ o ≤ 155) (hL : zLawO L) (hbl : 30 ≤ L ∧ L ≤ 107) (hm : 0 ≤ m ∧ m < 60) (hw : zLawOK h L) (hln : 0 ≤ h L 6 ∧ h L 6 ≤ 20) (hC : 0 ≤ (if zline h L (o + 4) (m * 11) 3 < 0 ∨ h L 6 ≤ zline h L (o + 4) (m * 11) 3 then 9 else h (L + 2) (zline h L (o + 4) (m * 11) 3) : Int) ∧ (if zline h L (o + 4) (m * 11) 3 < 0 ∨ h L 6 ≤ zline h L (o + 4) (m * 11) 3 then 9 else h (L + 2) (zline h L (o + 4) (m * 11) 3) : Int) ≤ 9) (hbw : -3120 ≤ h 19 m ∧ h 19 m < 520) (hlt : 0 ≤ h 6 m ∧ h 6 m < 26) (hwp : 0 ≤ h (o + 2) (h 19 m % 52) ∧ h (o + 2) (h 19 m % 52) < 52) (hlp : 0 ≤ h (o + 3) (h 6 m) ∧ h (o + 3) (h 6 m) < 26) (hdep : 3 ≤ dep)
    (k1 : Q 239 (zst (zst (zst h (o + 5) m 4) (o + 6) m (zline h L (o + 4) (m * 11) 3)) (o + 7) m ((((if (zline h L (o + 4) (m * 11) 3) < 0 ∨ (h L 6) ≤ (zline h L (o + 4) (m * 11) 3) then 9 else (h (L + 2) (zline h L (o + 4) (m * 11) 3))) * 52 + (h (o + 2) ((h 19 m) % 52))) * 26 + (h (o + 3) ((h 6 m)))) * 60 + m)) []) : zW mX6_judge X dep bc bs 239 140 [(0, xR o), (1, xR 3), (2, xR L), (3, xI m), (4, xI (m * 11))] [] h Q := by
  refine z_aload_n 0 dX6_judge_140 rfl ?_
  refine z_getS (v := (o + 5)) (k := 3) (kz := 3) pk6 dX6_judge_141 (by decide) zb_414 rfl ho.1 rfl ho.2.2.2.2.2.2.2.2.2.2.2.2.2.2.2.2.1 ?_
  refine z_iload_n 3 dX6_judge_144 rfl ?_
  refine z_iconst dX6_judge_145 (zi32_d rfl) ?_
  refine z_iast dX6_judge_146 ho.2.2.2.2.2.1 hm.1 hm.2 ?_
  refine z_aload_n 0 dX6_judge_147 rfl ?_
  refine z_getS (v := (o + 6)) (k := 4) (kz := 4) pk6 dX6_judge_148 (by decide) zb_416 rfl ho.1 rfl ho.2.2.2.2.2.2.2.2.2.2.2.2.2.2.2.2.2.1 ?_
  refine z_iload_n 3 dX6_judge_151 rfl ?_
  refine z_aload_n 2 dX6_judge_152 rfl ?_
  refine z_iconst dX6_judge_153 (zi32_d rfl) ?_
  refine z_aload_n 0 dX6_judge_154 rfl ?_
  refine z_getS (v := (o + 4)) (k := 2) (kz := 2) pk6 dX6_judge_155 (by decide) zb_413 rfl ho.1 rfl ho.2.2.2.2.2.2.2.2.2.2.2.2.2.2.2.1 ?_
  refine z_iload 4 dX6_judge_158 rfl ?_
  refine z_invF (ci := 1) (N := 13) (as := [xI 3, xR (o + 4), xI (m * 11)]) (st := [xI m, xR (o + 6)]) (ra := [xI (m * 11), xR (o + 4), xI 3]) (dep' := dep - 1) (rs := [xI (zline h L (o + 4) (m * 11) 3)]) (h' := (zst h (o + 5) m 4)) (by have z9 := f_X1_lineFor (X := X) (dep := dep - 1) L 3 (o + 4) (m * 11) (h := (zst h (o + 5) m 4)) hL ho.2.2.2.2.1 (show 0 ≤ (m * 11) ∧ (m * 11) ≤ 660 by omega) (zLawOK_st hw m 4 (by omega)) (by omega); rw [zline_st m 4 (m * 11) 3 (by omega) (by omega)] at z9; exact z9) dX6_judge_160 nX1_lineFor zb_903 zb_904 zb_905 zb_88 hL.1 rfl (by omega) zne_I (Nat.le_of_ble_eq_true rfl) (Nat.le_of_ble_eq_true rfl) rfl ?_
  refine z_iast dX6_judge_163 ho.2.2.2.2.2.2.1 hm.1 hm.2 ?_
  refine z_aload_n 0 dX6_judge_164 rfl ?_
  refine z_getS (v := (o + 7)) (k := 5) (kz := 5) pk6 dX6_judge_165 (by decide) zb_418 rfl ho.1 rfl ho.2.2.2.2.2.2.2.2.2.2.2.2.2.2.2.2.2.2.1 ?_
  refine z_iload_n 3 dX6_judge_168 rfl ?_
  refine z_aload_n 0 dX6_judge_169 rfl ?_
  refine z_aload_n 1 dX6_judge_170 rfl ?_
  refine z_iload_n 3 dX6_judge_171 rfl ?_
  refine z_aload_n 2 dX6_judge_172 rfl ?_
  refine z_aload_n 0 dX6_judge_173 rfl ?_
  refine z_getS (v := (o + 6)) (k := 4) (kz := 4) pk6 dX6_judge_174 (by decide) zb_416 rfl ho.1 rfl ho.2.2.2.2.2.2.2.2.2.2.2.2.2.2.2.2.2.1 ?_
  refine z_iload_n 3 dX6_judge_177 rfl ?_
  refine z_ialdV (v := zline h L (o + 4) (m * 11) 3) dX6_judge_178 ho.2.2.2.2.2.2.1 hm.1 hm.2 (zst_self _ _ _ _) ?_
  refine z_bipush dX6_judge_179 (zi32_d rfl) (by decide) ?_
  refine z_invF (ci := 1) (N := 13) (as := [xI (zline h L (o + 4) (m * 11) 3), xI 9]) (st := [xI m, xR 3, xR o, xI m, xR (o + 7)]) (ra := [xI 9, xI (zline h L (o + 4) (m * 11) 3)]) (dep' := dep - 1) (rs := [xI (if (zline h L (o + 4) (m * 11) 3) < 0 ∨ (h L 6) ≤ (zline h L (o + 4) (m * 11) 3) then 9 else (h (L + 2) (zline h L (o + 4) (m * 11) 3)))]) (h' := (zst (zst h (o + 5) m 4) (o + 6) m (zline h L (o + 4) (m * 11) 3))) (by have e1 : (zst (zst h (o + 5) m 4) (o + 6) m (zline h L (o + 4) (m * 11) 3)) L 6 = (h L 6) := ((zst_ne (Or.inl (by omega))).trans (zst_ne (Or.inl (by omega)))); have e2 : (zst (zst h (o + 5) m 4) (o + 6) m (zline h L (o + 4) (m * 11) 3)) (L + 2) (zline h L (o + 4) (m * 11) 3) = (h (L + 2) (zline h L (o + 4) (m * 11) 3)) := ((zst_ne (Or.inl (by omega))).trans (zst_ne (Or.inl (by omega)))); have z9 := f_X1_numberOf (X := X) (dep := dep - 1) L (zline h L (o + 4) (m * 11) 3) 9 (h := (zst (zst h (o + 5) m 4) (o + 6) m (zline h L (o + 4) (m * 11) 3))) hL (by have y1 : (zst (zst h (o + 5) m 4) (o + 6) m (zline h L (o + 4) (m * 11) 3)) L 6 = (h L 6) := ((zst_ne (Or.inl (by omega))).trans (zst_ne (Or.inl (by omega)))); simp only [y1]; omega); rw [e1, e2] at z9; exact z9) dX6_judge_181 nX1_numberOf zb_915 zb_916 zb_917 zb_88 hL.1 rfl (by omega) zne_I (Nat.le_of_ble_eq_true rfl) (Nat.le_of_ble_eq_true rfl) rfl ?_
  refine z_invF (ci := 6) (N := 13) (as := [xR 3, xI m, xI (if (zline h L (o + 4) (m * 11) 3) < 0 ∨ (h L 6) ≤ (zline h L (o + 4) (m * 11) 3) then 9 else (h (L + 2) (zline h L (o + 4) (m * 11) 3)))]) (st := [xI m, xR (o + 7)]) (ra := [xI (if (zline h L (o + 4) (m * 11) 3) < 0 ∨ (h L 6) ≤ (zline h L (o + 4) (m * 11) 3) then 9 else (h (L + 2) (zline h L (o + 4) (m * 11) 3))), xI m, xR 3]) (dep' := dep - 1) (rs := [xI ((((if (zline h L (o + 4) (m * 11) 3) < 0 ∨ (h L 6) ≤ (zline h L (o + 4) (m * 11) 3) then 9 else (h (L + 2) (zline h L (o + 4) (m * 11) 3))) * 52 + (h (o + 2) ((h 19 m) % 52))) * 26 + (h (o + 3) ((h 6 m)))) * 60 + m)]) (h' := (zst (zst h (o + 5) m 4) (o + 6) m (zline h L (o + 4) (m * 11) 3))) (by have e1 : (zst (zst h (o + 5) m 4) (o + 6) m (zline h L (o + 4) (m * 11) 3)) 19 m = (h 19 m) := ((zst_ne (Or.inl (by omega))).trans (zst_ne (Or.inl (by omega)))); have e2 : (zst (zst h (o + 5) m 4) (o + 6) m (zline h L (o + 4) (m * 11) 3)) (o + 2) ((h 19 m) % 52) = (h (o + 2) ((h 19 m) % 52)) := ((zst_ne (Or.inl (by omega))).trans (zst_ne (Or.inl (by omega)))); have e3 : (zst (zst h (o + 5) m 4) (o + 6) m (zline h L (o + 4) (m * 11) 3)) 6 m = (h 6 m) := ((zst_ne (Or.inl (by omega))).trans (zst_ne (Or.inl (by omega)))); have e4 : (zst (zst h (o + 5) m 4) (o + 6) m (zline h L (o + 4) (m * 11) 3)) (o + 3) ((h 6 m)) = (h (o + 3) ((h 6 m))) := ((zst_ne (Or.inl (by omega))).trans (zst_ne (Or.inl (by omega)))); have z9 := f_X6_orderOf (X := X) (dep := dep - 1) o m (if (zline h L (o + 4) (m * 11) 3) < 0 ∨ (h L 6) ≤ (zline h L (o + 4) (m * 11) 3) then 9 else (h (L + 2) (zline h L (o + 4) (m * 11) 3))) (h := (zst (zst h (o + 5) m 4) (o + 6) m (zline h L (o + 4) (m * 11) 3))) ho hm (show 0 ≤ (if (zline h L (o + 4) (m * 11) 3) < 0 ∨ (h L 6) ≤ (zline h L (o + 4) (m * 11) 3) then 9 else (h (L + 2) (zline h L (o + 4) (m * 11) 3))) ∧ (if (zline h L (o + 4) (m * 11) 3) < 0 ∨ (h L 6) ≤ (zline h L (o + 4) (m * 11) 3) then 9 else (h (L + 2) (zline h L (o + 4) (m * 11) 3))) ≤ 9 from ⟨by omega, by omega⟩) (by have y1 : (zst (zst h (o + 5) m 4) (o + 6) m (zline h L (o + 4) (m * 11) 3)) 19 m = (h 19 m) := ((zst_ne (Or.inl (by omega))).trans (zst_ne (Or.inl (by omega)))); simp only [y1]; omega) (by have y1 : (zst (zst h (o + 5) m 4) (o + 6) m (zline h L (o + 4) (m * 11) 3)) 6 m = (h 6 m) := ((zst_ne (Or.inl (by omega))).trans (zst_ne (Or.inl (by omega)))); simp only [y1]; omega) (by have y1 : (zst (zst h (o + 5) m 4) (o + 6) m (zline h L (o + 4) (m * 11) 3)) 19 m = (h 19 m) := ((zst_ne (Or.inl (by omega))).trans (zst_ne (Or.inl (by omega)))); have y2 : (zst (zst h (o + 5) m 4) (o + 6) m (zline h L (o + 4) (m * 11) 3)) (o + 2) ((h 19 m) % 52) = (h (o + 2) ((h 19 m) % 52)) := ((zst_ne (Or.inl (by omega))).trans (zst_ne (Or.inl (by omega)))); simp only [y1, y2]; omega) (by have y1 : (zst (zst h (o + 5) m 4) (o + 6) m (zline h L (o + 4) (m * 11) 3)) 6 m = (h 6 m) := ((zst_ne (Or.inl (by omega))).trans (zst_ne (Or.inl (by omega)))); have y2 : (zst (zst h (o + 5) m 4) (o + 6) m (zline h L (o + 4) (m * 11) 3)) (o + 3) ((h 6 m)) = (h (o + 3) ((h 6 m))) := ((zst_ne (Or.inl (by omega))).trans (zst_ne (Or.inl (by omega)))); simp only [y1, y2]; omega) (by omega); rw [e1, e2, e3, e4] at z9; exact z9) dX6_judge_184 nX6_orderOf zb_919 zb_921 zb_27 zb_90 ho.1 rfl (by omega) zne_I (Nat.le_of_ble_eq_true rfl) (Nat.le_of_ble_eq_true rfl) rfl ?_
  refine z_iast dX6_judge_187 ho.2.2.2.2.2.2.2.1 hm.1 hm.2 ?_
  exact z_ret dX6_judge_188 rfl (k1)

/-- state, line and order that a law gives a man, of what is asked -/
noncomputable def zjs (h : zH) (o L m : Int) : Int :=
  if h 20 m = 0 then 0 else if h (o + 4) (m * 11 + 6) < h L 2 ∨ h L 3 < h (o + 4) (m * 11 + 6) then 1 else if zline h L (o + 4) (m * 11) 1 ≠ -1 then 2 else if zline h L (o + 4) (m * 11) 2 ≠ -1 then 3 else 4
noncomputable def zjl (h : zH) (o L m : Int) : Int :=
  if zjs h o L m = 2 then zline h L (o + 4) (m * 11) 1 else if zjs h o L m = 3 then zline h L (o + 4) (m * 11) 2 else if zjs h o L m = 4 then zline h L (o + 4) (m * 11) 3 else -1
noncomputable def zjc (h : zH) (o L m : Int) : Int := if zline h L (o + 4) (m * 11) 3 < 0 ∨ h L 6 ≤ zline h L (o + 4) (m * 11) 3 then 9 else h (L + 2) (zline h L (o + 4) (m * 11) 3)
noncomputable def zjo (h : zH) (o L m : Int) : Int := ((zjc h o L m * 52 + h (o + 2) (h 19 m % 52)) * 26 + h (o + 3) (h 6 m)) * 60 + m
/-- what a lot's picks and a law's classes keep to -/
def zPick (h : zH) (o : Int) : Prop := (∀ k : Int, 0 ≤ k → k < 52 → 0 ≤ h (o + 2) k ∧ h (o + 2) k < 52) ∧ ∀ k : Int, 0 ≤ k → k < 26 → 0 ≤ h (o + 3) k ∧ h (o + 3) k < 26
def zClsOK (h : zH) (L : Int) : Prop := ∀ l : Int, 0 ≤ l → l < h L 6 → 0 ≤ h (L + 2) l ∧ h (L + 2) l ≤ 9 ∨ h (L + 1) l ≠ 3
theorem zlf_kind (h : zH) (L A p kd : Int) : ∀ (k : Nat) (i : Int), zlf h L A p kd k i ≠ -1 → h (L + 1) (zlf h L A p kd k i) = kd
  | 0, _, hn => absurd rfl hn
  | k + 1, i, hn => by
    unfold zlf at hn ⊢
    by_cases c : h (L + 1) i = kd ∧ zhold h L A p i
    · rw [if_pos c]
      exact c.1
    · rw [if_neg c] at hn ⊢
      exact zlf_kind h L A p kd k _ hn
theorem zjc_in {h : zH} {o L m : Int} (hw : zLawOK h L) (hc : zClsOK h L) : 0 ≤ zjc h o L m ∧ zjc h o L m ≤ 9 := by
  unfold zjc
  split
  · omega
  · have e : zline h L (o + 4) (m * 11) 3 ≠ -1 := by omega
    have k := zlf_kind h L (o + 4) (m * 11) 3 _ _ e
    have := hc (zline h L (o + 4) (m * 11) 3) (by omega) (by omega)
    rcases this with q | q
    · exact q
    · exact absurd k q
/-- what judging has changed so far -/
def zJu (h : zH) (o m : Int) (g : zH) : Prop := zap (fun q => q = o + 5 ∨ q = o + 6 ∨ q = o + 7) h g ∧ ∀ k : Int, k ≠ m → g (o + 5) k = h (o + 5) k ∧ g (o + 6) k = h (o + 6) k ∧ g (o + 7) k = h (o + 7) k
theorem zJu.rf (h : zH) (o m : Int) : zJu h o m h := ⟨zap.rf _ h, fun k _ => ⟨rfl, rfl, rfl⟩⟩
theorem zJu.st {h g : zH} {o m : Int} (a : zJu h o m g) {q : Int} (hq : q = o + 5 ∨ q = o + 6 ∨ q = o + 7) (x : Int) : zJu h o m (zst g q m x) :=
  ⟨a.1.st hq m x, fun k hk => ⟨(zst_ne (Or.inr hk)).trans (a.2 k hk).1, (zst_ne (Or.inr hk)).trans (a.2 k hk).2.1, (zst_ne (Or.inr hk)).trans (a.2 k hk).2.2⟩⟩
theorem zJu.eq {h g : zH} {o m : Int} (a : zJu h o m g) {q : Int} (hq : q < o + 5 ∨ o + 7 < q) (k : Int) : g q k = h q k := a.1 q k (by omega)
theorem zJu.line {h g : zH} {o m L : Int} (a : zJu h o m g) (hL : L + 5 < o ∨ o + 7 < L) (p kd : Int) : zline g L (o + 4) p kd = zline h L (o + 4) p kd :=
  zline_ap a.1 (by omega) (by omega) (by omega) (by omega) (by omega) (by omega) p kd
theorem zJu.law {h g : zH} {o m L : Int} (a : zJu h o m g) (hL : L + 5 < o ∨ o + 7 < L) (w : zLawOK h L) : zLawOK g L := by
  unfold zLawOK
  rw [a.eq (by omega)]
  refine ⟨w.1, fun l q1 q2 => ?_⟩
  rw [a.eq (by omega), a.eq (by omega)]
  exact w.2 l q1 q2
/-- the answer of judging -/
def zJd (h : zH) (o L m : Int) (g : zH) : Prop := zJu h o m g ∧ g (o + 5) m = zjs h o L m ∧ g (o + 6) m = zjl h o L m ∧ (zjs h o L m = 4 → g (o + 7) m = zjo h o L m)
theorem t_X6_judge_140 {X : zX} {dep : Nat} (o L m : Int) {h g : zH} (a : zJu h o m g) (ho : zRollO o) (hb : 113 ≤ o ∧ o ≤ 155) (hL : zLawO L) (hbl : 30 ≤ L ∧ L ≤ 107) (hm : 0 ≤ m ∧ m < 60) (hw : zLawOK h L) (hc : zClsOK h L) (hbw : -3120 ≤ h 19 m ∧ h 19 m < 520) (hlt : 0 ≤ h 6 m ∧ h 6 m < 26) (hp : zPick h o) (hdep : 3 ≤ dep) (hs : zjs h o L m = 4) :
    zW mX6_judge X dep 0 0 239 140 [(0, xR o), (1, xR 3), (2, xR L), (3, xI m), (4, xI (m * 11))] [] g (zQ0 (zJd h o L m)) := by
  have hcc := zjc_in (o := o) (m := m) hw hc
  have hdis : L + 5 < o ∨ o + 7 < L := by omega
  have wg := a.law hdis hw
  have q1 := hp.1 (h 19 m % 52) (by omega) (by omega)
  have q2 := hp.2 _ hlt.1 hlt.2
  have e1 := a.eq (q := 19) (by omega) m
  have e2 := a.eq (q := 6) (by omega) m
  have e3 := a.eq (q := o + 2) (by omega)
  have e4 := a.eq (q := o + 3) (by omega)
  have e5 := a.line hdis (m * 11) 3
  have e6 := a.eq (q := L) (by omega) 6
  have e7 := a.eq (q := L + 2) (by omega)
  have hcg : 0 ≤ (if zline g L (o + 4) (m * 11) 3 < 0 ∨ g L 6 ≤ zline g L (o + 4) (m * 11) 3 then 9 else g (L + 2) (zline g L (o + 4) (m * 11) 3) : Int) ∧ (if zline g L (o + 4) (m * 11) 3 < 0 ∨ g L 6 ≤ zline g L (o + 4) (m * 11) 3 then 9 else g (L + 2) (zline g L (o + 4) (m * 11) 3) : Int) ≤ 9 := by
    rw [e5, e6, e7]
    exact hcc
  refine bX6_judge_140 o L m ho hb hL hbl hm wg wg.1 hcg (by rw [e1]; exact hbw) (by rw [e2]; exact hlt) (by rw [e1, e3]; exact q1) (by rw [e2, e4]; exact q2) hdep ?_
  refine ⟨rfl, rfl, ((a.st (Or.inl rfl) _).st (Or.inr (Or.inl rfl)) _).st (Or.inr (Or.inr rfl)) _, ?_, ?_, fun _ => ?_⟩
  · rw [zst_ne (Or.inl (by omega)), zst_ne (Or.inl (by omega)), zst_self, hs]
  · rw [zst_ne (Or.inl (by omega)), zst_self, e5]
    unfold zjl
    rw [hs]
    rfl
  · rw [zst_self, e1, e2, e3, e4, e5, e6, e7]
    rfl
theorem t_X6_judge_130 {X : zX} {dep : Nat} (o L m : Int) {h g : zH} (a : zJu h o m g) (ho : zRollO o) (hb : 113 ≤ o ∧ o ≤ 155) (hL : zLawO L) (hbl : 30 ≤ L ∧ L ≤ 107) (hm : 0 ≤ m ∧ m < 60) (hw : zLawOK h L) (hc : zClsOK h L) (hbw : -3120 ≤ h 19 m ∧ h 19 m < 520) (hlt : 0 ≤ h 6 m ∧ h 6 m < 26) (hp : zPick h o) (hdep : 3 ≤ dep)
    (hs : if g (o + 6) m = -1 then zjs h o L m = 4 else g (o + 5) m = zjs h o L m ∧ g (o + 6) m = zjl h o L m ∧ zjs h o L m ≠ 4) :
    zW mX6_judge X dep 0 0 239 130 [(0, xR o), (1, xR 3), (2, xR L), (3, xI m), (4, xI (m * 11))] [] g (zQ0 (zJd h o L m)) := by
  refine bX6_judge_130 o L m ho hm ?_ ?_
  all_goals intro c
  · rw [if_neg c] at hs
    exact ⟨rfl, rfl, a, hs.1, hs.2.1, fun z => absurd z hs.2.2⟩
  · rw [if_pos (by omega)] at hs
    exact t_X6_judge_140 o L m a ho hb hL hbl hm hw hc hbw hlt hp hdep hs
theorem t_X6_judge_79 {X : zX} {dep : Nat} (o L m : Int) {h g : zH} (a : zJu h o m g) (ho : zRollO o) (hb : 113 ≤ o ∧ o ≤ 155) (hL : zLawO L) (hbl : 30 ≤ L ∧ L ≤ 107) (hm : 0 ≤ m ∧ m < 60) (hw : zLawOK h L) (hc : zClsOK h L) (hbw : -3120 ≤ h 19 m ∧ h 19 m < 520) (hlt : 0 ≤ h 6 m ∧ h 6 m < 26) (hp : zPick h o) (hdep : 3 ≤ dep)
    (h0 : ¬ h 20 m = 0) (h1 : ¬ (h (o + 4) (m * 11 + 6) < h L 2 ∨ h L 3 < h (o + 4) (m * 11 + 6))) (h5 : g (o + 5) m = 2) :
    zW mX6_judge X dep 0 0 239 79 [(0, xR o), (1, xR 3), (2, xR L), (3, xI m), (4, xI (m * 11))] [] g (zQ0 (zJd h o L m)) := by
  have hdis : L + 5 < o ∨ o + 7 < L := by omega
  have wg := a.law hdis hw
  have e1 := a.line hdis (m * 11) 1
  have e2 := a.line hdis (m * 11) 2
  refine bX6_judge_79 o L m ho hb hL hbl hm wg hdep ?_ ?_
  · intro c
    have cc : zline h L (o + 4) (m * 11) 1 ≠ -1 := by rw [← e1]; exact c
    have hs : zjs h o L m = 2 := by unfold zjs; rw [if_neg h0, if_neg h1, if_pos cc]
    refine t_X6_judge_130 o L m (a.st (Or.inr (Or.inl rfl)) _) ho hb hL hbl hm hw hc hbw hlt hp hdep ?_
    rw [if_neg (by rw [zst_self]; exact c)]
    refine ⟨?_, ?_, by omega⟩
    · rw [zst_ne (Or.inl (by omega)), h5, hs]
    · rw [zst_self, e1]
      unfold zjl
      rw [if_pos hs]
  · intro c
    have cc : ¬ zline h L (o + 4) (m * 11) 1 ≠ -1 := by rw [← e1]; omega
    have a2 := a.st (q := o + 6) (Or.inr (Or.inl rfl)) (zline g L (o + 4) (m * 11) 1)
    have wg2 := a2.law hdis hw
    have e3 := a2.line hdis (m * 11) 2
    refine bX6_judge_106 o L m ho hb hL hbl hm wg2 hdep ?_
    refine t_X6_judge_130 o L m ((a2.st (Or.inl rfl) _).st (Or.inr (Or.inl rfl)) _) ho hb hL hbl hm hw hc hbw hlt hp hdep ?_
    rw [zst_self, e3]
    by_cases c2 : zline h L (o + 4) (m * 11) 2 ≠ -1
    · have hs : zjs h o L m = 3 := by unfold zjs; rw [if_neg h0, if_neg h1, if_neg cc, if_pos c2]
      rw [if_neg c2]
      refine ⟨?_, ?_, by omega⟩
      · rw [zst_ne (Or.inl (by omega)), zst_self, hs]
      · unfold zjl
        rw [hs]
        rfl
    · have hs : zjs h o L m = 4 := by unfold zjs; rw [if_neg h0, if_neg h1, if_neg cc, if_neg c2]
      rw [if_pos (by omega)]
      exact hs
theorem f_X6_judge {X : zX} {dep : Nat} (o L m : Int) {h : zH} (ho : zRollO o) (hb : 113 ≤ o ∧ o ≤ 155) (hL : zLawO L) (hbl : 30 ≤ L ∧ L ≤ 107) (hm : 0 ≤ m ∧ m < 60) (hw : zLawOK h L) (hc : zClsOK h L) (hbw : -3120 ≤ h 19 m ∧ h 19 m < 520) (hlt : 0 ≤ h 6 m ∧ h 6 m < 26) (hp : zPick h o) (hdep : 3 ≤ dep) :
    zW mX6_judge X dep 0 0 239 0 (zar 0 [xR o, xR 3, xR L, xI m]) [] h (zQ0 (zJd h o L m)) := by
  have a1 := (zJu.rf h o m).st (q := o + 6) (Or.inr (Or.inl rfl)) (-1)
  refine bX6_judge_0 o L m ho hb hL hbl hm ?_ ?_ ?_ ?_
  all_goals intros
  · have hs : zjs h o L m = 1 := by unfold zjs; rw [if_neg (by assumption), if_pos (by omega)]
    refine ⟨rfl, rfl, a1.st (Or.inl rfl) _, ?_, ?_, fun z => by omega⟩
    · rw [zst_self, hs]
    · rw [zst_ne (Or.inl (by omega)), zst_self]
      unfold zjl
      rw [hs]
      rfl
  · exact t_X6_judge_79 o L m (a1.st (Or.inl rfl) 2) ho hb hL hbl hm hw hc hbw hlt hp hdep (by assumption) (by omega) (zst_self _ _ _ _)
  · have hs : zjs h o L m = 1 := by unfold zjs; rw [if_neg (by assumption), if_pos (by omega)]
    refine ⟨rfl, rfl, a1.st (Or.inl rfl) _, ?_, ?_, fun z => by omega⟩
    · rw [zst_self, hs]
    · rw [zst_ne (Or.inl (by omega)), zst_self]
      unfold zjl
      rw [hs]
      rfl
  · have hs : zjs h o L m = 0 := by unfold zjs; rw [if_pos (by assumption)]
    refine ⟨rfl, rfl, a1.st (Or.inl rfl) _, ?_, ?_, fun z => by omega⟩
    · rw [zst_self, hs]
    · rw [zst_ne (Or.inl (by omega)), zst_self]
      unfold zjl
      rw [hs]
      rfl
