/-! judging a man -/
theorem zans_ap {S : Int → Prop} {h g : zH} (a : zap S h g) {A : Int} (hA : ¬ S A) (s p : Int) : zans g A s p = zans h A s p := by
  unfold zans
  rw [a A _ hA]
theorem zwrun_ap {S : Int → Prop} {h g : zH} (a : zap S h g) {L A : Int} (hA : ¬ S A) (h5 : ¬ S (L + 5)) (p : Int) : ∀ (k : Nat) (i w : Int), zwrun g L A p k i w = zwrun h L A p k i w
  | 0, _, _ => rfl
  | k + 1, i, w => by
    unfold zwrun zwst
    rw [a (L + 5) i h5, zans_ap a hA, zwrun_ap a hA h5 p k]
theorem zhold_ap {S : Int → Prop} {h g : zH} (a : zap S h g) {L A : Int} (hA : ¬ S A) (h3 : ¬ S (L + 3)) (h4 : ¬ S (L + 4)) (h5 : ¬ S (L + 5)) (p l : Int) : zhold g L A p l ↔ zhold h L A p l := by
  unfold zhold
  rw [a (L + 3) l h3, a (L + 4) l h4, zwrun_ap a hA h5]
theorem zlf_ap {S : Int → Prop} {h g : zH} (a : zap S h g) {L A : Int} (hA : ¬ S A) (h1 : ¬ S (L + 1)) (h3 : ¬ S (L + 3)) (h4 : ¬ S (L + 4)) (h5 : ¬ S (L + 5)) (p kd : Int) : ∀ (k : Nat) (i : Int), zlf g L A p kd k i = zlf h L A p kd k i
  | 0, _ => rfl
  | k + 1, i => by
    unfold zlf
    have e := zhold_ap a hA h3 h4 h5 p i
    rw [a (L + 1) i h1, zlf_ap a hA h1 h3 h4 h5 p kd k]
    by_cases c : h (L + 1) i = kd ∧ zhold h L A p i
    · rw [if_pos c, if_pos ⟨c.1, e.mpr c.2⟩]
    · rw [if_neg c, if_neg (fun z => c ⟨z.1, e.mp z.2⟩)]
theorem zline_ap {S : Int → Prop} {h g : zH} (a : zap S h g) {L A : Int} (hA : ¬ S A) (h0 : ¬ S L) (h1 : ¬ S (L + 1)) (h3 : ¬ S (L + 3)) (h4 : ¬ S (L + 4)) (h5 : ¬ S (L + 5)) (p kd : Int) : zline g L A p kd = zline h L A p kd := by
  unfold zline
  rw [a L 6 h0, zlf_ap a hA h1 h3 h4 h5]
theorem zLawOK_st {h : zH} {L : Int} (w : zLawOK h L) {o : Int} (k x : Int) (hn : o < L ∨ L + 5 < o) : zLawOK (zst h o k x) L := by
  unfold zLawOK
  rw [zst_ne (Or.inl (by omega))]
  refine ⟨w.1, fun l q1 q2 => ?_⟩
  rw [zst_ne (Or.inl (by omega)), zst_ne (Or.inl (by omega))]
  exact w.2 l q1 q2
theorem zline_st {h : zH} {L A : Int} {o : Int} (k x p kd : Int) (hn : o < L ∨ L + 5 < o) (hA : A ≠ o) : zline (zst h o k x) L A p kd = zline h L A p kd :=
  zline_ap (S := fun q => q = o) ((zap.rf _ h).st rfl k x) hA (by omega) (by omega) (by omega) (by omega) (by omega) p kd

set_option maxRecDepth 20000 in
theorem bX6_judge_0 {X : zX} {dep bc bs : Nat} (o : Int) (L : Int) (m : Int) {h : zH} {Q : Nat → zH → List zV → Prop} (ho : zRollO o) (hb : 113 ≤ o ∧ o ≤ 155) (hL : zLawO L) (hbl : 30 ≤ L ∧ L ≤ 107) (hm : 0 ≤ m ∧ m < 60) (hw : zLawOK h L) (hln : 0 ≤ h L 6 ∧ h L 6 ≤ 20) (hC : 0 ≤ (if zline h L (o + 4) (m * 11) 3 < 0 ∨ h L 6 ≤ zline h L (o + 4) (m * 11) 3 then 9 else h (L + 2) (zline h L (o + 4) (m * 11) 3) : Int) ∧ (if zline h L (o + 4) (m * 11) 3 < 0 ∨ h L 6 ≤ zline h L (o + 4) (m * 11) 3 then 9 else h (L + 2) (zline h L (o + 4) (m * 11) 3) : Int) ≤ 9) (hbw : -3120 ≤ h 19 m ∧ h 19 m < 520) (hlt : 0 ≤ h 6 m ∧ h 6 m < 26) (hwp : 0 ≤ h (o + 2) (h 19 m % 52) ∧ h (o + 2) (h 19 m % 52) < 52) (hlp : 0 ≤ h (o + 3) (h 6 m) ∧ h (o + 3) (h 6 m) < 26) (hdep : 3 ≤ dep)
    (k1 : ¬ (h 20 m) = 0 → (h (o + 4) ((m * 11) + 6)) < (h L 2) → Q 239 (zst (zst h (o + 6) m (-1)) (o + 5) m 1) [])
    (k2 : ¬ (h 20 m) = 0 → ¬ ((h (o + 4) ((m * 11) + 6)) < (h L 2)) → (h (o + 4) ((m * 11) + 6)) ≤ (h L 3) → ¬ (zline h L (o + 4) (m * 11) 1) = (-1) → ¬ (zline h L (o + 4) (m * 11) 1) = (-1) → Q 239 (zst (zst (zst h (o + 6) m (-1)) (o + 5) m 2) (o + 6) m (zline h L (o + 4) (m * 11) 1)) [])
    (k3 : ¬ (h 20 m) = 0 → ¬ ((h (o + 4) ((m * 11) + 6)) < (h L 2)) → (h (o + 4) ((m * 11) + 6)) ≤ (h L 3) → ¬ (zline h L (o + 4) (m * 11) 1) = (-1) → (zline h L (o + 4) (m * 11) 1) = (-1) → Q 239 (zst (zst (zst (zst (zst (zst h (o + 6) m (-1)) (o + 5) m 2) (o + 6) m (zline h L (o + 4) (m * 11) 1)) (o + 5) m 4) (o + 6) m (zline h L (o + 4) (m * 11) 3)) (o + 7) m ((((if (zline h L (o + 4) (m * 11) 3) < 0 ∨ (h L 6) ≤ (zline h L (o + 4) (m * 11) 3) then 9 else (h (L + 2) (zline h L (o + 4) (m * 11) 3))) * 52 + (h (o + 2) ((h 19 m) % 52))) * 26 + (h (o + 3) ((h 6 m)))) * 60 + m)) [])
    (k4 : ¬ (h 20 m) = 0 → ¬ ((h (o + 4) ((m * 11) + 6)) < (h L 2)) → (h (o + 4) ((m * 11) + 6)) ≤ (h L 3) → (zline h L (o + 4) (m * 11) 1) = (-1) → ¬ (zline h L (o + 4) (m * 11) 2) = (-1) → Q 239 (zst (zst (zst (zst (zst h (o + 6) m (-1)) (o + 5) m 2) (o + 6) m (zline h L (o + 4) (m * 11) 1)) (o + 5) m 3) (o + 6) m (zline h L (o + 4) (m * 11) 2)) [])
    (k5 : ¬ (h 20 m) = 0 → ¬ ((h (o + 4) ((m * 11) + 6)) < (h L 2)) → (h (o + 4) ((m * 11) + 6)) ≤ (h L 3) → (zline h L (o + 4) (m * 11) 1) = (-1) → (zline h L (o + 4) (m * 11) 2) = (-1) → Q 239 (zst (zst (zst (zst (zst (zst (zst (zst h (o + 6) m (-1)) (o + 5) m 2) (o + 6) m (zline h L (o + 4) (m * 11) 1)) (o + 5) m 3) (o + 6) m (zline h L (o + 4) (m * 11) 2)) (o + 5) m 4) (o + 6) m (zline h L (o + 4) (m * 11) 3)) (o + 7) m ((((if (zline h L (o + 4) (m * 11) 3) < 0 ∨ (h L 6) ≤ (zline h L (o + 4) (m * 11) 3) then 9 else (h (L + 2) (zline h L (o + 4) (m * 11) 3))) * 52 + (h (o + 2) ((h 19 m) % 52))) * 26 + (h (o + 3) ((h 6 m)))) * 60 + m)) [])
    (k6 : ¬ (h 20 m) = 0 → ¬ ((h (o + 4) ((m * 11) + 6)) < (h L 2)) → ¬ ((h (o + 4) ((m * 11) + 6)) ≤ (h L 3)) → Q 239 (zst (zst h (o + 6) m (-1)) (o + 5) m 1) [])
    (k7 : (h 20 m) = 0 → Q 239 (zst (zst h (o + 6) m (-1)) (o + 5) m 0) []) : zW mX6_judge X dep bc bs 239 0 [(0, xR o), (1, xR 3), (2, xR L), (3, xI m)] [] h Q := by
  refine z_iload_n 3 dX6_judge_0 rfl ?_
  refine z_bipush dX6_judge_1 (zi32_d rfl) (by decide) ?_
  refine z_imulN dX6_judge_3 (show -2147483648 ≤ m * 11 ∧ m * 11 < 2147483648 from ⟨by omega, by omega⟩).1 (show -2147483648 ≤ m * 11 ∧ m * 11 < 2147483648 from ⟨by omega, by omega⟩).2 ?_
  refine z_istore (lv' := [(4, xI (m * 11)), (0, xR o), (1, xR 3), (2, xR L), (3, xI m)]) dX6_judge_4 (by decide) rfl ?_
  refine z_aload_n 1 dX6_judge_6 rfl ?_
  refine z_getS (v := (o + 6)) (k := 4) (kz := 4) pk6 dX6_judge_7 (by decide) zb_416 rfl ho.1 rfl ho.2.2.2.2.2.2.2.2.2.2.2.2.2.2.2.2.2.1 ?_
  refine z_iload_n 4 dX6_judge_10 rfl ?_
  refine z_iconst dX6_judge_11 (zi32_d rfl) ?_
  refine z_iast dX6_judge_12 ho.2.2.2.2.2.2.1 hm.1 hm.2 ?_
  refine z_aload_n 2 dX6_judge_13 rfl ?_
  refine z_getS (v := 20) (k := 13) (kz := 13) pk4 dX6_judge_14 (by decide) zb_184 rfl (zOb.lit (by decide +kernel)) rfl (by decide +kernel) ?_
  refine z_iload_n 4 dX6_judge_17 rfl ?_
  refine z_zaldV (v := (h 20 m)) dX6_judge_18 (zOb.lit (by decide +kernel)) hm.1 hm.2 (zst_ne (Or.inl (by omega))) ?_
  refine z_if_ne (tgt := 30) dX6_judge_19 (by decide) (fun c1 => ?_) (fun c1 => ?_)
  ·
    refine z_aload_n 1 dX6_judge_30 rfl ?_
    refine z_getS (v := (o + 4)) (k := 2) (kz := 2) pk6 dX6_judge_31 (by decide) zb_413 rfl ho.1 rfl ho.2.2.2.2.2.2.2.2.2.2.2.2.2.2.2.1 ?_
    refine z_iload 0 dX6_judge_34 rfl ?_
    refine z_bipush dX6_judge_36 (zi32_d rfl) (by decide) ?_
    refine z_iaddN dX6_judge_38 (show -2147483648 ≤ (m * 11) + 6 ∧ (m * 11) + 6 < 2147483648 from ⟨by omega, by omega⟩).1 (show -2147483648 ≤ (m * 11) + 6 ∧ (m * 11) + 6 < 2147483648 from ⟨by omega, by omega⟩).2 ?_
    refine z_ialdV (v := (h (o + 4) ((m * 11) + 6))) dX6_judge_39 ho.2.2.2.2.1 (show 0 ≤ ((m * 11) + 6) ∧ ((m * 11) + 6) < 660 from ⟨by omega, by omega⟩).1 (show 0 ≤ ((m * 11) + 6) ∧ ((m * 11) + 6) < 660 from ⟨by omega, by omega⟩).2 (zst_ne (Or.inl (by omega))) ?_
    refine z_aload_n 3 dX6_judge_40 rfl ?_
    refine z_getIV (v := (h L 2)) (k := 2) (kz := 2) pk1 dX6_judge_41 (by decide) zb_277 rfl hL.1 rfl (zst_ne (Or.inl (by omega))) ?_
    refine z_icmp_lt (tgt := 64) dX6_judge_44 (by decide) (fun c2 => ?_) (fun c2 => ?_)
    ·
      refine z_aload_n 1 dX6_judge_64 rfl ?_
      refine z_getS (v := (o + 5)) (k := 3) (kz := 3) pk6 dX6_judge_65 (by decide) zb_414 rfl ho.1 rfl ho.2.2.2.2.2.2.2.2.2.2.2.2.2.2.2.2.1 ?_
      refine z_iload_n 4 dX6_judge_68 rfl ?_
      refine z_iconst dX6_judge_69 (zi32_d rfl) ?_
      refine z_iast dX6_judge_70 ho.2.2.2.2.2.1 hm.1 hm.2 ?_
      exact z_ret dX6_judge_71 rfl (k1 c1 c2)
    ·
      refine z_aload_n 1 dX6_judge_47 rfl ?_
      refine z_getS (v := (o + 4)) (k := 2) (kz := 2) pk6 dX6_judge_48 (by decide) zb_413 rfl ho.1 rfl ho.2.2.2.2.2.2.2.2.2.2.2.2.2.2.2.1 ?_
      refine z_iload 0 dX6_judge_51 rfl ?_
      refine z_bipush dX6_judge_53 (zi32_d rfl) (by decide) ?_
      refine z_iaddN dX6_judge_55 (show -2147483648 ≤ (m * 11) + 6 ∧ (m * 11) + 6 < 2147483648 from ⟨by omega, by omega⟩).1 (show -2147483648 ≤ (m * 11) + 6 ∧ (m * 11) + 6 < 2147483648 from ⟨by omega, by omega⟩).2 ?_
      refine z_ialdV (v := (h (o + 4) ((m * 11) + 6))) dX6_judge_56 ho.2.2.2.2.1 (show 0 ≤ ((m * 11) + 6) ∧ ((m * 11) + 6) < 660 from ⟨by omega, by omega⟩).1 (show 0 ≤ ((m * 11) + 6) ∧ ((m * 11) + 6) < 660 from ⟨by omega, by omega⟩).2 (zst_ne (Or.inl (by omega))) ?_
      refine z_aload_n 3 dX6_judge_57 rfl ?_
      refine z_getIV (v := (h L 3)) (k := 3) (kz := 3) pk1 dX6_judge_58 (by decide) zb_280 rfl hL.1 rfl (zst_ne (Or.inl (by omega))) ?_
      refine z_icmp_le (tgt := 72) dX6_judge_61 (by decide) (fun c3 => ?_) (fun c3 => ?_)
      ·
        refine z_aload_n 1 dX6_judge_72 rfl ?_
        refine z_getS (v := (o + 5)) (k := 3) (kz := 3) pk6 dX6_judge_73 (by decide) zb_414 rfl ho.1 rfl ho.2.2.2.2.2.2.2.2.2.2.2.2.2.2.2.2.1 ?_
        refine z_iload_n 4 dX6_judge_76 rfl ?_
        refine z_iconst dX6_judge_77 (zi32_d rfl) ?_
        refine z_iast dX6_judge_78 ho.2.2.2.2.2.1 hm.1 hm.2 ?_
        refine z_aload_n 1 dX6_judge_79 rfl ?_
        refine z_getS (v := (o + 6)) (k := 4) (kz := 4) pk6 dX6_judge_80 (by decide) zb_416 rfl ho.1 rfl ho.2.2.2.2.2.2.2.2.2.2.2.2.2.2.2.2.2.1 ?_
        refine z_iload_n 4 dX6_judge_83 rfl ?_
        refine z_aload_n 3 dX6_judge_84 rfl ?_
        refine z_iconst dX6_judge_85 (zi32_d rfl) ?_
        refine z_aload_n 1 dX6_judge_86 rfl ?_
        refine z_getS (v := (o + 4)) (k := 2) (kz := 2) pk6 dX6_judge_87 (by decide) zb_413 rfl ho.1 rfl ho.2.2.2.2.2.2.2.2.2.2.2.2.2.2.2.1 ?_
        refine z_iload 0 dX6_judge_90 rfl ?_
        refine z_invF (ci := 1) (N := 13) (as := [xI 1, xR (o + 4), xI (m * 11)]) (st := [xI m, xR (o + 6)]) (ra := [xI (m * 11), xR (o + 4), xI 1]) (dep' := dep - 1) (rs := [xI (zline h L (o + 4) (m * 11) 1)]) (h' := (zst (zst h (o + 6) m (-1)) (o + 5) m 2)) (by have z9 := f_X1_lineFor (X := X) (dep := dep - 1) L 1 (o + 4) (m * 11) (h := (zst (zst h (o + 6) m (-1)) (o + 5) m 2)) hL ho.2.2.2.2.1 (show 0 ≤ (m * 11) ∧ (m * 11) ≤ 660 by omega) (zLawOK_st (zLawOK_st hw m (-1) (by omega)) m 2 (by omega)) (by omega); rw [zline_st m 2 (m * 11) 1 (by omega) (by omega), zline_st m (-1) (m * 11) 1 (by omega) (by omega)] at z9; exact z9) dX6_judge_92 nX1_lineFor zb_903 zb_904 zb_905 zb_88 hL.1 rfl (by omega) zne_I (Nat.le_of_ble_eq_true rfl) (Nat.le_of_ble_eq_true rfl) rfl ?_
        refine z_iast dX6_judge_95 ho.2.2.2.2.2.2.1 hm.1 hm.2 ?_
        refine z_aload_n 1 dX6_judge_96 rfl ?_
        refine z_getS (v := (o + 6)) (k := 4) (kz := 4) pk6 dX6_judge_97 (by decide) zb_416 rfl ho.1 rfl ho.2.2.2.2.2.2.2.2.2.2.2.2.2.2.2.2.2.1 ?_
        refine z_iload_n 4 dX6_judge_100 rfl ?_
        refine z_ialdV (v := zline h L (o + 4) (m * 11) 1) dX6_judge_101 ho.2.2.2.2.2.2.1 hm.1 hm.2 (zst_self _ _ _ _) ?_
        refine z_iconst dX6_judge_102 (zi32_d rfl) ?_
        refine z_icmp_ne (tgt := 130) dX6_judge_103 (by decide) (fun c4 => ?_) (fun c4 => ?_)
        ·
          refine z_aload_n 1 dX6_judge_130 rfl ?_
          refine z_getS (v := (o + 6)) (k := 4) (kz := 4) pk6 dX6_judge_131 (by decide) zb_416 rfl ho.1 rfl ho.2.2.2.2.2.2.2.2.2.2.2.2.2.2.2.2.2.1 ?_
          refine z_iload_n 4 dX6_judge_134 rfl ?_
          refine z_ialdV (v := zline h L (o + 4) (m * 11) 1) dX6_judge_135 ho.2.2.2.2.2.2.1 hm.1 hm.2 (zst_self _ _ _ _) ?_
          refine z_iconst dX6_judge_136 (zi32_d rfl) ?_
          refine z_icmp_ne (tgt := 188) dX6_judge_137 (by decide) (fun c5 => ?_) (fun c5 => ?_)
          ·
            exact z_ret dX6_judge_188 rfl (k2 c1 c2 c3 c4 c5)
          ·
            refine z_aload_n 1 dX6_judge_140 rfl ?_
            refine z_getS (v := (o + 5)) (k := 3) (kz := 3) pk6 dX6_judge_141 (by decide) zb_414 rfl ho.1 rfl ho.2.2.2.2.2.2.2.2.2.2.2.2.2.2.2.2.1 ?_
            refine z_iload_n 4 dX6_judge_144 rfl ?_
            refine z_iconst dX6_judge_145 (zi32_d rfl) ?_
            refine z_iast dX6_judge_146 ho.2.2.2.2.2.1 hm.1 hm.2 ?_
            refine z_aload_n 1 dX6_judge_147 rfl ?_
            refine z_getS (v := (o + 6)) (k := 4) (kz := 4) pk6 dX6_judge_148 (by decide) zb_416 rfl ho.1 rfl ho.2.2.2.2.2.2.2.2.2.2.2.2.2.2.2.2.2.1 ?_
            refine z_iload_n 4 dX6_judge_151 rfl ?_
            refine z_aload_n 3 dX6_judge_152 rfl ?_
            refine z_iconst dX6_judge_153 (zi32_d rfl) ?_
            refine z_aload_n 1 dX6_judge_154 rfl ?_
            refine z_getS (v := (o + 4)) (k := 2) (kz := 2) pk6 dX6_judge_155 (by decide) zb_413 rfl ho.1 rfl ho.2.2.2.2.2.2.2.2.2.2.2.2.2.2.2.1 ?_
            refine z_iload 0 dX6_judge_158 rfl ?_
            refine z_invF (ci := 1) (N := 13) (as := [xI 3, xR (o + 4), xI (m * 11)]) (st := [xI m, xR (o + 6)]) (ra := [xI (m * 11), xR (o + 4), xI 3]) (dep' := dep - 1) (rs := [xI (zline h L (o + 4) (m * 11) 3)]) (h' := (zst (zst (zst (zst h (o + 6) m (-1)) (o + 5) m 2) (o + 6) m (zline h L (o + 4) (m * 11) 1)) (o + 5) m 4)) (by have z9 := f_X1_lineFor (X := X) (dep := dep - 1) L 3 (o + 4) (m * 11) (h := (zst (zst (zst (zst h (o + 6) m (-1)) (o + 5) m 2) (o + 6) m (zline h L (o + 4) (m * 11) 1)) (o + 5) m 4)) hL ho.2.2.2.2.1 (show 0 ≤ (m * 11) ∧ (m * 11) ≤ 660 by omega) (zLawOK_st (zLawOK_st (zLawOK_st (zLawOK_st hw m (-1) (by omega)) m 2 (by omega)) m (zline h L (o + 4) (m * 11) 1) (by omega)) m 4 (by omega)) (by omega); rw [zline_st m 4 (m * 11) 3 (by omega) (by omega), zline_st m (zline h L (o + 4) (m * 11) 1) (m * 11) 3 (by omega) (by omega), zline_st m 2 (m * 11) 3 (by omega) (by omega), zline_st m (-1) (m * 11) 3 (by omega) (by omega)] at z9; exact z9) dX6_judge_160 nX1_lineFor zb_903 zb_904 zb_905 zb_88 hL.1 rfl (by omega) zne_I (Nat.le_of_ble_eq_true rfl) (Nat.le_of_ble_eq_true rfl) rfl ?_
            refine z_iast dX6_judge_163 ho.2.2.2.2.2.2.1 hm.1 hm.2 ?_
            refine z_aload_n 1 dX6_judge_164 rfl ?_
            refine z_getS (v := (o + 7)) (k := 5) (kz := 5) pk6 dX6_judge_165 (by decide) zb_418 rfl ho.1 rfl ho.2.2.2.2.2.2.2.2.2.2.2.2.2.2.2.2.2.2.1 ?_
            refine z_iload_n 4 dX6_judge_168 rfl ?_
            refine z_aload_n 1 dX6_judge_169 rfl ?_
            refine z_aload_n 2 dX6_judge_170 rfl ?_
            refine z_iload_n 4 dX6_judge_171 rfl ?_
            refine z_aload_n 3 dX6_judge_172 rfl ?_
            refine z_aload_n 1 dX6_judge_173 rfl ?_
            refine z_getS (v := (o + 6)) (k := 4) (kz := 4) pk6 dX6_judge_174 (by decide) zb_416 rfl ho.1 rfl ho.2.2.2.2.2.2.2.2.2.2.2.2.2.2.2.2.2.1 ?_
            refine z_iload_n 4 dX6_judge_177 rfl ?_
            refine z_ialdV (v := zline h L (o + 4) (m * 11) 3) dX6_judge_178 ho.2.2.2.2.2.2.1 hm.1 hm.2 (zst_self _ _ _ _) ?_
            refine z_bipush dX6_judge_179 (zi32_d rfl) (by decide) ?_
            refine z_invF (ci := 1) (N := 13) (as := [xI (zline h L (o + 4) (m * 11) 3), xI 9]) (st := [xI m, xR 3, xR o, xI m, xR (o + 7)]) (ra := [xI 9, xI (zline h L (o + 4) (m * 11) 3)]) (dep' := dep - 1) (rs := [xI (if (zline h L (o + 4) (m * 11) 3) < 0 ∨ (h L 6) ≤ (zline h L (o + 4) (m * 11) 3) then 9 else (h (L + 2) (zline h L (o + 4) (m * 11) 3)))]) (h' := (zst (zst (zst (zst (zst h (o + 6) m (-1)) (o + 5) m 2) (o + 6) m (zline h L (o + 4) (m * 11) 1)) (o + 5) m 4) (o + 6) m (zline h L (o + 4) (m * 11) 3))) (by have e1 : (zst (zst (zst (zst (zst h (o + 6) m (-1)) (o + 5) m 2) (o + 6) m (zline h L (o + 4) (m * 11) 1)) (o + 5) m 4) (o + 6) m (zline h L (o + 4) (m * 11) 3)) L 6 = (h L 6) := ((zst_ne (Or.inl (by omega))).trans ((zst_ne (Or.inl (by omega))).trans ((zst_ne (Or.inl (by omega))).trans ((zst_ne (Or.inl (by omega))).trans (zst_ne (Or.inl (by omega))))))); have e2 : (zst (zst (zst (zst (zst h (o + 6) m (-1)) (o + 5) m 2) (o + 6) m (zline h L (o + 4) (m * 11) 1)) (o + 5) m 4) (o + 6) m (zline h L (o + 4) (m * 11) 3)) (L + 2) (zline h L (o + 4) (m * 11) 3) = (h (L + 2) (zline h L (o + 4) (m * 11) 3)) := ((zst_ne (Or.inl (by omega))).trans ((zst_ne (Or.inl (by omega))).trans ((zst_ne (Or.inl (by omega))).trans ((zst_ne (Or.inl (by omega))).trans (zst_ne (Or.inl (by omega))))))); have z9 := f_X1_numberOf (X := X) (dep := dep - 1) L (zline h L (o + 4) (m * 11) 3) 9 (h := (zst (zst (zst (zst (zst h (o + 6) m (-1)) (o + 5) m 2) (o + 6) m (zline h L (o + 4) (m * 11) 1)) (o + 5) m 4) (o + 6) m (zline h L (o + 4) (m * 11) 3))) hL (by have y1 : (zst (zst (zst (zst (zst h (o + 6) m (-1)) (o + 5) m 2) (o + 6) m (zline h L (o + 4) (m * 11) 1)) (o + 5) m 4) (o + 6) m (zline h L (o + 4) (m * 11) 3)) L 6 = (h L 6) := ((zst_ne (Or.inl (by omega))).trans ((zst_ne (Or.inl (by omega))).trans ((zst_ne (Or.inl (by omega))).trans ((zst_ne (Or.inl (by omega))).trans (zst_ne (Or.inl (by omega))))))); simp only [y1]; omega); rw [e1, e2] at z9; exact z9) dX6_judge_181 nX1_numberOf zb_915 zb_916 zb_917 zb_88 hL.1 rfl (by omega) zne_I (Nat.le_of_ble_eq_true rfl) (Nat.le_of_ble_eq_true rfl) rfl ?_
            refine z_invF (ci := 6) (N := 13) (as := [xR 3, xI m, xI (if (zline h L (o + 4) (m * 11) 3) < 0 ∨ (h L 6) ≤ (zline h L (o + 4) (m * 11) 3) then 9 else (h (L + 2) (zline h L (o + 4) (m * 11) 3)))]) (st := [xI m, xR (o + 7)]) (ra := [xI (if (zline h L (o + 4) (m * 11) 3) < 0 ∨ (h L 6) ≤ (zline h L (o + 4) (m * 11) 3) then 9 else (h (L + 2) (zline h L (o + 4) (m * 11) 3))), xI m, xR 3]) (dep' := dep - 1) (rs := [xI ((((if (zline h L (o + 4) (m * 11) 3) < 0 ∨ (h L 6) ≤ (zline h L (o + 4) (m * 11) 3) then 9 else (h (L + 2) (zline h L (o + 4) (m * 11) 3))) * 52 + (h (o + 2) ((h 19 m) % 52))) * 26 + (h (o + 3) ((h 6 m)))) * 60 + m)]) (h' := (zst (zst (zst (zst (zst h (o + 6) m (-1)) (o + 5) m 2) (o + 6) m (zline h L (o + 4) (m * 11) 1)) (o + 5) m 4) (o + 6) m (zline h L (o + 4) (m * 11) 3))) (by have e1 : (zst (zst (zst (zst (zst h (o + 6) m (-1)) (o + 5) m 2) (o + 6) m (zline h L (o + 4) (m * 11) 1)) (o + 5) m 4) (o + 6) m (zline h L (o + 4) (m * 11) 3)) 19 m = (h 19 m) := ((zst_ne (Or.inl (by omega))).trans ((zst_ne (Or.inl (by omega))).trans ((zst_ne (Or.inl (by omega))).trans ((zst_ne (Or.inl (by omega))).trans (zst_ne (Or.inl (by omega))))))); have e2 : (zst (zst (zst (zst (zst h (o + 6) m (-1)) (o + 5) m 2) (o + 6) m (zline h L (o + 4) (m * 11) 1)) (o + 5) m 4) (o + 6) m (zline h L (o + 4) (m * 11) 3)) (o + 2) ((h 19 m) % 52) = (h (o + 2) ((h 19 m) % 52)) := ((zst_ne (Or.inl (by omega))).trans ((zst_ne (Or.inl (by omega))).trans ((zst_ne (Or.inl (by omega))).trans ((zst_ne (Or.inl (by omega))).trans (zst_ne (Or.inl (by omega))))))); have e3 : (zst (zst (zst (zst (zst h (o + 6) m (-1)) (o + 5) m 2) (o + 6) m (zline h L (o + 4) (m * 11) 1)) (o + 5) m 4) (o + 6) m (zline h L (o + 4) (m * 11) 3)) 6 m = (h 6 m) := ((zst_ne (Or.inl (by omega))).trans ((zst_ne (Or.inl (by omega))).trans ((zst_ne (Or.inl (by omega))).trans ((zst_ne (Or.inl (by omega))).trans (zst_ne (Or.inl (by omega))))))); have e4 : (zst (zst (zst (zst (zst h (o + 6) m (-1)) (o + 5) m 2) (o + 6) m (zline h L (o + 4) (m * 11) 1)) (o + 5) m 4) (o + 6) m (zline h L (o + 4) (m * 11) 3)) (o + 3) ((h 6 m)) = (h (o + 3) ((h 6 m))) := ((zst_ne (Or.inl (by omega))).trans ((zst_ne (Or.inl (by omega))).trans ((zst_ne (Or.inl (by omega))).trans ((zst_ne (Or.inl (by omega))).trans (zst_ne (Or.inl (by omega))))))); have z9 := f_X6_orderOf (X := X) (dep := dep - 1) o m (if (zline h L (o + 4) (m * 11) 3) < 0 ∨ (h L 6) ≤ (zline h L (o + 4) (m * 11) 3) then 9 else (h (L + 2) (zline h L (o + 4) (m * 11) 3))) (h := (zst (zst (zst (zst (zst h (o + 6) m (-1)) (o + 5) m 2) (o + 6) m (zline h L (o + 4) (m * 11) 1)) (o + 5) m 4) (o + 6) m (zline h L (o + 4) (m * 11) 3))) ho hm (show 0 ≤ (if (zline h L (o + 4) (m * 11) 3) < 0 ∨ (h L 6) ≤ (zline h L (o + 4) (m * 11) 3) then 9 else (h (L + 2) (zline h L (o + 4) (m * 11) 3))) ∧ (if (zline h L (o + 4) (m * 11) 3) < 0 ∨ (h L 6) ≤ (zline h L (o + 4) (m * 11) 3) then 9 else (h (L + 2) (zline h L (o + 4) (m * 11) 3))) ≤ 9 from ⟨by omega, by omega⟩) (by have y1 : (zst (zst (zst (zst (zst h (o + 6) m (-1)) (o + 5) m 2) (o + 6) m (zline h L (o + 4) (m * 11) 1)) (o + 5) m 4) (o + 6) m (zline h L (o + 4) (m * 11) 3)) 19 m = (h 19 m) := ((zst_ne (Or.inl (by omega))).trans ((zst_ne (Or.inl (by omega))).trans ((zst_ne (Or.inl (by omega))).trans ((zst_ne (Or.inl (by omega))).trans (zst_ne (Or.inl (by omega))))))); simp only [y1]; omega) (by have y1 : (zst (zst (zst (zst (zst h (o + 6) m (-1)) (o + 5) m 2) (o + 6) m (zline h L (o + 4) (m * 11) 1)) (o + 5) m 4) (o + 6) m (zline h L (o + 4) (m * 11) 3)) 6 m = (h 6 m) := ((zst_ne (Or.inl (by omega))).trans ((zst_ne (Or.inl (by omega))).trans ((zst_ne (Or.inl (by omega))).trans ((zst_ne (Or.inl (by omega))).trans (zst_ne (Or.inl (by omega))))))); simp only [y1]; omega) (by have y1 : (zst (zst (zst (zst (zst h (o + 6) m (-1)) (o + 5) m 2) (o + 6) m (zline h L (o + 4) (m * 11) 1)) (o + 5) m 4) (o + 6) m (zline h L (o + 4) (m * 11) 3)) 19 m = (h 19 m) := ((zst_ne (Or.inl (by omega))).trans ((zst_ne (Or.inl (by omega))).trans ((zst_ne (Or.inl (by omega))).trans ((zst_ne (Or.inl (by omega))).trans (zst_ne (Or.inl (by omega))))))); have y2 : (zst (zst (zst (zst (zst h (o + 6) m (-1)) (o + 5) m 2) (o + 6) m (zline h L (o + 4) (m * 11) 1)) (o + 5) m 4) (o + 6) m (zline h L (o + 4) (m * 11) 3)) (o + 2) ((h 19 m) % 52) = (h (o + 2) ((h 19 m) % 52)) := ((zst_ne (Or.inl (by omega))).trans ((zst_ne (Or.inl (by omega))).trans ((zst_ne (Or.inl (by omega))).trans ((zst_ne (Or.inl (by omega))).trans (zst_ne (Or.inl (by omega))))))); simp only [y1, y2]; omega) (by have y1 : (zst (zst (zst (zst (zst h (o + 6) m (-1)) (o + 5) m 2) (o + 6) m (zline h L (o + 4) (m * 11) 1)) (o + 5) m 4) (o + 6) m (zline h L (o + 4) (m * 11) 3)) 6 m = (h 6 m) := ((zst_ne (Or.inl (by omega))).trans ((zst_ne (Or.inl (by omega))).trans ((zst_ne (Or.inl (by omega))).trans ((zst_ne (Or.inl (by omega))).trans (zst_ne (Or.inl (by omega))))))); have y2 : (zst (zst (zst (zst (zst h (o + 6) m (-1)) (o + 5) m 2) (o + 6) m (zline h L (o + 4) (m * 11) 1)) (o + 5) m 4) (o + 6) m (zline h L (o + 4) (m * 11) 3)) (o + 3) ((h 6 m)) = (h (o + 3) ((h 6 m))) := ((zst_ne (Or.inl (by omega))).trans ((zst_ne (Or.inl (by omega))).trans ((zst_ne (Or.inl (by omega))).trans ((zst_ne (Or.inl (by omega))).trans (zst_ne (Or.inl (by omega))))))); simp only [y1, y2]; omega) (by omega); rw [e1, e2, e3, e4] at z9; exact z9) dX6_judge_184 nX6_orderOf zb_919 zb_921 zb_27 zb_90 ho.1 rfl (by omega) zne_I (Nat.le_of_ble_eq_true rfl) (Nat.le_of_ble_eq_true rfl) rfl ?_
            refine z_iast dX6_judge_187 ho.2.2.2.2.2.2.2.1 hm.1 hm.2 ?_
            exact z_ret dX6_judge_188 rfl (k3 c1 c2 c3 c4 c5)
        ·
          refine z_aload_n 1 dX6_judge_106 rfl ?_
          refine z_getS (v := (o + 5)) (k := 3) (kz := 3) pk6 dX6_judge_107 (by decide) zb_414 rfl ho.1 rfl ho.2.2.2.2.2.2.2.2.2.2.2.2.2.2.2.2.1 ?_
          refine z_iload_n 4 dX6_judge_110 rfl ?_
          refine z_iconst dX6_judge_111 (zi32_d rfl) ?_
          refine z_iast dX6_judge_112 ho.2.2.2.2.2.1 hm.1 hm.2 ?_
          refine z_aload_n 1 dX6_judge_113 rfl ?_
          refine z_getS (v := (o + 6)) (k := 4) (kz := 4) pk6 dX6_judge_114 (by decide) zb_416 rfl ho.1 rfl ho.2.2.2.2.2.2.2.2.2.2.2.2.2.2.2.2.2.1 ?_
          refine z_iload_n 4 dX6_judge_117 rfl ?_
          refine z_aload_n 3 dX6_judge_118 rfl ?_
          refine z_iconst dX6_judge_119 (zi32_d rfl) ?_
          refine z_aload_n 1 dX6_judge_120 rfl ?_
          refine z_getS (v := (o + 4)) (k := 2) (kz := 2) pk6 dX6_judge_121 (by decide) zb_413 rfl ho.1 rfl ho.2.2.2.2.2.2.2.2.2.2.2.2.2.2.2.1 ?_
          refine z_iload 0 dX6_judge_124 rfl ?_
          refine z_invF (ci := 1) (N := 13) (as := [xI 2, xR (o + 4), xI (m * 11)]) (st := [xI m, xR (o + 6)]) (ra := [xI (m * 11), xR (o + 4), xI 2]) (dep' := dep - 1) (rs := [xI (zline h L (o + 4) (m * 11) 2)]) (h' := (zst (zst (zst (zst h (o + 6) m (-1)) (o + 5) m 2) (o + 6) m (zline h L (o + 4) (m * 11) 1)) (o + 5) m 3)) (by have z9 := f_X1_lineFor (X := X) (dep := dep - 1) L 2 (o + 4) (m * 11) (h := (zst (zst (zst (zst h (o + 6) m (-1)) (o + 5) m 2) (o + 6) m (zline h L (o + 4) (m * 11) 1)) (o + 5) m 3)) hL ho.2.2.2.2.1 (show 0 ≤ (m * 11) ∧ (m * 11) ≤ 660 by omega) (zLawOK_st (zLawOK_st (zLawOK_st (zLawOK_st hw m (-1) (by omega)) m 2 (by omega)) m (zline h L (o + 4) (m * 11) 1) (by omega)) m 3 (by omega)) (by omega); rw [zline_st m 3 (m * 11) 2 (by omega) (by omega), zline_st m (zline h L (o + 4) (m * 11) 1) (m * 11) 2 (by omega) (by omega), zline_st m 2 (m * 11) 2 (by omega) (by omega), zline_st m (-1) (m * 11) 2 (by omega) (by omega)] at z9; exact z9) dX6_judge_126 nX1_lineFor zb_903 zb_904 zb_905 zb_88 hL.1 rfl (by omega) zne_I (Nat.le_of_ble_eq_true rfl) (Nat.le_of_ble_eq_true rfl) rfl ?_
          refine z_iast dX6_judge_129 ho.2.2.2.2.2.2.1 hm.1 hm.2 ?_
          refine z_aload_n 1 dX6_judge_130 rfl ?_
          refine z_getS (v := (o + 6)) (k := 4) (kz := 4) pk6 dX6_judge_131 (by decide) zb_416 rfl ho.1 rfl ho.2.2.2.2.2.2.2.2.2.2.2.2.2.2.2.2.2.1 ?_
          refine z_iload_n 4 dX6_judge_134 rfl ?_
          refine z_ialdV (v := zline h L (o + 4) (m * 11) 2) dX6_judge_135 ho.2.2.2.2.2.2.1 hm.1 hm.2 (zst_self _ _ _ _) ?_
          refine z_iconst dX6_judge_136 (zi32_d rfl) ?_
          refine z_icmp_ne (tgt := 188) dX6_judge_137 (by decide) (fun c5 => ?_) (fun c5 => ?_)
          ·
            exact z_ret dX6_judge_188 rfl (k4 c1 c2 c3 c4 c5)
          ·
            refine z_aload_n 1 dX6_judge_140 rfl ?_
            refine z_getS (v := (o + 5)) (k := 3) (kz := 3) pk6 dX6_judge_141 (by decide) zb_414 rfl ho.1 rfl ho.2.2.2.2.2.2.2.2.2.2.2.2.2.2.2.2.1 ?_
            refine z_iload_n 4 dX6_judge_144 rfl ?_
            refine z_iconst dX6_judge_145 (zi32_d rfl) ?_
            refine z_iast dX6_judge_146 ho.2.2.2.2.2.1 hm.1 hm.2 ?_
            refine z_aload_n 1 dX6_judge_147 rfl ?_
            refine z_getS (v := (o + 6)) (k := 4) (kz := 4) pk6 dX6_judge_148 (by decide) zb_416 rfl ho.1 rfl ho.2.2.2.2.2.2.2.2.2.2.2.2.2.2.2.2.2.1 ?_
            refine z_iload_n 4 dX6_judge_151 rfl ?_
            refine z_aload_n 3 dX6_judge_152 rfl ?_
            refine z_iconst dX6_judge_153 (zi32_d rfl) ?_
            refine z_aload_n 1 dX6_judge_154 rfl ?_
            refine z_getS (v := (o + 4)) (k := 2) (kz := 2) pk6 dX6_judge_155 (by decide) zb_413 rfl ho.1 rfl ho.2.2.2.2.2.2.2.2.2.2.2.2.2.2.2.1 ?_
            refine z_iload 0 dX6_judge_158 rfl ?_
            refine z_invF (ci := 1) (N := 13) (as := [xI 3, xR (o + 4), xI (m * 11)]) (st := [xI m, xR (o + 6)]) (ra := [xI (m * 11), xR (o + 4), xI 3]) (dep' := dep - 1) (rs := [xI (zline h L (o + 4) (m * 11) 3)]) (h' := (zst (zst (zst (zst (zst (zst h (o + 6) m (-1)) (o + 5) m 2) (o + 6) m (zline h L (o + 4) (m * 11) 1)) (o + 5) m 3) (o + 6) m (zline h L (o + 4) (m * 11) 2)) (o + 5) m 4)) (by have z9 := f_X1_lineFor (X := X) (dep := dep - 1) L 3 (o + 4) (m * 11) (h := (zst (zst (zst (zst (zst (zst h (o + 6) m (-1)) (o + 5) m 2) (o + 6) m (zline h L (o + 4) (m * 11) 1)) (o + 5) m 3) (o + 6) m (zline h L (o + 4) (m * 11) 2)) (o + 5) m 4)) hL ho.2.2.2.2.1 (show 0 ≤ (m * 11) ∧ (m * 11) ≤ 660 by omega) (zLawOK_st (zLawOK_st (zLawOK_st (zLawOK_st (zLawOK_st (zLawOK_st hw m (-1) (by omega)) m 2 (by omega)) m (zline h L (o + 4) (m * 11) 1) (by omega)) m 3 (by omega)) m (zline h L (o + 4) (m * 11) 2) (by omega)) m 4 (by omega)) (by omega); rw [zline_st m 4 (m * 11) 3 (by omega) (by omega), zline_st m (zline h L (o + 4) (m * 11) 2) (m * 11) 3 (by omega) (by omega), zline_st m 3 (m * 11) 3 (by omega) (by omega), zline_st m (zline h L (o + 4) (m * 11) 1) (m * 11) 3 (by omega) (by omega), zline_st m 2 (m * 11) 3 (by omega) (by omega), zline_st m (-1) (m * 11) 3 (by omega) (by omega)] at z9; exact z9) dX6_judge_160 nX1_lineFor zb_903 zb_904 zb_905 zb_88 hL.1 rfl (by omega) zne_I (Nat.le_of_ble_eq_true rfl) (Nat.le_of_ble_eq_true rfl) rfl ?_
            refine z_iast dX6_judge_163 ho.2.2.2.2.2.2.1 hm.1 hm.2 ?_
            refine z_aload_n 1 dX6_judge_164 rfl ?_
            refine z_getS (v := (o + 7)) (k := 5) (kz := 5) pk6 dX6_judge_165 (by decide) zb_418 rfl ho.1 rfl ho.2.2.2.2.2.2.2.2.2.2.2.2.2.2.2.2.2.2.1 ?_
            refine z_iload_n 4 dX6_judge_168 rfl ?_
            refine z_aload_n 1 dX6_judge_169 rfl ?_
            refine z_aload_n 2 dX6_judge_170 rfl ?_
            refine z_iload_n 4 dX6_judge_171 rfl ?_
            refine z_aload_n 3 dX6_judge_172 rfl ?_
            refine z_aload_n 1 dX6_judge_173 rfl ?_
            refine z_getS (v := (o + 6)) (k := 4) (kz := 4) pk6 dX6_judge_174 (by decide) zb_416 rfl ho.1 rfl ho.2.2.2.2.2.2.2.2.2.2.2.2.2.2.2.2.2.1 ?_
            refine z_iload_n 4 dX6_judge_177 rfl ?_
            refine z_ialdV (v := zline h L (o + 4) (m * 11) 3) dX6_judge_178 ho.2.2.2.2.2.2.1 hm.1 hm.2 (zst_self _ _ _ _) ?_
            refine z_bipush dX6_judge_179 (zi32_d rfl) (by decide) ?_
            refine z_invF (ci := 1) (N := 13) (as := [xI (zline h L (o + 4) (m * 11) 3), xI 9]) (st := [xI m, xR 3, xR o, xI m, xR (o + 7)]) (ra := [xI 9, xI (zline h L (o + 4) (m * 11) 3)]) (dep' := dep - 1) (rs := [xI (if (zline h L (o + 4) (m * 11) 3) < 0 ∨ (h L 6) ≤ (zline h L (o + 4) (m * 11) 3) then 9 else (h (L + 2) (zline h L (o + 4) (m * 11) 3)))]) (h' := (zst (zst (zst (zst (zst (zst (zst h (o + 6) m (-1)) (o + 5) m 2) (o + 6) m (zline h L (o + 4) (m * 11) 1)) (o + 5) m 3) (o + 6) m (zline h L (o + 4) (m * 11) 2)) (o + 5) m 4) (o + 6) m (zline h L (o + 4) (m * 11) 3))) (by have e1 : (zst (zst (zst (zst (zst (zst (zst h (o + 6) m (-1)) (o + 5) m 2) (o + 6) m (zline h L (o + 4) (m * 11) 1)) (o + 5) m 3) (o + 6) m (zline h L (o + 4) (m * 11) 2)) (o + 5) m 4) (o + 6) m (zline h L (o + 4) (m * 11) 3)) L 6 = (h L 6) := ((zst_ne (Or.inl (by omega))).trans ((zst_ne (Or.inl (by omega))).trans ((zst_ne (Or.inl (by omega))).trans ((zst_ne (Or.inl (by omega))).trans ((zst_ne (Or.inl (by omega))).trans ((zst_ne (Or.inl (by omega))).trans (zst_ne (Or.inl (by omega))))))))); have e2 : (zst (zst (zst (zst (zst (zst (zst h (o + 6) m (-1)) (o + 5) m 2) (o + 6) m (zline h L (o + 4) (m * 11) 1)) (o + 5) m 3) (o + 6) m (zline h L (o + 4) (m * 11) 2)) (o + 5) m 4) (o + 6) m (zline h L (o + 4) (m * 11) 3)) (L + 2) (zline h L (o + 4) (m * 11) 3) = (h (L + 2) (zline h L (o + 4) (m * 11) 3)) := ((zst_ne (Or.inl (by omega))).trans ((zst_ne (Or.inl (by omega))).trans ((zst_ne (Or.inl (by omega))).trans ((zst_ne (Or.inl (by omega))).trans ((zst_ne (Or.inl (by omega))).trans ((zst_ne (Or.inl (by omega))).trans (zst_ne (Or.inl (by omega))))))))); have z9 := f_X1_numberOf (X := X) (dep := dep - 1) L (zline h L (o + 4) (m * 11) 3) 9 (h := (zst (zst (zst (zst (zst (zst (zst h (o + 6) m (-1)) (o + 5) m 2) (o + 6) m (zline h L (o + 4) (m * 11) 1)) (o + 5) m 3) (o + 6) m (zline h L (o + 4) (m * 11) 2)) (o + 5) m 4) (o + 6) m (zline h L (o + 4) (m * 11) 3))) hL (by have y1 : (zst (zst (zst (zst (zst (zst (zst h (o + 6) m (-1)) (o + 5) m 2) (o + 6) m (zline h L (o + 4) (m * 11) 1)) (o + 5) m 3) (o + 6) m (zline h L (o + 4) (m * 11) 2)) (o + 5) m 4) (o + 6) m (zline h L (o + 4) (m * 11) 3)) L 6 = (h L 6) := ((zst_ne (Or.inl (by omega))).trans ((zst_ne (Or.inl (by omega))).trans ((zst_ne (Or.inl (by omega))).trans ((zst_ne (Or.inl (by omega))).trans ((zst_ne (Or.inl (by omega))).trans ((zst_ne (Or.inl (by omega))).trans (zst_ne (Or.inl (by omega))))))))); simp only [y1]; omega); rw [e1, e2] at z9; exact z9) dX6_judge_181 nX1_numberOf zb_915 zb_916 zb_917 zb_88 hL.1 rfl (by omega) zne_I (Nat.le_of_ble_eq_true rfl) (Nat.le_of_ble_eq_true rfl) rfl ?_
            refine z_invF (ci := 6) (N := 13) (as := [xR 3, xI m, xI (if (zline h L (o + 4) (m * 11) 3) < 0 ∨ (h L 6) ≤ (zline h L (o + 4) (m * 11) 3) then 9 else (h (L + 2) (zline h L (o + 4) (m * 11) 3)))]) (st := [xI m, xR (o + 7)]) (ra := [xI (if (zline h L (o + 4) (m * 11) 3) < 0 ∨ (h L 6) ≤ (zline h L (o + 4) (m * 11) 3) then 9 else (h (L + 2) (zline h L (o + 4) (m * 11) 3))), xI m, xR 3]) (dep' := dep - 1) (rs := [xI ((((if (zline h L (o + 4) (m * 11) 3) < 0 ∨ (h L 6) ≤ (zline h L (o + 4) (m * 11) 3) then 9 else (h (L + 2) (zline h L (o + 4) (m * 11) 3))) * 52 + (h (o + 2) ((h 19 m) % 52))) * 26 + (h (o + 3) ((h 6 m)))) * 60 + m)]) (h' := (zst (zst (zst (zst (zst (zst (zst h (o + 6) m (-1)) (o + 5) m 2) (o + 6) m (zline h L (o + 4) (m * 11) 1)) (o + 5) m 3) (o + 6) m (zline h L (o + 4) (m * 11) 2)) (o + 5) m 4) (o + 6) m (zline h L (o + 4) (m * 11) 3))) (by have e1 : (zst (zst (zst (zst (zst (zst (zst h (o + 6) m (-1)) (o + 5) m 2) (o + 6) m (zline h L (o + 4) (m * 11) 1)) (o + 5) m 3) (o + 6) m (zline h L (o + 4) (m * 11) 2)) (o + 5) m 4) (o + 6) m (zline h L (o + 4) (m * 11) 3)) 19 m = (h 19 m) := ((zst_ne (Or.inl (by omega))).trans ((zst_ne (Or.inl (by omega))).trans ((zst_ne (Or.inl (by omega))).trans ((zst_ne (Or.inl (by omega))).trans ((zst_ne (Or.inl (by omega))).trans ((zst_ne (Or.inl (by omega))).trans (zst_ne (Or.inl (by omega))))))))); have e2 : (zst (zst (zst (zst (zst (zst (zst h (o + 6) m (-1)) (o + 5) m 2) (o + 6) m (zline h L (o + 4) (m * 11) 1)) (o + 5) m 3) (o + 6) m (zline h L (o + 4) (m * 11) 2)) (o + 5) m 4) (o + 6) m (zline h L (o + 4) (m * 11) 3)) (o + 2) ((h 19 m) % 52) = (h (o + 2) ((h 19 m) % 52)) := ((zst_ne (Or.inl (by omega))).trans ((zst_ne (Or.inl (by omega))).trans ((zst_ne (Or.inl (by omega))).trans ((zst_ne (Or.inl (by omega))).trans ((zst_ne (Or.inl (by omega))).trans ((zst_ne (Or.inl (by omega))).trans (zst_ne (Or.inl (by omega))))))))); have e3 : (zst (zst (zst (zst (zst (zst (zst h (o + 6) m (-1)) (o + 5) m 2) (o + 6) m (zline h L (o + 4) (m * 11) 1)) (o + 5) m 3) (o + 6) m (zline h L (o + 4) (m * 11) 2)) (o + 5) m 4) (o + 6) m (zline h L (o + 4) (m * 11) 3)) 6 m = (h 6 m) := ((zst_ne (Or.inl (by omega))).trans ((zst_ne (Or.inl (by omega))).trans ((zst_ne (Or.inl (by omega))).trans ((zst_ne (Or.inl (by omega))).trans ((zst_ne (Or.inl (by omega))).trans ((zst_ne (Or.inl (by omega))).trans (zst_ne (Or.inl (by omega))))))))); have e4 : (zst (zst (zst (zst (zst (zst (zst h (o + 6) m (-1)) (o + 5) m 2) (o + 6) m (zline h L (o + 4) (m * 11) 1)) (o + 5) m 3) (o + 6) m (zline h L (o + 4) (m * 11) 2)) (o + 5) m 4) (o + 6) m (zline h L (o + 4) (m * 11) 3)) (o + 3) ((h 6 m)) = (h (o + 3) ((h 6 m))) := ((zst_ne (Or.inl (by omega))).trans ((zst_ne (Or.inl (by omega))).trans ((zst_ne (Or.inl (by omega))).trans ((zst_ne (Or.inl (by omega))).trans ((zst_ne (Or.inl (by omega))).trans ((zst_ne (Or.inl (by omega))).trans (zst_ne (Or.inl (by omega))))))))); have z9 := f_X6_orderOf (X := X) (dep := dep - 1) o m (if (zline h L (o + 4) (m * 11) 3) < 0 ∨ (h L 6) ≤ (zline h L (o + 4) (m * 11) 3) then 9 else (h (L + 2) (zline h L (o + 4) (m * 11) 3))) (h := (zst (zst (zst (zst (zst (zst (zst h (o + 6) m (-1)) (o + 5) m 2) (o + 6) m (zline h L (o + 4) (m * 11) 1)) (o + 5) m 3) (o + 6) m (zline h L (o + 4) (m * 11) 2)) (o + 5) m 4) (o + 6) m (zline h L (o + 4) (m * 11) 3))) ho hm (show 0 ≤ (if (zline h L (o + 4) (m * 11) 3) < 0 ∨ (h L 6) ≤ (zline h L (o + 4) (m * 11) 3) then 9 else (h (L + 2) (zline h L (o + 4) (m * 11) 3))) ∧ (if (zline h L (o + 4) (m * 11) 3) < 0 ∨ (h L 6) ≤ (zline h L (o + 4) (m * 11) 3) then 9 else (h (L + 2) (zline h L (o + 4) (m * 11) 3))) ≤ 9 from ⟨by omega, by omega⟩) (by have y1 : (zst (zst (zst (zst (zst (zst (zst h (o + 6) m (-1)) (o + 5) m 2) (o + 6) m (zline h L (o + 4) (m * 11) 1)) (o + 5) m 3) (o + 6) m (zline h L (o + 4) (m * 11) 2)) (o + 5) m 4) (o + 6) m (zline h L (o + 4) (m * 11) 3)) 19 m = (h 19 m) := ((zst_ne (Or.inl (by omega))).trans ((zst_ne (Or.inl (by omega))).trans ((zst_ne (Or.inl (by omega))).trans ((zst_ne (Or.inl (by omega))).trans ((zst_ne (Or.inl (by omega))).trans ((zst_ne (Or.inl (by omega))).trans (zst_ne (Or.inl (by omega))))))))); simp only [y1]; omega) (by have y1 : (zst (zst (zst (zst (zst (zst (zst h (o + 6) m (-1)) (o + 5) m 2) (o + 6) m (zline h L (o + 4) (m * 11) 1)) (o + 5) m 3) (o + 6) m (zline h L (o + 4) (m * 11) 2)) (o + 5) m 4) (o + 6) m (zline h L (o + 4) (m * 11) 3)) 6 m = (h 6 m) := ((zst_ne (Or.inl (by omega))).trans ((zst_ne (Or.inl (by omega))).trans ((zst_ne (Or.inl (by omega))).trans ((zst_ne (Or.inl (by omega))).trans ((zst_ne (Or.inl (by omega))).trans ((zst_ne (Or.inl (by omega))).trans (zst_ne (Or.inl (by omega))))))))); simp only [y1]; omega) (by have y1 : (zst (zst (zst (zst (zst (zst (zst h (o + 6) m (-1)) (o + 5) m 2) (o + 6) m (zline h L (o + 4) (m * 11) 1)) (o + 5) m 3) (o + 6) m (zline h L (o + 4) (m * 11) 2)) (o + 5) m 4) (o + 6) m (zline h L (o + 4) (m * 11) 3)) 19 m = (h 19 m) := ((zst_ne (Or.inl (by omega))).trans ((zst_ne (Or.inl (by omega))).trans ((zst_ne (Or.inl (by omega))).trans ((zst_ne (Or.inl (by omega))).trans ((zst_ne (Or.inl (by omega))).trans ((zst_ne (Or.inl (by omega))).trans (zst_ne (Or.inl (by omega))))))))); have y2 : (zst (zst (zst (zst (zst (zst (zst h (o + 6) m (-1)) (o + 5) m 2) (o + 6) m (zline h L (o + 4) (m * 11) 1)) (o + 5) m 3) (o + 6) m (zline h L (o + 4) (m * 11) 2)) (o + 5) m 4) (o + 6) m (zline h L (o + 4) (m * 11) 3)) (o + 2) ((h 19 m) % 52) = (h (o + 2) ((h 19 m) % 52)) := ((zst_ne (Or.inl (by omega))).trans ((zst_ne (Or.inl (by omega))).trans ((zst_ne (Or.inl (by omega))).trans ((zst_ne (Or.inl (by omega))).trans ((zst_ne (Or.inl (by omega))).trans ((zst_ne (Or.inl (by omega))).trans (zst_ne (Or.inl (by omega))))))))); simp only [y1, y2]; omega) (by have y1 : (zst (zst (zst (zst (zst (zst (zst h (o + 6) m (-1)) (o + 5) m 2) (o + 6) m (zline h L (o + 4) (m * 11) 1)) (o + 5) m 3) (o + 6) m (zline h L (o + 4) (m * 11) 2)) (o + 5) m 4) (o + 6) m (zline h L (o + 4) (m * 11) 3)) 6 m = (h 6 m) := ((zst_ne (Or.inl (by omega))).trans ((zst_ne (Or.inl (by omega))).trans ((zst_ne (Or.inl (by omega))).trans ((zst_ne (Or.inl (by omega))).trans ((zst_ne (Or.inl (by omega))).trans ((zst_ne (Or.inl (by omega))).trans (zst_ne (Or.inl (by omega))))))))); have y2 : (zst (zst (zst (zst (zst (zst (zst h (o + 6) m (-1)) (o + 5) m 2) (o + 6) m (zline h L (o + 4) (m * 11) 1)) (o + 5) m 3) (o + 6) m (zline h L (o + 4) (m * 11) 2)) (o + 5) m 4) (o + 6) m (zline h L (o + 4) (m * 11) 3)) (o + 3) ((h 6 m)) = (h (o + 3) ((h 6 m))) := ((zst_ne (Or.inl (by omega))).trans ((zst_ne (Or.inl (by omega))).trans ((zst_ne (Or.inl (by omega))).trans ((zst_ne (Or.inl (by omega))).trans ((zst_ne (Or.inl (by omega))).trans ((zst_ne (Or.inl (by omega))).trans (zst_ne (Or.inl (by omega))))))))); simp only [y1, y2]; omega) (by omega); rw [e1, e2, e3, e4] at z9; exact z9) dX6_judge_184 nX6_orderOf zb_919 zb_921 zb_27 zb_90 ho.1 rfl (by omega) zne_I (Nat.le_of_ble_eq_true rfl) (Nat.le_of_ble_eq_true rfl) rfl ?_
            refine z_iast dX6_judge_187 ho.2.2.2.2.2.2.2.1 hm.1 hm.2 ?_
            exact z_ret dX6_judge_188 rfl (k5 c1 c2 c3 c4 c5)
      ·
        refine z_aload_n 1 dX6_judge_64 rfl ?_
        refine z_getS (v := (o + 5)) (k := 3) (kz := 3) pk6 dX6_judge_65 (by decide) zb_414 rfl ho.1 rfl ho.2.2.2.2.2.2.2.2.2.2.2.2.2.2.2.2.1 ?_
        refine z_iload_n 4 dX6_judge_68 rfl ?_
        refine z_iconst dX6_judge_69 (zi32_d rfl) ?_
        refine z_iast dX6_judge_70 ho.2.2.2.2.2.1 hm.1 hm.2 ?_
        exact z_ret dX6_judge_71 rfl (k6 c1 c2 c3)
  ·
    refine z_aload_n 1 dX6_judge_22 rfl ?_
    refine z_getS (v := (o + 5)) (k := 3) (kz := 3) pk6 dX6_judge_23 (by decide) zb_414 rfl ho.1 rfl ho.2.2.2.2.2.2.2.2.2.2.2.2.2.2.2.2.1 ?_
    refine z_iload_n 4 dX6_judge_26 rfl ?_
    refine z_iconst dX6_judge_27 (zi32_d rfl) ?_
    refine z_iast dX6_judge_28 ho.2.2.2.2.2.1 hm.1 hm.2 ?_
    exact z_ret dX6_judge_29 rfl (k7 c1)

/-- state, line and order that a law gives a man, of what is asked -/
noncomputable def zjs (h : zH) (o L m : Int) : Int :=
  if h 20 m = 0 then 0 else if h (o + 4) (m * 11 + 6) < h L 2 ∨ h L 3 < h (o + 4) (m * 11 + 6) then 1 else if zline h L (o + 4) (m * 11) 1 ≠ -1 then 2 else if zline h L (o + 4) (m * 11) 2 ≠ -1 then 3 else 4
noncomputable def zjl (h : zH) (o L m : Int) : Int :=
  if zjs h o L m = 2 then zline h L (o + 4) (m * 11) 1 else if zjs h o L m = 3 then zline h L (o + 4) (m * 11) 2 else if zjs h o L m = 4 then zline h L (o + 4) (m * 11) 3 else -1
noncomputable def zjc (h : zH) (o L m : Int) : Int := if zline h L (o + 4) (m * 11) 3 < 0 ∨ h L 6 ≤ zline h L (o + 4) (m * 11) 3 then 9 else h (L + 2) (zline h L (o + 4) (m * 11) 3)
noncomputable def zjo (h : zH) (o L m : Int) : Int := ((zjc h o L m * 52 + h (o + 2) (h 19 m % 52)) * 26 + h (o + 3) (h 6 m)) * 60 + m
/-- what a lot's picks and a law's classes keep to -/
def zPick (h : zH) (o : Int) : Prop := (∀ k : Int, 0 ≤ k → k < 52 → 0 ≤ h (o + 2) k ∧ h (o + 2) k < 52) ∧ ∀ k : Int, 0 ≤ k → k < 26 → 0 ≤ h (o + 3) k ∧ h (o + 3) k < 26
def zClsOK (h : zH) (L : Int) : Prop := ∀ l : Int, 0 ≤ l → l < h L 6 → 0 ≤ h (L + 2) l ∧ h (L + 2) l ≤ 9 ∨ h (L + 1) l ≠ 3
theorem zlf_kind (h : zH) (L A p kd : Int) : ∀ (k : Nat) (i : Int), zlf h L A p kd k i ≠ -1 → h (L + 1) (zlf h L A p kd k i) = kd
  | 0, _, hn => absurd rfl hn
  | k + 1, i, hn => by
    unfold zlf at hn ⊢
    by_cases c : h (L + 1) i = kd ∧ zhold h L A p i
    · rw [if_pos c]
      exact c.1
    · rw [if_neg c] at hn ⊢
      exact zlf_kind h L A p kd k _ hn
theorem zjc_in {h : zH} {o L m : Int} (hw : zLawOK h L) (hc : zClsOK h L) : 0 ≤ zjc h o L m ∧ zjc h o L m ≤ 9 := by
  unfold zjc
  split
  · omega
  · have e : zline h L (o + 4) (m * 11) 3 ≠ -1 := by omega
    have k := zlf_kind h L (o + 4) (m * 11) 3 _ _ e
    have := hc (zline h L (o + 4) (m * 11) 3) (by omega) (by omega)
    rcases this with q | q
    · exact q
    · exact absurd k q
theorem f_X6_judge {X : zX} {dep : Nat} (o L m : Int) {h : zH} (ho : zRollO o) (hb : 113 ≤ o ∧ o ≤ 155) (hL : zLawO L) (hbl : 30 ≤ L ∧ L ≤ 107) (hm : 0 ≤ m ∧ m < 60) (hw : zLawOK h L) (hc : zClsOK h L) (hbw : -3120 ≤ h 19 m ∧ h 19 m < 520) (hlt : 0 ≤ h 6 m ∧ h 6 m < 26) (hp : zPick h o) (hdep : 3 ≤ dep) :
    zW mX6_judge X dep 0 0 239 0 (zar 0 [xR o, xR 3, xR L, xI m]) [] h
      (zQ0 (fun g => zap (fun q => q = o + 5 ∨ q = o + 6 ∨ q = o + 7) h g ∧ (g (o + 5) m = zjs h o L m ∧ g (o + 6) m = zjl h o L m ∧ (zjs h o L m = 4 → g (o + 7) m = zjo h o L m)) ∧ ∀ k : Int, k ≠ m → g (o + 5) k = h (o + 5) k ∧ g (o + 6) k = h (o + 6) k ∧ g (o + 7) k = h (o + 7) k)) := by
  have hcc := zjc_in (o := o) (m := m) hw hc
  refine bX6_judge_0 o L m ho hb hL hbl hm hw hw.1 hcc hbw hlt (hp.1 _ (by omega) (by omega)) (hp.2 _ hlt.1 hlt.2) hdep ?_ ?_ ?_ ?_ ?_ ?_ ?_
  all_goals intros
  all_goals first | (exfalso; omega) | skip
  all_goals refine ⟨rfl, rfl, ?_, ⟨?_, ?_, ?_⟩, fun k hk => ⟨?_, ?_, ?_⟩⟩
  all_goals first
    | (intro q k hq; simp only [not_or] at hq; obtain ⟨h5, h6, h7⟩ := hq; repeat rw [zst_ne (Or.inl (by omega))])
    | skip
  all_goals first
    | (repeat (first | rw [zst_ne (o' := o + 5) (o := o + 6) (Or.inl (by omega))] | rw [zst_ne (o' := o + 5) (o := o + 7) (Or.inl (by omega))] | rw [zst_ne (o' := o + 6) (o := o + 5) (Or.inl (by omega))] | rw [zst_ne (o' := o + 6) (o := o + 7) (Or.inl (by omega))] | rw [zst_ne (o' := o + 7) (o := o + 5) (Or.inl (by omega))] | rw [zst_ne (o' := o + 7) (o := o + 6) (Or.inl (by omega))] | rw [zst_self] | rw [zst_ne (k' := k) (Or.inr (by omega))]))
    | skip
  all_goals try rfl
  all_goals unfold zjl zjs
  all_goals first
    | (intro q; exfalso; revert q; (repeat' split) <;> omega)
    | ((repeat' split) <;> first | rfl | omega)
    | (intro _; rfl)
