/-! a law asked -/
theorem z_ldc2c {d : zMd} {X : zX} {dep bc bs n pc : Nat} {lv : List (Nat × zV)} {st : List zV} {h : zH} {Q : Nat → zH → List zV → Prop} {index : Nat} {v : Int} {c : Int64} (hv : zi64 v) (hdg : decode d.by pc = .ok (.ldc2_w index, 3)) (hl : Cond.constantLong d.1.cls index c ∈ zBIG) (hc : Int64.ofInt v = c) (k : zW d X dep bc bs n (pc + 3) lv (xL v :: st) h Q) : zW d X dep bc bs n pc lv st h Q :=
  z_ldc2 hv hdg (by rw [hc]; exact hl) k
theorem zand_le (s : Int) {c : Int} (h0 : 0 ≤ c) (h1 : c < 2147483648) : 0 ≤ zand s c ∧ zand s c ≤ c := by
  have e : (Int32.ofInt c).toBitVec.toNat = c.toNat := by
    rw [Int32.toBitVec_ofInt, BitVec.toNat_ofInt]
    omega
  have e2 : ((Int32.ofInt s &&& Int32.ofInt c).toBitVec).toNat ≤ c.toNat := by
    rw [Int32.toBitVec_and, BitVec.toNat_and, e]
    exact Nat.and_le_right
  have e3 : zand s c = (((Int32.ofInt s &&& Int32.ofInt c).toBitVec).toNat : Int) := by
    unfold zand
    show ((Int32.ofInt s &&& Int32.ofInt c).toBitVec).toInt = _
    exact BitVec.toInt_eq_toNat_of_lt (by omega)
  omega

/-- what a step that asks answers -/
noncomputable def zans (h : zH) (a s p : Int) : Int := zb ((0 ≤ p + zand s 15 ∧ p + zand s 15 < 660) ∧ ((zand (zshr s 4) 255 = 60 ∧ h a (p + zand s 15) < zshr s 12) ∨ (zand (zshr s 4) 255 = 61 ∧ h a (p + zand s 15) = zshr s 12) ∨ (zand (zshr s 4) 255 ≠ 60 ∧ zand (zshr s 4) 255 ≠ 61 ∧ zshr s 12 < h a (p + zand s 15))))

set_option maxRecDepth 20000 in
theorem bX1_answers_0 {X : zX} {dep bc bs : Nat} (s : Int) (a : Int) (p : Int) {h : zH} {Q : Nat → zH → List zV → Prop} (ha : zOb 239 a (1, 0, 660)) (hp : 0 ≤ p ∧ p ≤ 660) (hs : 0 ≤ zand s 15 ∧ zand s 15 ≤ 15)
    (k1 : (p + (zand s 15)) < 0 → Q 239 h [xI 0])
    (k2 : ¬ ((p + (zand s 15)) < 0) → (p + (zand s 15)) < 660 → (zand (zshr s 4) 255) = 60 → Q 239 h [xI (if (zshr s 12) ≤ (h a (p + (zand s 15))) then 0 else 1 : Int)])
    (k3 : ¬ ((p + (zand s 15)) < 0) → (p + (zand s 15)) < 660 → ¬ ((zand (zshr s 4) 255) = 60) → (zand (zshr s 4) 255) = 61 → Q 239 h [xI (if (h a (p + (zand s 15))) = (zshr s 12) then 1 else 0 : Int)])
    (k4 : ¬ ((p + (zand s 15)) < 0) → (p + (zand s 15)) < 660 → ¬ ((zand (zshr s 4) 255) = 60) → ¬ ((zand (zshr s 4) 255) = 61) → Q 239 h [xI (if (h a (p + (zand s 15))) ≤ (zshr s 12) then 0 else 1 : Int)])
    (k5 : ¬ ((p + (zand s 15)) < 0) → ¬ ((p + (zand s 15)) < 660) → Q 239 h [xI 0]) : zW mX1_answers X dep bc bs 239 0 [(0, xI s), (1, xR a), (2, xI p)] [] h Q := by
  refine z_iload_n 2 dX1_answers_0 rfl ?_
  refine z_iload_n 0 dX1_answers_1 rfl ?_
  refine z_bipush dX1_answers_2 (zi32_d rfl) (by decide) ?_
  refine z_iand dX1_answers_4 ?_
  refine z_iaddN dX1_answers_5 (show -2147483648 ≤ p + (zand s 15) ∧ p + (zand s 15) < 2147483648 from ⟨by omega, by omega⟩).1 (show -2147483648 ≤ p + (zand s 15) ∧ p + (zand s 15) < 2147483648 from ⟨by omega, by omega⟩).2 ?_
  refine z_istore_n (lv' := [(3, xI (p + (zand s 15))), (0, xI s), (1, xR a), (2, xI p)]) dX1_answers_6 (by decide) rfl ?_
  refine z_iload_n 0 dX1_answers_7 rfl ?_
  refine z_if_lt (tgt := 17) dX1_answers_8 (by decide) (fun c1 => ?_) (fun c1 => ?_)
  ·
    refine z_iconst dX1_answers_17 (zi32_d rfl) ?_
    exact z_zret dX1_answers_18 rfl (Or.inl rfl) (k1 c1)
  ·
    refine z_iload_n 0 dX1_answers_11 rfl ?_
    refine z_aload_n 2 dX1_answers_12 rfl ?_
    refine z_alen (kd := 0) dX1_answers_13 ha (by decide) ?_
    show zW mX1_answers X dep bc bs 239 14 [(3, xI (p + (zand s 15))), (0, xI s), (1, xR a), (2, xI p)] [xI 660, xI (p + (zand s 15))] h Q
    refine z_icmp_lt (tgt := 19) dX1_answers_14 (by decide) (fun c2 => ?_) (fun c2 => ?_)
    ·
      refine z_iload_n 1 dX1_answers_19 rfl ?_
      refine z_bipush dX1_answers_20 (zi32_d rfl) (by decide) ?_
      refine z_ishr dX1_answers_22 ?_
      refine z_istore (lv' := [(4, xI (zshr s 12)), (3, xI (p + (zand s 15))), (0, xI s), (1, xR a), (2, xI p)]) dX1_answers_23 (by decide) rfl ?_
      refine z_iload_n 2 dX1_answers_25 rfl ?_
      refine z_iconst dX1_answers_26 (zi32_d rfl) ?_
      refine z_ishr dX1_answers_27 ?_
      refine z_sipush dX1_answers_28 (zi32_d rfl) (by decide) ?_
      refine z_iand dX1_answers_31 ?_
      by_cases c3 : (zand (zshr s 4) 255) = 60
      ·
        refine z_lsw (off := 28) (tgt := 60) dX1_answers_32 (by decide) (by simp [Op.lookupswitch.offset, c3]) (by decide) ?_
        refine z_aload_n 3 dX1_answers_60 rfl ?_
        refine z_iload_n 1 dX1_answers_61 rfl ?_
        refine z_iald dX1_answers_62 ha (show 0 ≤ (p + (zand s 15)) ∧ (p + (zand s 15)) < 660 from ⟨by omega, by omega⟩).1 (show 0 ≤ (p + (zand s 15)) ∧ (p + (zand s 15)) < 660 from ⟨by omega, by omega⟩).2 ?_
        refine z_iload 0 dX1_answers_63 rfl ?_
        suffices KJ : zW mX1_answers X dep bc bs 239 73 [(4, xI (zshr s 12)), (3, xI (p + (zand s 15))), (0, xI s), (1, xR a), (2, xI p)] [xI (if (zshr s 12) ≤ (h a (p + (zand s 15))) then 0 else 1 : Int)] h Q by
          refine z_icmp_ge (tgt := 72) dX1_answers_65 (by decide) (fun j1 => ?_) (fun j1 => ?_)
          ·
            refine z_iconst dX1_answers_72 (zi32_d rfl) ?_
            rw [if_pos j1] at KJ
            exact KJ
          ·
            refine z_iconst dX1_answers_68 (zi32_d rfl) ?_
            refine z_goto (tgt := 73) dX1_answers_69 (by decide) ?_
            rw [if_neg j1] at KJ
            exact KJ
        exact z_zret dX1_answers_73 rfl (by repeat (first | (left; rfl) | (right; rfl) | split)) (k2 c1 c2 c3)
      by_cases c4 : (zand (zshr s 4) 255) = 61
      ·
        refine z_lsw (off := 42) (tgt := 74) dX1_answers_32 (by decide) (by simp [Op.lookupswitch.offset, c4, Ne.symm c3]) (by decide) ?_
        refine z_aload_n 3 dX1_answers_74 rfl ?_
        refine z_iload_n 1 dX1_answers_75 rfl ?_
        refine z_iald dX1_answers_76 ha (show 0 ≤ (p + (zand s 15)) ∧ (p + (zand s 15)) < 660 from ⟨by omega, by omega⟩).1 (show 0 ≤ (p + (zand s 15)) ∧ (p + (zand s 15)) < 660 from ⟨by omega, by omega⟩).2 ?_
        refine z_iload 0 dX1_answers_77 rfl ?_
        suffices KJ : zW mX1_answers X dep bc bs 239 87 [(4, xI (zshr s 12)), (3, xI (p + (zand s 15))), (0, xI s), (1, xR a), (2, xI p)] [xI (if (h a (p + (zand s 15))) = (zshr s 12) then 1 else 0 : Int)] h Q by
          refine z_icmp_ne (tgt := 86) dX1_answers_79 (by decide) (fun j1 => ?_) (fun j1 => ?_)
          ·
            refine z_iconst dX1_answers_86 (zi32_d rfl) ?_
            rw [if_neg j1] at KJ
            exact KJ
          ·
            refine z_iconst dX1_answers_82 (zi32_d rfl) ?_
            refine z_goto (tgt := 87) dX1_answers_83 (by decide) ?_
            rw [if_pos j1] at KJ
            exact KJ
        exact z_zret dX1_answers_87 rfl (by repeat (first | (left; rfl) | (right; rfl) | split)) (k3 c1 c2 c3 c4)
      refine z_lsw (off := 56) (tgt := 88) dX1_answers_32 (by decide) (by simp [Op.lookupswitch.offset, Ne.symm c3, Ne.symm c4]) (by decide) ?_
      refine z_aload_n 3 dX1_answers_88 rfl ?_
      refine z_iload_n 1 dX1_answers_89 rfl ?_
      refine z_iald dX1_answers_90 ha (show 0 ≤ (p + (zand s 15)) ∧ (p + (zand s 15)) < 660 from ⟨by omega, by omega⟩).1 (show 0 ≤ (p + (zand s 15)) ∧ (p + (zand s 15)) < 660 from ⟨by omega, by omega⟩).2 ?_
      refine z_iload 0 dX1_answers_91 rfl ?_
      suffices KJ : zW mX1_answers X dep bc bs 239 101 [(4, xI (zshr s 12)), (3, xI (p + (zand s 15))), (0, xI s), (1, xR a), (2, xI p)] [xI (if (h a (p + (zand s 15))) ≤ (zshr s 12) then 0 else 1 : Int)] h Q by
        refine z_icmp_le (tgt := 100) dX1_answers_93 (by decide) (fun j1 => ?_) (fun j1 => ?_)
        ·
          refine z_iconst dX1_answers_100 (zi32_d rfl) ?_
          rw [if_pos j1] at KJ
          exact KJ
        ·
          refine z_iconst dX1_answers_96 (zi32_d rfl) ?_
          refine z_goto (tgt := 101) dX1_answers_97 (by decide) ?_
          rw [if_neg j1] at KJ
          exact KJ
      exact z_zret dX1_answers_101 rfl (by repeat (first | (left; rfl) | (right; rfl) | split)) (k4 c1 c2 c3 c4)
    ·
      refine z_iconst dX1_answers_17 (zi32_d rfl) ?_
      exact z_zret dX1_answers_18 rfl (Or.inl rfl) (k5 c1 c2)

theorem f_X1_answers {X : zX} {dep : Nat} (s : Int) (a : Int) (p : Int) {h : zH} (ha : zOb 239 a (1, 0, 660)) (hp : 0 ≤ p ∧ p ≤ 660) : zW mX1_answers X dep 0 0 239 0 (zar 0 [xI s, xR a, xI p]) [] h (zF h [xI (zans h a s p)]) := by
  refine bX1_answers_0 s a p ha hp (zand_le s (by omega) (by omega)) ?_ ?_ ?_ ?_ ?_
  all_goals intros
  all_goals refine ⟨rfl, rfl, ?_⟩
  all_goals congr 2
  all_goals unfold zans zb
  all_goals (repeat' split) <;> first | rfl | omega

set_option maxRecDepth 20000 in
theorem bX1_numberOf_0 {X : zX} {dep bc bs : Nat} (o : Int) (l : Int) (w : Int) {h : zH} {Q : Nat → zH → List zV → Prop} (ho : zLawO o) (hl : 0 ≤ h o 6 ∧ h o 6 ≤ 20)
    (k1 : l < 0 → Q 239 h [xI w])
    (k2 : ¬ (l < 0) → l < (h o 6) → Q 239 h [xI (h (o + 2) l)])
    (k3 : ¬ (l < 0) → ¬ (l < (h o 6)) → Q 239 h [xI w]) : zW mX1_numberOf X dep bc bs 239 0 [(0, xR o), (1, xI l), (2, xI w)] [] h Q := by
  refine z_iload_n 1 dX1_numberOf_0 rfl ?_
  refine z_if_lt (tgt := 12) dX1_numberOf_1 (by decide) (fun c1 => ?_) (fun c1 => ?_)
  ·
    refine z_iload_n 2 dX1_numberOf_12 rfl ?_
    refine z_goto (tgt := 22) dX1_numberOf_13 (by decide) ?_
    exact z_iret dX1_numberOf_22 rfl (k1 c1)
  ·
    refine z_iload_n 1 dX1_numberOf_4 rfl ?_
    refine z_aload_n 0 dX1_numberOf_5 rfl ?_
    refine z_getI (k := 6) (kz := 6) pk1 dX1_numberOf_6 (by decide) zb_287 rfl ho.1 rfl ?_
    refine z_icmp_lt (tgt := 16) dX1_numberOf_9 (by decide) (fun c2 => ?_) (fun c2 => ?_)
    ·
      refine z_aload_n 0 dX1_numberOf_16 rfl ?_
      refine z_getS (v := (o + 2)) (k := 8) (kz := 8) pk1 dX1_numberOf_17 (by decide) zb_291 rfl ho.1 rfl ho.2.2.2.2.2.2.2.1 ?_
      refine z_iload_n 1 dX1_numberOf_20 rfl ?_
      refine z_iald dX1_numberOf_21 ho.2.2.1 (show 0 ≤ l ∧ l < 20 from ⟨by omega, by omega⟩).1 (show 0 ≤ l ∧ l < 20 from ⟨by omega, by omega⟩).2 ?_
      exact z_iret dX1_numberOf_22 rfl (k2 c1 c2)
    ·
      refine z_iload_n 2 dX1_numberOf_12 rfl ?_
      refine z_goto (tgt := 22) dX1_numberOf_13 (by decide) ?_
      exact z_iret dX1_numberOf_22 rfl (k3 c1 c2)
theorem f_X1_numberOf {X : zX} {dep : Nat} (o : Int) (l : Int) (w : Int) {h : zH} (ho : zLawO o) (hl : 0 ≤ h o 6 ∧ h o 6 ≤ 20) : zW mX1_numberOf X dep 0 0 239 0 (zar 0 [xR o, xI l, xI w]) [] h (zF h [xI (if l < 0 ∨ h o 6 ≤ l then w else h (o + 2) l)]) := by
  refine bX1_numberOf_0 o l w ho hl ?_ ?_ ?_
  all_goals intros
  all_goals refine ⟨rfl, rfl, ?_⟩
  all_goals try rfl
  all_goals congr 2
  all_goals (try unfold zb); (repeat' split) <;> first | rfl | omega

/-- one step over the answers that wait, the bits of one number -/
noncomputable def zwst (h : zH) (a p : Int) (s w : Int) : Int :=
  if s = -3 then zlxor w 1 else if s = -1 then zland (zlshr w 1) (zlor (zland w 1) (-2)) else if s = -2 then zlor (zlshr w 1) (zland w 1) else zlor (zlshl w 1) (zans h a s p)
/-- the steps from i on, k of them -/
noncomputable def zwrun (h : zH) (o a p : Int) : Nat → Int → Int → Int
  | 0, _, w => w
  | k + 1, i, w => zwrun h o a p k (i + 1) (zwst h a p (h (o + 5) i) w)
noncomputable def zhold (h : zH) (o a p l : Int) : Prop := h (o + 3) l = h (o + 4) l ∨ zland (zwrun h o a p (h (o + 4) l - h (o + 3) l).toNat (h (o + 3) l) 0) 1 = 1

set_option maxRecDepth 20000 in
theorem bX1_holds_0 {X : zX} {dep bc bs : Nat} (o : Int) (l : Int) (a : Int) (p : Int) {h : zH} {Q : Nat → zH → List zV → Prop} (ho : zLawO o) (ha : zOb 239 a (1, 0, 660)) (hp : 0 ≤ p ∧ p ≤ 660) (hl : 0 ≤ l ∧ l < 20) (hf : 0 ≤ h (o + 3) l ∧ h (o + 3) l ≤ h (o + 4) l ∧ h (o + 4) l ≤ 120)
    (k1 : zW mX1_holds X dep bc bs 239 11 [(0, xR o), (1, xI l), (2, xR a), (3, xI p), (4, xL 0), (6, xI (h (o + 3) l))] [] h Q) : zW mX1_holds X dep bc bs 239 0 [(0, xR o), (1, xI l), (2, xR a), (3, xI p)] [] h Q := by
  refine z_lconst dX1_holds_0 ?_
  show zW mX1_holds X dep bc bs 239 1 [(0, xR o), (1, xI l), (2, xR a), (3, xI p)] [xL 0] h Q
  refine z_lstore (lv' := [(4, xL 0), (0, xR o), (1, xI l), (2, xR a), (3, xI p)]) dX1_holds_1 (by decide) rfl ?_
  refine z_aload_n 1 dX1_holds_3 rfl ?_
  refine z_getS (v := (o + 3)) (k := 9) (kz := 9) pk1 dX1_holds_4 (by decide) zb_292 rfl ho.1 rfl ho.2.2.2.2.2.2.2.2.1 ?_
  refine z_iload_n 2 dX1_holds_7 rfl ?_
  refine z_iald dX1_holds_8 ho.2.2.2.1 hl.1 hl.2 ?_
  refine z_istore (lv' := [(6, xI (h (o + 3) l)), (4, xL 0), (0, xR o), (1, xI l), (2, xR a), (3, xI p)]) dX1_holds_9 (by decide) rfl ?_
  refine zW.sub (lv' := [(0, xR o), (1, xI l), (2, xR a), (3, xI p), (4, xL 0), (6, xI (h (o + 3) l))]) [2, 3, 4, 5, 1, 0] rfl ?_
  exact k1

set_option maxRecDepth 20000 in
theorem bX1_holds_11 {X : zX} {dep bc bs : Nat} (o : Int) (l : Int) (a : Int) (p : Int) (w : Int) (i : Int) {h : zH} {Q : Nat → zH → List zV → Prop} (ho : zLawO o) (ha : zOb 239 a (1, 0, 660)) (hp : 0 ≤ p ∧ p ≤ 660) (hl : 0 ≤ l ∧ l < 20) (hf : 0 ≤ h (o + 3) l ∧ h (o + 3) l ≤ h (o + 4) l ∧ h (o + 4) l ≤ 120) (hi : h (o + 3) l ≤ i) (hdep : 1 ≤ dep)
    (k1 : (h (o + 4) l) ≤ i → (h (o + 3) l) = (h (o + 4) l) → Q 239 h [xI 1])
    (k2 : (h (o + 4) l) ≤ i → ¬ ((h (o + 3) l) = (h (o + 4) l)) → Q 239 h [xI (if (zcmp (zland w 1) 1) = 0 then 1 else 0 : Int)])
    (k3 : ¬ ((h (o + 4) l) ≤ i) → ¬ (h (o + 5) i) = (-3) → ¬ (h (o + 5) i) = (-1) → ¬ (h (o + 5) i) = (-2) → zW mX1_holds X dep bc bs 239 11 [(0, xR o), (1, xI l), (2, xR a), (3, xI p), (4, xL (zlor (zlshl w 1) (if (zans h a (h (o + 5) i) p) = 0 then 0 else 1 : Int))), (6, xI (i + 1))] [] h Q)
    (k4 : ¬ ((h (o + 4) l) ≤ i) → ¬ (h (o + 5) i) = (-3) → ¬ (h (o + 5) i) = (-1) → (h (o + 5) i) = (-2) → zW mX1_holds X dep bc bs 239 11 [(0, xR o), (1, xI l), (2, xR a), (3, xI p), (4, xL (zlor (zlshr w 1) (zland w 1))), (6, xI (i + 1))] [] h Q)
    (k5 : ¬ ((h (o + 4) l) ≤ i) → ¬ (h (o + 5) i) = (-3) → (h (o + 5) i) = (-1) → zW mX1_holds X dep bc bs 239 11 [(0, xR o), (1, xI l), (2, xR a), (3, xI p), (4, xL (zland (zlshr w 1) (zlor (zland w 1) (-2)))), (6, xI (i + 1))] [] h Q)
    (k6 : ¬ ((h (o + 4) l) ≤ i) → (h (o + 5) i) = (-3) → zW mX1_holds X dep bc bs 239 11 [(0, xR o), (1, xI l), (2, xR a), (3, xI p), (4, xL (zlxor w 1)), (6, xI (i + 1))] [] h Q) : zW mX1_holds X dep bc bs 239 11 [(0, xR o), (1, xI l), (2, xR a), (3, xI p), (4, xL w), (6, xI i)] [] h Q := by
  refine z_iload 5 dX1_holds_11 rfl ?_
  refine z_aload_n 0 dX1_holds_13 rfl ?_
  refine z_getS (v := (o + 4)) (k := 10) (kz := 10) pk1 dX1_holds_14 (by decide) zb_293 rfl ho.1 rfl ho.2.2.2.2.2.2.2.2.2.1 ?_
  refine z_iload_n 1 dX1_holds_17 rfl ?_
  refine z_iald dX1_holds_18 ho.2.2.2.2.1 hl.1 hl.2 ?_
  refine z_icmp_ge (tgt := 123) dX1_holds_19 (by decide) (fun c1 => ?_) (fun c1 => ?_)
  ·
    refine z_aload_n 0 dX1_holds_123 rfl ?_
    refine z_getS (v := (o + 3)) (k := 9) (kz := 9) pk1 dX1_holds_124 (by decide) zb_292 rfl ho.1 rfl ho.2.2.2.2.2.2.2.2.1 ?_
    refine z_iload_n 1 dX1_holds_127 rfl ?_
    refine z_iald dX1_holds_128 ho.2.2.2.1 hl.1 hl.2 ?_
    refine z_aload_n 0 dX1_holds_129 rfl ?_
    refine z_getS (v := (o + 4)) (k := 10) (kz := 10) pk1 dX1_holds_130 (by decide) zb_293 rfl ho.1 rfl ho.2.2.2.2.2.2.2.2.2.1 ?_
    refine z_iload_n 1 dX1_holds_133 rfl ?_
    refine z_iald dX1_holds_134 ho.2.2.2.2.1 hl.1 hl.2 ?_
    refine z_icmp_eq (tgt := 147) dX1_holds_135 (by decide) (fun c2 => ?_) (fun c2 => ?_)
    ·
      refine z_iconst dX1_holds_147 (zi32_d rfl) ?_
      refine z_goto (tgt := 152) dX1_holds_148 (by decide) ?_
      exact z_zret dX1_holds_152 rfl (Or.inr rfl) (k1 c1 c2)
    ·
      refine z_lload 4 dX1_holds_138 rfl ?_
      refine z_lconst dX1_holds_140 ?_
      show zW mX1_holds X dep bc bs 239 141 [(0, xR o), (1, xI l), (2, xR a), (3, xI p), (4, xL w), (6, xI i)] [xL 1, xL w] h Q
      refine z_land dX1_holds_141 ?_
      refine z_lconst dX1_holds_142 ?_
      show zW mX1_holds X dep bc bs 239 143 [(0, xR o), (1, xI l), (2, xR a), (3, xI p), (4, xL w), (6, xI i)] [xL 1, xL (zland w 1)] h Q
      refine z_lcmp dX1_holds_143 ?_
      suffices KJ : zW mX1_holds X dep bc bs 239 152 [(0, xR o), (1, xI l), (2, xR a), (3, xI p), (4, xL w), (6, xI i)] [xI (if (zcmp (zland w 1) 1) = 0 then 1 else 0 : Int)] h Q by
        refine z_if_ne (tgt := 151) dX1_holds_144 (by decide) (fun j1 => ?_) (fun j1 => ?_)
        ·
          refine z_iconst dX1_holds_151 (zi32_d rfl) ?_
          rw [if_neg j1] at KJ
          exact KJ
        ·
          refine z_iconst dX1_holds_147 (zi32_d rfl) ?_
          refine z_goto (tgt := 152) dX1_holds_148 (by decide) ?_
          rw [if_pos j1] at KJ
          exact KJ
      exact z_zret dX1_holds_152 rfl (by repeat (first | (left; rfl) | (right; rfl) | split)) (k2 c1 c2)
  ·
    refine z_aload_n 0 dX1_holds_22 rfl ?_
    refine z_getS (v := (o + 5)) (k := 11) (kz := 11) pk1 dX1_holds_23 (by decide) zb_294 rfl ho.1 rfl ho.2.2.2.2.2.2.2.2.2.2 ?_
    refine z_iload 5 dX1_holds_26 rfl ?_
    refine z_iald dX1_holds_28 ho.2.2.2.2.2.1 (show 0 ≤ i ∧ i < 120 from ⟨by omega, by omega⟩).1 (show 0 ≤ i ∧ i < 120 from ⟨by omega, by omega⟩).2 ?_
    refine z_istore (lv' := [(7, xI (h (o + 5) i)), (0, xR o), (1, xI l), (2, xR a), (3, xI p), (4, xL w), (6, xI i)]) dX1_holds_29 (by decide) rfl ?_
    refine z_lload 5 dX1_holds_31 rfl ?_
    refine z_lconst dX1_holds_33 ?_
    show zW mX1_holds X dep bc bs 239 34 [(7, xI (h (o + 5) i)), (0, xR o), (1, xI l), (2, xR a), (3, xI p), (4, xL w), (6, xI i)] [xL 1, xL w] h Q
    refine z_land dX1_holds_34 ?_
    refine z_lstore (lv' := [(8, xL (zland w 1)), (7, xI (h (o + 5) i)), (0, xR o), (1, xI l), (2, xR a), (3, xI p), (4, xL w), (6, xI i)]) dX1_holds_35 (by decide) rfl ?_
    refine z_iload 1 dX1_holds_37 rfl ?_
    refine z_bipush dX1_holds_39 (zi32_d rfl) (by decide) ?_
    refine z_icmp_ne (tgt := 53) dX1_holds_41 (by decide) (fun c2 => ?_) (fun c2 => ?_)
    ·
      refine z_iload 1 dX1_holds_53 rfl ?_
      refine z_iconst dX1_holds_55 (zi32_d rfl) ?_
      refine z_icmp_ne (tgt := 75) dX1_holds_56 (by decide) (fun c3 => ?_) (fun c3 => ?_)
      ·
        refine z_iload 1 dX1_holds_75 rfl ?_
        refine z_bipush dX1_holds_77 (zi32_d rfl) (by decide) ?_
        refine z_icmp_ne (tgt := 94) dX1_holds_79 (by decide) (fun c4 => ?_) (fun c4 => ?_)
        ·
          refine z_lload 6 dX1_holds_94 rfl ?_
          refine z_iconst dX1_holds_96 (zi32_d rfl) ?_
          refine z_lshl dX1_holds_97 ?_
          refine z_iload 1 dX1_holds_98 rfl ?_
          refine z_aload_n 4 dX1_holds_100 rfl ?_
          refine z_iload_n 5 dX1_holds_101 rfl ?_
          refine z_invSF (as := [xI (h (o + 5) i), xR a, xI p]) (st := [xL (zlshl w 1)]) (ra := [xI p, xR a, xI (h (o + 5) i)]) (dep' := dep - 1) (rs := [xI (zans h a (h (o + 5) i) p)]) (h' := h) (f_X1_answers (h (o + 5) i) a p (h := h) ha hp) dX1_holds_102 nX1_answers zb_912 zb_913 zb_88 (by omega) zne_I (Nat.le_of_ble_eq_true rfl) (Nat.le_of_ble_eq_true rfl) rfl ?_
          suffices KJ : zW mX1_holds X dep bc bs 239 113 [(8, xL (zland w 1)), (7, xI (h (o + 5) i)), (0, xR o), (1, xI l), (2, xR a), (3, xI p), (4, xL w), (6, xI i)] [xI (if (zans h a (h (o + 5) i) p) = 0 then 0 else 1 : Int), xL (zlshl w 1)] h Q by
            refine z_if_eq (tgt := 112) dX1_holds_105 (by decide) (fun j1 => ?_) (fun j1 => ?_)
            ·
              refine z_iconst dX1_holds_112 (zi32_d rfl) ?_
              rw [if_pos j1] at KJ
              exact KJ
            ·
              refine z_iconst dX1_holds_108 (zi32_d rfl) ?_
              refine z_goto (tgt := 113) dX1_holds_109 (by decide) ?_
              rw [if_neg j1] at KJ
              exact KJ
          refine z_i2l dX1_holds_113 ?_
          refine z_lor dX1_holds_114 ?_
          refine z_lstore (lv' := [(4, xL (zlor (zlshl w 1) (if (zans h a (h (o + 5) i) p) = 0 then 0 else 1 : Int))), (8, xL (zland w 1)), (7, xI (h (o + 5) i)), (0, xR o), (1, xI l), (2, xR a), (3, xI p), (6, xI i)]) dX1_holds_115 (by decide) rfl ?_
          refine z_iincN (lv' := [(6, xI (i + 1)), (4, xL (zlor (zlshl w 1) (if (zans h a (h (o + 5) i) p) = 0 then 0 else 1 : Int))), (8, xL (zland w 1)), (7, xI (h (o + 5) i)), (0, xR o), (1, xI l), (2, xR a), (3, xI p)]) 7 dX1_holds_117 rfl (by decide) rfl (show -2147483648 ≤ i + 1 ∧ i + 1 < 2147483648 from ⟨by omega, by omega⟩).1 (show -2147483648 ≤ i + 1 ∧ i + 1 < 2147483648 from ⟨by omega, by omega⟩).2 ?_
          refine z_goto (tgt := 11) dX1_holds_120 (by decide) ?_
          refine zW.sub (lv' := [(0, xR o), (1, xI l), (2, xR a), (3, xI p), (4, xL (zlor (zlshl w 1) (if (zans h a (h (o + 5) i) p) = 0 then 0 else 1 : Int))), (6, xI (i + 1))]) [4, 5, 6, 7, 1, 0] rfl ?_
          exact k3 c1 c2 c3 c4
        ·
          refine z_lload 6 dX1_holds_82 rfl ?_
          refine z_iconst dX1_holds_84 (zi32_d rfl) ?_
          refine z_lshr dX1_holds_85 ?_
          refine z_lload 0 dX1_holds_86 rfl ?_
          refine z_lor dX1_holds_88 ?_
          refine z_lstore (lv' := [(4, xL (zlor (zlshr w 1) (zland w 1))), (8, xL (zland w 1)), (7, xI (h (o + 5) i)), (0, xR o), (1, xI l), (2, xR a), (3, xI p), (6, xI i)]) dX1_holds_89 (by decide) rfl ?_
          refine z_goto (tgt := 117) dX1_holds_91 (by decide) ?_
          refine z_iincN (lv' := [(6, xI (i + 1)), (4, xL (zlor (zlshr w 1) (zland w 1))), (8, xL (zland w 1)), (7, xI (h (o + 5) i)), (0, xR o), (1, xI l), (2, xR a), (3, xI p)]) 7 dX1_holds_117 rfl (by decide) rfl (show -2147483648 ≤ i + 1 ∧ i + 1 < 2147483648 from ⟨by omega, by omega⟩).1 (show -2147483648 ≤ i + 1 ∧ i + 1 < 2147483648 from ⟨by omega, by omega⟩).2 ?_
          refine z_goto (tgt := 11) dX1_holds_120 (by decide) ?_
          refine zW.sub (lv' := [(0, xR o), (1, xI l), (2, xR a), (3, xI p), (4, xL (zlor (zlshr w 1) (zland w 1))), (6, xI (i + 1))]) [4, 5, 6, 7, 1, 0] rfl ?_
          exact k4 c1 c2 c3 c4
      ·
        refine z_lload 6 dX1_holds_59 rfl ?_
        refine z_iconst dX1_holds_61 (zi32_d rfl) ?_
        refine z_lshr dX1_holds_62 ?_
        refine z_lload 0 dX1_holds_63 rfl ?_
        refine z_ldc2c (v := (-2)) ⟨by decide, by decide⟩ dX1_holds_65 zb_911 (by decide) ?_
        refine z_lor dX1_holds_68 ?_
        refine z_land dX1_holds_69 ?_
        refine z_lstore (lv' := [(4, xL (zland (zlshr w 1) (zlor (zland w 1) (-2)))), (8, xL (zland w 1)), (7, xI (h (o + 5) i)), (0, xR o), (1, xI l), (2, xR a), (3, xI p), (6, xI i)]) dX1_holds_70 (by decide) rfl ?_
        refine z_goto (tgt := 117) dX1_holds_72 (by decide) ?_
        refine z_iincN (lv' := [(6, xI (i + 1)), (4, xL (zland (zlshr w 1) (zlor (zland w 1) (-2)))), (8, xL (zland w 1)), (7, xI (h (o + 5) i)), (0, xR o), (1, xI l), (2, xR a), (3, xI p)]) 7 dX1_holds_117 rfl (by decide) rfl (show -2147483648 ≤ i + 1 ∧ i + 1 < 2147483648 from ⟨by omega, by omega⟩).1 (show -2147483648 ≤ i + 1 ∧ i + 1 < 2147483648 from ⟨by omega, by omega⟩).2 ?_
        refine z_goto (tgt := 11) dX1_holds_120 (by decide) ?_
        refine zW.sub (lv' := [(0, xR o), (1, xI l), (2, xR a), (3, xI p), (4, xL (zland (zlshr w 1) (zlor (zland w 1) (-2)))), (6, xI (i + 1))]) [4, 5, 6, 7, 1, 0] rfl ?_
        exact k5 c1 c2 c3
    ·
      refine z_lload 6 dX1_holds_44 rfl ?_
      refine z_lconst dX1_holds_46 ?_
      show zW mX1_holds X dep bc bs 239 47 [(8, xL (zland w 1)), (7, xI (h (o + 5) i)), (0, xR o), (1, xI l), (2, xR a), (3, xI p), (4, xL w), (6, xI i)] [xL 1, xL w] h Q
      refine z_lxor dX1_holds_47 ?_
      refine z_lstore (lv' := [(4, xL (zlxor w 1)), (8, xL (zland w 1)), (7, xI (h (o + 5) i)), (0, xR o), (1, xI l), (2, xR a), (3, xI p), (6, xI i)]) dX1_holds_48 (by decide) rfl ?_
      refine z_goto (tgt := 117) dX1_holds_50 (by decide) ?_
      refine z_iincN (lv' := [(6, xI (i + 1)), (4, xL (zlxor w 1)), (8, xL (zland w 1)), (7, xI (h (o + 5) i)), (0, xR o), (1, xI l), (2, xR a), (3, xI p)]) 7 dX1_holds_117 rfl (by decide) rfl (show -2147483648 ≤ i + 1 ∧ i + 1 < 2147483648 from ⟨by omega, by omega⟩).1 (show -2147483648 ≤ i + 1 ∧ i + 1 < 2147483648 from ⟨by omega, by omega⟩).2 ?_
      refine z_goto (tgt := 11) dX1_holds_120 (by decide) ?_
      refine zW.sub (lv' := [(0, xR o), (1, xI l), (2, xR a), (3, xI p), (4, xL (zlxor w 1)), (6, xI (i + 1))]) [4, 5, 6, 7, 1, 0] rfl ?_
      exact k6 c1 c2

theorem zcmp_1 {x : Int} : zcmp x 1 = 0 ↔ x = 1 := by
  unfold zcmp
  (repeat' split) <;> omega
theorem l_X1_holds {X : zX} {dep : Nat} (o l a p : Int) {h : zH} (ho : zLawO o) (ha : zOb 239 a (1, 0, 660)) (hp : 0 ≤ p ∧ p ≤ 660) (hl : 0 ≤ l ∧ l < 20) (hf : 0 ≤ h (o + 3) l ∧ h (o + 3) l ≤ h (o + 4) l ∧ h (o + 4) l ≤ 120) (hdep : 1 ≤ dep) (C : Prop) :
    ∀ (k : Nat) (i w : Int), h (o + 3) l ≤ i → i + k = h (o + 4) l → (C ↔ h (o + 3) l = h (o + 4) l ∨ zland (zwrun h o a p k i w) 1 = 1) → zW mX1_holds X dep 0 0 239 11 [(0, xR o), (1, xI l), (2, xR a), (3, xI p), (4, xL w), (6, xI i)] [] h (zF h [xI (zb C)]) := by
  intro k
  induction k with
  | zero =>
    intro i w h0 hk hc
    refine bX1_holds_11 o l a p w i ho ha hp hl hf h0 hdep ?_ ?_ ?_ ?_ ?_ ?_
    · intro c c2
      rw [zb_t (hc.mpr (Or.inl c2))]
      exact ⟨rfl, rfl, rfl⟩
    · intro c c2
      refine ⟨rfl, rfl, ?_⟩
      congr 2
      rw [zb_iff hc]
      unfold zb
      have e : zwrun h o a p 0 i w = w := rfl
      rw [e]
      have := zcmp_1 (x := zland w 1)
      (repeat' split) <;> first | rfl | (exfalso; omega)
    all_goals
      intros
      exfalso
      omega
  | succ k ih =>
    intro i w h0 hk hc
    have hc2 : C ↔ h (o + 3) l = h (o + 4) l ∨ zland (zwrun h o a p k (i + 1) (zwst h a p (h (o + 5) i) w)) 1 = 1 := hc
    refine bX1_holds_11 o l a p w i ho ha hp hl hf h0 hdep ?_ ?_ ?_ ?_ ?_ ?_
    · intros; exfalso; omega
    · intros; exfalso; omega
    · intro c c1 c2 c3
      refine ih (i + 1) _ (by omega) (by omega) ?_
      rw [hc2]
      unfold zwst
      rw [if_neg c1, if_neg c2, if_neg c3]
      have e : (if zans h a (h (o + 5) i) p = 0 then 0 else 1 : Int) = zans h a (h (o + 5) i) p := by
        have := zb01 ((0 ≤ p + zand (h (o + 5) i) 15 ∧ p + zand (h (o + 5) i) 15 < 660) ∧ ((zand (zshr (h (o + 5) i) 4) 255 = 60 ∧ h a (p + zand (h (o + 5) i) 15) < zshr (h (o + 5) i) 12) ∨ (zand (zshr (h (o + 5) i) 4) 255 = 61 ∧ h a (p + zand (h (o + 5) i) 15) = zshr (h (o + 5) i) 12) ∨ (zand (zshr (h (o + 5) i) 4) 255 ≠ 60 ∧ zand (zshr (h (o + 5) i) 4) 255 ≠ 61 ∧ zshr (h (o + 5) i) 12 < h a (p + zand (h (o + 5) i) 15))))
        unfold zans
        rcases this with q | q <;> rw [q] <;> rfl
      rw [e]
    · intro c c1 c2 c3
      refine ih (i + 1) _ (by omega) (by omega) ?_
      rw [hc2]
      unfold zwst
      rw [if_neg c1, if_neg c2, if_pos c3]
    · intro c c1 c2
      refine ih (i + 1) _ (by omega) (by omega) ?_
      rw [hc2]
      unfold zwst
      rw [if_neg c1, if_pos c2]
    · intro c c1
      refine ih (i + 1) _ (by omega) (by omega) ?_
      rw [hc2]
      unfold zwst
      rw [if_pos c1]
theorem f_X1_holds {X : zX} {dep : Nat} (o l a p : Int) {h : zH} (ho : zLawO o) (ha : zOb 239 a (1, 0, 660)) (hp : 0 ≤ p ∧ p ≤ 660) (hl : 0 ≤ l ∧ l < 20) (hf : 0 ≤ h (o + 3) l ∧ h (o + 3) l ≤ h (o + 4) l ∧ h (o + 4) l ≤ 120) (hdep : 1 ≤ dep) : zW mX1_holds X dep 0 0 239 0 (zar 0 [xR o, xI l, xR a, xI p]) [] h (zF h [xI (zb (zhold h o a p l))]) := by
  refine bX1_holds_0 o l a p ho ha hp hl hf ?_
  exact l_X1_holds o l a p ho ha hp hl hf hdep _ (h (o + 4) l - h (o + 3) l).toNat _ 0 (by omega) (by omega) Iff.rfl
/-- the lines of a law stand within its rows -/
def zLawOK (h : zH) (o : Int) : Prop := (0 ≤ h o 6 ∧ h o 6 ≤ 20) ∧ ∀ l : Int, 0 ≤ l → l < h o 6 → 0 ≤ h (o + 3) l ∧ h (o + 3) l ≤ h (o + 4) l ∧ h (o + 4) l ≤ 120

set_option maxRecDepth 20000 in
theorem bX1_lineFor_0 {X : zX} {dep bc bs : Nat} (o : Int) (kd : Int) (a : Int) (p : Int) {h : zH} {Q : Nat → zH → List zV → Prop}
    (k1 : zW mX1_lineFor X dep bc bs 239 3 [(0, xR o), (1, xI kd), (2, xR a), (3, xI p), (4, xI 0)] [] h Q) : zW mX1_lineFor X dep bc bs 239 0 [(0, xR o), (1, xI kd), (2, xR a), (3, xI p)] [] h Q := by
  refine z_iconst dX1_lineFor_0 (zi32_d rfl) ?_
  refine z_istore (lv' := [(4, xI 0), (0, xR o), (1, xI kd), (2, xR a), (3, xI p)]) dX1_lineFor_1 (by decide) rfl ?_
  refine zW.sub (lv' := [(0, xR o), (1, xI kd), (2, xR a), (3, xI p), (4, xI 0)]) [1, 2, 3, 4, 0] rfl ?_
  exact k1

set_option maxRecDepth 20000 in
theorem bX1_lineFor_3 {X : zX} {dep bc bs : Nat} (o : Int) (kd : Int) (a : Int) (p : Int) (i : Int) {h : zH} {Q : Nat → zH → List zV → Prop} (ho : zLawO o) (ha : zOb 239 a (1, 0, 660)) (hp : 0 ≤ p ∧ p ≤ 660) (hk : 0 ≤ h o 6 ∧ h o 6 ≤ 20) (hi : 0 ≤ i) (hf : i < h o 6 → 0 ≤ h (o + 3) i ∧ h (o + 3) i ≤ h (o + 4) i ∧ h (o + 4) i ≤ 120) (hdep : 2 ≤ dep)
    (k1 : (h o 6) ≤ i → Q 239 h [xI (-1)])
    (k2 : ¬ ((h o 6) ≤ i) → ¬ (h (o + 1) i) = kd → zW mX1_lineFor X dep bc bs 239 3 [(0, xR o), (1, xI kd), (2, xR a), (3, xI p), (4, xI (i + 1))] [] h Q)
    (k3 : ¬ ((h o 6) ≤ i) → (h (o + 1) i) = kd → ¬ (zhold h o a p i) → zW mX1_lineFor X dep bc bs 239 3 [(0, xR o), (1, xI kd), (2, xR a), (3, xI p), (4, xI (i + 1))] [] h Q)
    (k4 : ¬ ((h o 6) ≤ i) → (h (o + 1) i) = kd → zhold h o a p i → Q 239 h [xI i]) : zW mX1_lineFor X dep bc bs 239 3 [(0, xR o), (1, xI kd), (2, xR a), (3, xI p), (4, xI i)] [] h Q := by
  refine z_iload 4 dX1_lineFor_3 rfl ?_
  refine z_aload_n 0 dX1_lineFor_5 rfl ?_
  refine z_getI (k := 6) (kz := 6) pk1 dX1_lineFor_6 (by decide) zb_287 rfl ho.1 rfl ?_
  refine z_icmp_ge (tgt := 43) dX1_lineFor_9 (by decide) (fun c1 => ?_) (fun c1 => ?_)
  ·
    refine z_iconst dX1_lineFor_43 (zi32_d rfl) ?_
    exact z_iret dX1_lineFor_44 rfl (k1 c1)
  ·
    refine z_aload_n 0 dX1_lineFor_12 rfl ?_
    refine z_getS (v := (o + 1)) (k := 7) (kz := 7) pk1 dX1_lineFor_13 (by decide) zb_290 rfl ho.1 rfl ho.2.2.2.2.2.2.1 ?_
    refine z_iload 4 dX1_lineFor_16 rfl ?_
    refine z_iald dX1_lineFor_18 ho.2.1 (show 0 ≤ i ∧ i < 20 from ⟨by omega, by omega⟩).1 (show 0 ≤ i ∧ i < 20 from ⟨by omega, by omega⟩).2 ?_
    refine z_iload_n 1 dX1_lineFor_19 rfl ?_
    refine z_icmp_ne (tgt := 37) dX1_lineFor_20 (by decide) (fun c2 => ?_) (fun c2 => ?_)
    ·
      refine z_iincN (lv' := [(4, xI (i + 1)), (0, xR o), (1, xI kd), (2, xR a), (3, xI p)]) 4 dX1_lineFor_37 rfl (by decide) rfl (show -2147483648 ≤ i + 1 ∧ i + 1 < 2147483648 from ⟨by omega, by omega⟩).1 (show -2147483648 ≤ i + 1 ∧ i + 1 < 2147483648 from ⟨by omega, by omega⟩).2 ?_
      refine z_goto (tgt := 3) dX1_lineFor_40 (by decide) ?_
      refine zW.sub (lv' := [(0, xR o), (1, xI kd), (2, xR a), (3, xI p), (4, xI (i + 1))]) [1, 2, 3, 4, 0] rfl ?_
      exact k2 c1 c2
    ·
      refine z_aload_n 0 dX1_lineFor_23 rfl ?_
      refine z_iload 4 dX1_lineFor_24 rfl ?_
      refine z_aload_n 2 dX1_lineFor_26 rfl ?_
      refine z_iload_n 3 dX1_lineFor_27 rfl ?_
      refine z_invF (ci := 1) (N := 13) (as := [xI i, xR a, xI p]) (st := []) (ra := [xI p, xR a, xI i]) (dep' := dep - 1) (rs := [xI (zb (zhold h o a p i))]) (h' := h) (f_X1_holds o i a p (h := h) ho ha hp (show 0 ≤ i ∧ i < 20 from ⟨by omega, by omega⟩) (show 0 ≤ h (o + 3) i ∧ h (o + 3) i ≤ h (o + 4) i ∧ h (o + 4) i ≤ 120 from ⟨by omega, by omega, by omega⟩) (by omega)) dX1_lineFor_28 nX1_holds zb_907 zb_909 zb_26 zb_88 ho.1 rfl (by omega) zne_I (Nat.le_of_ble_eq_true rfl) (Nat.le_of_ble_eq_true rfl) rfl ?_
      refine z_ifB_eq (C := zhold h o a p i) (tgt := 37) dX1_lineFor_31 (by decide) (fun c3 => ?_) (fun c3 => ?_)
      ·
        refine z_iincN (lv' := [(4, xI (i + 1)), (0, xR o), (1, xI kd), (2, xR a), (3, xI p)]) 4 dX1_lineFor_37 rfl (by decide) rfl (show -2147483648 ≤ i + 1 ∧ i + 1 < 2147483648 from ⟨by omega, by omega⟩).1 (show -2147483648 ≤ i + 1 ∧ i + 1 < 2147483648 from ⟨by omega, by omega⟩).2 ?_
        refine z_goto (tgt := 3) dX1_lineFor_40 (by decide) ?_
        refine zW.sub (lv' := [(0, xR o), (1, xI kd), (2, xR a), (3, xI p), (4, xI (i + 1))]) [1, 2, 3, 4, 0] rfl ?_
        exact k3 c1 c2 c3
      ·
        refine z_iload 4 dX1_lineFor_34 rfl ?_
        exact z_iret dX1_lineFor_36 rfl (k4 c1 c2 c3)

/-- the first line of a kind, from i on, k of them, that holds; -1 without any -/
noncomputable def zlf (h : zH) (o a p kd : Int) : Nat → Int → Int
  | 0, _ => -1
  | k + 1, i => @ite Int (h (o + 1) i = kd ∧ zhold h o a p i) (Classical.propDecidable _) i (zlf h o a p kd k (i + 1))
noncomputable def zline (h : zH) (o a p kd : Int) : Int := zlf h o a p kd (h o 6).toNat 0
theorem zlf_in (h : zH) (o a p kd : Int) : ∀ (k : Nat) (i : Int), 0 ≤ i → -1 ≤ zlf h o a p kd k i ∧ zlf h o a p kd k i < i + k
  | 0, i, h0 => ⟨by unfold zlf; omega, by unfold zlf; omega⟩
  | k + 1, i, h0 => by
    have ih := zlf_in h o a p kd k (i + 1) (by omega)
    unfold zlf
    split <;> omega
theorem zline_in {h : zH} {o a p kd : Int} (h0 : 0 ≤ h o 6) : -1 ≤ zline h o a p kd ∧ zline h o a p kd < h o 6 ∨ zline h o a p kd = -1 := by
  have := zlf_in h o a p kd (h o 6).toNat 0 (by omega)
  unfold zline
  omega
theorem l_X1_lineFor {X : zX} {dep : Nat} (o kd a p : Int) {h : zH} (ho : zLawO o) (ha : zOb 239 a (1, 0, 660)) (hp : 0 ≤ p ∧ p ≤ 660) (hw : zLawOK h o) (hdep : 2 ≤ dep) :
    ∀ (k : Nat) (i : Int), 0 ≤ i → i + k = h o 6 → zW mX1_lineFor X dep 0 0 239 3 [(0, xR o), (1, xI kd), (2, xR a), (3, xI p), (4, xI i)] [] h (zF h [xI (zlf h o a p kd k i)]) := by
  intro k
  induction k with
  | zero =>
    intro i h0 hk
    refine bX1_lineFor_3 o kd a p i ho ha hp hw.1 h0 (fun c => hw.2 i h0 c) hdep ?_ ?_ ?_ ?_
    · intro c
      exact ⟨rfl, rfl, rfl⟩
    all_goals
      intros
      exfalso
      omega
  | succ k ih =>
    intro i h0 hk
    have ih1 := ih (i + 1) (by omega) (by omega)
    refine bX1_lineFor_3 o kd a p i ho ha hp hw.1 h0 (fun c => hw.2 i h0 c) hdep ?_ ?_ ?_ ?_
    · intro c; exfalso; omega
    · intro c c1
      unfold zlf
      rw [if_neg (fun z => c1 z.1)]
      exact ih1
    · intro c c1 c2
      unfold zlf
      rw [if_neg (fun z => c2 z.2)]
      exact ih1
    · intro c c1 c2
      unfold zlf
      rw [if_pos ⟨c1, c2⟩]
      exact ⟨rfl, rfl, rfl⟩
theorem f_X1_lineFor {X : zX} {dep : Nat} (o kd a p : Int) {h : zH} (ho : zLawO o) (ha : zOb 239 a (1, 0, 660)) (hp : 0 ≤ p ∧ p ≤ 660) (hw : zLawOK h o) (hdep : 2 ≤ dep) : zW mX1_lineFor X dep 0 0 239 0 (zar 0 [xR o, xI kd, xR a, xI p]) [] h (zF h [xI (zline h o a p kd)]) := by
  have := hw.1
  refine bX1_lineFor_0 o kd a p ?_
  exact l_X1_lineFor o kd a p ho ha hp hw hdep (h o 6).toNat 0 (by omega) (by omega)
