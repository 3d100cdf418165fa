/-! the small questions of both sides -/
set_option maxRecDepth 20000 in
theorem bX10_isMan_0 {X : zX} {dep bc bs : Nat} (m : Int) {h : zH} {Q : Nat → zH → List zV → Prop}
    (k1 : Q 239 h [xI (if m < 0 then 0 else if (h 3 0) ≤ m then 0 else 1)]) : zW mX10_isMan X dep bc bs 239 0 [(0, xR 0), (1, xI m)] [] h Q := by
  refine z_iload_n 1 dX10_isMan_0 rfl ?_
  suffices KJ : zW mX10_isMan X dep bc bs 239 20 [(0, xR 0), (1, xI m)] [xI (if m < 0 then 0 else if (h 3 0) ≤ m then 0 else 1)] h Q by
    refine z_if_lt (tgt := 19) dX10_isMan_1 (by decide) (fun j1 => ?_) (fun j1 => ?_)
    ·
      refine z_iconst dX10_isMan_19 (zi32_d rfl) ?_
      rw [if_pos j1] at KJ
      exact KJ
    ·
      refine z_iload_n 1 dX10_isMan_4 rfl ?_
      refine z_aload_n 0 dX10_isMan_5 rfl ?_
      refine z_getS (v := 3) (k := 1) (kz := 1) pk10 dX10_isMan_6 (by decide) zb_458 rfl (zOb.lit (by decide +kernel)) rfl (by decide +kernel) ?_
      refine z_getI (k := 0) (kz := 0) pk4 dX10_isMan_9 (by decide) zb_156 rfl (zOb.lit (by decide +kernel)) rfl ?_
      refine z_icmp_ge (tgt := 19) dX10_isMan_12 (by decide) (fun j2 => ?_) (fun j2 => ?_)
      ·
        refine z_iconst dX10_isMan_19 (zi32_d rfl) ?_
        rw [if_neg j1] at KJ
        rw [if_pos j2] at KJ
        exact KJ
      ·
        refine z_iconst dX10_isMan_15 (zi32_d rfl) ?_
        refine z_goto (tgt := 20) dX10_isMan_16 (by decide) ?_
        rw [if_neg j1] at KJ
        rw [if_neg j2] at KJ
        exact KJ
  exact z_zret dX10_isMan_20 rfl (by repeat (first | (left; rfl) | (right; rfl) | split)) (k1)
theorem f_X10_isMan {X : zX} {dep : Nat} (m : Int) {h : zH} : zW mX10_isMan X dep 0 0 239 0 (zar 0 [xR 0, xI m]) [] h (zF h [xI (zb (0 ≤ m ∧ m < h 3 0))]) := by
  refine bX10_isMan_0 m ?_
  all_goals intros
  all_goals refine ⟨rfl, rfl, ?_⟩
  all_goals try rfl
  all_goals congr 2
  all_goals (try unfold zb); (repeat' split) <;> first | rfl | omega

set_option maxRecDepth 20000 in
theorem bX10_isLot_0 {X : zX} {dep bc bs : Nat} (l : Int) {h : zH} {Q : Nat → zH → List zV → Prop}
    (k1 : Q 239 h [xI (if l < 0 then 0 else if (h 0 12) ≤ l then 0 else 1)]) : zW mX10_isLot X dep bc bs 239 0 [(0, xR 0), (1, xI l)] [] h Q := by
  refine z_iload_n 1 dX10_isLot_0 rfl ?_
  suffices KJ : zW mX10_isLot X dep bc bs 239 17 [(0, xR 0), (1, xI l)] [xI (if l < 0 then 0 else if (h 0 12) ≤ l then 0 else 1)] h Q by
    refine z_if_lt (tgt := 16) dX10_isLot_1 (by decide) (fun j1 => ?_) (fun j1 => ?_)
    ·
      refine z_iconst dX10_isLot_16 (zi32_d rfl) ?_
      rw [if_pos j1] at KJ
      exact KJ
    ·
      refine z_iload_n 1 dX10_isLot_4 rfl ?_
      refine z_aload_n 0 dX10_isLot_5 rfl ?_
      refine z_getI (k := 12) (kz := 12) pk10 dX10_isLot_6 (by decide) zb_469 rfl (zOb.lit (by decide +kernel)) rfl ?_
      refine z_icmp_ge (tgt := 16) dX10_isLot_9 (by decide) (fun j2 => ?_) (fun j2 => ?_)
      ·
        refine z_iconst dX10_isLot_16 (zi32_d rfl) ?_
        rw [if_neg j1] at KJ
        rw [if_pos j2] at KJ
        exact KJ
      ·
        refine z_iconst dX10_isLot_12 (zi32_d rfl) ?_
        refine z_goto (tgt := 17) dX10_isLot_13 (by decide) ?_
        rw [if_neg j1] at KJ
        rw [if_neg j2] at KJ
        exact KJ
  exact z_zret dX10_isLot_17 rfl (by repeat (first | (left; rfl) | (right; rfl) | split)) (k1)
theorem f_X10_isLot {X : zX} {dep : Nat} (l : Int) {h : zH} : zW mX10_isLot X dep 0 0 239 0 (zar 0 [xR 0, xI l]) [] h (zF h [xI (zb (0 ≤ l ∧ l < h 0 12))]) := by
  refine bX10_isLot_0 l ?_
  all_goals intros
  all_goals refine ⟨rfl, rfl, ?_⟩
  all_goals try rfl
  all_goals congr 2
  all_goals (try unfold zb); (repeat' split) <;> first | rfl | omega

set_option maxRecDepth 20000 in
theorem bX10_isDay_0 {X : zX} {dep bc bs : Nat} (a : Int) {h : zH} {Q : Nat → zH → List zV → Prop}
    (k1 : Q 239 h [xI (if a < 0 then 0 else if 3639 < a then 0 else 1)]) : zW mX10_isDay X dep bc bs 239 0 [(0, xI a)] [] h Q := by
  refine z_iload_n 0 dX10_isDay_0 rfl ?_
  suffices KJ : zW mX10_isDay X dep bc bs 239 16 [(0, xI a)] [xI (if a < 0 then 0 else if 3639 < a then 0 else 1)] h Q by
    refine z_if_lt (tgt := 15) dX10_isDay_1 (by decide) (fun j1 => ?_) (fun j1 => ?_)
    ·
      refine z_iconst dX10_isDay_15 (zi32_d rfl) ?_
      rw [if_pos j1] at KJ
      exact KJ
    ·
      refine z_iload_n 0 dX10_isDay_4 rfl ?_
      refine z_sipush dX10_isDay_5 (zi32_d rfl) (by decide) ?_
      refine z_icmp_gt (tgt := 15) dX10_isDay_8 (by decide) (fun j2 => ?_) (fun j2 => ?_)
      ·
        refine z_iconst dX10_isDay_15 (zi32_d rfl) ?_
        rw [if_neg j1] at KJ
        rw [if_pos j2] at KJ
        exact KJ
      ·
        refine z_iconst dX10_isDay_11 (zi32_d rfl) ?_
        refine z_goto (tgt := 16) dX10_isDay_12 (by decide) ?_
        rw [if_neg j1] at KJ
        rw [if_neg j2] at KJ
        exact KJ
  exact z_zret dX10_isDay_16 rfl (by repeat (first | (left; rfl) | (right; rfl) | split)) (k1)
theorem f_X10_isDay {X : zX} {dep : Nat} (a : Int) {h : zH} : zW mX10_isDay X dep 0 0 239 0 (zar 0 [xI a]) [] h (zF h [xI (zb (0 ≤ a ∧ a ≤ 3639))]) := by
  refine bX10_isDay_0 a ?_
  all_goals intros
  all_goals refine ⟨rfl, rfl, ?_⟩
  all_goals try rfl
  all_goals congr 2
  all_goals (try unfold zb); (repeat' split) <;> first | rfl | omega

set_option maxRecDepth 20000 in
theorem bX10_isWeek_0 {X : zX} {dep bc bs : Nat} (a : Int) {h : zH} {Q : Nat → zH → List zV → Prop}
    (k1 : Q 239 h [xI (if a < 0 then 0 else if 52 ≤ a then 0 else 1)]) : zW mX10_isWeek X dep bc bs 239 0 [(0, xI a)] [] h Q := by
  refine z_iload_n 0 dX10_isWeek_0 rfl ?_
  suffices KJ : zW mX10_isWeek X dep bc bs 239 15 [(0, xI a)] [xI (if a < 0 then 0 else if 52 ≤ a then 0 else 1)] h Q by
    refine z_if_lt (tgt := 14) dX10_isWeek_1 (by decide) (fun j1 => ?_) (fun j1 => ?_)
    ·
      refine z_iconst dX10_isWeek_14 (zi32_d rfl) ?_
      rw [if_pos j1] at KJ
      exact KJ
    ·
      refine z_iload_n 0 dX10_isWeek_4 rfl ?_
      refine z_bipush dX10_isWeek_5 (zi32_d rfl) (by decide) ?_
      refine z_icmp_ge (tgt := 14) dX10_isWeek_7 (by decide) (fun j2 => ?_) (fun j2 => ?_)
      ·
        refine z_iconst dX10_isWeek_14 (zi32_d rfl) ?_
        rw [if_neg j1] at KJ
        rw [if_pos j2] at KJ
        exact KJ
      ·
        refine z_iconst dX10_isWeek_10 (zi32_d rfl) ?_
        refine z_goto (tgt := 15) dX10_isWeek_11 (by decide) ?_
        rw [if_neg j1] at KJ
        rw [if_neg j2] at KJ
        exact KJ
  exact z_zret dX10_isWeek_15 rfl (by repeat (first | (left; rfl) | (right; rfl) | split)) (k1)
theorem f_X10_isWeek {X : zX} {dep : Nat} (a : Int) {h : zH} : zW mX10_isWeek X dep 0 0 239 0 (zar 0 [xI a]) [] h (zF h [xI (zb (0 ≤ a ∧ a < 52))]) := by
  refine bX10_isWeek_0 a ?_
  all_goals intros
  all_goals refine ⟨rfl, rfl, ?_⟩
  all_goals try rfl
  all_goals congr 2
  all_goals (try unfold zb); (repeat' split) <;> first | rfl | omega

set_option maxRecDepth 20000 in
theorem bX10_isFieldWeek_0 {X : zX} {dep bc bs : Nat} (a : Int) {h : zH} {Q : Nat → zH → List zV → Prop}
    (k1 : Q 239 h [xI (if a < 0 then 0 else if 12 ≤ a then 0 else 1)]) : zW mX10_isFieldWeek X dep bc bs 239 0 [(0, xI a)] [] h Q := by
  refine z_iload_n 0 dX10_isFieldWeek_0 rfl ?_
  suffices KJ : zW mX10_isFieldWeek X dep bc bs 239 15 [(0, xI a)] [xI (if a < 0 then 0 else if 12 ≤ a then 0 else 1)] h Q by
    refine z_if_lt (tgt := 14) dX10_isFieldWeek_1 (by decide) (fun j1 => ?_) (fun j1 => ?_)
    ·
      refine z_iconst dX10_isFieldWeek_14 (zi32_d rfl) ?_
      rw [if_pos j1] at KJ
      exact KJ
    ·
      refine z_iload_n 0 dX10_isFieldWeek_4 rfl ?_
      refine z_bipush dX10_isFieldWeek_5 (zi32_d rfl) (by decide) ?_
      refine z_icmp_ge (tgt := 14) dX10_isFieldWeek_7 (by decide) (fun j2 => ?_) (fun j2 => ?_)
      ·
        refine z_iconst dX10_isFieldWeek_14 (zi32_d rfl) ?_
        rw [if_neg j1] at KJ
        rw [if_pos j2] at KJ
        exact KJ
      ·
        refine z_iconst dX10_isFieldWeek_10 (zi32_d rfl) ?_
        refine z_goto (tgt := 15) dX10_isFieldWeek_11 (by decide) ?_
        rw [if_neg j1] at KJ
        rw [if_neg j2] at KJ
        exact KJ
  exact z_zret dX10_isFieldWeek_15 rfl (by repeat (first | (left; rfl) | (right; rfl) | split)) (k1)
theorem f_X10_isFieldWeek {X : zX} {dep : Nat} (a : Int) {h : zH} : zW mX10_isFieldWeek X dep 0 0 239 0 (zar 0 [xI a]) [] h (zF h [xI (zb (0 ≤ a ∧ a < 12))]) := by
  refine bX10_isFieldWeek_0 a ?_
  all_goals intros
  all_goals refine ⟨rfl, rfl, ?_⟩
  all_goals try rfl
  all_goals congr 2
  all_goals (try unfold zb); (repeat' split) <;> first | rfl | omega

set_option maxRecDepth 20000 in
theorem bX10_isParish_0 {X : zX} {dep bc bs : Nat} (a : Int) {h : zH} {Q : Nat → zH → List zV → Prop}
    (k1 : Q 239 h [xI (if a < 0 then 0 else if 8 ≤ a then 0 else 1)]) : zW mX10_isParish X dep bc bs 239 0 [(0, xI a)] [] h Q := by
  refine z_iload_n 0 dX10_isParish_0 rfl ?_
  suffices KJ : zW mX10_isParish X dep bc bs 239 15 [(0, xI a)] [xI (if a < 0 then 0 else if 8 ≤ a then 0 else 1)] h Q by
    refine z_if_lt (tgt := 14) dX10_isParish_1 (by decide) (fun j1 => ?_) (fun j1 => ?_)
    ·
      refine z_iconst dX10_isParish_14 (zi32_d rfl) ?_
      rw [if_pos j1] at KJ
      exact KJ
    ·
      refine z_iload_n 0 dX10_isParish_4 rfl ?_
      refine z_bipush dX10_isParish_5 (zi32_d rfl) (by decide) ?_
      refine z_icmp_ge (tgt := 14) dX10_isParish_7 (by decide) (fun j2 => ?_) (fun j2 => ?_)
      ·
        refine z_iconst dX10_isParish_14 (zi32_d rfl) ?_
        rw [if_neg j1] at KJ
        rw [if_pos j2] at KJ
        exact KJ
      ·
        refine z_iconst dX10_isParish_10 (zi32_d rfl) ?_
        refine z_goto (tgt := 15) dX10_isParish_11 (by decide) ?_
        rw [if_neg j1] at KJ
        rw [if_neg j2] at KJ
        exact KJ
  exact z_zret dX10_isParish_15 rfl (by repeat (first | (left; rfl) | (right; rfl) | split)) (k1)
theorem f_X10_isParish {X : zX} {dep : Nat} (a : Int) {h : zH} : zW mX10_isParish X dep 0 0 239 0 (zar 0 [xI a]) [] h (zF h [xI (zb (0 ≤ a ∧ a < 8))]) := by
  refine bX10_isParish_0 a ?_
  all_goals intros
  all_goals refine ⟨rfl, rfl, ?_⟩
  all_goals try rfl
  all_goals congr 2
  all_goals (try unfold zb); (repeat' split) <;> first | rfl | omega

set_option maxRecDepth 20000 in
theorem bX10_isFather_0 {X : zX} {dep bc bs : Nat} (a : Int) {h : zH} {Q : Nat → zH → List zV → Prop}
    (k1 : Q 239 h [xI (if a < 0 then 0 else if 60 ≤ a then 0 else 1)]) : zW mX10_isFather X dep bc bs 239 0 [(0, xI a)] [] h Q := by
  refine z_iload_n 0 dX10_isFather_0 rfl ?_
  suffices KJ : zW mX10_isFather X dep bc bs 239 15 [(0, xI a)] [xI (if a < 0 then 0 else if 60 ≤ a then 0 else 1)] h Q by
    refine z_if_lt (tgt := 14) dX10_isFather_1 (by decide) (fun j1 => ?_) (fun j1 => ?_)
    ·
      refine z_iconst dX10_isFather_14 (zi32_d rfl) ?_
      rw [if_pos j1] at KJ
      exact KJ
    ·
      refine z_iload_n 0 dX10_isFather_4 rfl ?_
      refine z_bipush dX10_isFather_5 (zi32_d rfl) (by decide) ?_
      refine z_icmp_ge (tgt := 14) dX10_isFather_7 (by decide) (fun j2 => ?_) (fun j2 => ?_)
      ·
        refine z_iconst dX10_isFather_14 (zi32_d rfl) ?_
        rw [if_neg j1] at KJ
        rw [if_pos j2] at KJ
        exact KJ
      ·
        refine z_iconst dX10_isFather_10 (zi32_d rfl) ?_
        refine z_goto (tgt := 15) dX10_isFather_11 (by decide) ?_
        rw [if_neg j1] at KJ
        rw [if_neg j2] at KJ
        exact KJ
  exact z_zret dX10_isFather_15 rfl (by repeat (first | (left; rfl) | (right; rfl) | split)) (k1)
theorem f_X10_isFather {X : zX} {dep : Nat} (a : Int) {h : zH} : zW mX10_isFather X dep 0 0 239 0 (zar 0 [xI a]) [] h (zF h [xI (zb (0 ≤ a ∧ a < 60))]) := by
  refine bX10_isFather_0 a ?_
  all_goals intros
  all_goals refine ⟨rfl, rfl, ?_⟩
  all_goals try rfl
  all_goals congr 2
  all_goals (try unfold zb); (repeat' split) <;> first | rfl | omega

set_option maxRecDepth 20000 in
theorem bX10_isDoctor_0 {X : zX} {dep bc bs : Nat} (a : Int) {h : zH} {Q : Nat → zH → List zV → Prop}
    (k1 : Q 239 h [xI (if a < 0 then 0 else if 8 ≤ a then 0 else 1)]) : zW mX10_isDoctor X dep bc bs 239 0 [(0, xI a)] [] h Q := by
  refine z_iload_n 0 dX10_isDoctor_0 rfl ?_
  suffices KJ : zW mX10_isDoctor X dep bc bs 239 15 [(0, xI a)] [xI (if a < 0 then 0 else if 8 ≤ a then 0 else 1)] h Q by
    refine z_if_lt (tgt := 14) dX10_isDoctor_1 (by decide) (fun j1 => ?_) (fun j1 => ?_)
    ·
      refine z_iconst dX10_isDoctor_14 (zi32_d rfl) ?_
      rw [if_pos j1] at KJ
      exact KJ
    ·
      refine z_iload_n 0 dX10_isDoctor_4 rfl ?_
      refine z_bipush dX10_isDoctor_5 (zi32_d rfl) (by decide) ?_
      refine z_icmp_ge (tgt := 14) dX10_isDoctor_7 (by decide) (fun j2 => ?_) (fun j2 => ?_)
      ·
        refine z_iconst dX10_isDoctor_14 (zi32_d rfl) ?_
        rw [if_neg j1] at KJ
        rw [if_pos j2] at KJ
        exact KJ
      ·
        refine z_iconst dX10_isDoctor_10 (zi32_d rfl) ?_
        refine z_goto (tgt := 15) dX10_isDoctor_11 (by decide) ?_
        rw [if_neg j1] at KJ
        rw [if_neg j2] at KJ
        exact KJ
  exact z_zret dX10_isDoctor_15 rfl (by repeat (first | (left; rfl) | (right; rfl) | split)) (k1)
theorem f_X10_isDoctor {X : zX} {dep : Nat} (a : Int) {h : zH} : zW mX10_isDoctor X dep 0 0 239 0 (zar 0 [xI a]) [] h (zF h [xI (zb (0 ≤ a ∧ a < 8))]) := by
  refine bX10_isDoctor_0 a ?_
  all_goals intros
  all_goals refine ⟨rfl, rfl, ?_⟩
  all_goals try rfl
  all_goals congr 2
  all_goals (try unfold zb); (repeat' split) <;> first | rfl | omega

set_option maxRecDepth 20000 in
theorem bX10_isWhat_0 {X : zX} {dep bc bs : Nat} (a : Int) {h : zH} {Q : Nat → zH → List zV → Prop}
    (k1 : Q 239 h [xI (if a < 0 then 0 else if 2 < a then 0 else 1)]) : zW mX10_isWhat X dep bc bs 239 0 [(0, xI a)] [] h Q := by
  refine z_iload_n 0 dX10_isWhat_0 rfl ?_
  suffices KJ : zW mX10_isWhat X dep bc bs 239 14 [(0, xI a)] [xI (if a < 0 then 0 else if 2 < a then 0 else 1)] h Q by
    refine z_if_lt (tgt := 13) dX10_isWhat_1 (by decide) (fun j1 => ?_) (fun j1 => ?_)
    ·
      refine z_iconst dX10_isWhat_13 (zi32_d rfl) ?_
      rw [if_pos j1] at KJ
      exact KJ
    ·
      refine z_iload_n 0 dX10_isWhat_4 rfl ?_
      refine z_iconst dX10_isWhat_5 (zi32_d rfl) ?_
      refine z_icmp_gt (tgt := 13) dX10_isWhat_6 (by decide) (fun j2 => ?_) (fun j2 => ?_)
      ·
        refine z_iconst dX10_isWhat_13 (zi32_d rfl) ?_
        rw [if_neg j1] at KJ
        rw [if_pos j2] at KJ
        exact KJ
      ·
        refine z_iconst dX10_isWhat_9 (zi32_d rfl) ?_
        refine z_goto (tgt := 14) dX10_isWhat_10 (by decide) ?_
        rw [if_neg j1] at KJ
        rw [if_neg j2] at KJ
        exact KJ
  exact z_zret dX10_isWhat_14 rfl (by repeat (first | (left; rfl) | (right; rfl) | split)) (k1)
theorem f_X10_isWhat {X : zX} {dep : Nat} (a : Int) {h : zH} : zW mX10_isWhat X dep 0 0 239 0 (zar 0 [xI a]) [] h (zF h [xI (zb (0 ≤ a ∧ a ≤ 2))]) := by
  refine bX10_isWhat_0 a ?_
  all_goals intros
  all_goals refine ⟨rfl, rfl, ?_⟩
  all_goals try rfl
  all_goals congr 2
  all_goals (try unfold zb); (repeat' split) <;> first | rfl | omega

set_option maxRecDepth 20000 in
theorem bX10_isFactValue_0 {X : zX} {dep bc bs : Nat} (k : Int) (v : Int) {h : zH} {Q : Nat → zH → List zV → Prop}
    (k1 : 0 ≤ v → k < 0 → Q 239 h [xI 0])
    (k2 : 0 ≤ v → 5 < k → Q 239 h [xI 0])
    (k3 : 0 ≤ v → k = 0 → Q 239 h [xI (if 9 < v then 0 else 1)])
    (k4 : 0 ≤ v → k = 1 → Q 239 h [xI (if 9 < v then 0 else 1)])
    (k5 : 0 ≤ v → k = 2 → Q 239 h [xI (if 1 < v then 0 else 1)])
    (k6 : 0 ≤ v → k = 3 → Q 239 h [xI (if 1 < v then 0 else 1)])
    (k7 : 0 ≤ v → k = 4 → Q 239 h [xI (if 1 < v then 0 else 1)])
    (k8 : 0 ≤ v → k = 5 → Q 239 h [xI (if 250 < v then 0 else 1)])
    (k9 : ¬ (0 ≤ v) → Q 239 h [xI 0]) : zW mX10_isFactValue X dep bc bs 239 0 [(0, xI k), (1, xI v)] [] h Q := by
  refine z_iload_n 1 dX10_isFactValue_0 rfl ?_
  refine z_if_ge (tgt := 6) dX10_isFactValue_1 (by decide) (fun c1 => ?_) (fun c1 => ?_)
  ·
    refine z_iload_n 0 dX10_isFactValue_6 rfl ?_
    rcases (show k < 0 ∨ 5 < k ∨ k = 0 ∨ k = 1 ∨ k = 2 ∨ k = 3 ∨ k = 4 ∨ k = 5 by omega) with c2 | c2 | c2 | c2 | c2 | c2 | c2 | c2
    ·
      refine z_tsOut (tgt := 80) dX10_isFactValue_7 (Or.inl c2) (by decide) ?_
      refine z_iconst dX10_isFactValue_80 (zi32_d rfl) ?_
      exact z_zret dX10_isFactValue_81 rfl (Or.inl rfl) (k1 c1 c2)
    ·
      refine z_tsOut (tgt := 80) dX10_isFactValue_7 (Or.inr c2) (by decide) ?_
      refine z_iconst dX10_isFactValue_80 (zi32_d rfl) ?_
      exact z_zret dX10_isFactValue_81 rfl (Or.inl rfl) (k2 c1 c2)
    ·
      refine z_tsIn (tgt := 44) dX10_isFactValue_7 (by omega) (by omega) (by rw [c2]; rfl) (by decide) ?_
      refine z_iload_n 1 dX10_isFactValue_44 rfl ?_
      refine z_bipush dX10_isFactValue_45 (zi32_d rfl) (by decide) ?_
      suffices KJ : zW mX10_isFactValue X dep bc bs 239 55 [(0, xI k), (1, xI v)] [xI (if 9 < v then 0 else 1)] h Q by
        refine z_icmp_gt (tgt := 54) dX10_isFactValue_47 (by decide) (fun j1 => ?_) (fun j1 => ?_)
        ·
          refine z_iconst dX10_isFactValue_54 (zi32_d rfl) ?_
          rw [if_pos j1] at KJ
          exact KJ
        ·
          refine z_iconst dX10_isFactValue_50 (zi32_d rfl) ?_
          refine z_goto (tgt := 55) dX10_isFactValue_51 (by decide) ?_
          rw [if_neg j1] at KJ
          exact KJ
      exact z_zret dX10_isFactValue_55 rfl (by repeat (first | (left; rfl) | (right; rfl) | split)) (k3 c1 c2)
    ·
      refine z_tsIn (tgt := 44) dX10_isFactValue_7 (by omega) (by omega) (by rw [c2]; rfl) (by decide) ?_
      refine z_iload_n 1 dX10_isFactValue_44 rfl ?_
      refine z_bipush dX10_isFactValue_45 (zi32_d rfl) (by decide) ?_
      suffices KJ : zW mX10_isFactValue X dep bc bs 239 55 [(0, xI k), (1, xI v)] [xI (if 9 < v then 0 else 1)] h Q by
        refine z_icmp_gt (tgt := 54) dX10_isFactValue_47 (by decide) (fun j1 => ?_) (fun j1 => ?_)
        ·
          refine z_iconst dX10_isFactValue_54 (zi32_d rfl) ?_
          rw [if_pos j1] at KJ
          exact KJ
        ·
          refine z_iconst dX10_isFactValue_50 (zi32_d rfl) ?_
          refine z_goto (tgt := 55) dX10_isFactValue_51 (by decide) ?_
          rw [if_neg j1] at KJ
          exact KJ
      exact z_zret dX10_isFactValue_55 rfl (by repeat (first | (left; rfl) | (right; rfl) | split)) (k4 c1 c2)
    ·
      refine z_tsIn (tgt := 56) dX10_isFactValue_7 (by omega) (by omega) (by rw [c2]; rfl) (by decide) ?_
      refine z_iload_n 1 dX10_isFactValue_56 rfl ?_
      refine z_iconst dX10_isFactValue_57 (zi32_d rfl) ?_
      suffices KJ : zW mX10_isFactValue X dep bc bs 239 66 [(0, xI k), (1, xI v)] [xI (if 1 < v then 0 else 1)] h Q by
        refine z_icmp_gt (tgt := 65) dX10_isFactValue_58 (by decide) (fun j1 => ?_) (fun j1 => ?_)
        ·
          refine z_iconst dX10_isFactValue_65 (zi32_d rfl) ?_
          rw [if_pos j1] at KJ
          exact KJ
        ·
          refine z_iconst dX10_isFactValue_61 (zi32_d rfl) ?_
          refine z_goto (tgt := 66) dX10_isFactValue_62 (by decide) ?_
          rw [if_neg j1] at KJ
          exact KJ
      exact z_zret dX10_isFactValue_66 rfl (by repeat (first | (left; rfl) | (right; rfl) | split)) (k5 c1 c2)
    ·
      refine z_tsIn (tgt := 56) dX10_isFactValue_7 (by omega) (by omega) (by rw [c2]; rfl) (by decide) ?_
      refine z_iload_n 1 dX10_isFactValue_56 rfl ?_
      refine z_iconst dX10_isFactValue_57 (zi32_d rfl) ?_
      suffices KJ : zW mX10_isFactValue X dep bc bs 239 66 [(0, xI k), (1, xI v)] [xI (if 1 < v then 0 else 1)] h Q by
        refine z_icmp_gt (tgt := 65) dX10_isFactValue_58 (by decide) (fun j1 => ?_) (fun j1 => ?_)
        ·
          refine z_iconst dX10_isFactValue_65 (zi32_d rfl) ?_
          rw [if_pos j1] at KJ
          exact KJ
        ·
          refine z_iconst dX10_isFactValue_61 (zi32_d rfl) ?_
          refine z_goto (tgt := 66) dX10_isFactValue_62 (by decide) ?_
          rw [if_neg j1] at KJ
          exact KJ
      exact z_zret dX10_isFactValue_66 rfl (by repeat (first | (left; rfl) | (right; rfl) | split)) (k6 c1 c2)
    ·
      refine z_tsIn (tgt := 56) dX10_isFactValue_7 (by omega) (by omega) (by rw [c2]; rfl) (by decide) ?_
      refine z_iload_n 1 dX10_isFactValue_56 rfl ?_
      refine z_iconst dX10_isFactValue_57 (zi32_d rfl) ?_
      suffices KJ : zW mX10_isFactValue X dep bc bs 239 66 [(0, xI k), (1, xI v)] [xI (if 1 < v then 0 else 1)] h Q by
        refine z_icmp_gt (tgt := 65) dX10_isFactValue_58 (by decide) (fun j1 => ?_) (fun j1 => ?_)
        ·
          refine z_iconst dX10_isFactValue_65 (zi32_d rfl) ?_
          rw [if_pos j1] at KJ
          exact KJ
        ·
          refine z_iconst dX10_isFactValue_61 (zi32_d rfl) ?_
          refine z_goto (tgt := 66) dX10_isFactValue_62 (by decide) ?_
          rw [if_neg j1] at KJ
          exact KJ
      exact z_zret dX10_isFactValue_66 rfl (by repeat (first | (left; rfl) | (right; rfl) | split)) (k7 c1 c2)
    ·
      refine z_tsIn (tgt := 67) dX10_isFactValue_7 (by omega) (by omega) (by rw [c2]; rfl) (by decide) ?_
      refine z_iload_n 1 dX10_isFactValue_67 rfl ?_
      refine z_sipush dX10_isFactValue_68 (zi32_d rfl) (by decide) ?_
      suffices KJ : zW mX10_isFactValue X dep bc bs 239 79 [(0, xI k), (1, xI v)] [xI (if 250 < v then 0 else 1)] h Q by
        refine z_icmp_gt (tgt := 78) dX10_isFactValue_71 (by decide) (fun j1 => ?_) (fun j1 => ?_)
        ·
          refine z_iconst dX10_isFactValue_78 (zi32_d rfl) ?_
          rw [if_pos j1] at KJ
          exact KJ
        ·
          refine z_iconst dX10_isFactValue_74 (zi32_d rfl) ?_
          refine z_goto (tgt := 79) dX10_isFactValue_75 (by decide) ?_
          rw [if_neg j1] at KJ
          exact KJ
      exact z_zret dX10_isFactValue_79 rfl (by repeat (first | (left; rfl) | (right; rfl) | split)) (k8 c1 c2)
  ·
    refine z_iconst dX10_isFactValue_4 (zi32_d rfl) ?_
    exact z_zret dX10_isFactValue_5 rfl (Or.inl rfl) (k9 c1)
theorem f_X10_isFactValue {X : zX} {dep : Nat} (k : Int) (v : Int) {h : zH} : zW mX10_isFactValue X dep 0 0 239 0 (zar 0 [xI k, xI v]) [] h (zF h [xI (zb (0 ≤ v ∧ ((k = 0 ∨ k = 1) ∧ v ≤ 9 ∨ (k = 2 ∨ k = 3 ∨ k = 4) ∧ v ≤ 1 ∨ k = 5 ∧ v ≤ 250)))]) := by
  refine bX10_isFactValue_0 k v ?_ ?_ ?_ ?_ ?_ ?_ ?_ ?_ ?_
  all_goals intros
  all_goals refine ⟨rfl, rfl, ?_⟩
  all_goals try rfl
  all_goals congr 2
  all_goals (try unfold zb); (repeat' split) <;> first | rfl | omega

set_option maxRecDepth 20000 in
theorem bX11_isIn_0 {X : zX} {dep bc bs : Nat} (v : Int) (a : Int) (b : Int) {h : zH} {Q : Nat → zH → List zV → Prop}
    (k1 : Q 239 h [xI (if v < a then 0 else if b < v then 0 else 1)]) : zW mX11_isIn X dep bc bs 239 0 [(0, xI v), (1, xI a), (2, xI b)] [] h Q := by
  refine z_iload_n 0 dX11_isIn_0 rfl ?_
  refine z_iload_n 1 dX11_isIn_1 rfl ?_
  suffices KJ : zW mX11_isIn X dep bc bs 239 15 [(0, xI v), (1, xI a), (2, xI b)] [xI (if v < a then 0 else if b < v then 0 else 1)] h Q by
    refine z_icmp_lt (tgt := 14) dX11_isIn_2 (by decide) (fun j1 => ?_) (fun j1 => ?_)
    ·
      refine z_iconst dX11_isIn_14 (zi32_d rfl) ?_
      rw [if_pos j1] at KJ
      exact KJ
    ·
      refine z_iload_n 0 dX11_isIn_5 rfl ?_
      refine z_iload_n 2 dX11_isIn_6 rfl ?_
      refine z_icmp_gt (tgt := 14) dX11_isIn_7 (by decide) (fun j2 => ?_) (fun j2 => ?_)
      ·
        refine z_iconst dX11_isIn_14 (zi32_d rfl) ?_
        rw [if_neg j1] at KJ
        rw [if_pos j2] at KJ
        exact KJ
      ·
        refine z_iconst dX11_isIn_10 (zi32_d rfl) ?_
        refine z_goto (tgt := 15) dX11_isIn_11 (by decide) ?_
        rw [if_neg j1] at KJ
        rw [if_neg j2] at KJ
        exact KJ
  exact z_zret dX11_isIn_15 rfl (by repeat (first | (left; rfl) | (right; rfl) | split)) (k1)
theorem f_X11_isIn {X : zX} {dep : Nat} (v : Int) (a : Int) (b : Int) {h : zH} : zW mX11_isIn X dep 0 0 239 0 (zar 0 [xI v, xI a, xI b]) [] h (zF h [xI (zb (a ≤ v ∧ v ≤ b))]) := by
  refine bX11_isIn_0 v a b ?_
  all_goals intros
  all_goals refine ⟨rfl, rfl, ?_⟩
  all_goals try rfl
  all_goals congr 2
  all_goals (try unfold zb); (repeat' split) <;> first | rfl | omega

set_option maxRecDepth 20000 in
theorem bX11_isSmall_0 {X : zX} {dep bc bs : Nat} (c : Int) {h : zH} {Q : Nat → zH → List zV → Prop}
    (k1 : Q 239 h [xI (if c < 97 then 0 else if 122 < c then 0 else 1)]) : zW mX11_isSmall X dep bc bs 239 0 [(0, xI c)] [] h Q := by
  refine z_iload_n 0 dX11_isSmall_0 rfl ?_
  refine z_bipush dX11_isSmall_1 (zi32_d rfl) (by decide) ?_
  suffices KJ : zW mX11_isSmall X dep bc bs 239 17 [(0, xI c)] [xI (if c < 97 then 0 else if 122 < c then 0 else 1)] h Q by
    refine z_icmp_lt (tgt := 16) dX11_isSmall_3 (by decide) (fun j1 => ?_) (fun j1 => ?_)
    ·
      refine z_iconst dX11_isSmall_16 (zi32_d rfl) ?_
      rw [if_pos j1] at KJ
      exact KJ
    ·
      refine z_iload_n 0 dX11_isSmall_6 rfl ?_
      refine z_bipush dX11_isSmall_7 (zi32_d rfl) (by decide) ?_
      refine z_icmp_gt (tgt := 16) dX11_isSmall_9 (by decide) (fun j2 => ?_) (fun j2 => ?_)
      ·
        refine z_iconst dX11_isSmall_16 (zi32_d rfl) ?_
        rw [if_neg j1] at KJ
        rw [if_pos j2] at KJ
        exact KJ
      ·
        refine z_iconst dX11_isSmall_12 (zi32_d rfl) ?_
        refine z_goto (tgt := 17) dX11_isSmall_13 (by decide) ?_
        rw [if_neg j1] at KJ
        rw [if_neg j2] at KJ
        exact KJ
  exact z_zret dX11_isSmall_17 rfl (by repeat (first | (left; rfl) | (right; rfl) | split)) (k1)
theorem f_X11_isSmall {X : zX} {dep : Nat} (c : Int) {h : zH} : zW mX11_isSmall X dep 0 0 239 0 (zar 0 [xI c]) [] h (zF h [xI (zb (97 ≤ c ∧ c ≤ 122))]) := by
  refine bX11_isSmall_0 c ?_
  all_goals intros
  all_goals refine ⟨rfl, rfl, ?_⟩
  all_goals try rfl
  all_goals congr 2
  all_goals (try unfold zb); (repeat' split) <;> first | rfl | omega

set_option maxRecDepth 20000 in
theorem bX11_isDigit_0 {X : zX} {dep bc bs : Nat} (c : Int) {h : zH} {Q : Nat → zH → List zV → Prop}
    (k1 : Q 239 h [xI (if c < 48 then 0 else if 57 < c then 0 else 1)]) : zW mX11_isDigit X dep bc bs 239 0 [(0, xI c)] [] h Q := by
  refine z_iload_n 0 dX11_isDigit_0 rfl ?_
  refine z_bipush dX11_isDigit_1 (zi32_d rfl) (by decide) ?_
  suffices KJ : zW mX11_isDigit X dep bc bs 239 17 [(0, xI c)] [xI (if c < 48 then 0 else if 57 < c then 0 else 1)] h Q by
    refine z_icmp_lt (tgt := 16) dX11_isDigit_3 (by decide) (fun j1 => ?_) (fun j1 => ?_)
    ·
      refine z_iconst dX11_isDigit_16 (zi32_d rfl) ?_
      rw [if_pos j1] at KJ
      exact KJ
    ·
      refine z_iload_n 0 dX11_isDigit_6 rfl ?_
      refine z_bipush dX11_isDigit_7 (zi32_d rfl) (by decide) ?_
      refine z_icmp_gt (tgt := 16) dX11_isDigit_9 (by decide) (fun j2 => ?_) (fun j2 => ?_)
      ·
        refine z_iconst dX11_isDigit_16 (zi32_d rfl) ?_
        rw [if_neg j1] at KJ
        rw [if_pos j2] at KJ
        exact KJ
      ·
        refine z_iconst dX11_isDigit_12 (zi32_d rfl) ?_
        refine z_goto (tgt := 17) dX11_isDigit_13 (by decide) ?_
        rw [if_neg j1] at KJ
        rw [if_neg j2] at KJ
        exact KJ
  exact z_zret dX11_isDigit_17 rfl (by repeat (first | (left; rfl) | (right; rfl) | split)) (k1)
theorem f_X11_isDigit {X : zX} {dep : Nat} (c : Int) {h : zH} : zW mX11_isDigit X dep 0 0 239 0 (zar 0 [xI c]) [] h (zF h [xI (zb (48 ≤ c ∧ c ≤ 57))]) := by
  refine bX11_isDigit_0 c ?_
  all_goals intros
  all_goals refine ⟨rfl, rfl, ?_⟩
  all_goals try rfl
  all_goals congr 2
  all_goals (try unfold zb); (repeat' split) <;> first | rfl | omega

set_option maxRecDepth 20000 in
theorem bJ9_max_7cf53_0 {X : zX} {dep bc bs : Nat} (a : Int) (b : Int) {h : zH} {Q : Nat → zH → List zV → Prop}
    (k1 : a < b → Q 239 h [xI b])
    (k2 : ¬ (a < b) → Q 239 h [xI a]) : zW mJ9_max_7cf53 X dep bc bs 239 0 [(0, xI a), (1, xI b)] [] h Q := by
  refine z_iload_n 0 dJ9_max_7cf53_0 rfl ?_
  refine z_iload_n 1 dJ9_max_7cf53_1 rfl ?_
  refine z_icmp_lt (tgt := 9) dJ9_max_7cf53_2 (by decide) (fun c1 => ?_) (fun c1 => ?_)
  ·
    refine z_iload_n 1 dJ9_max_7cf53_9 rfl ?_
    exact z_iret dJ9_max_7cf53_10 rfl (k1 c1)
  ·
    refine z_iload_n 0 dJ9_max_7cf53_5 rfl ?_
    refine z_goto (tgt := 10) dJ9_max_7cf53_6 (by decide) ?_
    exact z_iret dJ9_max_7cf53_10 rfl (k2 c1)
theorem f_J9_max_7cf53 {X : zX} {dep : Nat} (a : Int) (b : Int) {h : zH} : zW mJ9_max_7cf53 X dep 0 0 239 0 (zar 0 [xI a, xI b]) [] h (zF h [xI (max a b)]) := by
  refine bJ9_max_7cf53_0 a b ?_ ?_
  all_goals intros
  all_goals refine ⟨rfl, rfl, ?_⟩
  all_goals congr 2
  all_goals omega

set_option maxRecDepth 20000 in
theorem bJ9_min_7cf53_0 {X : zX} {dep bc bs : Nat} (a : Int) (b : Int) {h : zH} {Q : Nat → zH → List zV → Prop}
    (k1 : b < a → Q 239 h [xI b])
    (k2 : ¬ (b < a) → Q 239 h [xI a]) : zW mJ9_min_7cf53 X dep bc bs 239 0 [(0, xI a), (1, xI b)] [] h Q := by
  refine z_iload_n 0 dJ9_min_7cf53_0 rfl ?_
  refine z_iload_n 1 dJ9_min_7cf53_1 rfl ?_
  refine z_icmp_gt (tgt := 9) dJ9_min_7cf53_2 (by decide) (fun c1 => ?_) (fun c1 => ?_)
  ·
    refine z_iload_n 1 dJ9_min_7cf53_9 rfl ?_
    exact z_iret dJ9_min_7cf53_10 rfl (k1 c1)
  ·
    refine z_iload_n 0 dJ9_min_7cf53_5 rfl ?_
    refine z_goto (tgt := 10) dJ9_min_7cf53_6 (by decide) ?_
    exact z_iret dJ9_min_7cf53_10 rfl (k2 c1)
theorem f_J9_min_7cf53 {X : zX} {dep : Nat} (a : Int) (b : Int) {h : zH} : zW mJ9_min_7cf53 X dep 0 0 239 0 (zar 0 [xI a, xI b]) [] h (zF h [xI (min a b)]) := by
  refine bJ9_min_7cf53_0 a b ?_ ?_
  all_goals intros
  all_goals refine ⟨rfl, rfl, ?_⟩
  all_goals congr 2
  all_goals omega
