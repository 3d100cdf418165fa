/-! the tape -/
def zat (h : zH) (i : Int) : Int := if 0 ≤ i ∧ i < h 1 1 then zand (h 2 i) 255 else -1
/-- four bytes behind the tape: its array A, its length at place K of object O -/
def zput4 (h : zH) (A O K a : Int) : zH := zst (zst (zst (zst (zst (zst (zst (zst h A (h O K) (zi2b (zi2b (zshr a 24)))) O K ((h O K) + 1)) A ((h O K) + 1) (zi2b (zi2b (zshr a 16)))) O K ((h O K) + 2)) A ((h O K) + 2) (zi2b (zi2b (zshr a 8)))) O K ((h O K) + 3)) A ((h O K) + 3) (zi2b (zi2b (zshr a 0)))) O K ((h O K) + 4)

set_option maxRecDepth 20000 in
theorem bX7_at_0 {X : zX} {dep bc bs : Nat} (i : Int) {h : zH} {Q : Nat → zH → List zV → Prop} (hl : 0 ≤ h 1 1 ∧ h 1 1 ≤ 340)
    (k1 : i < 0 → Q 239 h [xI (-1)])
    (k2 : ¬ (i < 0) → i < (h 1 1) → Q 239 h [xI (zand (h 2 i) 255)])
    (k3 : ¬ (i < 0) → ¬ (i < (h 1 1)) → Q 239 h [xI (-1)]) : zW mX7_at X dep bc bs 239 0 [(0, xR 1), (1, xI i)] [] h Q := by
  refine z_iload_n 1 dX7_at_0 rfl ?_
  refine z_if_lt (tgt := 12) dX7_at_1 (by decide) (fun c1 => ?_) (fun c1 => ?_)
  ·
    refine z_iconst dX7_at_12 (zi32_d rfl) ?_
    refine z_goto (tgt := 26) dX7_at_13 (by decide) ?_
    exact z_iret dX7_at_26 rfl (k1 c1)
  ·
    refine z_iload_n 1 dX7_at_4 rfl ?_
    refine z_aload_n 0 dX7_at_5 rfl ?_
    refine z_getI (k := 1) (kz := 1) pk7 dX7_at_6 (by decide) zb_123 rfl (zOb.lit (by decide +kernel)) rfl ?_
    refine z_icmp_lt (tgt := 16) dX7_at_9 (by decide) (fun c2 => ?_) (fun c2 => ?_)
    ·
      refine z_aload_n 0 dX7_at_16 rfl ?_
      refine z_getS (v := 2) (k := 0) (kz := 0) pk7 dX7_at_17 (by decide) zb_119 rfl (zOb.lit (by decide +kernel)) rfl (by decide +kernel) ?_
      refine z_iload_n 1 dX7_at_20 rfl ?_
      refine z_bald dX7_at_21 (zOb.lit (by decide +kernel)) (show 0 ≤ i ∧ i < 340 from ⟨by omega, by omega⟩).1 (show 0 ≤ i ∧ i < 340 from ⟨by omega, by omega⟩).2 ?_
      refine z_sipush dX7_at_22 (zi32_d rfl) (by decide) ?_
      refine z_iand dX7_at_25 ?_
      exact z_iret dX7_at_26 rfl (k2 c1 c2)
    ·
      refine z_iconst dX7_at_12 (zi32_d rfl) ?_
      refine z_goto (tgt := 26) dX7_at_13 (by decide) ?_
      exact z_iret dX7_at_26 rfl (k3 c1 c2)
theorem f_X7_at {X : zX} {dep : Nat} (i : Int) {h : zH} (hl : 0 ≤ h 1 1 ∧ h 1 1 ≤ 340) : zW mX7_at X dep 0 0 239 0 (zar 0 [xR 1, xI i]) [] h (zF h [xI (zat h i)]) := by
  refine bX7_at_0 i hl ?_ ?_ ?_
  all_goals intros
  all_goals refine ⟨rfl, rfl, ?_⟩
  all_goals congr 2
  all_goals unfold zat
  all_goals (repeat' split) <;> first | rfl | omega

set_option maxRecDepth 20000 in
theorem bX7_isLetter_0 {X : zX} {dep bc bs : Nat} (i : Int) {h : zH} {Q : Nat → zH → List zV → Prop} (hl : 0 ≤ h 1 1 ∧ h 1 1 ≤ 340) (hdep : 1 ≤ dep)
    (k1 : (zat h i) < 97 → Q 239 h [xI 0])
    (k2 : ¬ ((zat h i) < 97) → Q 239 h [xI (if 122 < (zat h i) then 0 else 1)]) : zW mX7_isLetter X dep bc bs 239 0 [(0, xR 1), (1, xI i)] [] h Q := by
  refine z_aload_n 0 dX7_isLetter_0 rfl ?_
  refine z_iload_n 1 dX7_isLetter_1 rfl ?_
  refine z_invF (ci := 7) (N := 2) (as := [xI i]) (st := []) (ra := [xI i]) (dep' := dep - 1) (rs := [xI (zat h i)]) (h' := h) (f_X7_at i (h := h) hl) dX7_isLetter_2 nX7_at zb_540 zb_541 zb_542 zb_83 (zOb.lit (by decide +kernel)) rfl (by omega) zne_I (Nat.le_of_ble_eq_true rfl) (Nat.le_of_ble_eq_true rfl) rfl ?_
  refine z_bipush dX7_isLetter_5 (zi32_d rfl) (by decide) ?_
  refine z_icmp_lt (tgt := 24) dX7_isLetter_7 (by decide) (fun c1 => ?_) (fun c1 => ?_)
  ·
    refine z_iconst dX7_isLetter_24 (zi32_d rfl) ?_
    exact z_zret dX7_isLetter_25 rfl (Or.inl rfl) (k1 c1)
  ·
    refine z_aload_n 0 dX7_isLetter_10 rfl ?_
    refine z_iload_n 1 dX7_isLetter_11 rfl ?_
    refine z_invF (ci := 7) (N := 2) (as := [xI i]) (st := []) (ra := [xI i]) (dep' := dep - 1) (rs := [xI (zat h i)]) (h' := h) (f_X7_at i (h := h) hl) dX7_isLetter_12 nX7_at zb_540 zb_541 zb_542 zb_83 (zOb.lit (by decide +kernel)) rfl (by omega) zne_I (Nat.le_of_ble_eq_true rfl) (Nat.le_of_ble_eq_true rfl) rfl ?_
    refine z_bipush dX7_isLetter_15 (zi32_d rfl) (by decide) ?_
    suffices KJ : zW mX7_isLetter X dep bc bs 239 25 [(0, xR 1), (1, xI i)] [xI (if 122 < (zat h i) then 0 else 1)] h Q by
      refine z_icmp_gt (tgt := 24) dX7_isLetter_17 (by decide) (fun j1 => ?_) (fun j1 => ?_)
      ·
        refine z_iconst dX7_isLetter_24 (zi32_d rfl) ?_
        rw [if_pos j1] at KJ
        exact KJ
      ·
        refine z_iconst dX7_isLetter_20 (zi32_d rfl) ?_
        refine z_goto (tgt := 25) dX7_isLetter_21 (by decide) ?_
        rw [if_neg j1] at KJ
        exact KJ
    exact z_zret dX7_isLetter_25 rfl (by repeat (first | (left; rfl) | (right; rfl) | split)) (k2 c1)
theorem f_X7_isLetter {X : zX} {dep : Nat} (i : Int) {h : zH} (hl : 0 ≤ h 1 1 ∧ h 1 1 ≤ 340) (hdep : 1 ≤ dep) : zW mX7_isLetter X dep 0 0 239 0 (zar 0 [xR 1, xI i]) [] h (zF h [xI (zb (97 ≤ zat h i ∧ zat h i ≤ 122))]) := by
  refine bX7_isLetter_0 i hl hdep ?_ ?_
  all_goals intros
  all_goals refine ⟨rfl, rfl, ?_⟩
  all_goals try rfl
  all_goals congr 2
  all_goals (try unfold zb); (repeat' split) <;> first | rfl | omega

set_option maxRecDepth 20000 in
theorem bX7_isDigit_0 {X : zX} {dep bc bs : Nat} (i : Int) {h : zH} {Q : Nat → zH → List zV → Prop} (hl : 0 ≤ h 1 1 ∧ h 1 1 ≤ 340) (hdep : 1 ≤ dep)
    (k1 : (zat h i) < 48 → Q 239 h [xI 0])
    (k2 : ¬ ((zat h i) < 48) → Q 239 h [xI (if 57 < (zat h i) then 0 else 1)]) : zW mX7_isDigit X dep bc bs 239 0 [(0, xR 1), (1, xI i)] [] h Q := by
  refine z_aload_n 0 dX7_isDigit_0 rfl ?_
  refine z_iload_n 1 dX7_isDigit_1 rfl ?_
  refine z_invF (ci := 7) (N := 2) (as := [xI i]) (st := []) (ra := [xI i]) (dep' := dep - 1) (rs := [xI (zat h i)]) (h' := h) (f_X7_at i (h := h) hl) dX7_isDigit_2 nX7_at zb_540 zb_541 zb_542 zb_83 (zOb.lit (by decide +kernel)) rfl (by omega) zne_I (Nat.le_of_ble_eq_true rfl) (Nat.le_of_ble_eq_true rfl) rfl ?_
  refine z_bipush dX7_isDigit_5 (zi32_d rfl) (by decide) ?_
  refine z_icmp_lt (tgt := 24) dX7_isDigit_7 (by decide) (fun c1 => ?_) (fun c1 => ?_)
  ·
    refine z_iconst dX7_isDigit_24 (zi32_d rfl) ?_
    exact z_zret dX7_isDigit_25 rfl (Or.inl rfl) (k1 c1)
  ·
    refine z_aload_n 0 dX7_isDigit_10 rfl ?_
    refine z_iload_n 1 dX7_isDigit_11 rfl ?_
    refine z_invF (ci := 7) (N := 2) (as := [xI i]) (st := []) (ra := [xI i]) (dep' := dep - 1) (rs := [xI (zat h i)]) (h' := h) (f_X7_at i (h := h) hl) dX7_isDigit_12 nX7_at zb_540 zb_541 zb_542 zb_83 (zOb.lit (by decide +kernel)) rfl (by omega) zne_I (Nat.le_of_ble_eq_true rfl) (Nat.le_of_ble_eq_true rfl) rfl ?_
    refine z_bipush dX7_isDigit_15 (zi32_d rfl) (by decide) ?_
    suffices KJ : zW mX7_isDigit X dep bc bs 239 25 [(0, xR 1), (1, xI i)] [xI (if 57 < (zat h i) then 0 else 1)] h Q by
      refine z_icmp_gt (tgt := 24) dX7_isDigit_17 (by decide) (fun j1 => ?_) (fun j1 => ?_)
      ·
        refine z_iconst dX7_isDigit_24 (zi32_d rfl) ?_
        rw [if_pos j1] at KJ
        exact KJ
      ·
        refine z_iconst dX7_isDigit_20 (zi32_d rfl) ?_
        refine z_goto (tgt := 25) dX7_isDigit_21 (by decide) ?_
        rw [if_neg j1] at KJ
        exact KJ
    exact z_zret dX7_isDigit_25 rfl (by repeat (first | (left; rfl) | (right; rfl) | split)) (k2 c1)
theorem f_X7_isDigit {X : zX} {dep : Nat} (i : Int) {h : zH} (hl : 0 ≤ h 1 1 ∧ h 1 1 ≤ 340) (hdep : 1 ≤ dep) : zW mX7_isDigit X dep 0 0 239 0 (zar 0 [xR 1, xI i]) [] h (zF h [xI (zb (48 ≤ zat h i ∧ zat h i ≤ 57))]) := by
  refine bX7_isDigit_0 i hl hdep ?_ ?_
  all_goals intros
  all_goals refine ⟨rfl, rfl, ?_⟩
  all_goals try rfl
  all_goals congr 2
  all_goals (try unfold zb); (repeat' split) <;> first | rfl | omega

set_option maxRecDepth 20000 in
theorem bX7_isBlank_0 {X : zX} {dep bc bs : Nat} (i : Int) {h : zH} {Q : Nat → zH → List zV → Prop} (hl : 0 ≤ h 1 1 ∧ h 1 1 ≤ 340) (hdep : 1 ≤ dep)
    (k1 : (zat h i) = 32 → Q 239 h [xI 1])
    (k2 : ¬ ((zat h i) = 32) → Q 239 h [xI (if (zat h i) = 10 then 1 else 0)]) : zW mX7_isBlank X dep bc bs 239 0 [(0, xR 1), (1, xI i)] [] h Q := by
  refine z_aload_n 0 dX7_isBlank_0 rfl ?_
  refine z_iload_n 1 dX7_isBlank_1 rfl ?_
  refine z_invF (ci := 7) (N := 2) (as := [xI i]) (st := []) (ra := [xI i]) (dep' := dep - 1) (rs := [xI (zat h i)]) (h' := h) (f_X7_at i (h := h) hl) dX7_isBlank_2 nX7_at zb_540 zb_541 zb_542 zb_83 (zOb.lit (by decide +kernel)) rfl (by omega) zne_I (Nat.le_of_ble_eq_true rfl) (Nat.le_of_ble_eq_true rfl) rfl ?_
  refine z_bipush dX7_isBlank_5 (zi32_d rfl) (by decide) ?_
  refine z_icmp_eq (tgt := 20) dX7_isBlank_7 (by decide) (fun c1 => ?_) (fun c1 => ?_)
  ·
    refine z_iconst dX7_isBlank_20 (zi32_d rfl) ?_
    refine z_goto (tgt := 25) dX7_isBlank_21 (by decide) ?_
    exact z_zret dX7_isBlank_25 rfl (Or.inr rfl) (k1 c1)
  ·
    refine z_aload_n 0 dX7_isBlank_10 rfl ?_
    refine z_iload_n 1 dX7_isBlank_11 rfl ?_
    refine z_invF (ci := 7) (N := 2) (as := [xI i]) (st := []) (ra := [xI i]) (dep' := dep - 1) (rs := [xI (zat h i)]) (h' := h) (f_X7_at i (h := h) hl) dX7_isBlank_12 nX7_at zb_540 zb_541 zb_542 zb_83 (zOb.lit (by decide +kernel)) rfl (by omega) zne_I (Nat.le_of_ble_eq_true rfl) (Nat.le_of_ble_eq_true rfl) rfl ?_
    refine z_bipush dX7_isBlank_15 (zi32_d rfl) (by decide) ?_
    suffices KJ : zW mX7_isBlank X dep bc bs 239 25 [(0, xR 1), (1, xI i)] [xI (if (zat h i) = 10 then 1 else 0)] h Q by
      refine z_icmp_ne (tgt := 24) dX7_isBlank_17 (by decide) (fun j1 => ?_) (fun j1 => ?_)
      ·
        refine z_iconst dX7_isBlank_24 (zi32_d rfl) ?_
        rw [if_neg j1] at KJ
        exact KJ
      ·
        refine z_iconst dX7_isBlank_20 (zi32_d rfl) ?_
        refine z_goto (tgt := 25) dX7_isBlank_21 (by decide) ?_
        rw [if_pos j1] at KJ
        exact KJ
    exact z_zret dX7_isBlank_25 rfl (by repeat (first | (left; rfl) | (right; rfl) | split)) (k2 c1)
theorem f_X7_isBlank {X : zX} {dep : Nat} (i : Int) {h : zH} (hl : 0 ≤ h 1 1 ∧ h 1 1 ≤ 340) (hdep : 1 ≤ dep) : zW mX7_isBlank X dep 0 0 239 0 (zar 0 [xR 1, xI i]) [] h (zF h [xI (zb (zat h i = 32 ∨ zat h i = 10))]) := by
  refine bX7_isBlank_0 i hl hdep ?_ ?_
  all_goals intros
  all_goals refine ⟨rfl, rfl, ?_⟩
  all_goals try rfl
  all_goals congr 2
  all_goals (try unfold zb); (repeat' split) <;> first | rfl | omega

set_option maxRecDepth 20000 in
theorem bX7_put_0 {X : zX} {dep bc bs : Nat} (a : Int) {h : zH} {Q : Nat → zH → List zV → Prop} (hl : 0 ≤ h 1 1 ∧ h 1 1 ≤ 336)
    (k1 : 340 ≤ (h 1 1) → Q 239 h [])
    (k2 : ¬ (340 ≤ (h 1 1)) → 340 ≤ ((h 1 1) + 1) → Q 239 (zst (zst h 2 (h 1 1) (zi2b (zi2b (zshr a 24)))) 1 1 ((h 1 1) + 1)) [])
    (k3 : ¬ (340 ≤ (h 1 1)) → ¬ (340 ≤ ((h 1 1) + 1)) → 340 ≤ ((h 1 1) + 2) → Q 239 (zst (zst (zst (zst h 2 (h 1 1) (zi2b (zi2b (zshr a 24)))) 1 1 ((h 1 1) + 1)) 2 ((h 1 1) + 1) (zi2b (zi2b (zshr a 16)))) 1 1 ((h 1 1) + 2)) [])
    (k4 : ¬ (340 ≤ (h 1 1)) → ¬ (340 ≤ ((h 1 1) + 1)) → ¬ (340 ≤ ((h 1 1) + 2)) → 340 ≤ ((h 1 1) + 3) → Q 239 (zst (zst (zst (zst (zst (zst h 2 (h 1 1) (zi2b (zi2b (zshr a 24)))) 1 1 ((h 1 1) + 1)) 2 ((h 1 1) + 1) (zi2b (zi2b (zshr a 16)))) 1 1 ((h 1 1) + 2)) 2 ((h 1 1) + 2) (zi2b (zi2b (zshr a 8)))) 1 1 ((h 1 1) + 3)) [])
    (k5 : ¬ (340 ≤ (h 1 1)) → ¬ (340 ≤ ((h 1 1) + 1)) → ¬ (340 ≤ ((h 1 1) + 2)) → ¬ (340 ≤ ((h 1 1) + 3)) → Q 239 (zst (zst (zst (zst (zst (zst (zst (zst h 2 (h 1 1) (zi2b (zi2b (zshr a 24)))) 1 1 ((h 1 1) + 1)) 2 ((h 1 1) + 1) (zi2b (zi2b (zshr a 16)))) 1 1 ((h 1 1) + 2)) 2 ((h 1 1) + 2) (zi2b (zi2b (zshr a 8)))) 1 1 ((h 1 1) + 3)) 2 ((h 1 1) + 3) (zi2b (zi2b (zshr a 0)))) 1 1 ((h 1 1) + 4)) []) : zW mX7_put X dep bc bs 239 0 [(0, xR 1), (1, xI a)] [] h Q := by
  refine z_bipush dX7_put_0 (zi32_d rfl) (by decide) ?_
  refine z_istore_n (lv' := [(2, xI 24), (0, xR 1), (1, xI a)]) dX7_put_2 (by decide) rfl ?_
  refine z_iload_n 0 dX7_put_3 rfl ?_
  refine z_if_lt (tgt := 46) dX7_put_4 (by decide) (fun c => absurd c (by decide)) (fun _ => ?_)
  refine z_aload_n 1 dX7_put_7 rfl ?_
  refine z_getI (k := 1) (kz := 1) pk7 dX7_put_8 (by decide) zb_123 rfl (zOb.lit (by decide +kernel)) rfl ?_
  refine z_sipush dX7_put_11 (zi32_d rfl) (by decide) ?_
  refine z_icmp_ge (tgt := 46) dX7_put_14 (by decide) (fun c1 => ?_) (fun c1 => ?_)
  ·
    exact z_ret dX7_put_46 rfl (k1 c1)
  ·
    refine z_aload_n 1 dX7_put_17 rfl ?_
    refine z_getS (v := 2) (k := 0) (kz := 0) pk7 dX7_put_18 (by decide) zb_119 rfl (zOb.lit (by decide +kernel)) rfl (by decide +kernel) ?_
    refine z_aload_n 1 dX7_put_21 rfl ?_
    refine z_getI (k := 1) (kz := 1) pk7 dX7_put_22 (by decide) zb_123 rfl (zOb.lit (by decide +kernel)) rfl ?_
    refine z_iload_n 2 dX7_put_25 rfl ?_
    refine z_iload_n 0 dX7_put_26 rfl ?_
    refine z_ishr dX7_put_27 ?_
    refine z_i2b dX7_put_28 ?_
    refine z_bast dX7_put_29 (zOb.lit (by decide +kernel)) (show 0 ≤ (h 1 1) ∧ (h 1 1) < 340 from ⟨by omega, by omega⟩).1 (show 0 ≤ (h 1 1) ∧ (h 1 1) < 340 from ⟨by omega, by omega⟩).2 ?_
    refine z_aload_n 1 dX7_put_30 rfl ?_
    refine z_dup dX7_put_31 (by decide) ?_
    refine z_getIV (v := (h 1 1)) (k := 1) (kz := 1) pk7 dX7_put_32 (by decide) zb_123 rfl (zOb.lit (by decide +kernel)) rfl (zst_ne (Or.inl (by decide))) ?_
    refine z_iconst dX7_put_35 (zi32_d rfl) ?_
    refine z_iaddN dX7_put_36 (show -2147483648 ≤ (h 1 1) + 1 ∧ (h 1 1) + 1 < 2147483648 from ⟨by omega, by omega⟩).1 (show -2147483648 ≤ (h 1 1) + 1 ∧ (h 1 1) + 1 < 2147483648 from ⟨by omega, by omega⟩).2 ?_
    refine z_putI (k := 1) (kz := 1) pk7 dX7_put_37 (by decide) zb_123 rfl (zFit_int _) (zOb.lit (by decide +kernel)) rfl ?_
    refine z_iinc (lv' := [(2, xI 16), (0, xR 1), (1, xI a)]) 0 dX7_put_40 rfl (by decide) (by rw [show w32 (24 + (-8)) = 16 by decide]; rfl) ?_
    refine z_goto (tgt := 3) dX7_put_43 (by decide) ?_
    refine z_iload_n 0 dX7_put_3 rfl ?_
    refine z_if_lt (tgt := 46) dX7_put_4 (by decide) (fun c => absurd c (by decide)) (fun _ => ?_)
    refine z_aload_n 1 dX7_put_7 rfl ?_
    refine z_getIV (v := ((h 1 1) + 1)) (k := 1) (kz := 1) pk7 dX7_put_8 (by decide) zb_123 rfl (zOb.lit (by decide +kernel)) rfl (zst_self _ _ _ _) ?_
    refine z_sipush dX7_put_11 (zi32_d rfl) (by decide) ?_
    refine z_icmp_ge (tgt := 46) dX7_put_14 (by decide) (fun c2 => ?_) (fun c2 => ?_)
    ·
      exact z_ret dX7_put_46 rfl (k2 c1 c2)
    ·
      refine z_aload_n 1 dX7_put_17 rfl ?_
      refine z_getS (v := 2) (k := 0) (kz := 0) pk7 dX7_put_18 (by decide) zb_119 rfl (zOb.lit (by decide +kernel)) rfl (by decide +kernel) ?_
      refine z_aload_n 1 dX7_put_21 rfl ?_
      refine z_getIV (v := ((h 1 1) + 1)) (k := 1) (kz := 1) pk7 dX7_put_22 (by decide) zb_123 rfl (zOb.lit (by decide +kernel)) rfl (zst_self _ _ _ _) ?_
      refine z_iload_n 2 dX7_put_25 rfl ?_
      refine z_iload_n 0 dX7_put_26 rfl ?_
      refine z_ishr dX7_put_27 ?_
      refine z_i2b dX7_put_28 ?_
      refine z_bast dX7_put_29 (zOb.lit (by decide +kernel)) (show 0 ≤ ((h 1 1) + 1) ∧ ((h 1 1) + 1) < 340 from ⟨by omega, by omega⟩).1 (show 0 ≤ ((h 1 1) + 1) ∧ ((h 1 1) + 1) < 340 from ⟨by omega, by omega⟩).2 ?_
      refine z_aload_n 1 dX7_put_30 rfl ?_
      refine z_dup dX7_put_31 (by decide) ?_
      refine z_getIV (v := ((h 1 1) + 1)) (k := 1) (kz := 1) pk7 dX7_put_32 (by decide) zb_123 rfl (zOb.lit (by decide +kernel)) rfl ((zst_ne (Or.inl (by decide))).trans (zst_self _ _ _ _)) ?_
      refine z_iconst dX7_put_35 (zi32_d rfl) ?_
      refine z_iaddV (v := ((h 1 1) + 2)) dX7_put_36 (by omega) (show -2147483648 ≤ ((h 1 1) + 2) ∧ ((h 1 1) + 2) < 2147483648 from ⟨by omega, by omega⟩).1 (show -2147483648 ≤ ((h 1 1) + 2) ∧ ((h 1 1) + 2) < 2147483648 from ⟨by omega, by omega⟩).2 ?_
      refine z_putI (k := 1) (kz := 1) pk7 dX7_put_37 (by decide) zb_123 rfl (zFit_int _) (zOb.lit (by decide +kernel)) rfl ?_
      refine z_iinc (lv' := [(2, xI 8), (0, xR 1), (1, xI a)]) 0 dX7_put_40 rfl (by decide) (by rw [show w32 (16 + (-8)) = 8 by decide]; rfl) ?_
      refine z_goto (tgt := 3) dX7_put_43 (by decide) ?_
      refine z_iload_n 0 dX7_put_3 rfl ?_
      refine z_if_lt (tgt := 46) dX7_put_4 (by decide) (fun c => absurd c (by decide)) (fun _ => ?_)
      refine z_aload_n 1 dX7_put_7 rfl ?_
      refine z_getIV (v := ((h 1 1) + 2)) (k := 1) (kz := 1) pk7 dX7_put_8 (by decide) zb_123 rfl (zOb.lit (by decide +kernel)) rfl (zst_self _ _ _ _) ?_
      refine z_sipush dX7_put_11 (zi32_d rfl) (by decide) ?_
      refine z_icmp_ge (tgt := 46) dX7_put_14 (by decide) (fun c3 => ?_) (fun c3 => ?_)
      ·
        exact z_ret dX7_put_46 rfl (k3 c1 c2 c3)
      ·
        refine z_aload_n 1 dX7_put_17 rfl ?_
        refine z_getS (v := 2) (k := 0) (kz := 0) pk7 dX7_put_18 (by decide) zb_119 rfl (zOb.lit (by decide +kernel)) rfl (by decide +kernel) ?_
        refine z_aload_n 1 dX7_put_21 rfl ?_
        refine z_getIV (v := ((h 1 1) + 2)) (k := 1) (kz := 1) pk7 dX7_put_22 (by decide) zb_123 rfl (zOb.lit (by decide +kernel)) rfl (zst_self _ _ _ _) ?_
        refine z_iload_n 2 dX7_put_25 rfl ?_
        refine z_iload_n 0 dX7_put_26 rfl ?_
        refine z_ishr dX7_put_27 ?_
        refine z_i2b dX7_put_28 ?_
        refine z_bast dX7_put_29 (zOb.lit (by decide +kernel)) (show 0 ≤ ((h 1 1) + 2) ∧ ((h 1 1) + 2) < 340 from ⟨by omega, by omega⟩).1 (show 0 ≤ ((h 1 1) + 2) ∧ ((h 1 1) + 2) < 340 from ⟨by omega, by omega⟩).2 ?_
        refine z_aload_n 1 dX7_put_30 rfl ?_
        refine z_dup dX7_put_31 (by decide) ?_
        refine z_getIV (v := ((h 1 1) + 2)) (k := 1) (kz := 1) pk7 dX7_put_32 (by decide) zb_123 rfl (zOb.lit (by decide +kernel)) rfl ((zst_ne (Or.inl (by decide))).trans (zst_self _ _ _ _)) ?_
        refine z_iconst dX7_put_35 (zi32_d rfl) ?_
        refine z_iaddV (v := ((h 1 1) + 3)) dX7_put_36 (by omega) (show -2147483648 ≤ ((h 1 1) + 3) ∧ ((h 1 1) + 3) < 2147483648 from ⟨by omega, by omega⟩).1 (show -2147483648 ≤ ((h 1 1) + 3) ∧ ((h 1 1) + 3) < 2147483648 from ⟨by omega, by omega⟩).2 ?_
        refine z_putI (k := 1) (kz := 1) pk7 dX7_put_37 (by decide) zb_123 rfl (zFit_int _) (zOb.lit (by decide +kernel)) rfl ?_
        refine z_iinc (lv' := [(2, xI 0), (0, xR 1), (1, xI a)]) 0 dX7_put_40 rfl (by decide) (by rw [show w32 (8 + (-8)) = 0 by decide]; rfl) ?_
        refine z_goto (tgt := 3) dX7_put_43 (by decide) ?_
        refine z_iload_n 0 dX7_put_3 rfl ?_
        refine z_if_lt (tgt := 46) dX7_put_4 (by decide) (fun c => absurd c (by decide)) (fun _ => ?_)
        refine z_aload_n 1 dX7_put_7 rfl ?_
        refine z_getIV (v := ((h 1 1) + 3)) (k := 1) (kz := 1) pk7 dX7_put_8 (by decide) zb_123 rfl (zOb.lit (by decide +kernel)) rfl (zst_self _ _ _ _) ?_
        refine z_sipush dX7_put_11 (zi32_d rfl) (by decide) ?_
        refine z_icmp_ge (tgt := 46) dX7_put_14 (by decide) (fun c4 => ?_) (fun c4 => ?_)
        ·
          exact z_ret dX7_put_46 rfl (k4 c1 c2 c3 c4)
        ·
          refine z_aload_n 1 dX7_put_17 rfl ?_
          refine z_getS (v := 2) (k := 0) (kz := 0) pk7 dX7_put_18 (by decide) zb_119 rfl (zOb.lit (by decide +kernel)) rfl (by decide +kernel) ?_
          refine z_aload_n 1 dX7_put_21 rfl ?_
          refine z_getIV (v := ((h 1 1) + 3)) (k := 1) (kz := 1) pk7 dX7_put_22 (by decide) zb_123 rfl (zOb.lit (by decide +kernel)) rfl (zst_self _ _ _ _) ?_
          refine z_iload_n 2 dX7_put_25 rfl ?_
          refine z_iload_n 0 dX7_put_26 rfl ?_
          refine z_ishr dX7_put_27 ?_
          refine z_i2b dX7_put_28 ?_
          refine z_bast dX7_put_29 (zOb.lit (by decide +kernel)) (show 0 ≤ ((h 1 1) + 3) ∧ ((h 1 1) + 3) < 340 from ⟨by omega, by omega⟩).1 (show 0 ≤ ((h 1 1) + 3) ∧ ((h 1 1) + 3) < 340 from ⟨by omega, by omega⟩).2 ?_
          refine z_aload_n 1 dX7_put_30 rfl ?_
          refine z_dup dX7_put_31 (by decide) ?_
          refine z_getIV (v := ((h 1 1) + 3)) (k := 1) (kz := 1) pk7 dX7_put_32 (by decide) zb_123 rfl (zOb.lit (by decide +kernel)) rfl ((zst_ne (Or.inl (by decide))).trans (zst_self _ _ _ _)) ?_
          refine z_iconst dX7_put_35 (zi32_d rfl) ?_
          refine z_iaddV (v := ((h 1 1) + 4)) dX7_put_36 (by omega) (show -2147483648 ≤ ((h 1 1) + 4) ∧ ((h 1 1) + 4) < 2147483648 from ⟨by omega, by omega⟩).1 (show -2147483648 ≤ ((h 1 1) + 4) ∧ ((h 1 1) + 4) < 2147483648 from ⟨by omega, by omega⟩).2 ?_
          refine z_putI (k := 1) (kz := 1) pk7 dX7_put_37 (by decide) zb_123 rfl (zFit_int _) (zOb.lit (by decide +kernel)) rfl ?_
          refine z_iinc (lv' := [(2, xI (-8)), (0, xR 1), (1, xI a)]) 0 dX7_put_40 rfl (by decide) (by rw [show w32 (0 + (-8)) = (-8) by decide]; rfl) ?_
          refine z_goto (tgt := 3) dX7_put_43 (by decide) ?_
          refine z_iload_n 0 dX7_put_3 rfl ?_
          refine z_if_lt (tgt := 46) dX7_put_4 (by decide) (fun _ => ?_) (fun c => absurd c (by decide))
          exact z_ret dX7_put_46 rfl (k5 c1 c2 c3 c4)
theorem f_X7_put {X : zX} {dep : Nat} (a : Int) {h : zH} (hl : 0 ≤ h 1 1 ∧ h 1 1 ≤ 336) : zW mX7_put X dep 0 0 239 0 (zar 0 [xR 1, xI a]) [] h (zF (zput4 h 2 1 1 a) []) := by
  refine bX7_put_0 a hl ?_ ?_ ?_ ?_ ?_
  all_goals intros
  all_goals first | (exact ⟨rfl, rfl, rfl⟩) | omega

set_option maxRecDepth 20000 in
theorem bX11_four_0 {X : zX} {dep bc bs : Nat} (a : Int) {h : zH} {Q : Nat → zH → List zV → Prop} (hl : 0 ≤ h 169 2 ∧ h 169 2 ≤ 336)
    (k1 : Q 239 (zst (zst (zst (zst (zst (zst (zst (zst h 170 (h 169 2) (zi2b (zi2b (zshr a 24)))) 169 2 ((h 169 2) + 1)) 170 ((h 169 2) + 1) (zi2b (zi2b (zshr a 16)))) 169 2 ((h 169 2) + 2)) 170 ((h 169 2) + 2) (zi2b (zi2b (zshr a 8)))) 169 2 ((h 169 2) + 3)) 170 ((h 169 2) + 3) (zi2b (zi2b (zshr a 0)))) 169 2 ((h 169 2) + 4)) []) : zW mX11_four X dep bc bs 239 0 [(0, xR 169), (1, xI a)] [] h Q := by
  refine z_bipush dX11_four_0 (zi32_d rfl) (by decide) ?_
  refine z_istore_n (lv' := [(2, xI 24), (0, xR 169), (1, xI a)]) dX11_four_2 (by decide) rfl ?_
  refine z_iload_n 0 dX11_four_3 rfl ?_
  refine z_if_lt (tgt := 36) dX11_four_4 (by decide) (fun c => absurd c (by decide)) (fun _ => ?_)
  refine z_aload_n 1 dX11_four_7 rfl ?_
  refine z_getS (v := 170) (k := 1) (kz := 1) pk11 dX11_four_8 (by decide) zb_1125 rfl (zOb.lit (by decide +kernel)) rfl (by decide +kernel) ?_
  refine z_aload_n 1 dX11_four_11 rfl ?_
  refine z_getI (k := 2) (kz := 2) pk11 dX11_four_12 (by decide) zb_1126 rfl (zOb.lit (by decide +kernel)) rfl ?_
  refine z_iload_n 2 dX11_four_15 rfl ?_
  refine z_iload_n 0 dX11_four_16 rfl ?_
  refine z_ishr dX11_four_17 ?_
  refine z_i2b dX11_four_18 ?_
  refine z_bast dX11_four_19 (zOb.lit (by decide +kernel)) (show 0 ≤ (h 169 2) ∧ (h 169 2) < 340 from ⟨by omega, by omega⟩).1 (show 0 ≤ (h 169 2) ∧ (h 169 2) < 340 from ⟨by omega, by omega⟩).2 ?_
  refine z_aload_n 1 dX11_four_20 rfl ?_
  refine z_dup dX11_four_21 (by decide) ?_
  refine z_getIV (v := (h 169 2)) (k := 2) (kz := 2) pk11 dX11_four_22 (by decide) zb_1126 rfl (zOb.lit (by decide +kernel)) rfl (zst_ne (Or.inl (by decide))) ?_
  refine z_iconst dX11_four_25 (zi32_d rfl) ?_
  refine z_iaddN dX11_four_26 (show -2147483648 ≤ (h 169 2) + 1 ∧ (h 169 2) + 1 < 2147483648 from ⟨by omega, by omega⟩).1 (show -2147483648 ≤ (h 169 2) + 1 ∧ (h 169 2) + 1 < 2147483648 from ⟨by omega, by omega⟩).2 ?_
  refine z_putI (k := 2) (kz := 2) pk11 dX11_four_27 (by decide) zb_1126 rfl (zFit_int _) (zOb.lit (by decide +kernel)) rfl ?_
  refine z_iinc (lv' := [(2, xI 16), (0, xR 169), (1, xI a)]) 0 dX11_four_30 rfl (by decide) (by rw [show w32 (24 + (-8)) = 16 by decide]; rfl) ?_
  refine z_goto (tgt := 3) dX11_four_33 (by decide) ?_
  refine z_iload_n 0 dX11_four_3 rfl ?_
  refine z_if_lt (tgt := 36) dX11_four_4 (by decide) (fun c => absurd c (by decide)) (fun _ => ?_)
  refine z_aload_n 1 dX11_four_7 rfl ?_
  refine z_getS (v := 170) (k := 1) (kz := 1) pk11 dX11_four_8 (by decide) zb_1125 rfl (zOb.lit (by decide +kernel)) rfl (by decide +kernel) ?_
  refine z_aload_n 1 dX11_four_11 rfl ?_
  refine z_getIV (v := ((h 169 2) + 1)) (k := 2) (kz := 2) pk11 dX11_four_12 (by decide) zb_1126 rfl (zOb.lit (by decide +kernel)) rfl (zst_self _ _ _ _) ?_
  refine z_iload_n 2 dX11_four_15 rfl ?_
  refine z_iload_n 0 dX11_four_16 rfl ?_
  refine z_ishr dX11_four_17 ?_
  refine z_i2b dX11_four_18 ?_
  refine z_bast dX11_four_19 (zOb.lit (by decide +kernel)) (show 0 ≤ ((h 169 2) + 1) ∧ ((h 169 2) + 1) < 340 from ⟨by omega, by omega⟩).1 (show 0 ≤ ((h 169 2) + 1) ∧ ((h 169 2) + 1) < 340 from ⟨by omega, by omega⟩).2 ?_
  refine z_aload_n 1 dX11_four_20 rfl ?_
  refine z_dup dX11_four_21 (by decide) ?_
  refine z_getIV (v := ((h 169 2) + 1)) (k := 2) (kz := 2) pk11 dX11_four_22 (by decide) zb_1126 rfl (zOb.lit (by decide +kernel)) rfl ((zst_ne (Or.inl (by decide))).trans (zst_self _ _ _ _)) ?_
  refine z_iconst dX11_four_25 (zi32_d rfl) ?_
  refine z_iaddV (v := ((h 169 2) + 2)) dX11_four_26 (by omega) (show -2147483648 ≤ ((h 169 2) + 2) ∧ ((h 169 2) + 2) < 2147483648 from ⟨by omega, by omega⟩).1 (show -2147483648 ≤ ((h 169 2) + 2) ∧ ((h 169 2) + 2) < 2147483648 from ⟨by omega, by omega⟩).2 ?_
  refine z_putI (k := 2) (kz := 2) pk11 dX11_four_27 (by decide) zb_1126 rfl (zFit_int _) (zOb.lit (by decide +kernel)) rfl ?_
  refine z_iinc (lv' := [(2, xI 8), (0, xR 169), (1, xI a)]) 0 dX11_four_30 rfl (by decide) (by rw [show w32 (16 + (-8)) = 8 by decide]; rfl) ?_
  refine z_goto (tgt := 3) dX11_four_33 (by decide) ?_
  refine z_iload_n 0 dX11_four_3 rfl ?_
  refine z_if_lt (tgt := 36) dX11_four_4 (by decide) (fun c => absurd c (by decide)) (fun _ => ?_)
  refine z_aload_n 1 dX11_four_7 rfl ?_
  refine z_getS (v := 170) (k := 1) (kz := 1) pk11 dX11_four_8 (by decide) zb_1125 rfl (zOb.lit (by decide +kernel)) rfl (by decide +kernel) ?_
  refine z_aload_n 1 dX11_four_11 rfl ?_
  refine z_getIV (v := ((h 169 2) + 2)) (k := 2) (kz := 2) pk11 dX11_four_12 (by decide) zb_1126 rfl (zOb.lit (by decide +kernel)) rfl (zst_self _ _ _ _) ?_
  refine z_iload_n 2 dX11_four_15 rfl ?_
  refine z_iload_n 0 dX11_four_16 rfl ?_
  refine z_ishr dX11_four_17 ?_
  refine z_i2b dX11_four_18 ?_
  refine z_bast dX11_four_19 (zOb.lit (by decide +kernel)) (show 0 ≤ ((h 169 2) + 2) ∧ ((h 169 2) + 2) < 340 from ⟨by omega, by omega⟩).1 (show 0 ≤ ((h 169 2) + 2) ∧ ((h 169 2) + 2) < 340 from ⟨by omega, by omega⟩).2 ?_
  refine z_aload_n 1 dX11_four_20 rfl ?_
  refine z_dup dX11_four_21 (by decide) ?_
  refine z_getIV (v := ((h 169 2) + 2)) (k := 2) (kz := 2) pk11 dX11_four_22 (by decide) zb_1126 rfl (zOb.lit (by decide +kernel)) rfl ((zst_ne (Or.inl (by decide))).trans (zst_self _ _ _ _)) ?_
  refine z_iconst dX11_four_25 (zi32_d rfl) ?_
  refine z_iaddV (v := ((h 169 2) + 3)) dX11_four_26 (by omega) (show -2147483648 ≤ ((h 169 2) + 3) ∧ ((h 169 2) + 3) < 2147483648 from ⟨by omega, by omega⟩).1 (show -2147483648 ≤ ((h 169 2) + 3) ∧ ((h 169 2) + 3) < 2147483648 from ⟨by omega, by omega⟩).2 ?_
  refine z_putI (k := 2) (kz := 2) pk11 dX11_four_27 (by decide) zb_1126 rfl (zFit_int _) (zOb.lit (by decide +kernel)) rfl ?_
  refine z_iinc (lv' := [(2, xI 0), (0, xR 169), (1, xI a)]) 0 dX11_four_30 rfl (by decide) (by rw [show w32 (8 + (-8)) = 0 by decide]; rfl) ?_
  refine z_goto (tgt := 3) dX11_four_33 (by decide) ?_
  refine z_iload_n 0 dX11_four_3 rfl ?_
  refine z_if_lt (tgt := 36) dX11_four_4 (by decide) (fun c => absurd c (by decide)) (fun _ => ?_)
  refine z_aload_n 1 dX11_four_7 rfl ?_
  refine z_getS (v := 170) (k := 1) (kz := 1) pk11 dX11_four_8 (by decide) zb_1125 rfl (zOb.lit (by decide +kernel)) rfl (by decide +kernel) ?_
  refine z_aload_n 1 dX11_four_11 rfl ?_
  refine z_getIV (v := ((h 169 2) + 3)) (k := 2) (kz := 2) pk11 dX11_four_12 (by decide) zb_1126 rfl (zOb.lit (by decide +kernel)) rfl (zst_self _ _ _ _) ?_
  refine z_iload_n 2 dX11_four_15 rfl ?_
  refine z_iload_n 0 dX11_four_16 rfl ?_
  refine z_ishr dX11_four_17 ?_
  refine z_i2b dX11_four_18 ?_
  refine z_bast dX11_four_19 (zOb.lit (by decide +kernel)) (show 0 ≤ ((h 169 2) + 3) ∧ ((h 169 2) + 3) < 340 from ⟨by omega, by omega⟩).1 (show 0 ≤ ((h 169 2) + 3) ∧ ((h 169 2) + 3) < 340 from ⟨by omega, by omega⟩).2 ?_
  refine z_aload_n 1 dX11_four_20 rfl ?_
  refine z_dup dX11_four_21 (by decide) ?_
  refine z_getIV (v := ((h 169 2) + 3)) (k := 2) (kz := 2) pk11 dX11_four_22 (by decide) zb_1126 rfl (zOb.lit (by decide +kernel)) rfl ((zst_ne (Or.inl (by decide))).trans (zst_self _ _ _ _)) ?_
  refine z_iconst dX11_four_25 (zi32_d rfl) ?_
  refine z_iaddV (v := ((h 169 2) + 4)) dX11_four_26 (by omega) (show -2147483648 ≤ ((h 169 2) + 4) ∧ ((h 169 2) + 4) < 2147483648 from ⟨by omega, by omega⟩).1 (show -2147483648 ≤ ((h 169 2) + 4) ∧ ((h 169 2) + 4) < 2147483648 from ⟨by omega, by omega⟩).2 ?_
  refine z_putI (k := 2) (kz := 2) pk11 dX11_four_27 (by decide) zb_1126 rfl (zFit_int _) (zOb.lit (by decide +kernel)) rfl ?_
  refine z_iinc (lv' := [(2, xI (-8)), (0, xR 169), (1, xI a)]) 0 dX11_four_30 rfl (by decide) (by rw [show w32 (0 + (-8)) = (-8) by decide]; rfl) ?_
  refine z_goto (tgt := 3) dX11_four_33 (by decide) ?_
  refine z_iload_n 0 dX11_four_3 rfl ?_
  refine z_if_lt (tgt := 36) dX11_four_4 (by decide) (fun _ => ?_) (fun c => absurd c (by decide))
  exact z_ret dX11_four_36 rfl (k1)
theorem f_X11_four {X : zX} {dep : Nat} (a : Int) {h : zH} (hl : 0 ≤ h 169 2 ∧ h 169 2 ≤ 336) : zW mX11_four X dep 0 0 239 0 (zar 0 [xR 169, xI a]) [] h (zF (zput4 h 170 169 2 a) []) := by
  refine bX11_four_0 a hl ?_
  all_goals intros
  all_goals first | (exact ⟨rfl, rfl, rfl⟩) | omega
