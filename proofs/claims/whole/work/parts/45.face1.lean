/-! the face, plain -/
def zadd (h : zH) (o a b c d e f : Int) : zH := zst (zst (zst (zst (zst (zst (zst h (o + 1) (h o 2 * 6) a) (o + 1) (h o 2 * 6 + 1) b) (o + 1) (h o 2 * 6 + 2) c) (o + 1) (h o 2 * 6 + 3) d) (o + 1) (h o 2 * 6 + 4) e) (o + 1) (h o 2 * 6 + 5) f) o 2 (h o 2 + 1)
/-- a row told, where there is room -/
def zaddr (h : zH) (o a b c d e f : Int) : zH := if h o 2 < h o 1 then zadd h o a b c d e f else h

set_option maxRecDepth 20000 in
theorem bX2_add_0 {X : zX} {dep bc bs : Nat} {N : Nat} (o : Int) (a : Int) (b : Int) (c : Int) (d : Int) (e : Int) (f : Int) {h : zH} {Q : Nat → zH → List zV → Prop} (ho : zLedO o N) (hN : 0 ≤ h o 2 ∧ h o 2 ≤ h o 1 ∧ h o 1 ≤ 240 ∧ 6 * h o 1 ≤ N ∧ N ≤ 1440)
    (k1 : (h o 2) < (h o 1) → Q 239 (zst (zst (zst (zst (zst (zst (zst h (o + 1) ((h o 2) * 6) a) (o + 1) (((h o 2) * 6) + 1) b) (o + 1) (((h o 2) * 6) + 2) c) (o + 1) (((h o 2) * 6) + 3) d) (o + 1) (((h o 2) * 6) + 4) e) (o + 1) (((h o 2) * 6) + 5) f) o 2 ((h o 2) + 1)) [xI 1])
    (k2 : ¬ ((h o 2) < (h o 1)) → Q 239 h [xI 0]) : zW mX2_add X dep bc bs 239 0 [(0, xR o), (1, xI a), (2, xI b), (3, xI c), (4, xI d), (5, xI e), (6, xI f)] [] h Q := by
  refine z_aload_n 0 dX2_add_0 rfl ?_
  refine z_getI (k := 2) (kz := 2) pk2 dX2_add_1 (by decide) zb_144 rfl ho.1 rfl ?_
  refine z_aload_n 0 dX2_add_4 rfl ?_
  refine z_getI (k := 1) (kz := 1) pk2 dX2_add_5 (by decide) zb_143 rfl ho.1 rfl ?_
  refine z_icmp_lt (tgt := 13) dX2_add_8 (by decide) (fun c1 => ?_) (fun c1 => ?_)
  ·
    refine z_aload_n 0 dX2_add_13 rfl ?_
    refine z_getI (k := 2) (kz := 2) pk2 dX2_add_14 (by decide) zb_144 rfl ho.1 rfl ?_
    refine z_bipush dX2_add_17 (zi32_d rfl) (by decide) ?_
    refine z_imulN dX2_add_19 (show -2147483648 ≤ (h o 2) * 6 ∧ (h o 2) * 6 < 2147483648 from ⟨by omega, by omega⟩).1 (show -2147483648 ≤ (h o 2) * 6 ∧ (h o 2) * 6 < 2147483648 from ⟨by omega, by omega⟩).2 ?_
    refine z_istore (lv' := [(7, xI ((h o 2) * 6)), (0, xR o), (1, xI a), (2, xI b), (3, xI c), (4, xI d), (5, xI e), (6, xI f)]) dX2_add_20 (by decide) rfl ?_
    refine z_aload_n 1 dX2_add_22 rfl ?_
    refine z_getS (v := (o + 1)) (k := 0) (kz := 0) pk2 dX2_add_23 (by decide) zb_142 rfl ho.1 rfl ho.2.2 ?_
    refine z_iload 0 dX2_add_26 rfl ?_
    refine z_iload_n 2 dX2_add_28 rfl ?_
    refine z_iast dX2_add_29 ho.2.1 (show 0 ≤ ((h o 2) * 6) ∧ ((h o 2) * 6) < N from ⟨by omega, by omega⟩).1 (show 0 ≤ ((h o 2) * 6) ∧ ((h o 2) * 6) < N from ⟨by omega, by omega⟩).2 ?_
    refine z_aload_n 1 dX2_add_30 rfl ?_
    refine z_getS (v := (o + 1)) (k := 0) (kz := 0) pk2 dX2_add_31 (by decide) zb_142 rfl ho.1 rfl ho.2.2 ?_
    refine z_iload 0 dX2_add_34 rfl ?_
    refine z_iconst dX2_add_36 (zi32_d rfl) ?_
    refine z_iaddN dX2_add_37 (show -2147483648 ≤ ((h o 2) * 6) + 1 ∧ ((h o 2) * 6) + 1 < 2147483648 from ⟨by omega, by omega⟩).1 (show -2147483648 ≤ ((h o 2) * 6) + 1 ∧ ((h o 2) * 6) + 1 < 2147483648 from ⟨by omega, by omega⟩).2 ?_
    refine z_iload_n 3 dX2_add_38 rfl ?_
    refine z_iast dX2_add_39 ho.2.1 (show 0 ≤ (((h o 2) * 6) + 1) ∧ (((h o 2) * 6) + 1) < N from ⟨by omega, by omega⟩).1 (show 0 ≤ (((h o 2) * 6) + 1) ∧ (((h o 2) * 6) + 1) < N from ⟨by omega, by omega⟩).2 ?_
    refine z_aload_n 1 dX2_add_40 rfl ?_
    refine z_getS (v := (o + 1)) (k := 0) (kz := 0) pk2 dX2_add_41 (by decide) zb_142 rfl ho.1 rfl ho.2.2 ?_
    refine z_iload 0 dX2_add_44 rfl ?_
    refine z_iconst dX2_add_46 (zi32_d rfl) ?_
    refine z_iaddN dX2_add_47 (show -2147483648 ≤ ((h o 2) * 6) + 2 ∧ ((h o 2) * 6) + 2 < 2147483648 from ⟨by omega, by omega⟩).1 (show -2147483648 ≤ ((h o 2) * 6) + 2 ∧ ((h o 2) * 6) + 2 < 2147483648 from ⟨by omega, by omega⟩).2 ?_
    refine z_iload_n 4 dX2_add_48 rfl ?_
    refine z_iast dX2_add_49 ho.2.1 (show 0 ≤ (((h o 2) * 6) + 2) ∧ (((h o 2) * 6) + 2) < N from ⟨by omega, by omega⟩).1 (show 0 ≤ (((h o 2) * 6) + 2) ∧ (((h o 2) * 6) + 2) < N from ⟨by omega, by omega⟩).2 ?_
    refine z_aload_n 1 dX2_add_50 rfl ?_
    refine z_getS (v := (o + 1)) (k := 0) (kz := 0) pk2 dX2_add_51 (by decide) zb_142 rfl ho.1 rfl ho.2.2 ?_
    refine z_iload 0 dX2_add_54 rfl ?_
    refine z_iconst dX2_add_56 (zi32_d rfl) ?_
    refine z_iaddN dX2_add_57 (show -2147483648 ≤ ((h o 2) * 6) + 3 ∧ ((h o 2) * 6) + 3 < 2147483648 from ⟨by omega, by omega⟩).1 (show -2147483648 ≤ ((h o 2) * 6) + 3 ∧ ((h o 2) * 6) + 3 < 2147483648 from ⟨by omega, by omega⟩).2 ?_
    refine z_iload 5 dX2_add_58 rfl ?_
    refine z_iast dX2_add_60 ho.2.1 (show 0 ≤ (((h o 2) * 6) + 3) ∧ (((h o 2) * 6) + 3) < N from ⟨by omega, by omega⟩).1 (show 0 ≤ (((h o 2) * 6) + 3) ∧ (((h o 2) * 6) + 3) < N from ⟨by omega, by omega⟩).2 ?_
    refine z_aload_n 1 dX2_add_61 rfl ?_
    refine z_getS (v := (o + 1)) (k := 0) (kz := 0) pk2 dX2_add_62 (by decide) zb_142 rfl ho.1 rfl ho.2.2 ?_
    refine z_iload 0 dX2_add_65 rfl ?_
    refine z_iconst dX2_add_67 (zi32_d rfl) ?_
    refine z_iaddN dX2_add_68 (show -2147483648 ≤ ((h o 2) * 6) + 4 ∧ ((h o 2) * 6) + 4 < 2147483648 from ⟨by omega, by omega⟩).1 (show -2147483648 ≤ ((h o 2) * 6) + 4 ∧ ((h o 2) * 6) + 4 < 2147483648 from ⟨by omega, by omega⟩).2 ?_
    refine z_iload 6 dX2_add_69 rfl ?_
    refine z_iast dX2_add_71 ho.2.1 (show 0 ≤ (((h o 2) * 6) + 4) ∧ (((h o 2) * 6) + 4) < N from ⟨by omega, by omega⟩).1 (show 0 ≤ (((h o 2) * 6) + 4) ∧ (((h o 2) * 6) + 4) < N from ⟨by omega, by omega⟩).2 ?_
    refine z_aload_n 1 dX2_add_72 rfl ?_
    refine z_getS (v := (o + 1)) (k := 0) (kz := 0) pk2 dX2_add_73 (by decide) zb_142 rfl ho.1 rfl ho.2.2 ?_
    refine z_iload 0 dX2_add_76 rfl ?_
    refine z_iconst dX2_add_78 (zi32_d rfl) ?_
    refine z_iaddN dX2_add_79 (show -2147483648 ≤ ((h o 2) * 6) + 5 ∧ ((h o 2) * 6) + 5 < 2147483648 from ⟨by omega, by omega⟩).1 (show -2147483648 ≤ ((h o 2) * 6) + 5 ∧ ((h o 2) * 6) + 5 < 2147483648 from ⟨by omega, by omega⟩).2 ?_
    refine z_iload 7 dX2_add_80 rfl ?_
    refine z_iast dX2_add_82 ho.2.1 (show 0 ≤ (((h o 2) * 6) + 5) ∧ (((h o 2) * 6) + 5) < N from ⟨by omega, by omega⟩).1 (show 0 ≤ (((h o 2) * 6) + 5) ∧ (((h o 2) * 6) + 5) < N from ⟨by omega, by omega⟩).2 ?_
    refine z_aload_n 1 dX2_add_83 rfl ?_
    refine z_dup dX2_add_84 zt2 ?_
    refine z_getIV (v := (h o 2)) (k := 2) (kz := 2) pk2 dX2_add_85 (by decide) zb_144 rfl ho.1 rfl ((zst_ne (Or.inl (by omega))).trans ((zst_ne (Or.inl (by omega))).trans ((zst_ne (Or.inl (by omega))).trans ((zst_ne (Or.inl (by omega))).trans ((zst_ne (Or.inl (by omega))).trans (zst_ne (Or.inl (by omega)))))))) ?_
    refine z_iconst dX2_add_88 (zi32_d rfl) ?_
    refine z_iaddN dX2_add_89 (show -2147483648 ≤ (h o 2) + 1 ∧ (h o 2) + 1 < 2147483648 from ⟨by omega, by omega⟩).1 (show -2147483648 ≤ (h o 2) + 1 ∧ (h o 2) + 1 < 2147483648 from ⟨by omega, by omega⟩).2 ?_
    refine z_putI (k := 2) (kz := 2) pk2 dX2_add_90 (by decide) zb_144 rfl (zFit_int _) ho.1 rfl ?_
    refine z_iconst dX2_add_93 (zi32_d rfl) ?_
    exact z_zret dX2_add_94 rfl (Or.inr rfl) (k1 c1)
  ·
    refine z_iconst dX2_add_11 (zi32_d rfl) ?_
    exact z_zret dX2_add_12 rfl (Or.inl rfl) (k2 c1)
theorem f_X2_add {X : zX} {dep : Nat} {N : Nat} (o : Int) (a : Int) (b : Int) (c : Int) (d : Int) (e : Int) (f : Int) {h : zH} (ho : zLedO o N) (hN : 0 ≤ h o 2 ∧ h o 2 ≤ h o 1 ∧ h o 1 ≤ 240 ∧ 6 * h o 1 ≤ N ∧ N ≤ 1440) : zW mX2_add X dep 0 0 239 0 (zar 0 [xR o, xI a, xI b, xI c, xI d, xI e, xI f]) [] h (zF (zaddr h o a b c d e f) [xI (zb (h o 2 < h o 1))]) := by
  refine bX2_add_0 o a b c d e f ho hN ?_ ?_
  all_goals intros
  all_goals refine ⟨rfl, ?_, ?_⟩
  all_goals (try unfold zaddr)
  · rw [if_pos (by omega)]
    rfl
  · rw [zb_t (by omega)]
  · rw [if_neg (by omega)]
  · rw [zb_f (by omega)]

set_option maxRecDepth 20000 in
theorem bX10_end_0 {X : zX} {dep bc bs : Nat} (n : Int) {h : zH} {Q : Nat → zH → List zV → Prop}
    (k1 : n < 0 → Q 239 h [xI 0])
    (k2 : ¬ (n < 0) → n ≤ (h 1 1) → Q 239 (zst h 1 1 n) [xI 1])
    (k3 : ¬ (n < 0) → ¬ (n ≤ (h 1 1)) → Q 239 h [xI 0]) : zW mX10_end X dep bc bs 239 0 [(0, xR 0), (1, xI n)] [] h Q := by
  refine z_iload_n 1 dX10_end_0 rfl ?_
  refine z_if_lt (tgt := 15) dX10_end_1 (by decide) (fun c1 => ?_) (fun c1 => ?_)
  ·
    refine z_iconst dX10_end_15 (zi32_d rfl) ?_
    exact z_zret dX10_end_16 rfl (Or.inl rfl) (k1 c1)
  ·
    refine z_iload_n 1 dX10_end_4 rfl ?_
    refine z_aload_n 0 dX10_end_5 rfl ?_
    refine z_getS (v := 1) (k := 0) (kz := 0) pk10 dX10_end_6 (by decide) zb_457 rfl (zOb.lit (by decide +kernel)) rfl (by decide +kernel) ?_
    refine z_getI (k := 1) (kz := 1) pk7 dX10_end_9 (by decide) zb_122 rfl (zOb.lit (by decide +kernel)) rfl ?_
    refine z_icmp_le (tgt := 17) dX10_end_12 (by decide) (fun c2 => ?_) (fun c2 => ?_)
    ·
      refine z_aload_n 0 dX10_end_17 rfl ?_
      refine z_getS (v := 1) (k := 0) (kz := 0) pk10 dX10_end_18 (by decide) zb_457 rfl (zOb.lit (by decide +kernel)) rfl (by decide +kernel) ?_
      refine z_iload_n 1 dX10_end_21 rfl ?_
      refine z_putI (k := 1) (kz := 1) pk7 dX10_end_22 (by decide) zb_122 rfl (zFit_int _) (zOb.lit (by decide +kernel)) rfl ?_
      refine z_iconst dX10_end_25 (zi32_d rfl) ?_
      exact z_zret dX10_end_26 rfl (Or.inr rfl) (k2 c1 c2)
    ·
      refine z_iconst dX10_end_15 (zi32_d rfl) ?_
      exact z_zret dX10_end_16 rfl (Or.inl rfl) (k3 c1 c2)
theorem f_X10_end {X : zX} {dep : Nat} (n : Int) {h : zH} : zW mX10_end X dep 0 0 239 0 (zar 0 [xR 0, xI n]) [] h (zF (if 0 ≤ n ∧ n ≤ h 1 1 then zst h 1 1 n else h) [xI (zb (0 ≤ n ∧ n ≤ h 1 1))]) := by
  refine bX10_end_0 n ?_ ?_ ?_
  all_goals intros
  all_goals refine ⟨rfl, ?_, ?_⟩
  all_goals first
    | (rw [if_pos (by omega)])
    | (rw [if_neg (by omega)])
    | (first | rfl | (refine congrArg (fun x => [xI x]) ?_; unfold zb; (repeat' split) <;> first | rfl | omega))

set_option maxRecDepth 20000 in
theorem bX10_next_0 {X : zX} {dep bc bs : Nat} (n : Int) {h : zH} {Q : Nat → zH → List zV → Prop} (hd : 0 ≤ h 0 10 ∧ h 0 10 ≤ 3639) (hdep : 1 ≤ dep)
    (k1 : ¬ (0 ≤ n ∧ n ≤ 3639) → Q 239 h [xI (-1)])
    (k2 : 0 ≤ n ∧ n ≤ 3639 → ((h 0 10) + n) ≤ 3639 → Q 239 (zst h 0 10 ((h 0 10) + n)) [xI ((h 0 10) + n)])
    (k3 : 0 ≤ n ∧ n ≤ 3639 → ¬ (((h 0 10) + n) ≤ 3639) → Q 239 h [xI (-1)]) : zW mX10_next X dep bc bs 239 0 [(0, xR 0), (1, xI n)] [] h Q := by
  refine z_iload_n 1 dX10_next_0 rfl ?_
  refine z_invSF (as := [xI n]) (st := []) (ra := [xI n]) (dep' := dep - 1) (rs := [xI (zb (0 ≤ n ∧ n ≤ 3639))]) (h' := h) (f_X10_isDay n (h := h) ) dX10_next_1 nX10_isDay zb_525 zb_526 zb_82 (by omega) zne_I (Nat.le_of_ble_eq_true rfl) (Nat.le_of_ble_eq_true rfl) rfl ?_
  refine z_ifB_eq (C := 0 ≤ n ∧ n ≤ 3639) (tgt := 19) dX10_next_4 (by decide) (fun c1 => ?_) (fun c1 => ?_)
  ·
    refine z_iconst dX10_next_19 (zi32_d rfl) ?_
    exact z_iret dX10_next_20 rfl (k1 c1)
  ·
    refine z_aload_n 0 dX10_next_7 rfl ?_
    refine z_getI (k := 10) (kz := 10) pk10 dX10_next_8 (by decide) zb_467 rfl (zOb.lit (by decide +kernel)) rfl ?_
    refine z_iload_n 1 dX10_next_11 rfl ?_
    refine z_iaddN dX10_next_12 (show -2147483648 ≤ (h 0 10) + n ∧ (h 0 10) + n < 2147483648 from ⟨by omega, by omega⟩).1 (show -2147483648 ≤ (h 0 10) + n ∧ (h 0 10) + n < 2147483648 from ⟨by omega, by omega⟩).2 ?_
    refine z_sipush dX10_next_13 (zi32_d rfl) (by decide) ?_
    refine z_icmp_le (tgt := 21) dX10_next_16 (by decide) (fun c2 => ?_) (fun c2 => ?_)
    ·
      refine z_aload_n 0 dX10_next_21 rfl ?_
      refine z_dup dX10_next_22 zt2 ?_
      refine z_getI (k := 10) (kz := 10) pk10 dX10_next_23 (by decide) zb_467 rfl (zOb.lit (by decide +kernel)) rfl ?_
      refine z_iload_n 1 dX10_next_26 rfl ?_
      refine z_iaddN dX10_next_27 (show -2147483648 ≤ (h 0 10) + n ∧ (h 0 10) + n < 2147483648 from ⟨by omega, by omega⟩).1 (show -2147483648 ≤ (h 0 10) + n ∧ (h 0 10) + n < 2147483648 from ⟨by omega, by omega⟩).2 ?_
      refine z_putI (k := 10) (kz := 10) pk10 dX10_next_28 (by decide) zb_467 rfl (zFit_int _) (zOb.lit (by decide +kernel)) rfl ?_
      refine z_aload_n 0 dX10_next_31 rfl ?_
      refine z_getIV (v := ((h 0 10) + n)) (k := 10) (kz := 10) pk10 dX10_next_32 (by decide) zb_467 rfl (zOb.lit (by decide +kernel)) rfl (zst_self _ _ _ _) ?_
      exact z_iret dX10_next_35 rfl (k2 c1 c2)
    ·
      refine z_iconst dX10_next_19 (zi32_d rfl) ?_
      exact z_iret dX10_next_20 rfl (k3 c1 c2)
theorem f_X10_next {X : zX} {dep : Nat} (n : Int) {h : zH} (hd : 0 ≤ h 0 10 ∧ h 0 10 ≤ 3639) (hdep : 1 ≤ dep) : zW mX10_next X dep 0 0 239 0 (zar 0 [xR 0, xI n]) [] h (zF (if (0 ≤ n ∧ n ≤ 3639) ∧ h 0 10 + n ≤ 3639 then zst h 0 10 (h 0 10 + n) else h) [xI (if (0 ≤ n ∧ n ≤ 3639) ∧ h 0 10 + n ≤ 3639 then h 0 10 + n else -1)]) := by
  refine bX10_next_0 n hd hdep ?_ ?_ ?_
  all_goals intros
  all_goals refine ⟨rfl, ?_, ?_⟩
  all_goals first
    | (rw [if_pos (by omega)])
    | (rw [if_neg (by omega)])
    | (first | rfl | (refine congrArg (fun x => [xI x]) ?_; unfold zb; (repeat' split) <;> first | rfl | omega))

set_option maxRecDepth 20000 in
theorem bX10_birth_0 {X : zX} {dep bc bs : Nat} (m : Int) (y : Int) (w : Int) {h : zH} {Q : Nat → zH → List zV → Prop} (hN : 0 ≤ h 7 2 ∧ h 7 2 ≤ h 7 1 ∧ h 7 1 ≤ 240 ∧ 6 * h 7 1 ≤ 600 ∧ 600 ≤ 1440) (hdep : 1 ≤ dep)
    (k1 : ¬ (0 ≤ m ∧ m < h 3 0) → Q 239 h [xI 0])
    (k2 : 0 ≤ m ∧ m < h 3 0 → y < (-60) → Q 239 h [xI 0])
    (k3 : 0 ≤ m ∧ m < h 3 0 → ¬ (y < (-60)) → 9 < y → Q 239 h [xI 0])
    (k4 : 0 ≤ m ∧ m < h 3 0 → ¬ (y < (-60)) → ¬ (9 < y) → 0 ≤ w ∧ w < 52 → Q 239 (zaddr h 7 (h 0 10) m ((y * 52) + w) 0 0 0) [xI (zb (h 7 2 < h 7 1))])
    (k5 : 0 ≤ m ∧ m < h 3 0 → ¬ (y < (-60)) → ¬ (9 < y) → ¬ (0 ≤ w ∧ w < 52) → Q 239 h [xI 0]) : zW mX10_birth X dep bc bs 239 0 [(0, xR 0), (1, xI m), (2, xI y), (3, xI w)] [] h Q := by
  refine z_aload_n 0 dX10_birth_0 rfl ?_
  refine z_iload_n 1 dX10_birth_1 rfl ?_
  refine z_invF (ci := 10) (N := 17) (as := [xI m]) (st := []) (ra := [xI m]) (dep' := dep - 1) (rs := [xI (zb (0 ≤ m ∧ m < h 3 0))]) (h' := h) (f_X10_isMan m (h := h) ) dX10_birth_2 nX10_isMan zb_559 zb_561 zb_0 zb_82 (zOb.lit (by decide +kernel)) rfl (by omega) zne_I (Nat.le_of_ble_eq_true rfl) (Nat.le_of_ble_eq_true rfl) rfl ?_
  refine z_ifB_eq (C := 0 ≤ m ∧ m < h 3 0) (tgt := 27) dX10_birth_5 (by decide) (fun c1 => ?_) (fun c1 => ?_)
  ·
    refine z_iconst dX10_birth_27 (zi32_d rfl) ?_
    exact z_zret dX10_birth_28 rfl (Or.inl rfl) (k1 c1)
  ·
    refine z_iload_n 2 dX10_birth_8 rfl ?_
    refine z_bipush dX10_birth_9 (zi32_d rfl) (by decide) ?_
    refine z_icmp_lt (tgt := 27) dX10_birth_11 (by decide) (fun c2 => ?_) (fun c2 => ?_)
    ·
      refine z_iconst dX10_birth_27 (zi32_d rfl) ?_
      exact z_zret dX10_birth_28 rfl (Or.inl rfl) (k2 c1 c2)
    ·
      refine z_iload_n 2 dX10_birth_14 rfl ?_
      refine z_bipush dX10_birth_15 (zi32_d rfl) (by decide) ?_
      refine z_icmp_gt (tgt := 27) dX10_birth_17 (by decide) (fun c3 => ?_) (fun c3 => ?_)
      ·
        refine z_iconst dX10_birth_27 (zi32_d rfl) ?_
        exact z_zret dX10_birth_28 rfl (Or.inl rfl) (k3 c1 c2 c3)
      ·
        refine z_iload_n 3 dX10_birth_20 rfl ?_
        refine z_invSF (as := [xI w]) (st := []) (ra := [xI w]) (dep' := dep - 1) (rs := [xI (zb (0 ≤ w ∧ w < 52))]) (h' := h) (f_X10_isWeek w (h := h) ) dX10_birth_21 nX10_isWeek zb_563 zb_564 zb_82 (by omega) zne_I (Nat.le_of_ble_eq_true rfl) (Nat.le_of_ble_eq_true rfl) rfl ?_
        refine z_ifB_ne (C := 0 ≤ w ∧ w < 52) (tgt := 29) dX10_birth_24 (by decide) (fun c4 => ?_) (fun c4 => ?_)
        ·
          refine z_aload_n 0 dX10_birth_29 rfl ?_
          refine z_getS (v := 3) (k := 1) (kz := 1) pk10 dX10_birth_30 (by decide) zb_458 rfl (zOb.lit (by decide +kernel)) rfl (by decide +kernel) ?_
          refine z_getS (v := 7) (k := 4) (kz := 4) pk4 dX10_birth_33 (by decide) zb_163 rfl (zOb.lit (by decide +kernel)) rfl (by decide +kernel) ?_
          refine z_aload_n 0 dX10_birth_36 rfl ?_
          refine z_getI (k := 10) (kz := 10) pk10 dX10_birth_37 (by decide) zb_467 rfl (zOb.lit (by decide +kernel)) rfl ?_
          refine z_iload_n 1 dX10_birth_40 rfl ?_
          refine z_iload_n 2 dX10_birth_41 rfl ?_
          refine z_bipush dX10_birth_42 (zi32_d rfl) (by decide) ?_
          refine z_imulN dX10_birth_44 (show -2147483648 ≤ y * 52 ∧ y * 52 < 2147483648 from ⟨by omega, by omega⟩).1 (show -2147483648 ≤ y * 52 ∧ y * 52 < 2147483648 from ⟨by omega, by omega⟩).2 ?_
          refine z_iload_n 3 dX10_birth_45 rfl ?_
          refine z_iaddN dX10_birth_46 (show -2147483648 ≤ (y * 52) + w ∧ (y * 52) + w < 2147483648 from ⟨by omega, by omega⟩).1 (show -2147483648 ≤ (y * 52) + w ∧ (y * 52) + w < 2147483648 from ⟨by omega, by omega⟩).2 ?_
          refine z_iconst dX10_birth_47 (zi32_d rfl) ?_
          refine z_iconst dX10_birth_48 (zi32_d rfl) ?_
          refine z_iconst dX10_birth_49 (zi32_d rfl) ?_
          refine z_invF (ci := 2) (N := 3) (as := [xI (h 0 10), xI m, xI ((y * 52) + w), xI 0, xI 0, xI 0]) (st := []) (ra := [xI 0, xI 0, xI 0, xI ((y * 52) + w), xI m, xI (h 0 10)]) (dep' := dep - 1) (rs := [xI (zb (h 7 2 < h 7 1))]) (h' := (zaddr h 7 (h 0 10) m ((y * 52) + w) 0 0 0)) (f_X2_add 7 (h 0 10) m ((y * 52) + w) 0 0 0 (h := h) zLedO_7 hN) dX10_birth_50 nX2_add zb_566 zb_567 zb_568 zb_85 (zOb.lit (by decide +kernel)) rfl (by omega) zne_I (Nat.le_of_ble_eq_true rfl) (Nat.le_of_ble_eq_true rfl) rfl ?_
          exact z_zret dX10_birth_53 rfl (zb01 _) (k4 c1 c2 c3 c4)
        ·
          refine z_iconst dX10_birth_27 (zi32_d rfl) ?_
          exact z_zret dX10_birth_28 rfl (Or.inl rfl) (k5 c1 c2 c3 c4)
theorem f_X10_birth {X : zX} {dep : Nat} (m : Int) (y : Int) (w : Int) {h : zH} (hN : 0 ≤ h 7 2 ∧ h 7 2 ≤ h 7 1 ∧ h 7 1 ≤ 240 ∧ 6 * h 7 1 ≤ 600 ∧ 600 ≤ 1440) (hdep : 1 ≤ dep) : zW mX10_birth X dep 0 0 239 0 (zar 0 [xR 0, xI m, xI y, xI w]) [] h (zF (if (0 ≤ m ∧ m < h 3 0) ∧ (-60 ≤ y ∧ y ≤ 9) ∧ 0 ≤ w ∧ w < 52 then zaddr h 7 (h 0 10) m (y * 52 + w) 0 0 0 else h) [xI (zb (((0 ≤ m ∧ m < h 3 0) ∧ (-60 ≤ y ∧ y ≤ 9) ∧ 0 ≤ w ∧ w < 52) ∧ h 7 2 < h 7 1))]) := by
  refine bX10_birth_0 m y w hN hdep ?_ ?_ ?_ ?_ ?_
  all_goals intros
  all_goals refine ⟨rfl, ?_, ?_⟩
  all_goals first
    | (rw [if_pos (by omega)])
    | (rw [if_neg (by omega)])
    | (first | rfl | (refine congrArg (fun x => [xI x]) ?_; unfold zb; (repeat' split) <;> first | rfl | omega))

set_option maxRecDepth 20000 in
theorem bX10_fact_0 {X : zX} {dep bc bs : Nat} (m : Int) (k : Int) (v : Int) (a : Int) (b : Int) {h : zH} {Q : Nat → zH → List zV → Prop} (hN : 0 ≤ h 9 2 ∧ h 9 2 ≤ h 9 1 ∧ h 9 1 ≤ 240 ∧ 6 * h 9 1 ≤ 1440 ∧ 1440 ≤ 1440) (hdep : 1 ≤ dep)
    (k1 : ¬ (0 ≤ m ∧ m < h 3 0) → Q 239 h [xI 0])
    (k2 : 0 ≤ m ∧ m < h 3 0 → ¬ (0 ≤ v ∧ ((k = 0 ∨ k = 1) ∧ v ≤ 9 ∨ (k = 2 ∨ k = 3 ∨ k = 4) ∧ v ≤ 1 ∨ k = 5 ∧ v ≤ 250)) → Q 239 h [xI 0])
    (k3 : 0 ≤ m ∧ m < h 3 0 → 0 ≤ v ∧ ((k = 0 ∨ k = 1) ∧ v ≤ 9 ∨ (k = 2 ∨ k = 3 ∨ k = 4) ∧ v ≤ 1 ∨ k = 5 ∧ v ≤ 250) → ¬ (0 ≤ a ∧ a ≤ 3639) → Q 239 h [xI 0])
    (k4 : 0 ≤ m ∧ m < h 3 0 → 0 ≤ v ∧ ((k = 0 ∨ k = 1) ∧ v ≤ 9 ∨ (k = 2 ∨ k = 3 ∨ k = 4) ∧ v ≤ 1 ∨ k = 5 ∧ v ≤ 250) → 0 ≤ a ∧ a ≤ 3639 → ¬ (0 ≤ b ∧ b ≤ 3639) → Q 239 h [xI 0])
    (k5 : 0 ≤ m ∧ m < h 3 0 → 0 ≤ v ∧ ((k = 0 ∨ k = 1) ∧ v ≤ 9 ∨ (k = 2 ∨ k = 3 ∨ k = 4) ∧ v ≤ 1 ∨ k = 5 ∧ v ≤ 250) → 0 ≤ a ∧ a ≤ 3639 → 0 ≤ b ∧ b ≤ 3639 → a ≤ b → Q 239 (zaddr h 9 (h 0 10) m k v a b) [xI (zb (h 9 2 < h 9 1))])
    (k6 : 0 ≤ m ∧ m < h 3 0 → 0 ≤ v ∧ ((k = 0 ∨ k = 1) ∧ v ≤ 9 ∨ (k = 2 ∨ k = 3 ∨ k = 4) ∧ v ≤ 1 ∨ k = 5 ∧ v ≤ 250) → 0 ≤ a ∧ a ≤ 3639 → 0 ≤ b ∧ b ≤ 3639 → ¬ (a ≤ b) → Q 239 h [xI 0]) : zW mX10_fact X dep bc bs 239 0 [(0, xR 0), (1, xI m), (2, xI k), (3, xI v), (4, xI a), (5, xI b)] [] h Q := by
  refine z_aload_n 0 dX10_fact_0 rfl ?_
  refine z_iload_n 1 dX10_fact_1 rfl ?_
  refine z_invF (ci := 10) (N := 17) (as := [xI m]) (st := []) (ra := [xI m]) (dep' := dep - 1) (rs := [xI (zb (0 ≤ m ∧ m < h 3 0))]) (h' := h) (f_X10_isMan m (h := h) ) dX10_fact_2 nX10_isMan zb_559 zb_561 zb_0 zb_82 (zOb.lit (by decide +kernel)) rfl (by omega) zne_I (Nat.le_of_ble_eq_true rfl) (Nat.le_of_ble_eq_true rfl) rfl ?_
  refine z_ifB_eq (C := 0 ≤ m ∧ m < h 3 0) (tgt := 39) dX10_fact_5 (by decide) (fun c1 => ?_) (fun c1 => ?_)
  ·
    refine z_iconst dX10_fact_39 (zi32_d rfl) ?_
    exact z_zret dX10_fact_40 rfl (Or.inl rfl) (k1 c1)
  ·
    refine z_iload_n 2 dX10_fact_8 rfl ?_
    refine z_iload_n 3 dX10_fact_9 rfl ?_
    refine z_invSF (as := [xI k, xI v]) (st := []) (ra := [xI v, xI k]) (dep' := dep - 1) (rs := [xI (zb (0 ≤ v ∧ ((k = 0 ∨ k = 1) ∧ v ≤ 9 ∨ (k = 2 ∨ k = 3 ∨ k = 4) ∧ v ≤ 1 ∨ k = 5 ∧ v ≤ 250)))]) (h' := h) (f_X10_isFactValue k v (h := h) ) dX10_fact_10 nX10_isFactValue zb_574 zb_575 zb_82 (by omega) zne_I (Nat.le_of_ble_eq_true rfl) (Nat.le_of_ble_eq_true rfl) rfl ?_
    refine z_ifB_eq (C := 0 ≤ v ∧ ((k = 0 ∨ k = 1) ∧ v ≤ 9 ∨ (k = 2 ∨ k = 3 ∨ k = 4) ∧ v ≤ 1 ∨ k = 5 ∧ v ≤ 250)) (tgt := 39) dX10_fact_13 (by decide) (fun c2 => ?_) (fun c2 => ?_)
    ·
      refine z_iconst dX10_fact_39 (zi32_d rfl) ?_
      exact z_zret dX10_fact_40 rfl (Or.inl rfl) (k2 c1 c2)
    ·
      refine z_iload 4 dX10_fact_16 rfl ?_
      refine z_invSF (as := [xI a]) (st := []) (ra := [xI a]) (dep' := dep - 1) (rs := [xI (zb (0 ≤ a ∧ a ≤ 3639))]) (h' := h) (f_X10_isDay a (h := h) ) dX10_fact_18 nX10_isDay zb_525 zb_526 zb_82 (by omega) zne_I (Nat.le_of_ble_eq_true rfl) (Nat.le_of_ble_eq_true rfl) rfl ?_
      refine z_ifB_eq (C := 0 ≤ a ∧ a ≤ 3639) (tgt := 39) dX10_fact_21 (by decide) (fun c3 => ?_) (fun c3 => ?_)
      ·
        refine z_iconst dX10_fact_39 (zi32_d rfl) ?_
        exact z_zret dX10_fact_40 rfl (Or.inl rfl) (k3 c1 c2 c3)
      ·
        refine z_iload 5 dX10_fact_24 rfl ?_
        refine z_invSF (as := [xI b]) (st := []) (ra := [xI b]) (dep' := dep - 1) (rs := [xI (zb (0 ≤ b ∧ b ≤ 3639))]) (h' := h) (f_X10_isDay b (h := h) ) dX10_fact_26 nX10_isDay zb_525 zb_526 zb_82 (by omega) zne_I (Nat.le_of_ble_eq_true rfl) (Nat.le_of_ble_eq_true rfl) rfl ?_
        refine z_ifB_eq (C := 0 ≤ b ∧ b ≤ 3639) (tgt := 39) dX10_fact_29 (by decide) (fun c4 => ?_) (fun c4 => ?_)
        ·
          refine z_iconst dX10_fact_39 (zi32_d rfl) ?_
          exact z_zret dX10_fact_40 rfl (Or.inl rfl) (k4 c1 c2 c3 c4)
        ·
          refine z_iload 4 dX10_fact_32 rfl ?_
          refine z_iload 5 dX10_fact_34 rfl ?_
          refine z_icmp_le (tgt := 41) dX10_fact_36 (by decide) (fun c5 => ?_) (fun c5 => ?_)
          ·
            refine z_aload_n 0 dX10_fact_41 rfl ?_
            refine z_getS (v := 3) (k := 1) (kz := 1) pk10 dX10_fact_42 (by decide) zb_458 rfl (zOb.lit (by decide +kernel)) rfl (by decide +kernel) ?_
            refine z_getS (v := 9) (k := 5) (kz := 5) pk4 dX10_fact_45 (by decide) zb_165 rfl (zOb.lit (by decide +kernel)) rfl (by decide +kernel) ?_
            refine z_aload_n 0 dX10_fact_48 rfl ?_
            refine z_getI (k := 10) (kz := 10) pk10 dX10_fact_49 (by decide) zb_467 rfl (zOb.lit (by decide +kernel)) rfl ?_
            refine z_iload_n 1 dX10_fact_52 rfl ?_
            refine z_iload_n 2 dX10_fact_53 rfl ?_
            refine z_iload_n 3 dX10_fact_54 rfl ?_
            refine z_iload 4 dX10_fact_55 rfl ?_
            refine z_iload 5 dX10_fact_57 rfl ?_
            refine z_invF (ci := 2) (N := 3) (as := [xI (h 0 10), xI m, xI k, xI v, xI a, xI b]) (st := []) (ra := [xI b, xI a, xI v, xI k, xI m, xI (h 0 10)]) (dep' := dep - 1) (rs := [xI (zb (h 9 2 < h 9 1))]) (h' := (zaddr h 9 (h 0 10) m k v a b)) (f_X2_add 9 (h 0 10) m k v a b (h := h) zLedO_9 hN) dX10_fact_59 nX2_add zb_566 zb_567 zb_568 zb_85 (zOb.lit (by decide +kernel)) rfl (by omega) zne_I (Nat.le_of_ble_eq_true rfl) (Nat.le_of_ble_eq_true rfl) rfl ?_
            exact z_zret dX10_fact_62 rfl (zb01 _) (k5 c1 c2 c3 c4 c5)
          ·
            refine z_iconst dX10_fact_39 (zi32_d rfl) ?_
            exact z_zret dX10_fact_40 rfl (Or.inl rfl) (k6 c1 c2 c3 c4 c5)
theorem f_X10_fact {X : zX} {dep : Nat} (m : Int) (k : Int) (v : Int) (a : Int) (b : Int) {h : zH} (hN : 0 ≤ h 9 2 ∧ h 9 2 ≤ h 9 1 ∧ h 9 1 ≤ 240 ∧ 6 * h 9 1 ≤ 1440 ∧ 1440 ≤ 1440) (hdep : 1 ≤ dep) : zW mX10_fact X dep 0 0 239 0 (zar 0 [xR 0, xI m, xI k, xI v, xI a, xI b]) [] h (zF (if (0 ≤ m ∧ m < h 3 0) ∧ (0 ≤ v ∧ ((k = 0 ∨ k = 1) ∧ v ≤ 9 ∨ (k = 2 ∨ k = 3 ∨ k = 4) ∧ v ≤ 1 ∨ k = 5 ∧ v ≤ 250)) ∧ (0 ≤ a ∧ a ≤ 3639) ∧ (0 ≤ b ∧ b ≤ 3639) ∧ a ≤ b then zaddr h 9 (h 0 10) m k v a b else h) [xI (zb (((0 ≤ m ∧ m < h 3 0) ∧ (0 ≤ v ∧ ((k = 0 ∨ k = 1) ∧ v ≤ 9 ∨ (k = 2 ∨ k = 3 ∨ k = 4) ∧ v ≤ 1 ∨ k = 5 ∧ v ≤ 250)) ∧ (0 ≤ a ∧ a ≤ 3639) ∧ (0 ≤ b ∧ b ≤ 3639) ∧ a ≤ b) ∧ h 9 2 < h 9 1))]) := by
  refine bX10_fact_0 m k v a b hN hdep ?_ ?_ ?_ ?_ ?_ ?_
  all_goals intros
  all_goals refine ⟨rfl, ?_, ?_⟩
  all_goals first
    | (rw [if_pos (by omega)])
    | (rw [if_neg (by omega)])
    | (first | rfl | (refine congrArg (fun x => [xI x]) ?_; unfold zb; (repeat' split) <;> first | rfl | omega))

set_option maxRecDepth 20000 in
theorem bX10_exam_0 {X : zX} {dep bc bs : Nat} (m : Int) (d : Int) (g : Int) {h : zH} {Q : Nat → zH → List zV → Prop} (hN : 0 ≤ h 11 2 ∧ h 11 2 ≤ h 11 1 ∧ h 11 1 ≤ 240 ∧ 6 * h 11 1 ≤ 360 ∧ 360 ≤ 1440) (hdep : 1 ≤ dep)
    (k1 : ¬ (0 ≤ m ∧ m < h 3 0) → Q 239 h [xI 0])
    (k2 : 0 ≤ m ∧ m < h 3 0 → ¬ (0 ≤ d ∧ d < 8) → Q 239 h [xI 0])
    (k3 : 0 ≤ m ∧ m < h 3 0 → 0 ≤ d ∧ d < 8 → g < 0 → Q 239 h [xI 0])
    (k4 : 0 ≤ m ∧ m < h 3 0 → 0 ≤ d ∧ d < 8 → ¬ (g < 0) → g ≤ 9 → Q 239 (zaddr h 11 (h 0 10) m d g 0 0) [xI (zb (h 11 2 < h 11 1))])
    (k5 : 0 ≤ m ∧ m < h 3 0 → 0 ≤ d ∧ d < 8 → ¬ (g < 0) → ¬ (g ≤ 9) → Q 239 h [xI 0]) : zW mX10_exam X dep bc bs 239 0 [(0, xR 0), (1, xI m), (2, xI d), (3, xI g)] [] h Q := by
  refine z_aload_n 0 dX10_exam_0 rfl ?_
  refine z_iload_n 1 dX10_exam_1 rfl ?_
  refine z_invF (ci := 10) (N := 17) (as := [xI m]) (st := []) (ra := [xI m]) (dep' := dep - 1) (rs := [xI (zb (0 ≤ m ∧ m < h 3 0))]) (h' := h) (f_X10_isMan m (h := h) ) dX10_exam_2 nX10_isMan zb_559 zb_561 zb_0 zb_82 (zOb.lit (by decide +kernel)) rfl (by omega) zne_I (Nat.le_of_ble_eq_true rfl) (Nat.le_of_ble_eq_true rfl) rfl ?_
  refine z_ifB_eq (C := 0 ≤ m ∧ m < h 3 0) (tgt := 25) dX10_exam_5 (by decide) (fun c1 => ?_) (fun c1 => ?_)
  ·
    refine z_iconst dX10_exam_25 (zi32_d rfl) ?_
    exact z_zret dX10_exam_26 rfl (Or.inl rfl) (k1 c1)
  ·
    refine z_iload_n 2 dX10_exam_8 rfl ?_
    refine z_invSF (as := [xI d]) (st := []) (ra := [xI d]) (dep' := dep - 1) (rs := [xI (zb (0 ≤ d ∧ d < 8))]) (h' := h) (f_X10_isDoctor d (h := h) ) dX10_exam_9 nX10_isDoctor zb_581 zb_582 zb_82 (by omega) zne_I (Nat.le_of_ble_eq_true rfl) (Nat.le_of_ble_eq_true rfl) rfl ?_
    refine z_ifB_eq (C := 0 ≤ d ∧ d < 8) (tgt := 25) dX10_exam_12 (by decide) (fun c2 => ?_) (fun c2 => ?_)
    ·
      refine z_iconst dX10_exam_25 (zi32_d rfl) ?_
      exact z_zret dX10_exam_26 rfl (Or.inl rfl) (k2 c1 c2)
    ·
      refine z_iload_n 3 dX10_exam_15 rfl ?_
      refine z_if_lt (tgt := 25) dX10_exam_16 (by decide) (fun c3 => ?_) (fun c3 => ?_)
      ·
        refine z_iconst dX10_exam_25 (zi32_d rfl) ?_
        exact z_zret dX10_exam_26 rfl (Or.inl rfl) (k3 c1 c2 c3)
      ·
        refine z_iload_n 3 dX10_exam_19 rfl ?_
        refine z_bipush dX10_exam_20 (zi32_d rfl) (by decide) ?_
        refine z_icmp_le (tgt := 27) dX10_exam_22 (by decide) (fun c4 => ?_) (fun c4 => ?_)
        ·
          refine z_aload_n 0 dX10_exam_27 rfl ?_
          refine z_getS (v := 3) (k := 1) (kz := 1) pk10 dX10_exam_28 (by decide) zb_458 rfl (zOb.lit (by decide +kernel)) rfl (by decide +kernel) ?_
          refine z_getS (v := 11) (k := 6) (kz := 6) pk4 dX10_exam_31 (by decide) zb_168 rfl (zOb.lit (by decide +kernel)) rfl (by decide +kernel) ?_
          refine z_aload_n 0 dX10_exam_34 rfl ?_
          refine z_getI (k := 10) (kz := 10) pk10 dX10_exam_35 (by decide) zb_467 rfl (zOb.lit (by decide +kernel)) rfl ?_
          refine z_iload_n 1 dX10_exam_38 rfl ?_
          refine z_iload_n 2 dX10_exam_39 rfl ?_
          refine z_iload_n 3 dX10_exam_40 rfl ?_
          refine z_iconst dX10_exam_41 (zi32_d rfl) ?_
          refine z_iconst dX10_exam_42 (zi32_d rfl) ?_
          refine z_invF (ci := 2) (N := 3) (as := [xI (h 0 10), xI m, xI d, xI g, xI 0, xI 0]) (st := []) (ra := [xI 0, xI 0, xI g, xI d, xI m, xI (h 0 10)]) (dep' := dep - 1) (rs := [xI (zb (h 11 2 < h 11 1))]) (h' := (zaddr h 11 (h 0 10) m d g 0 0)) (f_X2_add 11 (h 0 10) m d g 0 0 (h := h) zLedO_11 hN) dX10_exam_43 nX2_add zb_566 zb_567 zb_568 zb_85 (zOb.lit (by decide +kernel)) rfl (by omega) zne_I (Nat.le_of_ble_eq_true rfl) (Nat.le_of_ble_eq_true rfl) rfl ?_
          exact z_zret dX10_exam_46 rfl (zb01 _) (k4 c1 c2 c3 c4)
        ·
          refine z_iconst dX10_exam_25 (zi32_d rfl) ?_
          exact z_zret dX10_exam_26 rfl (Or.inl rfl) (k5 c1 c2 c3 c4)
theorem f_X10_exam {X : zX} {dep : Nat} (m : Int) (d : Int) (g : Int) {h : zH} (hN : 0 ≤ h 11 2 ∧ h 11 2 ≤ h 11 1 ∧ h 11 1 ≤ 240 ∧ 6 * h 11 1 ≤ 360 ∧ 360 ≤ 1440) (hdep : 1 ≤ dep) : zW mX10_exam X dep 0 0 239 0 (zar 0 [xR 0, xI m, xI d, xI g]) [] h (zF (if (0 ≤ m ∧ m < h 3 0) ∧ (0 ≤ d ∧ d < 8) ∧ 0 ≤ g ∧ g ≤ 9 then zaddr h 11 (h 0 10) m d g 0 0 else h) [xI (zb (((0 ≤ m ∧ m < h 3 0) ∧ (0 ≤ d ∧ d < 8) ∧ 0 ≤ g ∧ g ≤ 9) ∧ h 11 2 < h 11 1))]) := by
  refine bX10_exam_0 m d g hN hdep ?_ ?_ ?_ ?_ ?_
  all_goals intros
  all_goals refine ⟨rfl, ?_, ?_⟩
  all_goals first
    | (rw [if_pos (by omega)])
    | (rw [if_neg (by omega)])
    | (first | rfl | (refine congrArg (fun x => [xI x]) ?_; unfold zb; (repeat' split) <;> first | rfl | omega))

set_option maxRecDepth 20000 in
theorem bX10_same_0 {X : zX} {dep bc bs : Nat} (a : Int) (b : Int) {h : zH} {Q : Nat → zH → List zV → Prop} (hN : 0 ≤ h 13 2 ∧ h 13 2 ≤ h 13 1 ∧ h 13 1 ≤ 240 ∧ 6 * h 13 1 ≤ 240 ∧ 240 ≤ 1440) (hdep : 1 ≤ dep)
    (k1 : ¬ (0 ≤ a ∧ a < h 3 0) → Q 239 h [xI 0])
    (k2 : 0 ≤ a ∧ a < h 3 0 → ¬ (0 ≤ b ∧ b < h 3 0) → Q 239 h [xI 0])
    (k3 : 0 ≤ a ∧ a < h 3 0 → 0 ≤ b ∧ b < h 3 0 → ¬ a = b → Q 239 (zaddr h 13 (h 0 10) a b 0 0 0) [xI (zb (h 13 2 < h 13 1))])
    (k4 : 0 ≤ a ∧ a < h 3 0 → 0 ≤ b ∧ b < h 3 0 → a = b → Q 239 h [xI 0]) : zW mX10_same X dep bc bs 239 0 [(0, xR 0), (1, xI a), (2, xI b)] [] h Q := by
  refine z_aload_n 0 dX10_same_0 rfl ?_
  refine z_iload_n 1 dX10_same_1 rfl ?_
  refine z_invF (ci := 10) (N := 17) (as := [xI a]) (st := []) (ra := [xI a]) (dep' := dep - 1) (rs := [xI (zb (0 ≤ a ∧ a < h 3 0))]) (h' := h) (f_X10_isMan a (h := h) ) dX10_same_2 nX10_isMan zb_559 zb_561 zb_0 zb_82 (zOb.lit (by decide +kernel)) rfl (by omega) zne_I (Nat.le_of_ble_eq_true rfl) (Nat.le_of_ble_eq_true rfl) rfl ?_
  refine z_ifB_eq (C := 0 ≤ a ∧ a < h 3 0) (tgt := 21) dX10_same_5 (by decide) (fun c1 => ?_) (fun c1 => ?_)
  ·
    refine z_iconst dX10_same_21 (zi32_d rfl) ?_
    exact z_zret dX10_same_22 rfl (Or.inl rfl) (k1 c1)
  ·
    refine z_aload_n 0 dX10_same_8 rfl ?_
    refine z_iload_n 2 dX10_same_9 rfl ?_
    refine z_invF (ci := 10) (N := 17) (as := [xI b]) (st := []) (ra := [xI b]) (dep' := dep - 1) (rs := [xI (zb (0 ≤ b ∧ b < h 3 0))]) (h' := h) (f_X10_isMan b (h := h) ) dX10_same_10 nX10_isMan zb_559 zb_561 zb_0 zb_82 (zOb.lit (by decide +kernel)) rfl (by omega) zne_I (Nat.le_of_ble_eq_true rfl) (Nat.le_of_ble_eq_true rfl) rfl ?_
    refine z_ifB_eq (C := 0 ≤ b ∧ b < h 3 0) (tgt := 21) dX10_same_13 (by decide) (fun c2 => ?_) (fun c2 => ?_)
    ·
      refine z_iconst dX10_same_21 (zi32_d rfl) ?_
      exact z_zret dX10_same_22 rfl (Or.inl rfl) (k2 c1 c2)
    ·
      refine z_iload_n 1 dX10_same_16 rfl ?_
      refine z_iload_n 2 dX10_same_17 rfl ?_
      refine z_icmp_ne (tgt := 23) dX10_same_18 (by decide) (fun c3 => ?_) (fun c3 => ?_)
      ·
        refine z_aload_n 0 dX10_same_23 rfl ?_
        refine z_getS (v := 3) (k := 1) (kz := 1) pk10 dX10_same_24 (by decide) zb_458 rfl (zOb.lit (by decide +kernel)) rfl (by decide +kernel) ?_
        refine z_getS (v := 13) (k := 7) (kz := 7) pk4 dX10_same_27 (by decide) zb_171 rfl (zOb.lit (by decide +kernel)) rfl (by decide +kernel) ?_
        refine z_aload_n 0 dX10_same_30 rfl ?_
        refine z_getI (k := 10) (kz := 10) pk10 dX10_same_31 (by decide) zb_467 rfl (zOb.lit (by decide +kernel)) rfl ?_
        refine z_iload_n 1 dX10_same_34 rfl ?_
        refine z_iload_n 2 dX10_same_35 rfl ?_
        refine z_iconst dX10_same_36 (zi32_d rfl) ?_
        refine z_iconst dX10_same_37 (zi32_d rfl) ?_
        refine z_iconst dX10_same_38 (zi32_d rfl) ?_
        refine z_invF (ci := 2) (N := 3) (as := [xI (h 0 10), xI a, xI b, xI 0, xI 0, xI 0]) (st := []) (ra := [xI 0, xI 0, xI 0, xI b, xI a, xI (h 0 10)]) (dep' := dep - 1) (rs := [xI (zb (h 13 2 < h 13 1))]) (h' := (zaddr h 13 (h 0 10) a b 0 0 0)) (f_X2_add 13 (h 0 10) a b 0 0 0 (h := h) zLedO_13 hN) dX10_same_39 nX2_add zb_566 zb_567 zb_568 zb_85 (zOb.lit (by decide +kernel)) rfl (by omega) zne_I (Nat.le_of_ble_eq_true rfl) (Nat.le_of_ble_eq_true rfl) rfl ?_
        exact z_zret dX10_same_42 rfl (zb01 _) (k3 c1 c2 c3)
      ·
        refine z_iconst dX10_same_21 (zi32_d rfl) ?_
        exact z_zret dX10_same_22 rfl (Or.inl rfl) (k4 c1 c2 c3)
theorem f_X10_same {X : zX} {dep : Nat} (a : Int) (b : Int) {h : zH} (hN : 0 ≤ h 13 2 ∧ h 13 2 ≤ h 13 1 ∧ h 13 1 ≤ 240 ∧ 6 * h 13 1 ≤ 240 ∧ 240 ≤ 1440) (hdep : 1 ≤ dep) : zW mX10_same X dep 0 0 239 0 (zar 0 [xR 0, xI a, xI b]) [] h (zF (if (0 ≤ a ∧ a < h 3 0) ∧ (0 ≤ b ∧ b < h 3 0) ∧ a ≠ b then zaddr h 13 (h 0 10) a b 0 0 0 else h) [xI (zb (((0 ≤ a ∧ a < h 3 0) ∧ (0 ≤ b ∧ b < h 3 0) ∧ a ≠ b) ∧ h 13 2 < h 13 1))]) := by
  refine bX10_same_0 a b hN hdep ?_ ?_ ?_ ?_
  all_goals intros
  all_goals refine ⟨rfl, ?_, ?_⟩
  all_goals first
    | (rw [if_pos (by omega)])
    | (rw [if_neg (by omega)])
    | (first | rfl | (refine congrArg (fun x => [xI x]) ?_; unfold zb; (repeat' split) <;> first | rfl | omega))

set_option maxRecDepth 20000 in
theorem bX10_fault_0 {X : zX} {dep bc bs : Nat} {h : zH} {Q : Nat → zH → List zV → Prop}
    (k1 : Q 239 h [xI (h 0 13)]) : zW mX10_fault X dep bc bs 239 0 [(0, xR 0)] [] h Q := by
  refine z_aload_n 0 dX10_fault_0 rfl ?_
  refine z_getI (k := 13) (kz := 13) pk10 dX10_fault_1 (by decide) zb_470 rfl (zOb.lit (by decide +kernel)) rfl ?_
  exact z_iret dX10_fault_4 rfl (k1)
theorem f_X10_fault {X : zX} {dep : Nat} {h : zH} : zW mX10_fault X dep 0 0 239 0 (zar 0 [xR 0]) [] h (zF h [xI (h 0 13)]) := by
  refine bX10_fault_0  ?_
  all_goals intros
  all_goals exact ⟨rfl, rfl, rfl⟩

set_option maxRecDepth 20000 in
theorem bX10_why_0 {X : zX} {dep bc bs : Nat} {h : zH} {Q : Nat → zH → List zV → Prop}
    (k1 : Q 239 h [xI (h 0 14)]) : zW mX10_why X dep bc bs 239 0 [(0, xR 0)] [] h Q := by
  refine z_aload_n 0 dX10_why_0 rfl ?_
  refine z_getI (k := 14) (kz := 14) pk10 dX10_why_1 (by decide) zb_471 rfl (zOb.lit (by decide +kernel)) rfl ?_
  exact z_iret dX10_why_4 rfl (k1)
theorem f_X10_why {X : zX} {dep : Nat} {h : zH} : zW mX10_why X dep 0 0 239 0 (zar 0 [xR 0]) [] h (zF h [xI (h 0 14)]) := by
  refine bX10_why_0  ?_
  all_goals intros
  all_goals exact ⟨rfl, rfl, rfl⟩

set_option maxRecDepth 20000 in
theorem bX10_lot_0 {X : zX} {dep bc bs : Nat} (d : Int) (w : Int) {h : zH} {Q : Nat → zH → List zV → Prop} (hl : 0 ≤ h 0 12 ∧ h 0 12 ≤ 4) (hdep : 1 ≤ dep)
    (k1 : 4 ≤ (h 0 12) → Q 239 h [xI (-1)])
    (k2 : ¬ (4 ≤ (h 0 12)) → ¬ (0 ≤ d ∧ d ≤ 3639) → Q 239 h [xI (-1)])
    (k3 : ¬ (4 ≤ (h 0 12)) → 0 ≤ d ∧ d ≤ 3639 → d < (h 0 10) → Q 239 h [xI (-1)])
    (k4 : ¬ (4 ≤ (h 0 12)) → 0 ≤ d ∧ d ≤ 3639 → ¬ (d < (h 0 10)) → w < 0 → Q 239 h [xI (-1)])
    (k5 : ¬ (4 ≤ (h 0 12)) → 0 ≤ d ∧ d ≤ 3639 → ¬ (d < (h 0 10)) → ¬ (w < 0) → w ≤ 60 → (h 0 12) ≤ 0 → Q 239 (zst (zst (zst h ((113 + 14 * (h 0 12)) + 1) 0 d) ((113 + 14 * (h 0 12)) + 1) 1 w) 0 12 ((h 0 12) + 1)) [xI (h 0 12)])
    (k6 : ¬ (4 ≤ (h 0 12)) → 0 ≤ d ∧ d ≤ 3639 → ¬ (d < (h 0 10)) → ¬ (w < 0) → w ≤ 60 → ¬ ((h 0 12) ≤ 0) → (h ((113 + 14 * ((h 0 12) - 1)) + 1) 0) ≤ d → Q 239 (zst (zst (zst h ((113 + 14 * (h 0 12)) + 1) 0 d) ((113 + 14 * (h 0 12)) + 1) 1 w) 0 12 ((h 0 12) + 1)) [xI (h 0 12)])
    (k7 : ¬ (4 ≤ (h 0 12)) → 0 ≤ d ∧ d ≤ 3639 → ¬ (d < (h 0 10)) → ¬ (w < 0) → w ≤ 60 → ¬ ((h 0 12) ≤ 0) → ¬ ((h ((113 + 14 * ((h 0 12) - 1)) + 1) 0) ≤ d) → Q 239 h [xI (-1)])
    (k8 : ¬ (4 ≤ (h 0 12)) → 0 ≤ d ∧ d ≤ 3639 → ¬ (d < (h 0 10)) → ¬ (w < 0) → ¬ (w ≤ 60) → Q 239 h [xI (-1)]) : zW mX10_lot X dep bc bs 239 0 [(0, xR 0), (1, xI d), (2, xI w)] [] h Q := by
  refine z_aload_n 0 dX10_lot_0 rfl ?_
  refine z_getI (k := 12) (kz := 12) pk10 dX10_lot_1 (by decide) zb_469 rfl (zOb.lit (by decide +kernel)) rfl ?_
  refine z_iconst dX10_lot_4 (zi32_d rfl) ?_
  refine z_icmp_ge (tgt := 33) dX10_lot_5 (by decide) (fun c1 => ?_) (fun c1 => ?_)
  ·
    refine z_iconst dX10_lot_33 (zi32_d rfl) ?_
    exact z_iret dX10_lot_34 rfl (k1 c1)
  ·
    refine z_iload_n 1 dX10_lot_8 rfl ?_
    refine z_invSF (as := [xI d]) (st := []) (ra := [xI d]) (dep' := dep - 1) (rs := [xI (zb (0 ≤ d ∧ d ≤ 3639))]) (h' := h) (f_X10_isDay d (h := h) ) dX10_lot_9 nX10_isDay zb_525 zb_526 zb_82 (by omega) zne_I (Nat.le_of_ble_eq_true rfl) (Nat.le_of_ble_eq_true rfl) rfl ?_
    refine z_ifB_eq (C := 0 ≤ d ∧ d ≤ 3639) (tgt := 33) dX10_lot_12 (by decide) (fun c2 => ?_) (fun c2 => ?_)
    ·
      refine z_iconst dX10_lot_33 (zi32_d rfl) ?_
      exact z_iret dX10_lot_34 rfl (k2 c1 c2)
    ·
      refine z_iload_n 1 dX10_lot_15 rfl ?_
      refine z_aload_n 0 dX10_lot_16 rfl ?_
      refine z_getI (k := 10) (kz := 10) pk10 dX10_lot_17 (by decide) zb_467 rfl (zOb.lit (by decide +kernel)) rfl ?_
      refine z_icmp_lt (tgt := 33) dX10_lot_20 (by decide) (fun c3 => ?_) (fun c3 => ?_)
      ·
        refine z_iconst dX10_lot_33 (zi32_d rfl) ?_
        exact z_iret dX10_lot_34 rfl (k3 c1 c2 c3)
      ·
        refine z_iload_n 2 dX10_lot_23 rfl ?_
        refine z_if_lt (tgt := 33) dX10_lot_24 (by decide) (fun c4 => ?_) (fun c4 => ?_)
        ·
          refine z_iconst dX10_lot_33 (zi32_d rfl) ?_
          exact z_iret dX10_lot_34 rfl (k4 c1 c2 c3 c4)
        ·
          refine z_iload_n 2 dX10_lot_27 rfl ?_
          refine z_bipush dX10_lot_28 (zi32_d rfl) (by decide) ?_
          refine z_icmp_le (tgt := 35) dX10_lot_30 (by decide) (fun c5 => ?_) (fun c5 => ?_)
          ·
            refine z_aload_n 0 dX10_lot_35 rfl ?_
            refine z_getI (k := 12) (kz := 12) pk10 dX10_lot_36 (by decide) zb_469 rfl (zOb.lit (by decide +kernel)) rfl ?_
            refine z_if_le (tgt := 65) dX10_lot_39 (by decide) (fun c6 => ?_) (fun c6 => ?_)
            ·
              refine z_aload_n 0 dX10_lot_65 rfl ?_
              refine z_getS (v := 43) (k := 5) (kz := 5) pk10 dX10_lot_66 (by decide) zb_462 rfl (zOb.lit (by decide +kernel)) rfl (by decide +kernel) ?_
              refine z_aload_n 0 dX10_lot_69 rfl ?_
              refine z_getI (k := 12) (kz := 12) pk10 dX10_lot_70 (by decide) zb_469 rfl (zOb.lit (by decide +kernel)) rfl ?_
              refine z_aaldSR (v := (113 + 14 * (h 0 12))) dX10_lot_73 (zOb.lit (by decide +kernel)) (show 0 ≤ (h 0 12) ∧ (h 0 12) < 4 from ⟨by omega, by omega⟩).1 (show 0 ≤ (h 0 12) ∧ (h 0 12) < 4 from ⟨by omega, by omega⟩).2 (zRF_rolls (show 0 ≤ (h 0 12) ∧ (h 0 12) < 4 from ⟨by omega, by omega⟩).1 (show 0 ≤ (h 0 12) ∧ (h 0 12) < 4 from ⟨by omega, by omega⟩).2) ?_
              refine z_getS (v := ((113 + 14 * (h 0 12)) + 1)) (k := 1) (kz := 1) pk6 dX10_lot_74 (by decide) zb_412 rfl (zRollO_rolls (show 0 ≤ (h 0 12) ∧ (h 0 12) < 4 from ⟨by omega, by omega⟩).1 (show 0 ≤ (h 0 12) ∧ (h 0 12) < 4 from ⟨by omega, by omega⟩).2).1 rfl (zRollO_rolls (show 0 ≤ (h 0 12) ∧ (h 0 12) < 4 from ⟨by omega, by omega⟩).1 (show 0 ≤ (h 0 12) ∧ (h 0 12) < 4 from ⟨by omega, by omega⟩).2).2.2.2.2.2.2.2.2.2.2.2.2.2.2.1 ?_
              refine z_iload_n 1 dX10_lot_77 rfl ?_
              refine z_putI (k := 0) (kz := 0) pk3 dX10_lot_78 (by decide) zb_388 rfl (zFit_int _) (zRollO_rolls (show 0 ≤ (h 0 12) ∧ (h 0 12) < 4 from ⟨by omega, by omega⟩).1 (show 0 ≤ (h 0 12) ∧ (h 0 12) < 4 from ⟨by omega, by omega⟩).2).2.1 rfl ?_
              refine z_aload_n 0 dX10_lot_81 rfl ?_
              refine z_getS (v := 43) (k := 5) (kz := 5) pk10 dX10_lot_82 (by decide) zb_462 rfl (zOb.lit (by decide +kernel)) rfl (by decide +kernel) ?_
              refine z_aload_n 0 dX10_lot_85 rfl ?_
              refine z_getIV (v := (h 0 12)) (k := 12) (kz := 12) pk10 dX10_lot_86 (by decide) zb_469 rfl (zOb.lit (by decide +kernel)) rfl (zst_ne (Or.inr (by decide))) ?_
              refine z_aaldSR (v := (113 + 14 * (h 0 12))) dX10_lot_89 (zOb.lit (by decide +kernel)) (show 0 ≤ (h 0 12) ∧ (h 0 12) < 4 from ⟨by omega, by omega⟩).1 (show 0 ≤ (h 0 12) ∧ (h 0 12) < 4 from ⟨by omega, by omega⟩).2 (zRF_rolls (show 0 ≤ (h 0 12) ∧ (h 0 12) < 4 from ⟨by omega, by omega⟩).1 (show 0 ≤ (h 0 12) ∧ (h 0 12) < 4 from ⟨by omega, by omega⟩).2) ?_
              refine z_getS (v := ((113 + 14 * (h 0 12)) + 1)) (k := 1) (kz := 1) pk6 dX10_lot_90 (by decide) zb_412 rfl (zRollO_rolls (show 0 ≤ (h 0 12) ∧ (h 0 12) < 4 from ⟨by omega, by omega⟩).1 (show 0 ≤ (h 0 12) ∧ (h 0 12) < 4 from ⟨by omega, by omega⟩).2).1 rfl (zRollO_rolls (show 0 ≤ (h 0 12) ∧ (h 0 12) < 4 from ⟨by omega, by omega⟩).1 (show 0 ≤ (h 0 12) ∧ (h 0 12) < 4 from ⟨by omega, by omega⟩).2).2.2.2.2.2.2.2.2.2.2.2.2.2.2.1 ?_
              refine z_iload_n 2 dX10_lot_93 rfl ?_
              refine z_putI (k := 1) (kz := 1) pk3 dX10_lot_94 (by decide) zb_390 rfl (zFit_int _) (zRollO_rolls (show 0 ≤ (h 0 12) ∧ (h 0 12) < 4 from ⟨by omega, by omega⟩).1 (show 0 ≤ (h 0 12) ∧ (h 0 12) < 4 from ⟨by omega, by omega⟩).2).2.1 rfl ?_
              refine z_aload_n 0 dX10_lot_97 rfl ?_
              refine z_dup dX10_lot_98 zt2 ?_
              refine z_getIV (v := (h 0 12)) (k := 12) (kz := 12) pk10 dX10_lot_99 (by decide) zb_469 rfl (zOb.lit (by decide +kernel)) rfl ((zst_ne (Or.inr (by decide))).trans (zst_ne (Or.inr (by decide)))) ?_
              refine z_iconst dX10_lot_102 (zi32_d rfl) ?_
              refine z_iaddN dX10_lot_103 (show -2147483648 ≤ (h 0 12) + 1 ∧ (h 0 12) + 1 < 2147483648 from ⟨by omega, by omega⟩).1 (show -2147483648 ≤ (h 0 12) + 1 ∧ (h 0 12) + 1 < 2147483648 from ⟨by omega, by omega⟩).2 ?_
              refine z_putI (k := 12) (kz := 12) pk10 dX10_lot_104 (by decide) zb_469 rfl (zFit_int _) (zOb.lit (by decide +kernel)) rfl ?_
              refine z_aload_n 0 dX10_lot_107 rfl ?_
              refine z_getIV (v := ((h 0 12) + 1)) (k := 12) (kz := 12) pk10 dX10_lot_108 (by decide) zb_469 rfl (zOb.lit (by decide +kernel)) rfl (zst_self _ _ _ _) ?_
              refine z_iconst dX10_lot_111 (zi32_d rfl) ?_
              refine z_isubV (v := (h 0 12)) dX10_lot_112 (by omega) (show -2147483648 ≤ (h 0 12) ∧ (h 0 12) < 2147483648 from ⟨by omega, by omega⟩).1 (show -2147483648 ≤ (h 0 12) ∧ (h 0 12) < 2147483648 from ⟨by omega, by omega⟩).2 ?_
              exact z_iret dX10_lot_113 rfl (k5 c1 c2 c3 c4 c5 c6)
            ·
              refine z_iload_n 1 dX10_lot_42 rfl ?_
              refine z_aload_n 0 dX10_lot_43 rfl ?_
              refine z_getS (v := 43) (k := 5) (kz := 5) pk10 dX10_lot_44 (by decide) zb_462 rfl (zOb.lit (by decide +kernel)) rfl (by decide +kernel) ?_
              refine z_aload_n 0 dX10_lot_47 rfl ?_
              refine z_getI (k := 12) (kz := 12) pk10 dX10_lot_48 (by decide) zb_469 rfl (zOb.lit (by decide +kernel)) rfl ?_
              refine z_iconst dX10_lot_51 (zi32_d rfl) ?_
              refine z_isubN dX10_lot_52 (show -2147483648 ≤ (h 0 12) - 1 ∧ (h 0 12) - 1 < 2147483648 from ⟨by omega, by omega⟩).1 (show -2147483648 ≤ (h 0 12) - 1 ∧ (h 0 12) - 1 < 2147483648 from ⟨by omega, by omega⟩).2 ?_
              refine z_aaldSR (v := (113 + 14 * ((h 0 12) - 1))) dX10_lot_53 (zOb.lit (by decide +kernel)) (show 0 ≤ ((h 0 12) - 1) ∧ ((h 0 12) - 1) < 4 from ⟨by omega, by omega⟩).1 (show 0 ≤ ((h 0 12) - 1) ∧ ((h 0 12) - 1) < 4 from ⟨by omega, by omega⟩).2 (zRF_rolls (show 0 ≤ ((h 0 12) - 1) ∧ ((h 0 12) - 1) < 4 from ⟨by omega, by omega⟩).1 (show 0 ≤ ((h 0 12) - 1) ∧ ((h 0 12) - 1) < 4 from ⟨by omega, by omega⟩).2) ?_
              refine z_getS (v := ((113 + 14 * ((h 0 12) - 1)) + 1)) (k := 1) (kz := 1) pk6 dX10_lot_54 (by decide) zb_412 rfl (zRollO_rolls (show 0 ≤ ((h 0 12) - 1) ∧ ((h 0 12) - 1) < 4 from ⟨by omega, by omega⟩).1 (show 0 ≤ ((h 0 12) - 1) ∧ ((h 0 12) - 1) < 4 from ⟨by omega, by omega⟩).2).1 rfl (zRollO_rolls (show 0 ≤ ((h 0 12) - 1) ∧ ((h 0 12) - 1) < 4 from ⟨by omega, by omega⟩).1 (show 0 ≤ ((h 0 12) - 1) ∧ ((h 0 12) - 1) < 4 from ⟨by omega, by omega⟩).2).2.2.2.2.2.2.2.2.2.2.2.2.2.2.1 ?_
              refine z_getI (k := 0) (kz := 0) pk3 dX10_lot_57 (by decide) zb_388 rfl (zRollO_rolls (show 0 ≤ ((h 0 12) - 1) ∧ ((h 0 12) - 1) < 4 from ⟨by omega, by omega⟩).1 (show 0 ≤ ((h 0 12) - 1) ∧ ((h 0 12) - 1) < 4 from ⟨by omega, by omega⟩).2).2.1 rfl ?_
              refine z_icmp_ge (tgt := 65) dX10_lot_60 (by decide) (fun c7 => ?_) (fun c7 => ?_)
              ·
                refine z_aload_n 0 dX10_lot_65 rfl ?_
                refine z_getS (v := 43) (k := 5) (kz := 5) pk10 dX10_lot_66 (by decide) zb_462 rfl (zOb.lit (by decide +kernel)) rfl (by decide +kernel) ?_
                refine z_aload_n 0 dX10_lot_69 rfl ?_
                refine z_getI (k := 12) (kz := 12) pk10 dX10_lot_70 (by decide) zb_469 rfl (zOb.lit (by decide +kernel)) rfl ?_
                refine z_aaldSR (v := (113 + 14 * (h 0 12))) dX10_lot_73 (zOb.lit (by decide +kernel)) (show 0 ≤ (h 0 12) ∧ (h 0 12) < 4 from ⟨by omega, by omega⟩).1 (show 0 ≤ (h 0 12) ∧ (h 0 12) < 4 from ⟨by omega, by omega⟩).2 (zRF_rolls (show 0 ≤ (h 0 12) ∧ (h 0 12) < 4 from ⟨by omega, by omega⟩).1 (show 0 ≤ (h 0 12) ∧ (h 0 12) < 4 from ⟨by omega, by omega⟩).2) ?_
                refine z_getS (v := ((113 + 14 * (h 0 12)) + 1)) (k := 1) (kz := 1) pk6 dX10_lot_74 (by decide) zb_412 rfl (zRollO_rolls (show 0 ≤ (h 0 12) ∧ (h 0 12) < 4 from ⟨by omega, by omega⟩).1 (show 0 ≤ (h 0 12) ∧ (h 0 12) < 4 from ⟨by omega, by omega⟩).2).1 rfl (zRollO_rolls (show 0 ≤ (h 0 12) ∧ (h 0 12) < 4 from ⟨by omega, by omega⟩).1 (show 0 ≤ (h 0 12) ∧ (h 0 12) < 4 from ⟨by omega, by omega⟩).2).2.2.2.2.2.2.2.2.2.2.2.2.2.2.1 ?_
                refine z_iload_n 1 dX10_lot_77 rfl ?_
                refine z_putI (k := 0) (kz := 0) pk3 dX10_lot_78 (by decide) zb_388 rfl (zFit_int _) (zRollO_rolls (show 0 ≤ (h 0 12) ∧ (h 0 12) < 4 from ⟨by omega, by omega⟩).1 (show 0 ≤ (h 0 12) ∧ (h 0 12) < 4 from ⟨by omega, by omega⟩).2).2.1 rfl ?_
                refine z_aload_n 0 dX10_lot_81 rfl ?_
                refine z_getS (v := 43) (k := 5) (kz := 5) pk10 dX10_lot_82 (by decide) zb_462 rfl (zOb.lit (by decide +kernel)) rfl (by decide +kernel) ?_
                refine z_aload_n 0 dX10_lot_85 rfl ?_
                refine z_getIV (v := (h 0 12)) (k := 12) (kz := 12) pk10 dX10_lot_86 (by decide) zb_469 rfl (zOb.lit (by decide +kernel)) rfl (zst_ne (Or.inr (by decide))) ?_
                refine z_aaldSR (v := (113 + 14 * (h 0 12))) dX10_lot_89 (zOb.lit (by decide +kernel)) (show 0 ≤ (h 0 12) ∧ (h 0 12) < 4 from ⟨by omega, by omega⟩).1 (show 0 ≤ (h 0 12) ∧ (h 0 12) < 4 from ⟨by omega, by omega⟩).2 (zRF_rolls (show 0 ≤ (h 0 12) ∧ (h 0 12) < 4 from ⟨by omega, by omega⟩).1 (show 0 ≤ (h 0 12) ∧ (h 0 12) < 4 from ⟨by omega, by omega⟩).2) ?_
                refine z_getS (v := ((113 + 14 * (h 0 12)) + 1)) (k := 1) (kz := 1) pk6 dX10_lot_90 (by decide) zb_412 rfl (zRollO_rolls (show 0 ≤ (h 0 12) ∧ (h 0 12) < 4 from ⟨by omega, by omega⟩).1 (show 0 ≤ (h 0 12) ∧ (h 0 12) < 4 from ⟨by omega, by omega⟩).2).1 rfl (zRollO_rolls (show 0 ≤ (h 0 12) ∧ (h 0 12) < 4 from ⟨by omega, by omega⟩).1 (show 0 ≤ (h 0 12) ∧ (h 0 12) < 4 from ⟨by omega, by omega⟩).2).2.2.2.2.2.2.2.2.2.2.2.2.2.2.1 ?_
                refine z_iload_n 2 dX10_lot_93 rfl ?_
                refine z_putI (k := 1) (kz := 1) pk3 dX10_lot_94 (by decide) zb_390 rfl (zFit_int _) (zRollO_rolls (show 0 ≤ (h 0 12) ∧ (h 0 12) < 4 from ⟨by omega, by omega⟩).1 (show 0 ≤ (h 0 12) ∧ (h 0 12) < 4 from ⟨by omega, by omega⟩).2).2.1 rfl ?_
                refine z_aload_n 0 dX10_lot_97 rfl ?_
                refine z_dup dX10_lot_98 zt2 ?_
                refine z_getIV (v := (h 0 12)) (k := 12) (kz := 12) pk10 dX10_lot_99 (by decide) zb_469 rfl (zOb.lit (by decide +kernel)) rfl ((zst_ne (Or.inr (by decide))).trans (zst_ne (Or.inr (by decide)))) ?_
                refine z_iconst dX10_lot_102 (zi32_d rfl) ?_
                refine z_iaddN dX10_lot_103 (show -2147483648 ≤ (h 0 12) + 1 ∧ (h 0 12) + 1 < 2147483648 from ⟨by omega, by omega⟩).1 (show -2147483648 ≤ (h 0 12) + 1 ∧ (h 0 12) + 1 < 2147483648 from ⟨by omega, by omega⟩).2 ?_
                refine z_putI (k := 12) (kz := 12) pk10 dX10_lot_104 (by decide) zb_469 rfl (zFit_int _) (zOb.lit (by decide +kernel)) rfl ?_
                refine z_aload_n 0 dX10_lot_107 rfl ?_
                refine z_getIV (v := ((h 0 12) + 1)) (k := 12) (kz := 12) pk10 dX10_lot_108 (by decide) zb_469 rfl (zOb.lit (by decide +kernel)) rfl (zst_self _ _ _ _) ?_
                refine z_iconst dX10_lot_111 (zi32_d rfl) ?_
                refine z_isubV (v := (h 0 12)) dX10_lot_112 (by omega) (show -2147483648 ≤ (h 0 12) ∧ (h 0 12) < 2147483648 from ⟨by omega, by omega⟩).1 (show -2147483648 ≤ (h 0 12) ∧ (h 0 12) < 2147483648 from ⟨by omega, by omega⟩).2 ?_
                exact z_iret dX10_lot_113 rfl (k6 c1 c2 c3 c4 c5 c6 c7)
              ·
                refine z_iconst dX10_lot_63 (zi32_d rfl) ?_
                exact z_iret dX10_lot_64 rfl (k7 c1 c2 c3 c4 c5 c6 c7)
          ·
            refine z_iconst dX10_lot_33 (zi32_d rfl) ?_
            exact z_iret dX10_lot_34 rfl (k8 c1 c2 c3 c4 c5)
theorem f_X10_lot {X : zX} {dep : Nat} (d : Int) (w : Int) {h : zH} (hl : 0 ≤ h 0 12 ∧ h 0 12 ≤ 4) (hdep : 1 ≤ dep) : zW mX10_lot X dep 0 0 239 0 (zar 0 [xR 0, xI d, xI w]) [] h (zF (if h 0 12 < 4 ∧ (0 ≤ d ∧ d ≤ 3639) ∧ h 0 10 ≤ d ∧ (0 ≤ w ∧ w ≤ 60) ∧ (h 0 12 ≤ 0 ∨ h (113 + 14 * (h 0 12 - 1) + 1) 0 ≤ d) then zst (zst (zst h ((113 + 14 * h 0 12) + 1) 0 d) ((113 + 14 * h 0 12) + 1) 1 w) 0 12 (h 0 12 + 1) else h) [xI (if h 0 12 < 4 ∧ (0 ≤ d ∧ d ≤ 3639) ∧ h 0 10 ≤ d ∧ (0 ≤ w ∧ w ≤ 60) ∧ (h 0 12 ≤ 0 ∨ h (113 + 14 * (h 0 12 - 1) + 1) 0 ≤ d) then h 0 12 else -1)]) := by
  refine bX10_lot_0 d w hl hdep ?_ ?_ ?_ ?_ ?_ ?_ ?_ ?_
  all_goals intros
  all_goals refine ⟨rfl, ?_, ?_⟩
  all_goals first
    | (rw [if_pos (by omega)])
    | (rw [if_neg (by omega)])
    | (first | rfl | (refine congrArg (fun x => [xI x]) ?_; unfold zb; (repeat' split) <;> first | rfl | omega))

set_option maxRecDepth 20000 in
theorem bX10_hands_0 {X : zX} {dep bc bs : Nat} (p : Int) (w : Int) (n : Int) {h : zH} {Q : Nat → zH → List zV → Prop} (hdep : 1 ≤ dep)
    (k1 : ¬ (0 ≤ p ∧ p < 8) → Q 239 h [xI 0])
    (k2 : 0 ≤ p ∧ p < 8 → ¬ (0 ≤ w ∧ w < 12) → Q 239 h [xI 0])
    (k3 : 0 ≤ p ∧ p < 8 → 0 ≤ w ∧ w < 12 → n < 0 → Q 239 h [xI 0])
    (k4 : 0 ≤ p ∧ p < 8 → 0 ≤ w ∧ w < 12 → ¬ (n < 0) → n ≤ 60 → Q 239 (zst h (46 + p) w n) [xI 1])
    (k5 : 0 ≤ p ∧ p < 8 → 0 ≤ w ∧ w < 12 → ¬ (n < 0) → ¬ (n ≤ 60) → Q 239 h [xI 0]) : zW mX10_hands X dep bc bs 239 0 [(0, xR 0), (1, xI p), (2, xI w), (3, xI n)] [] h Q := by
  refine z_iload_n 1 dX10_hands_0 rfl ?_
  refine z_invSF (as := [xI p]) (st := []) (ra := [xI p]) (dep' := dep - 1) (rs := [xI (zb (0 ≤ p ∧ p < 8))]) (h' := h) (f_X10_isParish p (h := h) ) dX10_hands_1 nX10_isParish zb_545 zb_546 zb_82 (by omega) zne_I (Nat.le_of_ble_eq_true rfl) (Nat.le_of_ble_eq_true rfl) rfl ?_
  refine z_ifB_eq (C := 0 ≤ p ∧ p < 8) (tgt := 24) dX10_hands_4 (by decide) (fun c1 => ?_) (fun c1 => ?_)
  ·
    refine z_iconst dX10_hands_24 (zi32_d rfl) ?_
    exact z_zret dX10_hands_25 rfl (Or.inl rfl) (k1 c1)
  ·
    refine z_iload_n 2 dX10_hands_7 rfl ?_
    refine z_invSF (as := [xI w]) (st := []) (ra := [xI w]) (dep' := dep - 1) (rs := [xI (zb (0 ≤ w ∧ w < 12))]) (h' := h) (f_X10_isFieldWeek w (h := h) ) dX10_hands_8 nX10_isFieldWeek zb_810 zb_811 zb_82 (by omega) zne_I (Nat.le_of_ble_eq_true rfl) (Nat.le_of_ble_eq_true rfl) rfl ?_
    refine z_ifB_eq (C := 0 ≤ w ∧ w < 12) (tgt := 24) dX10_hands_11 (by decide) (fun c2 => ?_) (fun c2 => ?_)
    ·
      refine z_iconst dX10_hands_24 (zi32_d rfl) ?_
      exact z_zret dX10_hands_25 rfl (Or.inl rfl) (k2 c1 c2)
    ·
      refine z_iload_n 3 dX10_hands_14 rfl ?_
      refine z_if_lt (tgt := 24) dX10_hands_15 (by decide) (fun c3 => ?_) (fun c3 => ?_)
      ·
        refine z_iconst dX10_hands_24 (zi32_d rfl) ?_
        exact z_zret dX10_hands_25 rfl (Or.inl rfl) (k3 c1 c2 c3)
      ·
        refine z_iload_n 3 dX10_hands_18 rfl ?_
        refine z_bipush dX10_hands_19 (zi32_d rfl) (by decide) ?_
        refine z_icmp_le (tgt := 26) dX10_hands_21 (by decide) (fun c4 => ?_) (fun c4 => ?_)
        ·
          refine z_aload_n 0 dX10_hands_26 rfl ?_
          refine z_getS (v := 44) (k := 6) (kz := 6) pk10 dX10_hands_27 (by decide) zb_463 rfl (zOb.lit (by decide +kernel)) rfl (by decide +kernel) ?_
          refine z_getS (v := 45) (k := 0) (kz := 0) pk0 dX10_hands_30 (by decide) zb_364 rfl (zOb.lit (by decide +kernel)) rfl (by decide +kernel) ?_
          refine z_iload_n 1 dX10_hands_33 rfl ?_
          refine z_aaldSA (v := (46 + p)) dX10_hands_34 (zOb.lit (by decide +kernel)) (show 0 ≤ p ∧ p < 8 from ⟨by omega, by omega⟩).1 (show 0 ≤ p ∧ p < 8 from ⟨by omega, by omega⟩).2 (zRF_hands (show 0 ≤ p ∧ p < 8 from ⟨by omega, by omega⟩).1 (show 0 ≤ p ∧ p < 8 from ⟨by omega, by omega⟩).2) ?_
          refine z_iload_n 2 dX10_hands_35 rfl ?_
          refine z_iload_n 3 dX10_hands_36 rfl ?_
          refine z_iast dX10_hands_37 (zOb_hands (show 0 ≤ p ∧ p < 8 from ⟨by omega, by omega⟩).1 (show 0 ≤ p ∧ p < 8 from ⟨by omega, by omega⟩).2) (show 0 ≤ w ∧ w < 12 from ⟨by omega, by omega⟩).1 (show 0 ≤ w ∧ w < 12 from ⟨by omega, by omega⟩).2 ?_
          refine z_iconst dX10_hands_38 (zi32_d rfl) ?_
          exact z_zret dX10_hands_39 rfl (Or.inr rfl) (k4 c1 c2 c3 c4)
        ·
          refine z_iconst dX10_hands_24 (zi32_d rfl) ?_
          exact z_zret dX10_hands_25 rfl (Or.inl rfl) (k5 c1 c2 c3 c4)
theorem f_X10_hands {X : zX} {dep : Nat} (p : Int) (w : Int) (n : Int) {h : zH} (hdep : 1 ≤ dep) : zW mX10_hands X dep 0 0 239 0 (zar 0 [xR 0, xI p, xI w, xI n]) [] h (zF (if (0 ≤ p ∧ p < 8) ∧ (0 ≤ w ∧ w < 12) ∧ 0 ≤ n ∧ n ≤ 60 then zst h (46 + p) w n else h) [xI (zb ((0 ≤ p ∧ p < 8) ∧ (0 ≤ w ∧ w < 12) ∧ 0 ≤ n ∧ n ≤ 60))]) := by
  refine bX10_hands_0 p w n hdep ?_ ?_ ?_ ?_ ?_
  all_goals intros
  all_goals refine ⟨rfl, ?_, ?_⟩
  all_goals first
    | (rw [if_pos (by omega)])
    | (rw [if_neg (by omega)])
    | (first | rfl | (refine congrArg (fun x => [xI x]) ?_; unfold zb; (repeat' split) <;> first | rfl | omega))

set_option maxRecDepth 20000 in
theorem bX10_gone_0 {X : zX} {dep bc bs : Nat} (p : Int) (w : Int) {h : zH} {Q : Nat → zH → List zV → Prop} (hdep : 1 ≤ dep)
    (k1 : ¬ (0 ≤ p ∧ p < 8) → Q 239 h [xI (-1)])
    (k2 : 0 ≤ p ∧ p < 8 → ¬ (0 ≤ w ∧ w < 12) → Q 239 h [xI (-1)])
    (k3 : 0 ≤ p ∧ p < 8 → 0 ≤ w ∧ w < 12 → ¬ (h 44 2) = 0 → Q 239 h [xI (h (55 + p) w)])
    (k4 : 0 ≤ p ∧ p < 8 → 0 ≤ w ∧ w < 12 → (h 44 2) = 0 → Q 239 h [xI (-1)]) : zW mX10_gone X dep bc bs 239 0 [(0, xR 0), (1, xI p), (2, xI w)] [] h Q := by
  refine z_iload_n 1 dX10_gone_0 rfl ?_
  refine z_invSF (as := [xI p]) (st := []) (ra := [xI p]) (dep' := dep - 1) (rs := [xI (zb (0 ≤ p ∧ p < 8))]) (h' := h) (f_X10_isParish p (h := h) ) dX10_gone_1 nX10_isParish zb_545 zb_546 zb_82 (by omega) zne_I (Nat.le_of_ble_eq_true rfl) (Nat.le_of_ble_eq_true rfl) rfl ?_
  refine z_ifB_eq (C := 0 ≤ p ∧ p < 8) (tgt := 24) dX10_gone_4 (by decide) (fun c1 => ?_) (fun c1 => ?_)
  ·
    refine z_iconst dX10_gone_24 (zi32_d rfl) ?_
    exact z_iret dX10_gone_25 rfl (k1 c1)
  ·
    refine z_iload_n 2 dX10_gone_7 rfl ?_
    refine z_invSF (as := [xI w]) (st := []) (ra := [xI w]) (dep' := dep - 1) (rs := [xI (zb (0 ≤ w ∧ w < 12))]) (h' := h) (f_X10_isFieldWeek w (h := h) ) dX10_gone_8 nX10_isFieldWeek zb_810 zb_811 zb_82 (by omega) zne_I (Nat.le_of_ble_eq_true rfl) (Nat.le_of_ble_eq_true rfl) rfl ?_
    refine z_ifB_eq (C := 0 ≤ w ∧ w < 12) (tgt := 24) dX10_gone_11 (by decide) (fun c2 => ?_) (fun c2 => ?_)
    ·
      refine z_iconst dX10_gone_24 (zi32_d rfl) ?_
      exact z_iret dX10_gone_25 rfl (k2 c1 c2)
    ·
      refine z_aload_n 0 dX10_gone_14 rfl ?_
      refine z_getS (v := 44) (k := 6) (kz := 6) pk10 dX10_gone_15 (by decide) zb_463 rfl (zOb.lit (by decide +kernel)) rfl (by decide +kernel) ?_
      refine z_getI (k := 2) (kz := 2) pk0 dX10_gone_18 (by decide) zb_368 rfl (zOb.lit (by decide +kernel)) rfl ?_
      refine z_if_ne (tgt := 26) dX10_gone_21 (by decide) (fun c3 => ?_) (fun c3 => ?_)
      ·
        refine z_aload_n 0 dX10_gone_26 rfl ?_
        refine z_getS (v := 44) (k := 6) (kz := 6) pk10 dX10_gone_27 (by decide) zb_463 rfl (zOb.lit (by decide +kernel)) rfl (by decide +kernel) ?_
        refine z_getS (v := 54) (k := 1) (kz := 1) pk0 dX10_gone_30 (by decide) zb_366 rfl (zOb.lit (by decide +kernel)) rfl (by decide +kernel) ?_
        refine z_iload_n 1 dX10_gone_33 rfl ?_
        refine z_aaldSA (v := (55 + p)) dX10_gone_34 (zOb.lit (by decide +kernel)) (show 0 ≤ p ∧ p < 8 from ⟨by omega, by omega⟩).1 (show 0 ≤ p ∧ p < 8 from ⟨by omega, by omega⟩).2 (zRF_gone (show 0 ≤ p ∧ p < 8 from ⟨by omega, by omega⟩).1 (show 0 ≤ p ∧ p < 8 from ⟨by omega, by omega⟩).2) ?_
        refine z_iload_n 2 dX10_gone_35 rfl ?_
        refine z_iald dX10_gone_36 (zOb_gone (show 0 ≤ p ∧ p < 8 from ⟨by omega, by omega⟩).1 (show 0 ≤ p ∧ p < 8 from ⟨by omega, by omega⟩).2) (show 0 ≤ w ∧ w < 12 from ⟨by omega, by omega⟩).1 (show 0 ≤ w ∧ w < 12 from ⟨by omega, by omega⟩).2 ?_
        exact z_iret dX10_gone_37 rfl (k3 c1 c2 c3)
      ·
        refine z_iconst dX10_gone_24 (zi32_d rfl) ?_
        exact z_iret dX10_gone_25 rfl (k4 c1 c2 c3)
theorem f_X10_gone {X : zX} {dep : Nat} (p : Int) (w : Int) {h : zH} (hdep : 1 ≤ dep) : zW mX10_gone X dep 0 0 239 0 (zar 0 [xR 0, xI p, xI w]) [] h (zF h [xI (if (0 ≤ p ∧ p < 8) ∧ (0 ≤ w ∧ w < 12) ∧ h 44 2 ≠ 0 then h (55 + p) w else -1)]) := by
  refine bX10_gone_0 p w hdep ?_ ?_ ?_ ?_
  all_goals intros
  all_goals refine ⟨rfl, ?_, ?_⟩
  all_goals first
    | (rw [if_pos (by omega)])
    | (rw [if_neg (by omega)])
    | (first | rfl | (refine congrArg (fun x => [xI x]) ?_; unfold zb; (repeat' split) <;> first | rfl | omega))

set_option maxRecDepth 20000 in
theorem bX10_mendedAt_0 {X : zX} {dep bc bs : Nat} (k : Int) {h : zH} {Q : Nat → zH → List zV → Prop} (hm : 0 ≤ h 0 9 ∧ h 0 9 ≤ 60)
    (k1 : k < 0 → Q 239 h [xI (-1)])
    (k2 : ¬ (k < 0) → k < (h 0 9) → Q 239 h [xI (h 64 k)])
    (k3 : ¬ (k < 0) → ¬ (k < (h 0 9)) → Q 239 h [xI (-1)]) : zW mX10_mendedAt X dep bc bs 239 0 [(0, xR 0), (1, xI k)] [] h Q := by
  refine z_iload_n 1 dX10_mendedAt_0 rfl ?_
  refine z_if_lt (tgt := 12) dX10_mendedAt_1 (by decide) (fun c1 => ?_) (fun c1 => ?_)
  ·
    refine z_iconst dX10_mendedAt_12 (zi32_d rfl) ?_
    refine z_goto (tgt := 22) dX10_mendedAt_13 (by decide) ?_
    exact z_iret dX10_mendedAt_22 rfl (k1 c1)
  ·
    refine z_iload_n 1 dX10_mendedAt_4 rfl ?_
    refine z_aload_n 0 dX10_mendedAt_5 rfl ?_
    refine z_getI (k := 9) (kz := 9) pk10 dX10_mendedAt_6 (by decide) zb_466 rfl (zOb.lit (by decide +kernel)) rfl ?_
    refine z_icmp_lt (tgt := 16) dX10_mendedAt_9 (by decide) (fun c2 => ?_) (fun c2 => ?_)
    ·
      refine z_aload_n 0 dX10_mendedAt_16 rfl ?_
      refine z_getS (v := 64) (k := 8) (kz := 8) pk10 dX10_mendedAt_17 (by decide) zb_465 rfl (zOb.lit (by decide +kernel)) rfl (by decide +kernel) ?_
      refine z_iload_n 1 dX10_mendedAt_20 rfl ?_
      refine z_iald dX10_mendedAt_21 (zOb.lit (by decide +kernel)) (show 0 ≤ k ∧ k < 60 from ⟨by omega, by omega⟩).1 (show 0 ≤ k ∧ k < 60 from ⟨by omega, by omega⟩).2 ?_
      exact z_iret dX10_mendedAt_22 rfl (k2 c1 c2)
    ·
      refine z_iconst dX10_mendedAt_12 (zi32_d rfl) ?_
      refine z_goto (tgt := 22) dX10_mendedAt_13 (by decide) ?_
      exact z_iret dX10_mendedAt_22 rfl (k3 c1 c2)
theorem f_X10_mendedAt {X : zX} {dep : Nat} (k : Int) {h : zH} (hm : 0 ≤ h 0 9 ∧ h 0 9 ≤ 60) : zW mX10_mendedAt X dep 0 0 239 0 (zar 0 [xR 0, xI k]) [] h (zF h [xI (if 0 ≤ k ∧ k < h 0 9 then h 64 k else -1)]) := by
  refine bX10_mendedAt_0 k hm ?_ ?_ ?_
  all_goals intros
  all_goals refine ⟨rfl, ?_, ?_⟩
  all_goals first
    | (rw [if_pos (by omega)])
    | (rw [if_neg (by omega)])
    | (first | rfl | (refine congrArg (fun x => [xI x]) ?_; unfold zb; (repeat' split) <;> first | rfl | omega))

set_option maxRecDepth 20000 in
theorem bX10_count_0 {X : zX} {dep bc bs : Nat} (w : Int) {h : zH} {Q : Nat → zH → List zV → Prop}
    (k1 : w < 0 → Q 239 h [xI (-1)])
    (k2 : 9 < w → Q 239 h [xI (-1)])
    (k3 : w = 0 → Q 239 h [xI (h 0 10)])
    (k4 : w = 1 → Q 239 h [xI (h 3 0)])
    (k5 : w = 2 → Q 239 h [xI (h 0 12)])
    (k6 : w = 3 → Q 239 h [xI (h 0 11)])
    (k7 : w = 4 → Q 239 h [xI (h 9 2)])
    (k8 : w = 5 → Q 239 h [xI (h 11 2)])
    (k9 : w = 6 → Q 239 h [xI (h 15 2)])
    (k10 : w = 7 → Q 239 h [xI (h 0 15)])
    (k11 : w = 8 → Q 239 h [xI (h 0 16)])
    (k12 : w = 9 → Q 239 h [xI (h 1 1)]) : zW mX10_count X dep bc bs 239 0 [(0, xR 0), (1, xI w)] [] h Q := by
  refine z_iload_n 1 dX10_count_0 rfl ?_
  rcases (show w < 0 ∨ 9 < w ∨ w = 0 ∨ w = 1 ∨ w = 2 ∨ w = 3 ∨ w = 4 ∨ w = 5 ∨ w = 6 ∨ w = 7 ∨ w = 8 ∨ w = 9 by omega) with c1 | c1 | c1 | c1 | c1 | c1 | c1 | c1 | c1 | c1 | c1 | c1
  ·
    refine z_tsOut (tgt := 130) dX10_count_1 (Or.inl c1) (by decide) ?_
    refine z_iconst dX10_count_130 (zi32_d rfl) ?_
    exact z_iret dX10_count_131 rfl (k1 c1)
  ·
    refine z_tsOut (tgt := 130) dX10_count_1 (Or.inr c1) (by decide) ?_
    refine z_iconst dX10_count_130 (zi32_d rfl) ?_
    exact z_iret dX10_count_131 rfl (k2 c1)
  ·
    refine z_tsIn (tgt := 56) dX10_count_1 (by omega) (by omega) (by rw [c1]; rfl) (by decide) ?_
    refine z_aload_n 0 dX10_count_56 rfl ?_
    refine z_getI (k := 10) (kz := 10) pk10 dX10_count_57 (by decide) zb_467 rfl (zOb.lit (by decide +kernel)) rfl ?_
    exact z_iret dX10_count_60 rfl (k3 c1)
  ·
    refine z_tsIn (tgt := 61) dX10_count_1 (by omega) (by omega) (by rw [c1]; rfl) (by decide) ?_
    refine z_aload_n 0 dX10_count_61 rfl ?_
    refine z_getS (v := 3) (k := 1) (kz := 1) pk10 dX10_count_62 (by decide) zb_458 rfl (zOb.lit (by decide +kernel)) rfl (by decide +kernel) ?_
    refine z_getI (k := 0) (kz := 0) pk4 dX10_count_65 (by decide) zb_156 rfl (zOb.lit (by decide +kernel)) rfl ?_
    exact z_iret dX10_count_68 rfl (k4 c1)
  ·
    refine z_tsIn (tgt := 69) dX10_count_1 (by omega) (by omega) (by rw [c1]; rfl) (by decide) ?_
    refine z_aload_n 0 dX10_count_69 rfl ?_
    refine z_getI (k := 12) (kz := 12) pk10 dX10_count_70 (by decide) zb_469 rfl (zOb.lit (by decide +kernel)) rfl ?_
    exact z_iret dX10_count_73 rfl (k5 c1)
  ·
    refine z_tsIn (tgt := 74) dX10_count_1 (by omega) (by omega) (by rw [c1]; rfl) (by decide) ?_
    refine z_aload_n 0 dX10_count_74 rfl ?_
    refine z_getI (k := 11) (kz := 11) pk10 dX10_count_75 (by decide) zb_468 rfl (zOb.lit (by decide +kernel)) rfl ?_
    exact z_iret dX10_count_78 rfl (k6 c1)
  ·
    refine z_tsIn (tgt := 79) dX10_count_1 (by omega) (by omega) (by rw [c1]; rfl) (by decide) ?_
    refine z_aload_n 0 dX10_count_79 rfl ?_
    refine z_getS (v := 3) (k := 1) (kz := 1) pk10 dX10_count_80 (by decide) zb_458 rfl (zOb.lit (by decide +kernel)) rfl (by decide +kernel) ?_
    refine z_getS (v := 9) (k := 5) (kz := 5) pk4 dX10_count_83 (by decide) zb_165 rfl (zOb.lit (by decide +kernel)) rfl (by decide +kernel) ?_
    refine z_getI (k := 2) (kz := 2) pk2 dX10_count_86 (by decide) zb_145 rfl (zOb.lit (by decide +kernel)) rfl ?_
    exact z_iret dX10_count_89 rfl (k7 c1)
  ·
    refine z_tsIn (tgt := 90) dX10_count_1 (by omega) (by omega) (by rw [c1]; rfl) (by decide) ?_
    refine z_aload_n 0 dX10_count_90 rfl ?_
    refine z_getS (v := 3) (k := 1) (kz := 1) pk10 dX10_count_91 (by decide) zb_458 rfl (zOb.lit (by decide +kernel)) rfl (by decide +kernel) ?_
    refine z_getS (v := 11) (k := 6) (kz := 6) pk4 dX10_count_94 (by decide) zb_168 rfl (zOb.lit (by decide +kernel)) rfl (by decide +kernel) ?_
    refine z_getI (k := 2) (kz := 2) pk2 dX10_count_97 (by decide) zb_145 rfl (zOb.lit (by decide +kernel)) rfl ?_
    exact z_iret dX10_count_100 rfl (k8 c1)
  ·
    refine z_tsIn (tgt := 101) dX10_count_1 (by omega) (by omega) (by rw [c1]; rfl) (by decide) ?_
    refine z_aload_n 0 dX10_count_101 rfl ?_
    refine z_getS (v := 3) (k := 1) (kz := 1) pk10 dX10_count_102 (by decide) zb_458 rfl (zOb.lit (by decide +kernel)) rfl (by decide +kernel) ?_
    refine z_getS (v := 15) (k := 8) (kz := 8) pk4 dX10_count_105 (by decide) zb_174 rfl (zOb.lit (by decide +kernel)) rfl (by decide +kernel) ?_
    refine z_getI (k := 2) (kz := 2) pk2 dX10_count_108 (by decide) zb_145 rfl (zOb.lit (by decide +kernel)) rfl ?_
    exact z_iret dX10_count_111 rfl (k9 c1)
  ·
    refine z_tsIn (tgt := 112) dX10_count_1 (by omega) (by omega) (by rw [c1]; rfl) (by decide) ?_
    refine z_aload_n 0 dX10_count_112 rfl ?_
    refine z_getI (k := 15) (kz := 15) pk10 dX10_count_113 (by decide) zb_472 rfl (zOb.lit (by decide +kernel)) rfl ?_
    exact z_iret dX10_count_116 rfl (k10 c1)
  ·
    refine z_tsIn (tgt := 117) dX10_count_1 (by omega) (by omega) (by rw [c1]; rfl) (by decide) ?_
    refine z_aload_n 0 dX10_count_117 rfl ?_
    refine z_getI (k := 16) (kz := 16) pk10 dX10_count_118 (by decide) zb_473 rfl (zOb.lit (by decide +kernel)) rfl ?_
    exact z_iret dX10_count_121 rfl (k11 c1)
  ·
    refine z_tsIn (tgt := 122) dX10_count_1 (by omega) (by omega) (by rw [c1]; rfl) (by decide) ?_
    refine z_aload_n 0 dX10_count_122 rfl ?_
    refine z_getS (v := 1) (k := 0) (kz := 0) pk10 dX10_count_123 (by decide) zb_457 rfl (zOb.lit (by decide +kernel)) rfl (by decide +kernel) ?_
    refine z_getI (k := 1) (kz := 1) pk7 dX10_count_126 (by decide) zb_122 rfl (zOb.lit (by decide +kernel)) rfl ?_
    exact z_iret dX10_count_129 rfl (k12 c1)
theorem f_X10_count {X : zX} {dep : Nat} (w : Int) {h : zH} : zW mX10_count X dep 0 0 239 0 (zar 0 [xR 0, xI w]) [] h (zF h [xI (if w = 0 then h 0 10 else if w = 1 then h 3 0 else if w = 2 then h 0 12 else if w = 3 then h 0 11 else if w = 4 then h 9 2 else if w = 5 then h 11 2 else if w = 6 then h 15 2 else if w = 7 then h 0 15 else if w = 8 then h 0 16 else if w = 9 then h 1 1 else -1)]) := by
  refine bX10_count_0 w ?_ ?_ ?_ ?_ ?_ ?_ ?_ ?_ ?_ ?_ ?_ ?_
  all_goals intros
  all_goals refine ⟨rfl, rfl, ?_⟩
  all_goals congr 2
  all_goals (repeat' split) <;> first | rfl | omega
