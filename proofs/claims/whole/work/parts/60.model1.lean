/-! the model, plain -/
set_option maxRecDepth 20000 in
theorem bX11_thrown_0 {X : zX} {dep bc bs : Nat} {h : zH} {Q : Nat → zH → List zV → Prop}
    (k1 : Q 239 h [xI (h 169 0)]) : zW mX11_thrown X dep bc bs 239 0 [(0, xR 169)] [] h Q := by
  refine z_aload_n 0 dX11_thrown_0 rfl ?_
  refine z_getI (k := 0) (kz := 0) pk11 dX11_thrown_1 (by decide) zb_1124 rfl (zOb.lit (by decide +kernel)) rfl ?_
  exact z_iret dX11_thrown_4 rfl (k1)
theorem f_X11_thrown {X : zX} {dep : Nat} {h : zH} : zW mX11_thrown X dep 0 0 239 0 (zar 0 [xR 169]) [] h (zF h [xI (h 169 0)]) := by
  refine bX11_thrown_0  ?_
  all_goals intros
  all_goals exact ⟨rfl, rfl, rfl⟩

set_option maxRecDepth 20000 in
theorem bX11_throwsIf_0 {X : zX} {dep bc bs : Nat} (b : Int) {h : zH} {Q : Nat → zH → List zV → Prop} (hb : b = 0 ∨ b = 1)
    (k1 : Q 239 (zst h 169 0 (if b = 0 then 0 else 1 : Int)) [xI b]) : zW mX11_throwsIf X dep bc bs 239 0 [(0, xR 169), (1, xI b)] [] h Q := by
  refine z_aload_n 0 dX11_throwsIf_0 rfl ?_
  refine z_iload_n 1 dX11_throwsIf_1 rfl ?_
  suffices KJ : zW mX11_throwsIf X dep bc bs 239 10 [(0, xR 169), (1, xI b)] [xI (if b = 0 then 0 else 1 : Int), xR 169] h Q by
    refine z_if_eq (tgt := 9) dX11_throwsIf_2 (by decide) (fun j1 => ?_) (fun j1 => ?_)
    ·
      refine z_iconst dX11_throwsIf_9 (zi32_d rfl) ?_
      rw [if_pos j1] at KJ
      exact KJ
    ·
      refine z_iconst dX11_throwsIf_5 (zi32_d rfl) ?_
      refine z_goto (tgt := 10) dX11_throwsIf_6 (by decide) ?_
      rw [if_neg j1] at KJ
      exact KJ
  refine z_putI (k := 0) (kz := 0) pk11 dX11_throwsIf_10 (by decide) zb_1124 rfl (zFit_int _) (zOb.lit (by decide +kernel)) rfl ?_
  refine z_iload_n 1 dX11_throwsIf_13 rfl ?_
  exact z_zret dX11_throwsIf_14 rfl hb (k1)
theorem f_X11_throwsIf {X : zX} {dep : Nat} (b : Int) {h : zH} (hb : b = 0 ∨ b = 1) : zW mX11_throwsIf X dep 0 0 239 0 (zar 0 [xR 169, xI b]) [] h (zF (zst h 169 0 b) [xI b]) := by
  refine bX11_throwsIf_0 b hb ?_
  all_goals intros
  all_goals refine ⟨rfl, ?_, rfl⟩
  all_goals congr 1
  all_goals omega

set_option maxRecDepth 20000 in
theorem bX11_taken_0 {X : zX} {dep bc bs : Nat} {h : zH} {Q : Nat → zH → List zV → Prop}
    (k1 : Q 239 (zst (zst (zst h 169 3 (h 169 2)) 169 2 0) 169 4 0) []) : zW mX11_taken X dep bc bs 239 0 [(0, xR 169)] [] h Q := by
  refine z_aload_n 0 dX11_taken_0 rfl ?_
  refine z_aload_n 0 dX11_taken_1 rfl ?_
  refine z_getI (k := 2) (kz := 2) pk11 dX11_taken_2 (by decide) zb_1126 rfl (zOb.lit (by decide +kernel)) rfl ?_
  refine z_putI (k := 3) (kz := 3) pk11 dX11_taken_5 (by decide) zb_1127 rfl (zFit_int _) (zOb.lit (by decide +kernel)) rfl ?_
  refine z_aload_n 0 dX11_taken_8 rfl ?_
  refine z_iconst dX11_taken_9 (zi32_d rfl) ?_
  refine z_putI (k := 2) (kz := 2) pk11 dX11_taken_10 (by decide) zb_1126 rfl (zFit_int _) (zOb.lit (by decide +kernel)) rfl ?_
  refine z_aload_n 0 dX11_taken_13 rfl ?_
  refine z_iconst dX11_taken_14 (zi32_d rfl) ?_
  refine z_putI (k := 4) (kz := 4) pk11 dX11_taken_15 (by decide) zb_1128 rfl (zFit_int _) (zOb.lit (by decide +kernel)) rfl ?_
  exact z_ret dX11_taken_18 rfl (k1)
theorem f_X11_taken {X : zX} {dep : Nat} {h : zH} : zW mX11_taken X dep 0 0 239 0 (zar 0 [xR 169]) [] h (zF (zst (zst (zst h 169 3 (h 169 2)) 169 2 0) 169 4 0) []) := by
  refine bX11_taken_0  ?_
  all_goals intros
  all_goals exact ⟨rfl, rfl, rfl⟩

set_option maxRecDepth 20000 in
theorem bX11_end_0 {X : zX} {dep bc bs : Nat} (n : Int) {h : zH} {Q : Nat → zH → List zV → Prop}
    (k1 : n < 0 → Q 239 (zst h 169 0 0) [xI 0])
    (k2 : ¬ (n < 0) → n ≤ (h 169 2) → Q 239 (zst (zst h 169 0 0) 169 2 n) [xI 1])
    (k3 : ¬ (n < 0) → ¬ (n ≤ (h 169 2)) → Q 239 (zst h 169 0 0) [xI 0]) : zW mX11_end X dep bc bs 239 0 [(0, xR 169), (1, xI n)] [] h Q := by
  refine z_aload_n 0 dX11_end_0 rfl ?_
  refine z_iconst dX11_end_1 (zi32_d rfl) ?_
  refine z_putI (k := 0) (kz := 0) pk11 dX11_end_2 (by decide) zb_1124 rfl (zFit_int _) (zOb.lit (by decide +kernel)) rfl ?_
  refine z_iload_n 1 dX11_end_5 rfl ?_
  refine z_if_lt (tgt := 17) dX11_end_6 (by decide) (fun c1 => ?_) (fun c1 => ?_)
  ·
    refine z_iconst dX11_end_17 (zi32_d rfl) ?_
    exact z_zret dX11_end_18 rfl (Or.inl rfl) (k1 c1)
  ·
    refine z_iload_n 1 dX11_end_9 rfl ?_
    refine z_aload_n 0 dX11_end_10 rfl ?_
    refine z_getIV (v := (h 169 2)) (k := 2) (kz := 2) pk11 dX11_end_11 (by decide) zb_1126 rfl (zOb.lit (by decide +kernel)) rfl (zst_ne (Or.inr (by decide))) ?_
    refine z_icmp_le (tgt := 19) dX11_end_14 (by decide) (fun c2 => ?_) (fun c2 => ?_)
    ·
      refine z_aload_n 0 dX11_end_19 rfl ?_
      refine z_iload_n 1 dX11_end_20 rfl ?_
      refine z_putI (k := 2) (kz := 2) pk11 dX11_end_21 (by decide) zb_1126 rfl (zFit_int _) (zOb.lit (by decide +kernel)) rfl ?_
      refine z_iconst dX11_end_24 (zi32_d rfl) ?_
      exact z_zret dX11_end_25 rfl (Or.inr rfl) (k2 c1 c2)
    ·
      refine z_iconst dX11_end_17 (zi32_d rfl) ?_
      exact z_zret dX11_end_18 rfl (Or.inl rfl) (k3 c1 c2)
theorem f_X11_end {X : zX} {dep : Nat} (n : Int) {h : zH} : zW mX11_end X dep 0 0 239 0 (zar 0 [xR 169, xI n]) [] h (zF (if 0 ≤ n ∧ n ≤ h 169 2 then zst (zst h 169 0 0) 169 2 n else zst h 169 0 0) [xI (zb (0 ≤ n ∧ n ≤ h 169 2))]) := by
  refine bX11_end_0 n ?_ ?_ ?_
  all_goals intros
  all_goals refine ⟨rfl, ?_, ?_⟩
  all_goals first
    | (rw [if_pos (by omega)])
    | (rw [if_neg (by omega)])
    | (first | rfl | (refine congrArg (fun x => [xI x]) ?_; unfold zb; (repeat' split) <;> first | rfl | omega))

set_option maxRecDepth 20000 in
theorem bX11_next_0 {X : zX} {dep bc bs : Nat} (n : Int) {h : zH} {Q : Nat → zH → List zV → Prop} (hd : 0 ≤ h 169 5 ∧ h 169 5 ≤ 3639) (hdep : 1 ≤ dep)
    (k1 : ¬ (0 ≤ n ∧ n ≤ 3639) → Q 239 (zst h 169 0 0) [xI (-1)])
    (k2 : 0 ≤ n ∧ n ≤ 3639 → ((h 169 5) + n) ≤ 3639 → Q 239 (zst (zst h 169 0 0) 169 5 ((h 169 5) + n)) [xI ((h 169 5) + n)])
    (k3 : 0 ≤ n ∧ n ≤ 3639 → ¬ (((h 169 5) + n) ≤ 3639) → Q 239 (zst h 169 0 0) [xI (-1)]) : zW mX11_next X dep bc bs 239 0 [(0, xR 169), (1, xI n)] [] h Q := by
  refine z_aload_n 0 dX11_next_0 rfl ?_
  refine z_iconst dX11_next_1 (zi32_d rfl) ?_
  refine z_putI (k := 0) (kz := 0) pk11 dX11_next_2 (by decide) zb_1124 rfl (zFit_int _) (zOb.lit (by decide +kernel)) rfl ?_
  refine z_iload_n 1 dX11_next_5 rfl ?_
  refine z_iconst dX11_next_6 (zi32_d rfl) ?_
  refine z_sipush dX11_next_7 (zi32_d rfl) (by decide) ?_
  refine z_invSF (as := [xI n, xI 0, xI 3639]) (st := []) (ra := [xI 3639, xI 0, xI n]) (dep' := dep - 1) (rs := [xI (zb (0 ≤ n ∧ n ≤ 3639))]) (h' := (zst h 169 0 0)) (f_X11_isIn n 0 3639 (h := (zst h 169 0 0)) ) dX11_next_10 nX11_isIn zb_1437 zb_1438 zb_92 (by omega) zne_I (Nat.le_of_ble_eq_true rfl) (Nat.le_of_ble_eq_true rfl) rfl ?_
  refine z_ifB_eq (C := 0 ≤ n ∧ n ≤ 3639) (tgt := 28) dX11_next_13 (by decide) (fun c1 => ?_) (fun c1 => ?_)
  ·
    refine z_iconst dX11_next_28 (zi32_d rfl) ?_
    exact z_iret dX11_next_29 rfl (k1 c1)
  ·
    refine z_aload_n 0 dX11_next_16 rfl ?_
    refine z_getIV (v := (h 169 5)) (k := 5) (kz := 5) pk11 dX11_next_17 (by decide) zb_1129 rfl (zOb.lit (by decide +kernel)) rfl (zst_ne (Or.inr (by decide))) ?_
    refine z_iload_n 1 dX11_next_20 rfl ?_
    refine z_iaddN dX11_next_21 (show -2147483648 ≤ (h 169 5) + n ∧ (h 169 5) + n < 2147483648 from ⟨by omega, by omega⟩).1 (show -2147483648 ≤ (h 169 5) + n ∧ (h 169 5) + n < 2147483648 from ⟨by omega, by omega⟩).2 ?_
    refine z_sipush dX11_next_22 (zi32_d rfl) (by decide) ?_
    refine z_icmp_le (tgt := 30) dX11_next_25 (by decide) (fun c2 => ?_) (fun c2 => ?_)
    ·
      refine z_aload_n 0 dX11_next_30 rfl ?_
      refine z_dup dX11_next_31 zt2 ?_
      refine z_getIV (v := (h 169 5)) (k := 5) (kz := 5) pk11 dX11_next_32 (by decide) zb_1129 rfl (zOb.lit (by decide +kernel)) rfl (zst_ne (Or.inr (by decide))) ?_
      refine z_iload_n 1 dX11_next_35 rfl ?_
      refine z_iaddN dX11_next_36 (show -2147483648 ≤ (h 169 5) + n ∧ (h 169 5) + n < 2147483648 from ⟨by omega, by omega⟩).1 (show -2147483648 ≤ (h 169 5) + n ∧ (h 169 5) + n < 2147483648 from ⟨by omega, by omega⟩).2 ?_
      refine z_putI (k := 5) (kz := 5) pk11 dX11_next_37 (by decide) zb_1129 rfl (zFit_int _) (zOb.lit (by decide +kernel)) rfl ?_
      refine z_aload_n 0 dX11_next_40 rfl ?_
      refine z_getIV (v := ((h 169 5) + n)) (k := 5) (kz := 5) pk11 dX11_next_41 (by decide) zb_1129 rfl (zOb.lit (by decide +kernel)) rfl (zst_self _ _ _ _) ?_
      exact z_iret dX11_next_44 rfl (k2 c1 c2)
    ·
      refine z_iconst dX11_next_28 (zi32_d rfl) ?_
      exact z_iret dX11_next_29 rfl (k3 c1 c2)
theorem f_X11_next {X : zX} {dep : Nat} (n : Int) {h : zH} (hd : 0 ≤ h 169 5 ∧ h 169 5 ≤ 3639) (hdep : 1 ≤ dep) : zW mX11_next X dep 0 0 239 0 (zar 0 [xR 169, xI n]) [] h (zF (if (0 ≤ n ∧ n ≤ 3639) ∧ h 169 5 + n ≤ 3639 then zst (zst h 169 0 0) 169 5 (h 169 5 + n) else zst h 169 0 0) [xI (if (0 ≤ n ∧ n ≤ 3639) ∧ h 169 5 + n ≤ 3639 then h 169 5 + n else -1)]) := by
  refine bX11_next_0 n hd hdep ?_ ?_ ?_
  all_goals intros
  all_goals refine ⟨rfl, ?_, ?_⟩
  all_goals first
    | (rw [if_pos (by omega)])
    | (rw [if_neg (by omega)])
    | (first | rfl | (refine congrArg (fun x => [xI x]) ?_; unfold zb; (repeat' split) <;> first | rfl | omega))

set_option maxRecDepth 20000 in
theorem bX11_isMan_0 {X : zX} {dep bc bs : Nat} (m : Int) {h : zH} {Q : Nat → zH → List zV → Prop} (hm : 0 ≤ h 169 25 ∧ h 169 25 ≤ 60) (hdep : 1 ≤ dep)
    (k1 : Q 239 h [xI (zb (0 ≤ m ∧ m ≤ ((h 169 25) - 1)))]) : zW mX11_isMan X dep bc bs 239 0 [(0, xR 169), (1, xI m)] [] h Q := by
  refine z_iload_n 1 dX11_isMan_0 rfl ?_
  refine z_iconst dX11_isMan_1 (zi32_d rfl) ?_
  refine z_aload_n 0 dX11_isMan_2 rfl ?_
  refine z_getI (k := 25) (kz := 25) pk11 dX11_isMan_3 (by decide) zb_1149 rfl (zOb.lit (by decide +kernel)) rfl ?_
  refine z_iconst dX11_isMan_6 (zi32_d rfl) ?_
  refine z_isubN dX11_isMan_7 (show -2147483648 ≤ (h 169 25) - 1 ∧ (h 169 25) - 1 < 2147483648 from ⟨by omega, by omega⟩).1 (show -2147483648 ≤ (h 169 25) - 1 ∧ (h 169 25) - 1 < 2147483648 from ⟨by omega, by omega⟩).2 ?_
  refine z_invSF (as := [xI m, xI 0, xI ((h 169 25) - 1)]) (st := []) (ra := [xI ((h 169 25) - 1), xI 0, xI m]) (dep' := dep - 1) (rs := [xI (zb (0 ≤ m ∧ m ≤ ((h 169 25) - 1)))]) (h' := h) (f_X11_isIn m 0 ((h 169 25) - 1) (h := h) ) dX11_isMan_8 nX11_isIn zb_1437 zb_1438 zb_92 (by omega) zne_I (Nat.le_of_ble_eq_true rfl) (Nat.le_of_ble_eq_true rfl) rfl ?_
  exact z_zret dX11_isMan_11 rfl (zb01 _) (k1)
theorem f_X11_isMan {X : zX} {dep : Nat} (m : Int) {h : zH} (hm : 0 ≤ h 169 25 ∧ h 169 25 ≤ 60) (hdep : 1 ≤ dep) : zW mX11_isMan X dep 0 0 239 0 (zar 0 [xR 169, xI m]) [] h (zF h [xI (zb (0 ≤ m ∧ m < h 169 25))]) := by
  refine bX11_isMan_0 m hm hdep ?_
  all_goals intros
  all_goals refine ⟨rfl, rfl, ?_⟩
  all_goals (first | rfl | (refine congrArg (fun x => [xI x]) ?_; unfold zb; (repeat' split) <;> first | rfl | omega))

set_option maxRecDepth 20000 in
theorem bX11_birth_0 {X : zX} {dep bc bs : Nat} (m : Int) (y : Int) (w : Int) {h : zH} {Q : Nat → zH → List zV → Prop} (hm : 0 ≤ h 169 25 ∧ h 169 25 ≤ 60) (hc : 0 ≤ h 169 26 ∧ h 169 26 ≤ 100) (hdep : 2 ≤ dep)
    (k1 : ¬ (0 ≤ m ∧ m < (h 169 25)) → Q 239 (zst h 169 0 0) [xI 0])
    (k2 : 0 ≤ m ∧ m < (h 169 25) → ¬ ((-60) ≤ y ∧ y ≤ 9) → Q 239 (zst h 169 0 0) [xI 0])
    (k3 : 0 ≤ m ∧ m < (h 169 25) → (-60) ≤ y ∧ y ≤ 9 → ¬ (0 ≤ w ∧ w ≤ 51) → Q 239 (zst h 169 0 0) [xI 0])
    (k4 : 0 ≤ m ∧ m < (h 169 25) → (-60) ≤ y ∧ y ≤ 9 → 0 ≤ w ∧ w ≤ 51 → ¬ (h 169 26) = 100 → Q 239 (zst (zst (zst (zst (zst h 169 0 0) 174 (h 169 26) m) 175 (h 169 26) ((52 * y) + w)) 176 (h 169 26) (h 169 5)) 169 26 ((h 169 26) + 1)) [xI 1])
    (k5 : 0 ≤ m ∧ m < (h 169 25) → (-60) ≤ y ∧ y ≤ 9 → 0 ≤ w ∧ w ≤ 51 → (h 169 26) = 100 → Q 239 (zst h 169 0 0) [xI 0]) : zW mX11_birth X dep bc bs 239 0 [(0, xR 169), (1, xI m), (2, xI y), (3, xI w)] [] h Q := by
  refine z_aload_n 0 dX11_birth_0 rfl ?_
  refine z_iconst dX11_birth_1 (zi32_d rfl) ?_
  refine z_putI (k := 0) (kz := 0) pk11 dX11_birth_2 (by decide) zb_1124 rfl (zFit_int _) (zOb.lit (by decide +kernel)) rfl ?_
  refine z_aload_n 0 dX11_birth_5 rfl ?_
  refine z_iload_n 1 dX11_birth_6 rfl ?_
  refine z_invF (ci := 11) (N := 97) (as := [xI m]) (st := []) (ra := [xI m]) (dep' := dep - 1) (rs := [xI (zb (0 ≤ m ∧ m < (h 169 25)))]) (h' := (zst h 169 0 0)) (by have e1 : (zst h 169 0 0) 169 25 = (h 169 25) := (zst_ne (Or.inr (by decide))); have z9 := f_X11_isMan (X := X) (dep := dep - 1) m (h := (zst h 169 0 0)) (by have y1 : (zst h 169 0 0) 169 25 = (h 169 25) := (zst_ne (Or.inr (by decide))); simp only [y1]; omega) (by omega); rw [e1] at z9; exact z9) dX11_birth_7 nX11_isMan zb_1455 zb_1457 zb_37 zb_92 (zOb.lit (by decide +kernel)) rfl (by omega) zne_I (Nat.le_of_ble_eq_true rfl) (Nat.le_of_ble_eq_true rfl) rfl ?_
  refine z_ifB_eq (C := 0 ≤ m ∧ m < (h 169 25)) (tgt := 43) dX11_birth_10 (by decide) (fun c1 => ?_) (fun c1 => ?_)
  ·
    refine z_iconst dX11_birth_43 (zi32_d rfl) ?_
    exact z_zret dX11_birth_44 rfl (Or.inl rfl) (k1 c1)
  ·
    refine z_iload_n 2 dX11_birth_13 rfl ?_
    refine z_bipush dX11_birth_14 (zi32_d rfl) (by decide) ?_
    refine z_bipush dX11_birth_16 (zi32_d rfl) (by decide) ?_
    refine z_invSF (as := [xI y, xI (-60), xI 9]) (st := []) (ra := [xI 9, xI (-60), xI y]) (dep' := dep - 1) (rs := [xI (zb ((-60) ≤ y ∧ y ≤ 9))]) (h' := (zst h 169 0 0)) (f_X11_isIn y (-60) 9 (h := (zst h 169 0 0)) ) dX11_birth_18 nX11_isIn zb_1437 zb_1438 zb_92 (by omega) zne_I (Nat.le_of_ble_eq_true rfl) (Nat.le_of_ble_eq_true rfl) rfl ?_
    refine z_ifB_eq (C := (-60) ≤ y ∧ y ≤ 9) (tgt := 43) dX11_birth_21 (by decide) (fun c2 => ?_) (fun c2 => ?_)
    ·
      refine z_iconst dX11_birth_43 (zi32_d rfl) ?_
      exact z_zret dX11_birth_44 rfl (Or.inl rfl) (k2 c1 c2)
    ·
      refine z_iload_n 3 dX11_birth_24 rfl ?_
      refine z_iconst dX11_birth_25 (zi32_d rfl) ?_
      refine z_bipush dX11_birth_26 (zi32_d rfl) (by decide) ?_
      refine z_invSF (as := [xI w, xI 0, xI 51]) (st := []) (ra := [xI 51, xI 0, xI w]) (dep' := dep - 1) (rs := [xI (zb (0 ≤ w ∧ w ≤ 51))]) (h' := (zst h 169 0 0)) (f_X11_isIn w 0 51 (h := (zst h 169 0 0)) ) dX11_birth_28 nX11_isIn zb_1437 zb_1438 zb_92 (by omega) zne_I (Nat.le_of_ble_eq_true rfl) (Nat.le_of_ble_eq_true rfl) rfl ?_
      refine z_ifB_eq (C := 0 ≤ w ∧ w ≤ 51) (tgt := 43) dX11_birth_31 (by decide) (fun c3 => ?_) (fun c3 => ?_)
      ·
        refine z_iconst dX11_birth_43 (zi32_d rfl) ?_
        exact z_zret dX11_birth_44 rfl (Or.inl rfl) (k3 c1 c2 c3)
      ·
        refine z_aload_n 0 dX11_birth_34 rfl ?_
        refine z_getIV (v := (h 169 26)) (k := 26) (kz := 26) pk11 dX11_birth_35 (by decide) zb_1150 rfl (zOb.lit (by decide +kernel)) rfl (zst_ne (Or.inr (by decide))) ?_
        refine z_bipush dX11_birth_38 (zi32_d rfl) (by decide) ?_
        refine z_icmp_ne (tgt := 45) dX11_birth_40 (by decide) (fun c4 => ?_) (fun c4 => ?_)
        ·
          refine z_aload_n 0 dX11_birth_45 rfl ?_
          refine z_getS (v := 174) (k := 9) (kz := 9) pk11 dX11_birth_46 (by decide) zb_1133 rfl (zOb.lit (by decide +kernel)) rfl (by decide +kernel) ?_
          refine z_aload_n 0 dX11_birth_49 rfl ?_
          refine z_getIV (v := (h 169 26)) (k := 26) (kz := 26) pk11 dX11_birth_50 (by decide) zb_1150 rfl (zOb.lit (by decide +kernel)) rfl (zst_ne (Or.inr (by decide))) ?_
          refine z_iload_n 1 dX11_birth_53 rfl ?_
          refine z_iast dX11_birth_54 (zOb.lit (by decide +kernel)) (show 0 ≤ (h 169 26) ∧ (h 169 26) < 100 from ⟨by omega, by omega⟩).1 (show 0 ≤ (h 169 26) ∧ (h 169 26) < 100 from ⟨by omega, by omega⟩).2 ?_
          refine z_aload_n 0 dX11_birth_55 rfl ?_
          refine z_getS (v := 175) (k := 10) (kz := 10) pk11 dX11_birth_56 (by decide) zb_1134 rfl (zOb.lit (by decide +kernel)) rfl (by decide +kernel) ?_
          refine z_aload_n 0 dX11_birth_59 rfl ?_
          refine z_getIV (v := (h 169 26)) (k := 26) (kz := 26) pk11 dX11_birth_60 (by decide) zb_1150 rfl (zOb.lit (by decide +kernel)) rfl ((zst_ne (Or.inl (by decide))).trans (zst_ne (Or.inr (by decide)))) ?_
          refine z_bipush dX11_birth_63 (zi32_d rfl) (by decide) ?_
          refine z_iload_n 2 dX11_birth_65 rfl ?_
          refine z_imulN dX11_birth_66 (show -2147483648 ≤ 52 * y ∧ 52 * y < 2147483648 from ⟨by omega, by omega⟩).1 (show -2147483648 ≤ 52 * y ∧ 52 * y < 2147483648 from ⟨by omega, by omega⟩).2 ?_
          refine z_iload_n 3 dX11_birth_67 rfl ?_
          refine z_iaddN dX11_birth_68 (show -2147483648 ≤ (52 * y) + w ∧ (52 * y) + w < 2147483648 from ⟨by omega, by omega⟩).1 (show -2147483648 ≤ (52 * y) + w ∧ (52 * y) + w < 2147483648 from ⟨by omega, by omega⟩).2 ?_
          refine z_iast dX11_birth_69 (zOb.lit (by decide +kernel)) (show 0 ≤ (h 169 26) ∧ (h 169 26) < 100 from ⟨by omega, by omega⟩).1 (show 0 ≤ (h 169 26) ∧ (h 169 26) < 100 from ⟨by omega, by omega⟩).2 ?_
          refine z_aload_n 0 dX11_birth_70 rfl ?_
          refine z_getS (v := 176) (k := 11) (kz := 11) pk11 dX11_birth_71 (by decide) zb_1135 rfl (zOb.lit (by decide +kernel)) rfl (by decide +kernel) ?_
          refine z_aload_n 0 dX11_birth_74 rfl ?_
          refine z_getIV (v := (h 169 26)) (k := 26) (kz := 26) pk11 dX11_birth_75 (by decide) zb_1150 rfl (zOb.lit (by decide +kernel)) rfl ((zst_ne (Or.inl (by decide))).trans ((zst_ne (Or.inl (by decide))).trans (zst_ne (Or.inr (by decide))))) ?_
          refine z_aload_n 0 dX11_birth_78 rfl ?_
          refine z_getIV (v := (h 169 5)) (k := 5) (kz := 5) pk11 dX11_birth_79 (by decide) zb_1129 rfl (zOb.lit (by decide +kernel)) rfl ((zst_ne (Or.inl (by decide))).trans ((zst_ne (Or.inl (by decide))).trans (zst_ne (Or.inr (by decide))))) ?_
          refine z_iast dX11_birth_82 (zOb.lit (by decide +kernel)) (show 0 ≤ (h 169 26) ∧ (h 169 26) < 100 from ⟨by omega, by omega⟩).1 (show 0 ≤ (h 169 26) ∧ (h 169 26) < 100 from ⟨by omega, by omega⟩).2 ?_
          refine z_aload_n 0 dX11_birth_83 rfl ?_
          refine z_dup dX11_birth_84 zt2 ?_
          refine z_getIV (v := (h 169 26)) (k := 26) (kz := 26) pk11 dX11_birth_85 (by decide) zb_1150 rfl (zOb.lit (by decide +kernel)) rfl ((zst_ne (Or.inl (by decide))).trans ((zst_ne (Or.inl (by decide))).trans ((zst_ne (Or.inl (by decide))).trans (zst_ne (Or.inr (by decide)))))) ?_
          refine z_iconst dX11_birth_88 (zi32_d rfl) ?_
          refine z_iaddN dX11_birth_89 (show -2147483648 ≤ (h 169 26) + 1 ∧ (h 169 26) + 1 < 2147483648 from ⟨by omega, by omega⟩).1 (show -2147483648 ≤ (h 169 26) + 1 ∧ (h 169 26) + 1 < 2147483648 from ⟨by omega, by omega⟩).2 ?_
          refine z_putI (k := 26) (kz := 26) pk11 dX11_birth_90 (by decide) zb_1150 rfl (zFit_int _) (zOb.lit (by decide +kernel)) rfl ?_
          refine z_iconst dX11_birth_93 (zi32_d rfl) ?_
          exact z_zret dX11_birth_94 rfl (Or.inr rfl) (k4 c1 c2 c3 c4)
        ·
          refine z_iconst dX11_birth_43 (zi32_d rfl) ?_
          exact z_zret dX11_birth_44 rfl (Or.inl rfl) (k5 c1 c2 c3 c4)
theorem f_X11_birth {X : zX} {dep : Nat} (m : Int) (y : Int) (w : Int) {h : zH} (hm : 0 ≤ h 169 25 ∧ h 169 25 ≤ 60) (hc : 0 ≤ h 169 26 ∧ h 169 26 ≤ 100) (hdep : 2 ≤ dep) : zW mX11_birth X dep 0 0 239 0 (zar 0 [xR 169, xI m, xI y, xI w]) [] h (zF (if ((0 ≤ m ∧ m < h 169 25) ∧ (-60 ≤ y ∧ y ≤ 9) ∧ 0 ≤ w ∧ w ≤ 51) ∧ h 169 26 ≠ 100 then zst (zst (zst (zst (zst h 169 0 0) 174 (h 169 26) m) 175 (h 169 26) (52 * y + w)) 176 (h 169 26) (h 169 5)) 169 26 (h 169 26 + 1) else zst h 169 0 0) [xI (zb (((0 ≤ m ∧ m < h 169 25) ∧ (-60 ≤ y ∧ y ≤ 9) ∧ 0 ≤ w ∧ w ≤ 51) ∧ h 169 26 ≠ 100))]) := by
  refine bX11_birth_0 m y w hm hc hdep ?_ ?_ ?_ ?_ ?_
  all_goals intros
  all_goals refine ⟨rfl, ?_, ?_⟩
  all_goals first
    | (rw [if_pos (by omega)])
    | (rw [if_neg (by omega)])
    | (first | rfl | (refine congrArg (fun x => [xI x]) ?_; unfold zb; (repeat' split) <;> first | rfl | omega))

set_option maxRecDepth 20000 in
theorem bX11_fact_0 {X : zX} {dep bc bs : Nat} (m : Int) (k : Int) (v : Int) (a : Int) (b : Int) {h : zH} {Q : Nat → zH → List zV → Prop} (hm : 0 ≤ h 169 25 ∧ h 169 25 ≤ 60) (hc : 0 ≤ h 169 27 ∧ h 169 27 ≤ 240) (hdep : 2 ≤ dep)
    (k1 : ¬ (0 ≤ m ∧ m < (h 169 25)) → Q 239 (zst h 169 0 0) [xI 0])
    (k2 : 0 ≤ m ∧ m < (h 169 25) → ¬ (0 ≤ k ∧ k ≤ 5) → Q 239 (zst h 169 0 0) [xI 0])
    (k3 : 0 ≤ m ∧ m < (h 169 25) → 0 ≤ k ∧ k ≤ 5 → ¬ (0 ≤ v ∧ v ≤ (if 2 ≤ k then if 5 ≤ k then 250 else 1 else 9 : Int)) → Q 239 (zst h 169 0 0) [xI 0])
    (k4 : 0 ≤ m ∧ m < (h 169 25) → 0 ≤ k ∧ k ≤ 5 → 0 ≤ v ∧ v ≤ (if 2 ≤ k then if 5 ≤ k then 250 else 1 else 9 : Int) → ¬ (0 ≤ a ∧ a ≤ 3639) → Q 239 (zst h 169 0 0) [xI 0])
    (k5 : 0 ≤ m ∧ m < (h 169 25) → 0 ≤ k ∧ k ≤ 5 → 0 ≤ v ∧ v ≤ (if 2 ≤ k then if 5 ≤ k then 250 else 1 else 9 : Int) → 0 ≤ a ∧ a ≤ 3639 → ¬ (a ≤ b ∧ b ≤ 3639) → Q 239 (zst h 169 0 0) [xI 0])
    (k6 : 0 ≤ m ∧ m < (h 169 25) → 0 ≤ k ∧ k ≤ 5 → 0 ≤ v ∧ v ≤ (if 2 ≤ k then if 5 ≤ k then 250 else 1 else 9 : Int) → 0 ≤ a ∧ a ≤ 3639 → a ≤ b ∧ b ≤ 3639 → ¬ (h 169 27) = 240 → Q 239 (zst (zst (zst (zst (zst (zst (zst (zst h 169 0 0) 177 (h 169 27) m) 178 (h 169 27) k) 179 (h 169 27) v) 180 (h 169 27) a) 181 (h 169 27) b) 182 (h 169 27) (h 169 5)) 169 27 ((h 169 27) + 1)) [xI 1])
    (k7 : 0 ≤ m ∧ m < (h 169 25) → 0 ≤ k ∧ k ≤ 5 → 0 ≤ v ∧ v ≤ (if 2 ≤ k then if 5 ≤ k then 250 else 1 else 9 : Int) → 0 ≤ a ∧ a ≤ 3639 → a ≤ b ∧ b ≤ 3639 → (h 169 27) = 240 → Q 239 (zst h 169 0 0) [xI 0]) : zW mX11_fact X dep bc bs 239 0 [(0, xR 169), (1, xI m), (2, xI k), (3, xI v), (4, xI a), (5, xI b)] [] h Q := by
  refine z_aload_n 0 dX11_fact_0 rfl ?_
  refine z_iconst dX11_fact_1 (zi32_d rfl) ?_
  refine z_putI (k := 0) (kz := 0) pk11 dX11_fact_2 (by decide) zb_1124 rfl (zFit_int _) (zOb.lit (by decide +kernel)) rfl ?_
  refine z_aload_n 0 dX11_fact_5 rfl ?_
  refine z_iload_n 1 dX11_fact_6 rfl ?_
  refine z_invF (ci := 11) (N := 97) (as := [xI m]) (st := []) (ra := [xI m]) (dep' := dep - 1) (rs := [xI (zb (0 ≤ m ∧ m < (h 169 25)))]) (h' := (zst h 169 0 0)) (by have e1 : (zst h 169 0 0) 169 25 = (h 169 25) := (zst_ne (Or.inr (by decide))); have z9 := f_X11_isMan (X := X) (dep := dep - 1) m (h := (zst h 169 0 0)) (by have y1 : (zst h 169 0 0) 169 25 = (h 169 25) := (zst_ne (Or.inr (by decide))); simp only [y1]; omega) (by omega); rw [e1] at z9; exact z9) dX11_fact_7 nX11_isMan zb_1455 zb_1457 zb_37 zb_92 (zOb.lit (by decide +kernel)) rfl (by omega) zne_I (Nat.le_of_ble_eq_true rfl) (Nat.le_of_ble_eq_true rfl) rfl ?_
  refine z_ifB_eq (C := 0 ≤ m ∧ m < (h 169 25)) (tgt := 87) dX11_fact_10 (by decide) (fun c1 => ?_) (fun c1 => ?_)
  ·
    refine z_iconst dX11_fact_87 (zi32_d rfl) ?_
    exact z_zret dX11_fact_88 rfl (Or.inl rfl) (k1 c1)
  ·
    refine z_iload_n 2 dX11_fact_13 rfl ?_
    refine z_iconst dX11_fact_14 (zi32_d rfl) ?_
    refine z_iconst dX11_fact_15 (zi32_d rfl) ?_
    refine z_invSF (as := [xI k, xI 0, xI 5]) (st := []) (ra := [xI 5, xI 0, xI k]) (dep' := dep - 1) (rs := [xI (zb (0 ≤ k ∧ k ≤ 5))]) (h' := (zst h 169 0 0)) (f_X11_isIn k 0 5 (h := (zst h 169 0 0)) ) dX11_fact_16 nX11_isIn zb_1437 zb_1438 zb_92 (by omega) zne_I (Nat.le_of_ble_eq_true rfl) (Nat.le_of_ble_eq_true rfl) rfl ?_
    refine z_ifB_eq (C := 0 ≤ k ∧ k ≤ 5) (tgt := 87) dX11_fact_19 (by decide) (fun c2 => ?_) (fun c2 => ?_)
    ·
      refine z_iconst dX11_fact_87 (zi32_d rfl) ?_
      exact z_zret dX11_fact_88 rfl (Or.inl rfl) (k2 c1 c2)
    ·
      refine z_iload_n 3 dX11_fact_22 rfl ?_
      refine z_iconst dX11_fact_23 (zi32_d rfl) ?_
      refine z_iload_n 2 dX11_fact_24 rfl ?_
      refine z_iconst dX11_fact_25 (zi32_d rfl) ?_
      suffices KJ : zW mX11_fact X dep bc bs 239 46 [(0, xR 169), (1, xI m), (2, xI k), (3, xI v), (4, xI a), (5, xI b)] [xI (if 2 ≤ k then if 5 ≤ k then 250 else 1 else 9 : Int), xI 0, xI v] (zst h 169 0 0) Q by
        refine z_icmp_ge (tgt := 34) dX11_fact_26 (by decide) (fun j1 => ?_) (fun j1 => ?_)
        ·
          refine z_iload_n 2 dX11_fact_34 rfl ?_
          refine z_iconst dX11_fact_35 (zi32_d rfl) ?_
          refine z_icmp_ge (tgt := 43) dX11_fact_36 (by decide) (fun j2 => ?_) (fun j2 => ?_)
          ·
            refine z_sipush dX11_fact_43 (zi32_d rfl) (by decide) ?_
            rw [if_pos j1] at KJ
            rw [if_pos j2] at KJ
            exact KJ
          ·
            refine z_iconst dX11_fact_39 (zi32_d rfl) ?_
            refine z_goto (tgt := 46) dX11_fact_40 (by decide) ?_
            rw [if_pos j1] at KJ
            rw [if_neg j2] at KJ
            exact KJ
        ·
          refine z_bipush dX11_fact_29 (zi32_d rfl) (by decide) ?_
          refine z_goto (tgt := 46) dX11_fact_31 (by decide) ?_
          rw [if_neg j1] at KJ
          exact KJ
      refine z_invSF (as := [xI v, xI 0, xI (if 2 ≤ k then if 5 ≤ k then 250 else 1 else 9 : Int)]) (st := []) (ra := [xI (if 2 ≤ k then if 5 ≤ k then 250 else 1 else 9 : Int), xI 0, xI v]) (dep' := dep - 1) (rs := [xI (zb (0 ≤ v ∧ v ≤ (if 2 ≤ k then if 5 ≤ k then 250 else 1 else 9 : Int)))]) (h' := (zst h 169 0 0)) (f_X11_isIn v 0 (if 2 ≤ k then if 5 ≤ k then 250 else 1 else 9 : Int) (h := (zst h 169 0 0)) ) dX11_fact_46 nX11_isIn zb_1437 zb_1438 zb_92 (by omega) zne_I (Nat.le_of_ble_eq_true rfl) (Nat.le_of_ble_eq_true rfl) rfl ?_
      refine z_ifB_eq (C := 0 ≤ v ∧ v ≤ (if 2 ≤ k then if 5 ≤ k then 250 else 1 else 9 : Int)) (tgt := 87) dX11_fact_49 (by decide) (fun c3 => ?_) (fun c3 => ?_)
      ·
        refine z_iconst dX11_fact_87 (zi32_d rfl) ?_
        exact z_zret dX11_fact_88 rfl (Or.inl rfl) (k3 c1 c2 c3)
      ·
        refine z_iload 4 dX11_fact_52 rfl ?_
        refine z_iconst dX11_fact_54 (zi32_d rfl) ?_
        refine z_sipush dX11_fact_55 (zi32_d rfl) (by decide) ?_
        refine z_invSF (as := [xI a, xI 0, xI 3639]) (st := []) (ra := [xI 3639, xI 0, xI a]) (dep' := dep - 1) (rs := [xI (zb (0 ≤ a ∧ a ≤ 3639))]) (h' := (zst h 169 0 0)) (f_X11_isIn a 0 3639 (h := (zst h 169 0 0)) ) dX11_fact_58 nX11_isIn zb_1437 zb_1438 zb_92 (by omega) zne_I (Nat.le_of_ble_eq_true rfl) (Nat.le_of_ble_eq_true rfl) rfl ?_
        refine z_ifB_eq (C := 0 ≤ a ∧ a ≤ 3639) (tgt := 87) dX11_fact_61 (by decide) (fun c4 => ?_) (fun c4 => ?_)
        ·
          refine z_iconst dX11_fact_87 (zi32_d rfl) ?_
          exact z_zret dX11_fact_88 rfl (Or.inl rfl) (k4 c1 c2 c3 c4)
        ·
          refine z_iload 5 dX11_fact_64 rfl ?_
          refine z_iload 4 dX11_fact_66 rfl ?_
          refine z_sipush dX11_fact_68 (zi32_d rfl) (by decide) ?_
          refine z_invSF (as := [xI b, xI a, xI 3639]) (st := []) (ra := [xI 3639, xI a, xI b]) (dep' := dep - 1) (rs := [xI (zb (a ≤ b ∧ b ≤ 3639))]) (h' := (zst h 169 0 0)) (f_X11_isIn b a 3639 (h := (zst h 169 0 0)) ) dX11_fact_71 nX11_isIn zb_1437 zb_1438 zb_92 (by omega) zne_I (Nat.le_of_ble_eq_true rfl) (Nat.le_of_ble_eq_true rfl) rfl ?_
          refine z_ifB_eq (C := a ≤ b ∧ b ≤ 3639) (tgt := 87) dX11_fact_74 (by decide) (fun c5 => ?_) (fun c5 => ?_)
          ·
            refine z_iconst dX11_fact_87 (zi32_d rfl) ?_
            exact z_zret dX11_fact_88 rfl (Or.inl rfl) (k5 c1 c2 c3 c4 c5)
          ·
            refine z_aload_n 0 dX11_fact_77 rfl ?_
            refine z_getIV (v := (h 169 27)) (k := 27) (kz := 27) pk11 dX11_fact_78 (by decide) zb_1151 rfl (zOb.lit (by decide +kernel)) rfl (zst_ne (Or.inr (by decide))) ?_
            refine z_sipush dX11_fact_81 (zi32_d rfl) (by decide) ?_
            refine z_icmp_ne (tgt := 89) dX11_fact_84 (by decide) (fun c6 => ?_) (fun c6 => ?_)
            ·
              refine z_aload_n 0 dX11_fact_89 rfl ?_
              refine z_getS (v := 177) (k := 12) (kz := 12) pk11 dX11_fact_90 (by decide) zb_1136 rfl (zOb.lit (by decide +kernel)) rfl (by decide +kernel) ?_
              refine z_aload_n 0 dX11_fact_93 rfl ?_
              refine z_getIV (v := (h 169 27)) (k := 27) (kz := 27) pk11 dX11_fact_94 (by decide) zb_1151 rfl (zOb.lit (by decide +kernel)) rfl (zst_ne (Or.inr (by decide))) ?_
              refine z_iload_n 1 dX11_fact_97 rfl ?_
              refine z_iast dX11_fact_98 (zOb.lit (by decide +kernel)) (show 0 ≤ (h 169 27) ∧ (h 169 27) < 240 from ⟨by omega, by omega⟩).1 (show 0 ≤ (h 169 27) ∧ (h 169 27) < 240 from ⟨by omega, by omega⟩).2 ?_
              refine z_aload_n 0 dX11_fact_99 rfl ?_
              refine z_getS (v := 178) (k := 13) (kz := 13) pk11 dX11_fact_100 (by decide) zb_1137 rfl (zOb.lit (by decide +kernel)) rfl (by decide +kernel) ?_
              refine z_aload_n 0 dX11_fact_103 rfl ?_
              refine z_getIV (v := (h 169 27)) (k := 27) (kz := 27) pk11 dX11_fact_104 (by decide) zb_1151 rfl (zOb.lit (by decide +kernel)) rfl ((zst_ne (Or.inl (by decide))).trans (zst_ne (Or.inr (by decide)))) ?_
              refine z_iload_n 2 dX11_fact_107 rfl ?_
              refine z_iast dX11_fact_108 (zOb.lit (by decide +kernel)) (show 0 ≤ (h 169 27) ∧ (h 169 27) < 240 from ⟨by omega, by omega⟩).1 (show 0 ≤ (h 169 27) ∧ (h 169 27) < 240 from ⟨by omega, by omega⟩).2 ?_
              refine z_aload_n 0 dX11_fact_109 rfl ?_
              refine z_getS (v := 179) (k := 14) (kz := 14) pk11 dX11_fact_110 (by decide) zb_1138 rfl (zOb.lit (by decide +kernel)) rfl (by decide +kernel) ?_
              refine z_aload_n 0 dX11_fact_113 rfl ?_
              refine z_getIV (v := (h 169 27)) (k := 27) (kz := 27) pk11 dX11_fact_114 (by decide) zb_1151 rfl (zOb.lit (by decide +kernel)) rfl ((zst_ne (Or.inl (by decide))).trans ((zst_ne (Or.inl (by decide))).trans (zst_ne (Or.inr (by decide))))) ?_
              refine z_iload_n 3 dX11_fact_117 rfl ?_
              refine z_iast dX11_fact_118 (zOb.lit (by decide +kernel)) (show 0 ≤ (h 169 27) ∧ (h 169 27) < 240 from ⟨by omega, by omega⟩).1 (show 0 ≤ (h 169 27) ∧ (h 169 27) < 240 from ⟨by omega, by omega⟩).2 ?_
              refine z_aload_n 0 dX11_fact_119 rfl ?_
              refine z_getS (v := 180) (k := 15) (kz := 15) pk11 dX11_fact_120 (by decide) zb_1139 rfl (zOb.lit (by decide +kernel)) rfl (by decide +kernel) ?_
              refine z_aload_n 0 dX11_fact_123 rfl ?_
              refine z_getIV (v := (h 169 27)) (k := 27) (kz := 27) pk11 dX11_fact_124 (by decide) zb_1151 rfl (zOb.lit (by decide +kernel)) rfl ((zst_ne (Or.inl (by decide))).trans ((zst_ne (Or.inl (by decide))).trans ((zst_ne (Or.inl (by decide))).trans (zst_ne (Or.inr (by decide)))))) ?_
              refine z_iload 4 dX11_fact_127 rfl ?_
              refine z_iast dX11_fact_129 (zOb.lit (by decide +kernel)) (show 0 ≤ (h 169 27) ∧ (h 169 27) < 240 from ⟨by omega, by omega⟩).1 (show 0 ≤ (h 169 27) ∧ (h 169 27) < 240 from ⟨by omega, by omega⟩).2 ?_
              refine z_aload_n 0 dX11_fact_130 rfl ?_
              refine z_getS (v := 181) (k := 16) (kz := 16) pk11 dX11_fact_131 (by decide) zb_1140 rfl (zOb.lit (by decide +kernel)) rfl (by decide +kernel) ?_
              refine z_aload_n 0 dX11_fact_134 rfl ?_
              refine z_getIV (v := (h 169 27)) (k := 27) (kz := 27) pk11 dX11_fact_135 (by decide) zb_1151 rfl (zOb.lit (by decide +kernel)) rfl ((zst_ne (Or.inl (by decide))).trans ((zst_ne (Or.inl (by decide))).trans ((zst_ne (Or.inl (by decide))).trans ((zst_ne (Or.inl (by decide))).trans (zst_ne (Or.inr (by decide))))))) ?_
              refine z_iload 5 dX11_fact_138 rfl ?_
              refine z_iast dX11_fact_140 (zOb.lit (by decide +kernel)) (show 0 ≤ (h 169 27) ∧ (h 169 27) < 240 from ⟨by omega, by omega⟩).1 (show 0 ≤ (h 169 27) ∧ (h 169 27) < 240 from ⟨by omega, by omega⟩).2 ?_
              refine z_aload_n 0 dX11_fact_141 rfl ?_
              refine z_getS (v := 182) (k := 17) (kz := 17) pk11 dX11_fact_142 (by decide) zb_1141 rfl (zOb.lit (by decide +kernel)) rfl (by decide +kernel) ?_
              refine z_aload_n 0 dX11_fact_145 rfl ?_
              refine z_getIV (v := (h 169 27)) (k := 27) (kz := 27) pk11 dX11_fact_146 (by decide) zb_1151 rfl (zOb.lit (by decide +kernel)) rfl ((zst_ne (Or.inl (by decide))).trans ((zst_ne (Or.inl (by decide))).trans ((zst_ne (Or.inl (by decide))).trans ((zst_ne (Or.inl (by decide))).trans ((zst_ne (Or.inl (by decide))).trans (zst_ne (Or.inr (by decide)))))))) ?_
              refine z_aload_n 0 dX11_fact_149 rfl ?_
              refine z_getIV (v := (h 169 5)) (k := 5) (kz := 5) pk11 dX11_fact_150 (by decide) zb_1129 rfl (zOb.lit (by decide +kernel)) rfl ((zst_ne (Or.inl (by decide))).trans ((zst_ne (Or.inl (by decide))).trans ((zst_ne (Or.inl (by decide))).trans ((zst_ne (Or.inl (by decide))).trans ((zst_ne (Or.inl (by decide))).trans (zst_ne (Or.inr (by decide)))))))) ?_
              refine z_iast dX11_fact_153 (zOb.lit (by decide +kernel)) (show 0 ≤ (h 169 27) ∧ (h 169 27) < 240 from ⟨by omega, by omega⟩).1 (show 0 ≤ (h 169 27) ∧ (h 169 27) < 240 from ⟨by omega, by omega⟩).2 ?_
              refine z_aload_n 0 dX11_fact_154 rfl ?_
              refine z_dup dX11_fact_155 zt2 ?_
              refine z_getIV (v := (h 169 27)) (k := 27) (kz := 27) pk11 dX11_fact_156 (by decide) zb_1151 rfl (zOb.lit (by decide +kernel)) rfl ((zst_ne (Or.inl (by decide))).trans ((zst_ne (Or.inl (by decide))).trans ((zst_ne (Or.inl (by decide))).trans ((zst_ne (Or.inl (by decide))).trans ((zst_ne (Or.inl (by decide))).trans ((zst_ne (Or.inl (by decide))).trans (zst_ne (Or.inr (by decide))))))))) ?_
              refine z_iconst dX11_fact_159 (zi32_d rfl) ?_
              refine z_iaddN dX11_fact_160 (show -2147483648 ≤ (h 169 27) + 1 ∧ (h 169 27) + 1 < 2147483648 from ⟨by omega, by omega⟩).1 (show -2147483648 ≤ (h 169 27) + 1 ∧ (h 169 27) + 1 < 2147483648 from ⟨by omega, by omega⟩).2 ?_
              refine z_putI (k := 27) (kz := 27) pk11 dX11_fact_161 (by decide) zb_1151 rfl (zFit_int _) (zOb.lit (by decide +kernel)) rfl ?_
              refine z_iconst dX11_fact_164 (zi32_d rfl) ?_
              exact z_zret dX11_fact_165 rfl (Or.inr rfl) (k6 c1 c2 c3 c4 c5 c6)
            ·
              refine z_iconst dX11_fact_87 (zi32_d rfl) ?_
              exact z_zret dX11_fact_88 rfl (Or.inl rfl) (k7 c1 c2 c3 c4 c5 c6)
theorem f_X11_fact {X : zX} {dep : Nat} (m : Int) (k : Int) (v : Int) (a : Int) (b : Int) {h : zH} (hm : 0 ≤ h 169 25 ∧ h 169 25 ≤ 60) (hc : 0 ≤ h 169 27 ∧ h 169 27 ≤ 240) (hdep : 2 ≤ dep) : zW mX11_fact X dep 0 0 239 0 (zar 0 [xR 169, xI m, xI k, xI v, xI a, xI b]) [] h (zF (if ((0 ≤ m ∧ m < h 169 25) ∧ (0 ≤ v ∧ ((k = 0 ∨ k = 1) ∧ v ≤ 9 ∨ (k = 2 ∨ k = 3 ∨ k = 4) ∧ v ≤ 1 ∨ k = 5 ∧ v ≤ 250)) ∧ (0 ≤ a ∧ a ≤ 3639) ∧ (a ≤ b ∧ b ≤ 3639)) ∧ h 169 27 ≠ 240 then zst (zst (zst (zst (zst (zst (zst (zst h 169 0 0) 177 (h 169 27) m) 178 (h 169 27) k) 179 (h 169 27) v) 180 (h 169 27) a) 181 (h 169 27) b) 182 (h 169 27) (h 169 5)) 169 27 (h 169 27 + 1) else zst h 169 0 0) [xI (zb (((0 ≤ m ∧ m < h 169 25) ∧ (0 ≤ v ∧ ((k = 0 ∨ k = 1) ∧ v ≤ 9 ∨ (k = 2 ∨ k = 3 ∨ k = 4) ∧ v ≤ 1 ∨ k = 5 ∧ v ≤ 250)) ∧ (0 ≤ a ∧ a ≤ 3639) ∧ (a ≤ b ∧ b ≤ 3639)) ∧ h 169 27 ≠ 240))]) := by
  refine bX11_fact_0 m k v a b hm hc hdep ?_ ?_ ?_ ?_ ?_ ?_ ?_
  all_goals intros
  all_goals refine ⟨rfl, ?_, ?_⟩
  all_goals first
    | (rw [if_pos (by omega)])
    | (rw [if_neg (by omega)])
    | (first | rfl | (refine congrArg (fun x => [xI x]) ?_; unfold zb; (repeat' split) <;> first | rfl | omega))

set_option maxRecDepth 20000 in
theorem bX11_exam_0 {X : zX} {dep bc bs : Nat} (m : Int) (d : Int) (g : Int) {h : zH} {Q : Nat → zH → List zV → Prop} (hm : 0 ≤ h 169 25 ∧ h 169 25 ≤ 60) (hc : 0 ≤ h 169 28 ∧ h 169 28 ≤ 60) (hdep : 2 ≤ dep)
    (k1 : ¬ (0 ≤ m ∧ m < (h 169 25)) → Q 239 (zst h 169 0 0) [xI 0])
    (k2 : 0 ≤ m ∧ m < (h 169 25) → ¬ (0 ≤ d ∧ d ≤ 7) → Q 239 (zst h 169 0 0) [xI 0])
    (k3 : 0 ≤ m ∧ m < (h 169 25) → 0 ≤ d ∧ d ≤ 7 → ¬ (0 ≤ g ∧ g ≤ 9) → Q 239 (zst h 169 0 0) [xI 0])
    (k4 : 0 ≤ m ∧ m < (h 169 25) → 0 ≤ d ∧ d ≤ 7 → 0 ≤ g ∧ g ≤ 9 → ¬ (h 169 28) = 60 → Q 239 (zst (zst (zst (zst (zst (zst h 169 0 0) 183 (h 169 28) m) 184 (h 169 28) d) 185 (h 169 28) g) 186 (h 169 28) (h 169 5)) 169 28 ((h 169 28) + 1)) [xI 1])
    (k5 : 0 ≤ m ∧ m < (h 169 25) → 0 ≤ d ∧ d ≤ 7 → 0 ≤ g ∧ g ≤ 9 → (h 169 28) = 60 → Q 239 (zst h 169 0 0) [xI 0]) : zW mX11_exam X dep bc bs 239 0 [(0, xR 169), (1, xI m), (2, xI d), (3, xI g)] [] h Q := by
  refine z_aload_n 0 dX11_exam_0 rfl ?_
  refine z_iconst dX11_exam_1 (zi32_d rfl) ?_
  refine z_putI (k := 0) (kz := 0) pk11 dX11_exam_2 (by decide) zb_1124 rfl (zFit_int _) (zOb.lit (by decide +kernel)) rfl ?_
  refine z_aload_n 0 dX11_exam_5 rfl ?_
  refine z_iload_n 1 dX11_exam_6 rfl ?_
  refine z_invF (ci := 11) (N := 97) (as := [xI m]) (st := []) (ra := [xI m]) (dep' := dep - 1) (rs := [xI (zb (0 ≤ m ∧ m < (h 169 25)))]) (h' := (zst h 169 0 0)) (by have e1 : (zst h 169 0 0) 169 25 = (h 169 25) := (zst_ne (Or.inr (by decide))); have z9 := f_X11_isMan (X := X) (dep := dep - 1) m (h := (zst h 169 0 0)) (by have y1 : (zst h 169 0 0) 169 25 = (h 169 25) := (zst_ne (Or.inr (by decide))); simp only [y1]; omega) (by omega); rw [e1] at z9; exact z9) dX11_exam_7 nX11_isMan zb_1455 zb_1457 zb_37 zb_92 (zOb.lit (by decide +kernel)) rfl (by omega) zne_I (Nat.le_of_ble_eq_true rfl) (Nat.le_of_ble_eq_true rfl) rfl ?_
  refine z_ifB_eq (C := 0 ≤ m ∧ m < (h 169 25)) (tgt := 42) dX11_exam_10 (by decide) (fun c1 => ?_) (fun c1 => ?_)
  ·
    refine z_iconst dX11_exam_42 (zi32_d rfl) ?_
    exact z_zret dX11_exam_43 rfl (Or.inl rfl) (k1 c1)
  ·
    refine z_iload_n 2 dX11_exam_13 rfl ?_
    refine z_iconst dX11_exam_14 (zi32_d rfl) ?_
    refine z_bipush dX11_exam_15 (zi32_d rfl) (by decide) ?_
    refine z_invSF (as := [xI d, xI 0, xI 7]) (st := []) (ra := [xI 7, xI 0, xI d]) (dep' := dep - 1) (rs := [xI (zb (0 ≤ d ∧ d ≤ 7))]) (h' := (zst h 169 0 0)) (f_X11_isIn d 0 7 (h := (zst h 169 0 0)) ) dX11_exam_17 nX11_isIn zb_1437 zb_1438 zb_92 (by omega) zne_I (Nat.le_of_ble_eq_true rfl) (Nat.le_of_ble_eq_true rfl) rfl ?_
    refine z_ifB_eq (C := 0 ≤ d ∧ d ≤ 7) (tgt := 42) dX11_exam_20 (by decide) (fun c2 => ?_) (fun c2 => ?_)
    ·
      refine z_iconst dX11_exam_42 (zi32_d rfl) ?_
      exact z_zret dX11_exam_43 rfl (Or.inl rfl) (k2 c1 c2)
    ·
      refine z_iload_n 3 dX11_exam_23 rfl ?_
      refine z_iconst dX11_exam_24 (zi32_d rfl) ?_
      refine z_bipush dX11_exam_25 (zi32_d rfl) (by decide) ?_
      refine z_invSF (as := [xI g, xI 0, xI 9]) (st := []) (ra := [xI 9, xI 0, xI g]) (dep' := dep - 1) (rs := [xI (zb (0 ≤ g ∧ g ≤ 9))]) (h' := (zst h 169 0 0)) (f_X11_isIn g 0 9 (h := (zst h 169 0 0)) ) dX11_exam_27 nX11_isIn zb_1437 zb_1438 zb_92 (by omega) zne_I (Nat.le_of_ble_eq_true rfl) (Nat.le_of_ble_eq_true rfl) rfl ?_
      refine z_ifB_eq (C := 0 ≤ g ∧ g ≤ 9) (tgt := 42) dX11_exam_30 (by decide) (fun c3 => ?_) (fun c3 => ?_)
      ·
        refine z_iconst dX11_exam_42 (zi32_d rfl) ?_
        exact z_zret dX11_exam_43 rfl (Or.inl rfl) (k3 c1 c2 c3)
      ·
        refine z_aload_n 0 dX11_exam_33 rfl ?_
        refine z_getIV (v := (h 169 28)) (k := 28) (kz := 28) pk11 dX11_exam_34 (by decide) zb_1152 rfl (zOb.lit (by decide +kernel)) rfl (zst_ne (Or.inr (by decide))) ?_
        refine z_bipush dX11_exam_37 (zi32_d rfl) (by decide) ?_
        refine z_icmp_ne (tgt := 44) dX11_exam_39 (by decide) (fun c4 => ?_) (fun c4 => ?_)
        ·
          refine z_aload_n 0 dX11_exam_44 rfl ?_
          refine z_getS (v := 183) (k := 18) (kz := 18) pk11 dX11_exam_45 (by decide) zb_1142 rfl (zOb.lit (by decide +kernel)) rfl (by decide +kernel) ?_
          refine z_aload_n 0 dX11_exam_48 rfl ?_
          refine z_getIV (v := (h 169 28)) (k := 28) (kz := 28) pk11 dX11_exam_49 (by decide) zb_1152 rfl (zOb.lit (by decide +kernel)) rfl (zst_ne (Or.inr (by decide))) ?_
          refine z_iload_n 1 dX11_exam_52 rfl ?_
          refine z_iast dX11_exam_53 (zOb.lit (by decide +kernel)) (show 0 ≤ (h 169 28) ∧ (h 169 28) < 60 from ⟨by omega, by omega⟩).1 (show 0 ≤ (h 169 28) ∧ (h 169 28) < 60 from ⟨by omega, by omega⟩).2 ?_
          refine z_aload_n 0 dX11_exam_54 rfl ?_
          refine z_getS (v := 184) (k := 19) (kz := 19) pk11 dX11_exam_55 (by decide) zb_1143 rfl (zOb.lit (by decide +kernel)) rfl (by decide +kernel) ?_
          refine z_aload_n 0 dX11_exam_58 rfl ?_
          refine z_getIV (v := (h 169 28)) (k := 28) (kz := 28) pk11 dX11_exam_59 (by decide) zb_1152 rfl (zOb.lit (by decide +kernel)) rfl ((zst_ne (Or.inl (by decide))).trans (zst_ne (Or.inr (by decide)))) ?_
          refine z_iload_n 2 dX11_exam_62 rfl ?_
          refine z_iast dX11_exam_63 (zOb.lit (by decide +kernel)) (show 0 ≤ (h 169 28) ∧ (h 169 28) < 60 from ⟨by omega, by omega⟩).1 (show 0 ≤ (h 169 28) ∧ (h 169 28) < 60 from ⟨by omega, by omega⟩).2 ?_
          refine z_aload_n 0 dX11_exam_64 rfl ?_
          refine z_getS (v := 185) (k := 20) (kz := 20) pk11 dX11_exam_65 (by decide) zb_1144 rfl (zOb.lit (by decide +kernel)) rfl (by decide +kernel) ?_
          refine z_aload_n 0 dX11_exam_68 rfl ?_
          refine z_getIV (v := (h 169 28)) (k := 28) (kz := 28) pk11 dX11_exam_69 (by decide) zb_1152 rfl (zOb.lit (by decide +kernel)) rfl ((zst_ne (Or.inl (by decide))).trans ((zst_ne (Or.inl (by decide))).trans (zst_ne (Or.inr (by decide))))) ?_
          refine z_iload_n 3 dX11_exam_72 rfl ?_
          refine z_iast dX11_exam_73 (zOb.lit (by decide +kernel)) (show 0 ≤ (h 169 28) ∧ (h 169 28) < 60 from ⟨by omega, by omega⟩).1 (show 0 ≤ (h 169 28) ∧ (h 169 28) < 60 from ⟨by omega, by omega⟩).2 ?_
          refine z_aload_n 0 dX11_exam_74 rfl ?_
          refine z_getS (v := 186) (k := 21) (kz := 21) pk11 dX11_exam_75 (by decide) zb_1145 rfl (zOb.lit (by decide +kernel)) rfl (by decide +kernel) ?_
          refine z_aload_n 0 dX11_exam_78 rfl ?_
          refine z_getIV (v := (h 169 28)) (k := 28) (kz := 28) pk11 dX11_exam_79 (by decide) zb_1152 rfl (zOb.lit (by decide +kernel)) rfl ((zst_ne (Or.inl (by decide))).trans ((zst_ne (Or.inl (by decide))).trans ((zst_ne (Or.inl (by decide))).trans (zst_ne (Or.inr (by decide)))))) ?_
          refine z_aload_n 0 dX11_exam_82 rfl ?_
          refine z_getIV (v := (h 169 5)) (k := 5) (kz := 5) pk11 dX11_exam_83 (by decide) zb_1129 rfl (zOb.lit (by decide +kernel)) rfl ((zst_ne (Or.inl (by decide))).trans ((zst_ne (Or.inl (by decide))).trans ((zst_ne (Or.inl (by decide))).trans (zst_ne (Or.inr (by decide)))))) ?_
          refine z_iast dX11_exam_86 (zOb.lit (by decide +kernel)) (show 0 ≤ (h 169 28) ∧ (h 169 28) < 60 from ⟨by omega, by omega⟩).1 (show 0 ≤ (h 169 28) ∧ (h 169 28) < 60 from ⟨by omega, by omega⟩).2 ?_
          refine z_aload_n 0 dX11_exam_87 rfl ?_
          refine z_dup dX11_exam_88 zt2 ?_
          refine z_getIV (v := (h 169 28)) (k := 28) (kz := 28) pk11 dX11_exam_89 (by decide) zb_1152 rfl (zOb.lit (by decide +kernel)) rfl ((zst_ne (Or.inl (by decide))).trans ((zst_ne (Or.inl (by decide))).trans ((zst_ne (Or.inl (by decide))).trans ((zst_ne (Or.inl (by decide))).trans (zst_ne (Or.inr (by decide))))))) ?_
          refine z_iconst dX11_exam_92 (zi32_d rfl) ?_
          refine z_iaddN dX11_exam_93 (show -2147483648 ≤ (h 169 28) + 1 ∧ (h 169 28) + 1 < 2147483648 from ⟨by omega, by omega⟩).1 (show -2147483648 ≤ (h 169 28) + 1 ∧ (h 169 28) + 1 < 2147483648 from ⟨by omega, by omega⟩).2 ?_
          refine z_putI (k := 28) (kz := 28) pk11 dX11_exam_94 (by decide) zb_1152 rfl (zFit_int _) (zOb.lit (by decide +kernel)) rfl ?_
          refine z_iconst dX11_exam_97 (zi32_d rfl) ?_
          exact z_zret dX11_exam_98 rfl (Or.inr rfl) (k4 c1 c2 c3 c4)
        ·
          refine z_iconst dX11_exam_42 (zi32_d rfl) ?_
          exact z_zret dX11_exam_43 rfl (Or.inl rfl) (k5 c1 c2 c3 c4)
theorem f_X11_exam {X : zX} {dep : Nat} (m : Int) (d : Int) (g : Int) {h : zH} (hm : 0 ≤ h 169 25 ∧ h 169 25 ≤ 60) (hc : 0 ≤ h 169 28 ∧ h 169 28 ≤ 60) (hdep : 2 ≤ dep) : zW mX11_exam X dep 0 0 239 0 (zar 0 [xR 169, xI m, xI d, xI g]) [] h (zF (if ((0 ≤ m ∧ m < h 169 25) ∧ (0 ≤ d ∧ d ≤ 7) ∧ 0 ≤ g ∧ g ≤ 9) ∧ h 169 28 ≠ 60 then zst (zst (zst (zst (zst (zst h 169 0 0) 183 (h 169 28) m) 184 (h 169 28) d) 185 (h 169 28) g) 186 (h 169 28) (h 169 5)) 169 28 (h 169 28 + 1) else zst h 169 0 0) [xI (zb (((0 ≤ m ∧ m < h 169 25) ∧ (0 ≤ d ∧ d ≤ 7) ∧ 0 ≤ g ∧ g ≤ 9) ∧ h 169 28 ≠ 60))]) := by
  refine bX11_exam_0 m d g hm hc hdep ?_ ?_ ?_ ?_ ?_
  all_goals intros
  all_goals refine ⟨rfl, ?_, ?_⟩
  all_goals first
    | (rw [if_pos (by omega)])
    | (rw [if_neg (by omega)])
    | (first | rfl | (refine congrArg (fun x => [xI x]) ?_; unfold zb; (repeat' split) <;> first | rfl | omega))

set_option maxRecDepth 20000 in
theorem bX11_same_0 {X : zX} {dep bc bs : Nat} (a : Int) (b : Int) {h : zH} {Q : Nat → zH → List zV → Prop} (hm : 0 ≤ h 169 25 ∧ h 169 25 ≤ 60) (hc : 0 ≤ h 169 29 ∧ h 169 29 ≤ 40) (hdep : 2 ≤ dep)
    (k1 : ¬ (0 ≤ a ∧ a < (h 169 25)) → Q 239 (zst h 169 0 0) [xI 0])
    (k2 : 0 ≤ a ∧ a < (h 169 25) → ¬ (0 ≤ b ∧ b < (h 169 25)) → Q 239 (zst h 169 0 0) [xI 0])
    (k3 : 0 ≤ a ∧ a < (h 169 25) → 0 ≤ b ∧ b < (h 169 25) → a = b → Q 239 (zst h 169 0 0) [xI 0])
    (k4 : 0 ≤ a ∧ a < (h 169 25) → 0 ≤ b ∧ b < (h 169 25) → ¬ (a = b) → ¬ (h 169 29) = 40 → Q 239 (zst (zst (zst (zst (zst h 169 0 0) 187 (h 169 29) a) 188 (h 169 29) b) 189 (h 169 29) (h 169 5)) 169 29 ((h 169 29) + 1)) [xI 1])
    (k5 : 0 ≤ a ∧ a < (h 169 25) → 0 ≤ b ∧ b < (h 169 25) → ¬ (a = b) → (h 169 29) = 40 → Q 239 (zst h 169 0 0) [xI 0]) : zW mX11_same X dep bc bs 239 0 [(0, xR 169), (1, xI a), (2, xI b)] [] h Q := by
  refine z_aload_n 0 dX11_same_0 rfl ?_
  refine z_iconst dX11_same_1 (zi32_d rfl) ?_
  refine z_putI (k := 0) (kz := 0) pk11 dX11_same_2 (by decide) zb_1124 rfl (zFit_int _) (zOb.lit (by decide +kernel)) rfl ?_
  refine z_aload_n 0 dX11_same_5 rfl ?_
  refine z_iload_n 1 dX11_same_6 rfl ?_
  refine z_invF (ci := 11) (N := 97) (as := [xI a]) (st := []) (ra := [xI a]) (dep' := dep - 1) (rs := [xI (zb (0 ≤ a ∧ a < (h 169 25)))]) (h' := (zst h 169 0 0)) (by have e1 : (zst h 169 0 0) 169 25 = (h 169 25) := (zst_ne (Or.inr (by decide))); have z9 := f_X11_isMan (X := X) (dep := dep - 1) a (h := (zst h 169 0 0)) (by have y1 : (zst h 169 0 0) 169 25 = (h 169 25) := (zst_ne (Or.inr (by decide))); simp only [y1]; omega) (by omega); rw [e1] at z9; exact z9) dX11_same_7 nX11_isMan zb_1455 zb_1457 zb_37 zb_92 (zOb.lit (by decide +kernel)) rfl (by omega) zne_I (Nat.le_of_ble_eq_true rfl) (Nat.le_of_ble_eq_true rfl) rfl ?_
  refine z_ifB_eq (C := 0 ≤ a ∧ a < (h 169 25)) (tgt := 35) dX11_same_10 (by decide) (fun c1 => ?_) (fun c1 => ?_)
  ·
    refine z_iconst dX11_same_35 (zi32_d rfl) ?_
    exact z_zret dX11_same_36 rfl (Or.inl rfl) (k1 c1)
  ·
    refine z_aload_n 0 dX11_same_13 rfl ?_
    refine z_iload_n 2 dX11_same_14 rfl ?_
    refine z_invF (ci := 11) (N := 97) (as := [xI b]) (st := []) (ra := [xI b]) (dep' := dep - 1) (rs := [xI (zb (0 ≤ b ∧ b < (h 169 25)))]) (h' := (zst h 169 0 0)) (by have e1 : (zst h 169 0 0) 169 25 = (h 169 25) := (zst_ne (Or.inr (by decide))); have z9 := f_X11_isMan (X := X) (dep := dep - 1) b (h := (zst h 169 0 0)) (by have y1 : (zst h 169 0 0) 169 25 = (h 169 25) := (zst_ne (Or.inr (by decide))); simp only [y1]; omega) (by omega); rw [e1] at z9; exact z9) dX11_same_15 nX11_isMan zb_1455 zb_1457 zb_37 zb_92 (zOb.lit (by decide +kernel)) rfl (by omega) zne_I (Nat.le_of_ble_eq_true rfl) (Nat.le_of_ble_eq_true rfl) rfl ?_
    refine z_ifB_eq (C := 0 ≤ b ∧ b < (h 169 25)) (tgt := 35) dX11_same_18 (by decide) (fun c2 => ?_) (fun c2 => ?_)
    ·
      refine z_iconst dX11_same_35 (zi32_d rfl) ?_
      exact z_zret dX11_same_36 rfl (Or.inl rfl) (k2 c1 c2)
    ·
      refine z_iload_n 1 dX11_same_21 rfl ?_
      refine z_iload_n 2 dX11_same_22 rfl ?_
      refine z_icmp_eq (tgt := 35) dX11_same_23 (by decide) (fun c3 => ?_) (fun c3 => ?_)
      ·
        refine z_iconst dX11_same_35 (zi32_d rfl) ?_
        exact z_zret dX11_same_36 rfl (Or.inl rfl) (k3 c1 c2 c3)
      ·
        refine z_aload_n 0 dX11_same_26 rfl ?_
        refine z_getIV (v := (h 169 29)) (k := 29) (kz := 29) pk11 dX11_same_27 (by decide) zb_1153 rfl (zOb.lit (by decide +kernel)) rfl (zst_ne (Or.inr (by decide))) ?_
        refine z_bipush dX11_same_30 (zi32_d rfl) (by decide) ?_
        refine z_icmp_ne (tgt := 37) dX11_same_32 (by decide) (fun c4 => ?_) (fun c4 => ?_)
        ·
          refine z_aload_n 0 dX11_same_37 rfl ?_
          refine z_getS (v := 187) (k := 22) (kz := 22) pk11 dX11_same_38 (by decide) zb_1146 rfl (zOb.lit (by decide +kernel)) rfl (by decide +kernel) ?_
          refine z_aload_n 0 dX11_same_41 rfl ?_
          refine z_getIV (v := (h 169 29)) (k := 29) (kz := 29) pk11 dX11_same_42 (by decide) zb_1153 rfl (zOb.lit (by decide +kernel)) rfl (zst_ne (Or.inr (by decide))) ?_
          refine z_iload_n 1 dX11_same_45 rfl ?_
          refine z_iast dX11_same_46 (zOb.lit (by decide +kernel)) (show 0 ≤ (h 169 29) ∧ (h 169 29) < 40 from ⟨by omega, by omega⟩).1 (show 0 ≤ (h 169 29) ∧ (h 169 29) < 40 from ⟨by omega, by omega⟩).2 ?_
          refine z_aload_n 0 dX11_same_47 rfl ?_
          refine z_getS (v := 188) (k := 23) (kz := 23) pk11 dX11_same_48 (by decide) zb_1147 rfl (zOb.lit (by decide +kernel)) rfl (by decide +kernel) ?_
          refine z_aload_n 0 dX11_same_51 rfl ?_
          refine z_getIV (v := (h 169 29)) (k := 29) (kz := 29) pk11 dX11_same_52 (by decide) zb_1153 rfl (zOb.lit (by decide +kernel)) rfl ((zst_ne (Or.inl (by decide))).trans (zst_ne (Or.inr (by decide)))) ?_
          refine z_iload_n 2 dX11_same_55 rfl ?_
          refine z_iast dX11_same_56 (zOb.lit (by decide +kernel)) (show 0 ≤ (h 169 29) ∧ (h 169 29) < 40 from ⟨by omega, by omega⟩).1 (show 0 ≤ (h 169 29) ∧ (h 169 29) < 40 from ⟨by omega, by omega⟩).2 ?_
          refine z_aload_n 0 dX11_same_57 rfl ?_
          refine z_getS (v := 189) (k := 24) (kz := 24) pk11 dX11_same_58 (by decide) zb_1148 rfl (zOb.lit (by decide +kernel)) rfl (by decide +kernel) ?_
          refine z_aload_n 0 dX11_same_61 rfl ?_
          refine z_getIV (v := (h 169 29)) (k := 29) (kz := 29) pk11 dX11_same_62 (by decide) zb_1153 rfl (zOb.lit (by decide +kernel)) rfl ((zst_ne (Or.inl (by decide))).trans ((zst_ne (Or.inl (by decide))).trans (zst_ne (Or.inr (by decide))))) ?_
          refine z_aload_n 0 dX11_same_65 rfl ?_
          refine z_getIV (v := (h 169 5)) (k := 5) (kz := 5) pk11 dX11_same_66 (by decide) zb_1129 rfl (zOb.lit (by decide +kernel)) rfl ((zst_ne (Or.inl (by decide))).trans ((zst_ne (Or.inl (by decide))).trans (zst_ne (Or.inr (by decide))))) ?_
          refine z_iast dX11_same_69 (zOb.lit (by decide +kernel)) (show 0 ≤ (h 169 29) ∧ (h 169 29) < 40 from ⟨by omega, by omega⟩).1 (show 0 ≤ (h 169 29) ∧ (h 169 29) < 40 from ⟨by omega, by omega⟩).2 ?_
          refine z_aload_n 0 dX11_same_70 rfl ?_
          refine z_dup dX11_same_71 zt2 ?_
          refine z_getIV (v := (h 169 29)) (k := 29) (kz := 29) pk11 dX11_same_72 (by decide) zb_1153 rfl (zOb.lit (by decide +kernel)) rfl ((zst_ne (Or.inl (by decide))).trans ((zst_ne (Or.inl (by decide))).trans ((zst_ne (Or.inl (by decide))).trans (zst_ne (Or.inr (by decide)))))) ?_
          refine z_iconst dX11_same_75 (zi32_d rfl) ?_
          refine z_iaddN dX11_same_76 (show -2147483648 ≤ (h 169 29) + 1 ∧ (h 169 29) + 1 < 2147483648 from ⟨by omega, by omega⟩).1 (show -2147483648 ≤ (h 169 29) + 1 ∧ (h 169 29) + 1 < 2147483648 from ⟨by omega, by omega⟩).2 ?_
          refine z_putI (k := 29) (kz := 29) pk11 dX11_same_77 (by decide) zb_1153 rfl (zFit_int _) (zOb.lit (by decide +kernel)) rfl ?_
          refine z_iconst dX11_same_80 (zi32_d rfl) ?_
          exact z_zret dX11_same_81 rfl (Or.inr rfl) (k4 c1 c2 c3 c4)
        ·
          refine z_iconst dX11_same_35 (zi32_d rfl) ?_
          exact z_zret dX11_same_36 rfl (Or.inl rfl) (k5 c1 c2 c3 c4)
theorem f_X11_same {X : zX} {dep : Nat} (a : Int) (b : Int) {h : zH} (hm : 0 ≤ h 169 25 ∧ h 169 25 ≤ 60) (hc : 0 ≤ h 169 29 ∧ h 169 29 ≤ 40) (hdep : 2 ≤ dep) : zW mX11_same X dep 0 0 239 0 (zar 0 [xR 169, xI a, xI b]) [] h (zF (if ((0 ≤ a ∧ a < h 169 25) ∧ (0 ≤ b ∧ b < h 169 25) ∧ a ≠ b) ∧ h 169 29 ≠ 40 then zst (zst (zst (zst (zst h 169 0 0) 187 (h 169 29) a) 188 (h 169 29) b) 189 (h 169 29) (h 169 5)) 169 29 (h 169 29 + 1) else zst h 169 0 0) [xI (zb (((0 ≤ a ∧ a < h 169 25) ∧ (0 ≤ b ∧ b < h 169 25) ∧ a ≠ b) ∧ h 169 29 ≠ 40))]) := by
  refine bX11_same_0 a b hm hc hdep ?_ ?_ ?_ ?_ ?_
  all_goals intros
  all_goals refine ⟨rfl, ?_, ?_⟩
  all_goals first
    | (rw [if_pos (by omega)])
    | (rw [if_neg (by omega)])
    | (first | rfl | (refine congrArg (fun x => [xI x]) ?_; unfold zb; (repeat' split) <;> first | rfl | omega))

set_option maxRecDepth 20000 in
theorem bX11_peek_0 {X : zX} {dep bc bs : Nat} {h : zH} {Q : Nat → zH → List zV → Prop} (hp : 0 ≤ h 169 4 ∧ h 169 3 ≤ 340)
    (k1 : (h 169 3) ≤ (h 169 4) → Q 239 h [xI (-1)])
    (k2 : ¬ ((h 169 3) ≤ (h 169 4)) → Q 239 h [xI (zand (h 170 (h 169 4)) 255)]) : zW mX11_peek X dep bc bs 239 0 [(0, xR 169)] [] h Q := by
  refine z_aload_n 0 dX11_peek_0 rfl ?_
  refine z_getI (k := 4) (kz := 4) pk11 dX11_peek_1 (by decide) zb_1128 rfl (zOb.lit (by decide +kernel)) rfl ?_
  refine z_aload_n 0 dX11_peek_4 rfl ?_
  refine z_getI (k := 3) (kz := 3) pk11 dX11_peek_5 (by decide) zb_1127 rfl (zOb.lit (by decide +kernel)) rfl ?_
  refine z_icmp_ge (tgt := 27) dX11_peek_8 (by decide) (fun c1 => ?_) (fun c1 => ?_)
  ·
    refine z_iconst dX11_peek_27 (zi32_d rfl) ?_
    exact z_iret dX11_peek_28 rfl (k1 c1)
  ·
    refine z_aload_n 0 dX11_peek_11 rfl ?_
    refine z_getS (v := 170) (k := 1) (kz := 1) pk11 dX11_peek_12 (by decide) zb_1125 rfl (zOb.lit (by decide +kernel)) rfl (by decide +kernel) ?_
    refine z_aload_n 0 dX11_peek_15 rfl ?_
    refine z_getI (k := 4) (kz := 4) pk11 dX11_peek_16 (by decide) zb_1128 rfl (zOb.lit (by decide +kernel)) rfl ?_
    refine z_bald dX11_peek_19 (zOb.lit (by decide +kernel)) (show 0 ≤ (h 169 4) ∧ (h 169 4) < 340 from ⟨by omega, by omega⟩).1 (show 0 ≤ (h 169 4) ∧ (h 169 4) < 340 from ⟨by omega, by omega⟩).2 ?_
    refine z_sipush dX11_peek_20 (zi32_d rfl) (by decide) ?_
    refine z_iand dX11_peek_23 ?_
    refine z_goto (tgt := 28) dX11_peek_24 (by decide) ?_
    exact z_iret dX11_peek_28 rfl (k2 c1)
theorem f_X11_peek {X : zX} {dep : Nat} {h : zH} (hp : 0 ≤ h 169 4 ∧ h 169 3 ≤ 340) : zW mX11_peek X dep 0 0 239 0 (zar 0 [xR 169]) [] h (zF h [xI (if h 169 4 < h 169 3 then zand (h 170 (h 169 4)) 255 else -1)]) := by
  refine bX11_peek_0  hp ?_ ?_
  all_goals intros
  all_goals refine ⟨rfl, rfl, ?_⟩
  all_goals first | (rw [if_pos (by omega)]) | (rw [if_neg (by omega)])

set_option maxRecDepth 20000 in
theorem bX11_bad_0 {X : zX} {dep bc bs : Nat} (k : Int) {h : zH} {Q : Nat → zH → List zV → Prop}
    (k1 : Q 239 (zst (zst h 169 53 k) 169 54 (h 169 50)) [xI 0]) : zW mX11_bad X dep bc bs 239 0 [(0, xR 169), (1, xI k)] [] h Q := by
  refine z_aload_n 0 dX11_bad_0 rfl ?_
  refine z_iload_n 1 dX11_bad_1 rfl ?_
  refine z_putI (k := 53) (kz := 53) pk11 dX11_bad_2 (by decide) zb_1177 rfl (zFit_int _) (zOb.lit (by decide +kernel)) rfl ?_
  refine z_aload_n 0 dX11_bad_5 rfl ?_
  refine z_aload_n 0 dX11_bad_6 rfl ?_
  refine z_getIV (v := (h 169 50)) (k := 50) (kz := 50) pk11 dX11_bad_7 (by decide) zb_1174 rfl (zOb.lit (by decide +kernel)) rfl (zst_ne (Or.inr (by decide))) ?_
  refine z_putI (k := 54) (kz := 54) pk11 dX11_bad_10 (by decide) zb_1178 rfl (zFit_int _) (zOb.lit (by decide +kernel)) rfl ?_
  refine z_iconst dX11_bad_13 (zi32_d rfl) ?_
  exact z_zret dX11_bad_14 rfl (Or.inl rfl) (k1)
theorem f_X11_bad {X : zX} {dep : Nat} (k : Int) {h : zH} : zW mX11_bad X dep 0 0 239 0 (zar 0 [xR 169, xI k]) [] h (zF (zst (zst h 169 53 k) 169 54 (h 169 50)) [xI 0]) := by
  refine bX11_bad_0 k ?_
  all_goals intros
  all_goals exact ⟨rfl, rfl, rfl⟩

set_option maxRecDepth 20000 in
theorem bX11_isWord_0 {X : zX} {dep bc bs : Nat} (w : Int) {h : zH} {Q : Nat → zH → List zV → Prop}
    (k1 : ¬ (h 169 49) = 1 → Q 239 h [xI 0])
    (k2 : (h 169 49) = 1 → Q 239 h [xI (if (zcmp (h 169 56) w) = 0 then 1 else 0 : Int)]) : zW mX11_isWord X dep bc bs 239 0 [(0, xR 169), (1, xL w)] [] h Q := by
  refine z_aload_n 0 dX11_isWord_0 rfl ?_
  refine z_getI (k := 49) (kz := 49) pk11 dX11_isWord_1 (by decide) zb_1173 rfl (zOb.lit (by decide +kernel)) rfl ?_
  refine z_iconst dX11_isWord_4 (zi32_d rfl) ?_
  refine z_icmp_ne (tgt := 21) dX11_isWord_5 (by decide) (fun c1 => ?_) (fun c1 => ?_)
  ·
    refine z_iconst dX11_isWord_21 (zi32_d rfl) ?_
    exact z_zret dX11_isWord_22 rfl (Or.inl rfl) (k1 c1)
  ·
    refine z_aload_n 0 dX11_isWord_8 rfl ?_
    refine z_getL (k := 56) (kz := 56) pk11 dX11_isWord_9 (by decide) zb_1180 rfl (zOb.lit (by decide +kernel)) rfl ?_
    refine z_lload_n 1 dX11_isWord_12 rfl ?_
    refine z_lcmp dX11_isWord_13 ?_
    suffices KJ : zW mX11_isWord X dep bc bs 239 22 [(0, xR 169), (1, xL w)] [xI (if (zcmp (h 169 56) w) = 0 then 1 else 0 : Int)] h Q by
      refine z_if_ne (tgt := 21) dX11_isWord_14 (by decide) (fun j1 => ?_) (fun j1 => ?_)
      ·
        refine z_iconst dX11_isWord_21 (zi32_d rfl) ?_
        rw [if_neg j1] at KJ
        exact KJ
      ·
        refine z_iconst dX11_isWord_17 (zi32_d rfl) ?_
        refine z_goto (tgt := 22) dX11_isWord_18 (by decide) ?_
        rw [if_pos j1] at KJ
        exact KJ
    exact z_zret dX11_isWord_22 rfl (by repeat (first | (left; rfl) | (right; rfl) | split)) (k2 c1)
theorem f_X11_isWord {X : zX} {dep : Nat} (w : Int) {h : zH} : zW mX11_isWord X dep 0 0 239 0 (zar 0 [xR 169, xL w]) [] h (zF h [xI (zb (h 169 49 = 1 ∧ h 169 56 = w))]) := by
  refine bX11_isWord_0 w ?_ ?_
  all_goals intros
  · exact ⟨rfl, rfl, by rw [zb_f (by omega)]⟩
  · rename_i c
    refine ⟨rfl, rfl, congrArg (fun x => [xI x]) ?_⟩
    have e9 : zcmp (h 169 56) w = 0 ↔ h 169 56 = w := by
      unfold zcmp
      (repeat' split) <;> omega
    unfold zb
    (repeat' split) <;> first | rfl | omega

set_option maxRecDepth 20000 in
theorem bX11_isSign_0 {X : zX} {dep bc bs : Nat} (c : Int) {h : zH} {Q : Nat → zH → List zV → Prop}
    (k1 : Q 239 h [xI (if (h 169 49) = 3 then if (h 169 52) = c then 1 else 0 else 0 : Int)]) : zW mX11_isSign X dep bc bs 239 0 [(0, xR 169), (1, xI c)] [] h Q := by
  refine z_aload_n 0 dX11_isSign_0 rfl ?_
  refine z_getI (k := 49) (kz := 49) pk11 dX11_isSign_1 (by decide) zb_1173 rfl (zOb.lit (by decide +kernel)) rfl ?_
  refine z_iconst dX11_isSign_4 (zi32_d rfl) ?_
  suffices KJ : zW mX11_isSign X dep bc bs 239 21 [(0, xR 169), (1, xI c)] [xI (if (h 169 49) = 3 then if (h 169 52) = c then 1 else 0 else 0 : Int)] h Q by
    refine z_icmp_ne (tgt := 20) dX11_isSign_5 (by decide) (fun j1 => ?_) (fun j1 => ?_)
    ·
      refine z_iconst dX11_isSign_20 (zi32_d rfl) ?_
      rw [if_neg j1] at KJ
      exact KJ
    ·
      refine z_aload_n 0 dX11_isSign_8 rfl ?_
      refine z_getI (k := 52) (kz := 52) pk11 dX11_isSign_9 (by decide) zb_1176 rfl (zOb.lit (by decide +kernel)) rfl ?_
      refine z_iload_n 1 dX11_isSign_12 rfl ?_
      refine z_icmp_ne (tgt := 20) dX11_isSign_13 (by decide) (fun j2 => ?_) (fun j2 => ?_)
      ·
        refine z_iconst dX11_isSign_20 (zi32_d rfl) ?_
        rw [if_pos j1] at KJ
        rw [if_neg j2] at KJ
        exact KJ
      ·
        refine z_iconst dX11_isSign_16 (zi32_d rfl) ?_
        refine z_goto (tgt := 21) dX11_isSign_17 (by decide) ?_
        rw [if_pos j1] at KJ
        rw [if_pos j2] at KJ
        exact KJ
  exact z_zret dX11_isSign_21 rfl (by repeat (first | (left; rfl) | (right; rfl) | split)) (k1)
theorem f_X11_isSign {X : zX} {dep : Nat} (c : Int) {h : zH} : zW mX11_isSign X dep 0 0 239 0 (zar 0 [xR 169, xI c]) [] h (zF h [xI (zb (h 169 49 = 3 ∧ h 169 52 = c))]) := by
  refine bX11_isSign_0 c ?_
  all_goals intros
  all_goals refine ⟨rfl, rfl, ?_⟩
  all_goals (first | rfl | (refine congrArg (fun x => [xI x]) ?_; unfold zb; (repeat' split) <;> first | rfl | omega))

set_option maxRecDepth 20000 in
theorem bX11_write_0 {X : zX} {dep bc bs : Nat} (w : Int) (s : Int) (n : Int) {h : zH} {Q : Nat → zH → List zV → Prop} (hb : 0 ≤ h 169 46 ∧ h 169 46 < 130)
    (k1 : Q 239 (zst (zst (zst (zst h 201 (1040 + (h 169 46)) w) 202 (1040 + (h 169 46)) s) 203 (1040 + (h 169 46)) n) 169 46 ((h 169 46) + 1)) []) : zW mX11_write X dep bc bs 239 0 [(0, xR 169), (1, xI w), (2, xI s), (3, xI n)] [] h Q := by
  refine z_aload_n 0 dX11_write_0 rfl ?_
  refine z_getS (v := 201) (k := 41) (kz := 41) pk11 dX11_write_1 (by decide) zb_1165 rfl (zOb.lit (by decide +kernel)) rfl (by decide +kernel) ?_
  refine z_sipush dX11_write_4 (zi32_d rfl) (by decide) ?_
  refine z_aload_n 0 dX11_write_7 rfl ?_
  refine z_getI (k := 46) (kz := 46) pk11 dX11_write_8 (by decide) zb_1170 rfl (zOb.lit (by decide +kernel)) rfl ?_
  refine z_iaddN dX11_write_11 (show -2147483648 ≤ 1040 + (h 169 46) ∧ 1040 + (h 169 46) < 2147483648 from ⟨by omega, by omega⟩).1 (show -2147483648 ≤ 1040 + (h 169 46) ∧ 1040 + (h 169 46) < 2147483648 from ⟨by omega, by omega⟩).2 ?_
  refine z_iload_n 1 dX11_write_12 rfl ?_
  refine z_iast dX11_write_13 (zOb.lit (by decide +kernel)) (show 0 ≤ (1040 + (h 169 46)) ∧ (1040 + (h 169 46)) < 1170 from ⟨by omega, by omega⟩).1 (show 0 ≤ (1040 + (h 169 46)) ∧ (1040 + (h 169 46)) < 1170 from ⟨by omega, by omega⟩).2 ?_
  refine z_aload_n 0 dX11_write_14 rfl ?_
  refine z_getS (v := 202) (k := 42) (kz := 42) pk11 dX11_write_15 (by decide) zb_1166 rfl (zOb.lit (by decide +kernel)) rfl (by decide +kernel) ?_
  refine z_sipush dX11_write_18 (zi32_d rfl) (by decide) ?_
  refine z_aload_n 0 dX11_write_21 rfl ?_
  refine z_getIV (v := (h 169 46)) (k := 46) (kz := 46) pk11 dX11_write_22 (by decide) zb_1170 rfl (zOb.lit (by decide +kernel)) rfl (zst_ne (Or.inl (by decide))) ?_
  refine z_iaddN dX11_write_25 (show -2147483648 ≤ 1040 + (h 169 46) ∧ 1040 + (h 169 46) < 2147483648 from ⟨by omega, by omega⟩).1 (show -2147483648 ≤ 1040 + (h 169 46) ∧ 1040 + (h 169 46) < 2147483648 from ⟨by omega, by omega⟩).2 ?_
  refine z_iload_n 2 dX11_write_26 rfl ?_
  refine z_iast dX11_write_27 (zOb.lit (by decide +kernel)) (show 0 ≤ (1040 + (h 169 46)) ∧ (1040 + (h 169 46)) < 1170 from ⟨by omega, by omega⟩).1 (show 0 ≤ (1040 + (h 169 46)) ∧ (1040 + (h 169 46)) < 1170 from ⟨by omega, by omega⟩).2 ?_
  refine z_aload_n 0 dX11_write_28 rfl ?_
  refine z_getS (v := 203) (k := 43) (kz := 43) pk11 dX11_write_29 (by decide) zb_1167 rfl (zOb.lit (by decide +kernel)) rfl (by decide +kernel) ?_
  refine z_sipush dX11_write_32 (zi32_d rfl) (by decide) ?_
  refine z_aload_n 0 dX11_write_35 rfl ?_
  refine z_getIV (v := (h 169 46)) (k := 46) (kz := 46) pk11 dX11_write_36 (by decide) zb_1170 rfl (zOb.lit (by decide +kernel)) rfl ((zst_ne (Or.inl (by decide))).trans (zst_ne (Or.inl (by decide)))) ?_
  refine z_iaddN dX11_write_39 (show -2147483648 ≤ 1040 + (h 169 46) ∧ 1040 + (h 169 46) < 2147483648 from ⟨by omega, by omega⟩).1 (show -2147483648 ≤ 1040 + (h 169 46) ∧ 1040 + (h 169 46) < 2147483648 from ⟨by omega, by omega⟩).2 ?_
  refine z_iload_n 3 dX11_write_40 rfl ?_
  refine z_iast dX11_write_41 (zOb.lit (by decide +kernel)) (show 0 ≤ (1040 + (h 169 46)) ∧ (1040 + (h 169 46)) < 1170 from ⟨by omega, by omega⟩).1 (show 0 ≤ (1040 + (h 169 46)) ∧ (1040 + (h 169 46)) < 1170 from ⟨by omega, by omega⟩).2 ?_
  refine z_aload_n 0 dX11_write_42 rfl ?_
  refine z_dup dX11_write_43 zt2 ?_
  refine z_getIV (v := (h 169 46)) (k := 46) (kz := 46) pk11 dX11_write_44 (by decide) zb_1170 rfl (zOb.lit (by decide +kernel)) rfl ((zst_ne (Or.inl (by decide))).trans ((zst_ne (Or.inl (by decide))).trans (zst_ne (Or.inl (by decide))))) ?_
  refine z_iconst dX11_write_47 (zi32_d rfl) ?_
  refine z_iaddN dX11_write_48 (show -2147483648 ≤ (h 169 46) + 1 ∧ (h 169 46) + 1 < 2147483648 from ⟨by omega, by omega⟩).1 (show -2147483648 ≤ (h 169 46) + 1 ∧ (h 169 46) + 1 < 2147483648 from ⟨by omega, by omega⟩).2 ?_
  refine z_putI (k := 46) (kz := 46) pk11 dX11_write_49 (by decide) zb_1170 rfl (zFit_int _) (zOb.lit (by decide +kernel)) rfl ?_
  exact z_ret dX11_write_52 rfl (k1)
theorem f_X11_write {X : zX} {dep : Nat} (w : Int) (s : Int) (n : Int) {h : zH} (hb : 0 ≤ h 169 46 ∧ h 169 46 < 130) : zW mX11_write X dep 0 0 239 0 (zar 0 [xR 169, xI w, xI s, xI n]) [] h (zF (zst (zst (zst (zst h 201 (1040 + h 169 46) w) 202 (1040 + h 169 46) s) 203 (1040 + h 169 46) n) 169 46 (h 169 46 + 1)) []) := by
  refine bX11_write_0 w s n hb ?_
  all_goals intros
  all_goals exact ⟨rfl, rfl, rfl⟩

set_option maxRecDepth 20000 in
theorem bX11_binds_0 {X : zX} {dep bc bs : Nat} (w : Int) {h : zH} {Q : Nat → zH → List zV → Prop}
    (k1 : Q 239 h [xI (if w = 20 then 3 else if w = 21 then 2 else 1 : Int)]) : zW mX11_binds X dep bc bs 239 0 [(0, xI w)] [] h Q := by
  refine z_iload_n 0 dX11_binds_0 rfl ?_
  refine z_bipush dX11_binds_1 (zi32_d rfl) (by decide) ?_
  suffices KJ : zW mX11_binds X dep bc bs 239 21 [(0, xI w)] [xI (if w = 20 then 3 else if w = 21 then 2 else 1 : Int)] h Q by
    refine z_icmp_ne (tgt := 10) dX11_binds_3 (by decide) (fun j1 => ?_) (fun j1 => ?_)
    ·
      refine z_iload_n 0 dX11_binds_10 rfl ?_
      refine z_bipush dX11_binds_11 (zi32_d rfl) (by decide) ?_
      refine z_icmp_ne (tgt := 20) dX11_binds_13 (by decide) (fun j2 => ?_) (fun j2 => ?_)
      ·
        refine z_iconst dX11_binds_20 (zi32_d rfl) ?_
        rw [if_neg j1] at KJ
        rw [if_neg j2] at KJ
        exact KJ
      ·
        refine z_iconst dX11_binds_16 (zi32_d rfl) ?_
        refine z_goto (tgt := 21) dX11_binds_17 (by decide) ?_
        rw [if_neg j1] at KJ
        rw [if_pos j2] at KJ
        exact KJ
    ·
      refine z_iconst dX11_binds_6 (zi32_d rfl) ?_
      refine z_goto (tgt := 21) dX11_binds_7 (by decide) ?_
      rw [if_pos j1] at KJ
      exact KJ
  exact z_iret dX11_binds_21 rfl (k1)
theorem f_X11_binds {X : zX} {dep : Nat} (w : Int) {h : zH} : zW mX11_binds X dep 0 0 239 0 (zar 0 [xI w]) [] h (zF h [xI (if w = 20 then 3 else if w = 21 then 2 else 1)]) := by
  refine bX11_binds_0 w ?_
  all_goals intros
  all_goals refine ⟨rfl, rfl, ?_⟩
  all_goals refine congrArg (fun x => [xI x]) ?_
  all_goals (repeat' split) <;> first | rfl | omega

set_option maxRecDepth 20000 in
theorem bX11_fault_0 {X : zX} {dep bc bs : Nat} {h : zH} {Q : Nat → zH → List zV → Prop}
    (k1 : Q 239 (zst h 169 0 0) [xI (h 169 53)]) : zW mX11_fault X dep bc bs 239 0 [(0, xR 169)] [] h Q := by
  refine z_aload_n 0 dX11_fault_0 rfl ?_
  refine z_iconst dX11_fault_1 (zi32_d rfl) ?_
  refine z_putI (k := 0) (kz := 0) pk11 dX11_fault_2 (by decide) zb_1124 rfl (zFit_int _) (zOb.lit (by decide +kernel)) rfl ?_
  refine z_aload_n 0 dX11_fault_5 rfl ?_
  refine z_getIV (v := (h 169 53)) (k := 53) (kz := 53) pk11 dX11_fault_6 (by decide) zb_1177 rfl (zOb.lit (by decide +kernel)) rfl (zst_ne (Or.inr (by decide))) ?_
  exact z_iret dX11_fault_9 rfl (k1)
theorem f_X11_fault {X : zX} {dep : Nat} {h : zH} : zW mX11_fault X dep 0 0 239 0 (zar 0 [xR 169]) [] h (zF (zst h 169 0 0) [xI (h 169 53)]) := by
  refine bX11_fault_0  ?_
  all_goals intros
  all_goals exact ⟨rfl, rfl, rfl⟩

set_option maxRecDepth 20000 in
theorem bX11_why_0 {X : zX} {dep bc bs : Nat} {h : zH} {Q : Nat → zH → List zV → Prop}
    (k1 : Q 239 (zst h 169 0 0) [xI (h 169 87)]) : zW mX11_why X dep bc bs 239 0 [(0, xR 169)] [] h Q := by
  refine z_aload_n 0 dX11_why_0 rfl ?_
  refine z_iconst dX11_why_1 (zi32_d rfl) ?_
  refine z_putI (k := 0) (kz := 0) pk11 dX11_why_2 (by decide) zb_1124 rfl (zFit_int _) (zOb.lit (by decide +kernel)) rfl ?_
  refine z_aload_n 0 dX11_why_5 rfl ?_
  refine z_getIV (v := (h 169 87)) (k := 87) (kz := 87) pk11 dX11_why_6 (by decide) zb_1211 rfl (zOb.lit (by decide +kernel)) rfl (zst_ne (Or.inr (by decide))) ?_
  exact z_iret dX11_why_9 rfl (k1)
theorem f_X11_why {X : zX} {dep : Nat} {h : zH} : zW mX11_why X dep 0 0 239 0 (zar 0 [xR 169]) [] h (zF (zst h 169 0 0) [xI (h 169 87)]) := by
  refine bX11_why_0  ?_
  all_goals intros
  all_goals exact ⟨rfl, rfl, rfl⟩

set_option maxRecDepth 20000 in
theorem bX11_mendedAt_0 {X : zX} {dep bc bs : Nat} (k : Int) {h : zH} {Q : Nat → zH → List zV → Prop} (hc : 0 ≤ h 169 89 ∧ h 169 89 ≤ 60)
    (k1 : k < 0 → Q 239 (zst h 169 0 0) [xI (-1)])
    (k2 : ¬ (k < 0) → k < (h 169 89) → Q 239 (zst h 169 0 0) [xI (h 228 k)])
    (k3 : ¬ (k < 0) → ¬ (k < (h 169 89)) → Q 239 (zst h 169 0 0) [xI (-1)]) : zW mX11_mendedAt X dep bc bs 239 0 [(0, xR 169), (1, xI k)] [] h Q := by
  refine z_aload_n 0 dX11_mendedAt_0 rfl ?_
  refine z_iconst dX11_mendedAt_1 (zi32_d rfl) ?_
  refine z_putI (k := 0) (kz := 0) pk11 dX11_mendedAt_2 (by decide) zb_1124 rfl (zFit_int _) (zOb.lit (by decide +kernel)) rfl ?_
  refine z_iload_n 1 dX11_mendedAt_5 rfl ?_
  refine z_if_lt (tgt := 17) dX11_mendedAt_6 (by decide) (fun c1 => ?_) (fun c1 => ?_)
  ·
    refine z_iconst dX11_mendedAt_17 (zi32_d rfl) ?_
    refine z_goto (tgt := 27) dX11_mendedAt_18 (by decide) ?_
    exact z_iret dX11_mendedAt_27 rfl (k1 c1)
  ·
    refine z_iload_n 1 dX11_mendedAt_9 rfl ?_
    refine z_aload_n 0 dX11_mendedAt_10 rfl ?_
    refine z_getIV (v := (h 169 89)) (k := 89) (kz := 89) pk11 dX11_mendedAt_11 (by decide) zb_1213 rfl (zOb.lit (by decide +kernel)) rfl (zst_ne (Or.inr (by decide))) ?_
    refine z_icmp_lt (tgt := 21) dX11_mendedAt_14 (by decide) (fun c2 => ?_) (fun c2 => ?_)
    ·
      refine z_aload_n 0 dX11_mendedAt_21 rfl ?_
      refine z_getS (v := 228) (k := 81) (kz := 81) pk11 dX11_mendedAt_22 (by decide) zb_1205 rfl (zOb.lit (by decide +kernel)) rfl (by decide +kernel) ?_
      refine z_iload_n 1 dX11_mendedAt_25 rfl ?_
      refine z_ialdV (v := (h 228 k)) dX11_mendedAt_26 (zOb.lit (by decide +kernel)) (show 0 ≤ k ∧ k < 60 from ⟨by omega, by omega⟩).1 (show 0 ≤ k ∧ k < 60 from ⟨by omega, by omega⟩).2 (zst_ne (Or.inl (by decide))) ?_
      exact z_iret dX11_mendedAt_27 rfl (k2 c1 c2)
    ·
      refine z_iconst dX11_mendedAt_17 (zi32_d rfl) ?_
      refine z_goto (tgt := 27) dX11_mendedAt_18 (by decide) ?_
      exact z_iret dX11_mendedAt_27 rfl (k3 c1 c2)
theorem f_X11_mendedAt {X : zX} {dep : Nat} (k : Int) {h : zH} (hc : 0 ≤ h 169 89 ∧ h 169 89 ≤ 60) : zW mX11_mendedAt X dep 0 0 239 0 (zar 0 [xR 169, xI k]) [] h (zF (zst h 169 0 0) [xI (if 0 ≤ k ∧ k < h 169 89 then h 228 k else -1)]) := by
  refine bX11_mendedAt_0 k hc ?_ ?_ ?_
  all_goals intros
  all_goals refine ⟨rfl, rfl, ?_⟩
  all_goals refine congrArg (fun x => [xI x]) ?_
  all_goals (repeat' split) <;> first | rfl | omega

set_option maxRecDepth 20000 in
theorem bX11_isLot_0 {X : zX} {dep bc bs : Nat} (l : Int) {h : zH} {Q : Nat → zH → List zV → Prop} (hl : 0 ≤ h 169 65 ∧ h 169 65 ≤ 4) (hdep : 1 ≤ dep)
    (k1 : Q 239 h [xI (zb (0 ≤ l ∧ l ≤ ((h 169 65) - 1)))]) : zW mX11_isLot X dep bc bs 239 0 [(0, xR 169), (1, xI l)] [] h Q := by
  refine z_iload_n 1 dX11_isLot_0 rfl ?_
  refine z_iconst dX11_isLot_1 (zi32_d rfl) ?_
  refine z_aload_n 0 dX11_isLot_2 rfl ?_
  refine z_getI (k := 65) (kz := 65) pk11 dX11_isLot_3 (by decide) zb_1189 rfl (zOb.lit (by decide +kernel)) rfl ?_
  refine z_iconst dX11_isLot_6 (zi32_d rfl) ?_
  refine z_isubN dX11_isLot_7 (show -2147483648 ≤ (h 169 65) - 1 ∧ (h 169 65) - 1 < 2147483648 from ⟨by omega, by omega⟩).1 (show -2147483648 ≤ (h 169 65) - 1 ∧ (h 169 65) - 1 < 2147483648 from ⟨by omega, by omega⟩).2 ?_
  refine z_invSF (as := [xI l, xI 0, xI ((h 169 65) - 1)]) (st := []) (ra := [xI ((h 169 65) - 1), xI 0, xI l]) (dep' := dep - 1) (rs := [xI (zb (0 ≤ l ∧ l ≤ ((h 169 65) - 1)))]) (h' := h) (f_X11_isIn l 0 ((h 169 65) - 1) (h := h) ) dX11_isLot_8 nX11_isIn zb_1437 zb_1438 zb_92 (by omega) zne_I (Nat.le_of_ble_eq_true rfl) (Nat.le_of_ble_eq_true rfl) rfl ?_
  exact z_zret dX11_isLot_11 rfl (zb01 _) (k1)
theorem f_X11_isLot {X : zX} {dep : Nat} (l : Int) {h : zH} (hl : 0 ≤ h 169 65 ∧ h 169 65 ≤ 4) (hdep : 1 ≤ dep) : zW mX11_isLot X dep 0 0 239 0 (zar 0 [xR 169, xI l]) [] h (zF h [xI (zb (0 ≤ l ∧ l < h 169 65))]) := by
  refine bX11_isLot_0 l hl hdep ?_
  all_goals intros
  all_goals refine ⟨rfl, rfl, ?_⟩
  all_goals (first | rfl | (refine congrArg (fun x => [xI x]) ?_; unfold zb; (repeat' split) <;> first | rfl | omega))

set_option maxRecDepth 20000 in
theorem bX11_hands_0 {X : zX} {dep bc bs : Nat} (p : Int) (w : Int) (n : Int) {h : zH} {Q : Nat → zH → List zV → Prop} (hdep : 1 ≤ dep)
    (k1 : ¬ (0 ≤ p ∧ p ≤ 7) → Q 239 (zst h 169 0 0) [xI 0])
    (k2 : 0 ≤ p ∧ p ≤ 7 → ¬ (0 ≤ w ∧ w ≤ 11) → Q 239 (zst h 169 0 0) [xI 0])
    (k3 : 0 ≤ p ∧ p ≤ 7 → 0 ≤ w ∧ w ≤ 11 → 0 ≤ n ∧ n ≤ 60 → Q 239 (zst (zst h 169 0 0) 235 ((12 * p) + w) n) [xI 1])
    (k4 : 0 ≤ p ∧ p ≤ 7 → 0 ≤ w ∧ w ≤ 11 → ¬ (0 ≤ n ∧ n ≤ 60) → Q 239 (zst h 169 0 0) [xI 0]) : zW mX11_hands X dep bc bs 239 0 [(0, xR 169), (1, xI p), (2, xI w), (3, xI n)] [] h Q := by
  refine z_aload_n 0 dX11_hands_0 rfl ?_
  refine z_iconst dX11_hands_1 (zi32_d rfl) ?_
  refine z_putI (k := 0) (kz := 0) pk11 dX11_hands_2 (by decide) zb_1124 rfl (zFit_int _) (zOb.lit (by decide +kernel)) rfl ?_
  refine z_iload_n 1 dX11_hands_5 rfl ?_
  refine z_iconst dX11_hands_6 (zi32_d rfl) ?_
  refine z_bipush dX11_hands_7 (zi32_d rfl) (by decide) ?_
  refine z_invSF (as := [xI p, xI 0, xI 7]) (st := []) (ra := [xI 7, xI 0, xI p]) (dep' := dep - 1) (rs := [xI (zb (0 ≤ p ∧ p ≤ 7))]) (h' := (zst h 169 0 0)) (f_X11_isIn p 0 7 (h := (zst h 169 0 0)) ) dX11_hands_9 nX11_isIn zb_1437 zb_1438 zb_92 (by omega) zne_I (Nat.le_of_ble_eq_true rfl) (Nat.le_of_ble_eq_true rfl) rfl ?_
  refine z_ifB_eq (C := 0 ≤ p ∧ p ≤ 7) (tgt := 35) dX11_hands_12 (by decide) (fun c1 => ?_) (fun c1 => ?_)
  ·
    refine z_iconst dX11_hands_35 (zi32_d rfl) ?_
    exact z_zret dX11_hands_36 rfl (Or.inl rfl) (k1 c1)
  ·
    refine z_iload_n 2 dX11_hands_15 rfl ?_
    refine z_iconst dX11_hands_16 (zi32_d rfl) ?_
    refine z_bipush dX11_hands_17 (zi32_d rfl) (by decide) ?_
    refine z_invSF (as := [xI w, xI 0, xI 11]) (st := []) (ra := [xI 11, xI 0, xI w]) (dep' := dep - 1) (rs := [xI (zb (0 ≤ w ∧ w ≤ 11))]) (h' := (zst h 169 0 0)) (f_X11_isIn w 0 11 (h := (zst h 169 0 0)) ) dX11_hands_19 nX11_isIn zb_1437 zb_1438 zb_92 (by omega) zne_I (Nat.le_of_ble_eq_true rfl) (Nat.le_of_ble_eq_true rfl) rfl ?_
    refine z_ifB_eq (C := 0 ≤ w ∧ w ≤ 11) (tgt := 35) dX11_hands_22 (by decide) (fun c2 => ?_) (fun c2 => ?_)
    ·
      refine z_iconst dX11_hands_35 (zi32_d rfl) ?_
      exact z_zret dX11_hands_36 rfl (Or.inl rfl) (k2 c1 c2)
    ·
      refine z_iload_n 3 dX11_hands_25 rfl ?_
      refine z_iconst dX11_hands_26 (zi32_d rfl) ?_
      refine z_bipush dX11_hands_27 (zi32_d rfl) (by decide) ?_
      refine z_invSF (as := [xI n, xI 0, xI 60]) (st := []) (ra := [xI 60, xI 0, xI n]) (dep' := dep - 1) (rs := [xI (zb (0 ≤ n ∧ n ≤ 60))]) (h' := (zst h 169 0 0)) (f_X11_isIn n 0 60 (h := (zst h 169 0 0)) ) dX11_hands_29 nX11_isIn zb_1437 zb_1438 zb_92 (by omega) zne_I (Nat.le_of_ble_eq_true rfl) (Nat.le_of_ble_eq_true rfl) rfl ?_
      refine z_ifB_ne (C := 0 ≤ n ∧ n ≤ 60) (tgt := 37) dX11_hands_32 (by decide) (fun c3 => ?_) (fun c3 => ?_)
      ·
        refine z_aload_n 0 dX11_hands_37 rfl ?_
        refine z_getS (v := 235) (k := 93) (kz := 93) pk11 dX11_hands_38 (by decide) zb_1217 rfl (zOb.lit (by decide +kernel)) rfl (by decide +kernel) ?_
        refine z_bipush dX11_hands_41 (zi32_d rfl) (by decide) ?_
        refine z_iload_n 1 dX11_hands_43 rfl ?_
        refine z_imulN dX11_hands_44 (show -2147483648 ≤ 12 * p ∧ 12 * p < 2147483648 from ⟨by omega, by omega⟩).1 (show -2147483648 ≤ 12 * p ∧ 12 * p < 2147483648 from ⟨by omega, by omega⟩).2 ?_
        refine z_iload_n 2 dX11_hands_45 rfl ?_
        refine z_iaddN dX11_hands_46 (show -2147483648 ≤ (12 * p) + w ∧ (12 * p) + w < 2147483648 from ⟨by omega, by omega⟩).1 (show -2147483648 ≤ (12 * p) + w ∧ (12 * p) + w < 2147483648 from ⟨by omega, by omega⟩).2 ?_
        refine z_iload_n 3 dX11_hands_47 rfl ?_
        refine z_iast dX11_hands_48 (zOb.lit (by decide +kernel)) (show 0 ≤ ((12 * p) + w) ∧ ((12 * p) + w) < 96 from ⟨by omega, by omega⟩).1 (show 0 ≤ ((12 * p) + w) ∧ ((12 * p) + w) < 96 from ⟨by omega, by omega⟩).2 ?_
        refine z_iconst dX11_hands_49 (zi32_d rfl) ?_
        exact z_zret dX11_hands_50 rfl (Or.inr rfl) (k3 c1 c2 c3)
      ·
        refine z_iconst dX11_hands_35 (zi32_d rfl) ?_
        exact z_zret dX11_hands_36 rfl (Or.inl rfl) (k4 c1 c2 c3)
theorem f_X11_hands {X : zX} {dep : Nat} (p : Int) (w : Int) (n : Int) {h : zH} (hdep : 1 ≤ dep) : zW mX11_hands X dep 0 0 239 0 (zar 0 [xR 169, xI p, xI w, xI n]) [] h (zF (if (0 ≤ p ∧ p ≤ 7) ∧ (0 ≤ w ∧ w ≤ 11) ∧ 0 ≤ n ∧ n ≤ 60 then zst (zst h 169 0 0) 235 (12 * p + w) n else zst h 169 0 0) [xI (zb ((0 ≤ p ∧ p ≤ 7) ∧ (0 ≤ w ∧ w ≤ 11) ∧ 0 ≤ n ∧ n ≤ 60))]) := by
  refine bX11_hands_0 p w n hdep ?_ ?_ ?_ ?_
  all_goals intros
  all_goals refine ⟨rfl, ?_, ?_⟩
  all_goals first
    | (rw [if_pos (by omega)])
    | (rw [if_neg (by omega)])
    | (first | rfl | (refine congrArg (fun x => [xI x]) ?_; unfold zb; (repeat' split) <;> first | rfl | omega))

set_option maxRecDepth 20000 in
theorem bX11_gone_0 {X : zX} {dep bc bs : Nat} (p : Int) (w : Int) {h : zH} {Q : Nat → zH → List zV → Prop} (hdep : 1 ≤ dep)
    (k1 : (h 169 96) = 0 → Q 239 (zst h 169 0 0) [xI (-1)])
    (k2 : ¬ ((h 169 96) = 0) → ¬ (0 ≤ p ∧ p ≤ 7) → Q 239 (zst h 169 0 0) [xI (-1)])
    (k3 : ¬ ((h 169 96) = 0) → 0 ≤ p ∧ p ≤ 7 → ¬ (0 ≤ w ∧ w ≤ 11) → Q 239 (zst h 169 0 0) [xI (-1)])
    (k4 : ¬ ((h 169 96) = 0) → 0 ≤ p ∧ p ≤ 7 → 0 ≤ w ∧ w ≤ 11 → Q 239 (zst h 169 0 0) [xI (h 236 ((12 * p) + w))]) : zW mX11_gone X dep bc bs 239 0 [(0, xR 169), (1, xI p), (2, xI w)] [] h Q := by
  refine z_aload_n 0 dX11_gone_0 rfl ?_
  refine z_iconst dX11_gone_1 (zi32_d rfl) ?_
  refine z_putI (k := 0) (kz := 0) pk11 dX11_gone_2 (by decide) zb_1124 rfl (zFit_int _) (zOb.lit (by decide +kernel)) rfl ?_
  refine z_aload_n 0 dX11_gone_5 rfl ?_
  refine z_getIV (v := (h 169 96)) (k := 96) (kz := 96) pk11 dX11_gone_6 (by decide) zb_1220 rfl (zOb.lit (by decide +kernel)) rfl (zst_ne (Or.inr (by decide))) ?_
  refine z_if_eq (tgt := 46) dX11_gone_9 (by decide) (fun c1 => ?_) (fun c1 => ?_)
  ·
    refine z_iconst dX11_gone_46 (zi32_d rfl) ?_
    exact z_iret dX11_gone_47 rfl (k1 c1)
  ·
    refine z_iload_n 1 dX11_gone_12 rfl ?_
    refine z_iconst dX11_gone_13 (zi32_d rfl) ?_
    refine z_bipush dX11_gone_14 (zi32_d rfl) (by decide) ?_
    refine z_invSF (as := [xI p, xI 0, xI 7]) (st := []) (ra := [xI 7, xI 0, xI p]) (dep' := dep - 1) (rs := [xI (zb (0 ≤ p ∧ p ≤ 7))]) (h' := (zst h 169 0 0)) (f_X11_isIn p 0 7 (h := (zst h 169 0 0)) ) dX11_gone_16 nX11_isIn zb_1437 zb_1438 zb_92 (by omega) zne_I (Nat.le_of_ble_eq_true rfl) (Nat.le_of_ble_eq_true rfl) rfl ?_
    refine z_ifB_eq (C := 0 ≤ p ∧ p ≤ 7) (tgt := 46) dX11_gone_19 (by decide) (fun c2 => ?_) (fun c2 => ?_)
    ·
      refine z_iconst dX11_gone_46 (zi32_d rfl) ?_
      exact z_iret dX11_gone_47 rfl (k2 c1 c2)
    ·
      refine z_iload_n 2 dX11_gone_22 rfl ?_
      refine z_iconst dX11_gone_23 (zi32_d rfl) ?_
      refine z_bipush dX11_gone_24 (zi32_d rfl) (by decide) ?_
      refine z_invSF (as := [xI w, xI 0, xI 11]) (st := []) (ra := [xI 11, xI 0, xI w]) (dep' := dep - 1) (rs := [xI (zb (0 ≤ w ∧ w ≤ 11))]) (h' := (zst h 169 0 0)) (f_X11_isIn w 0 11 (h := (zst h 169 0 0)) ) dX11_gone_26 nX11_isIn zb_1437 zb_1438 zb_92 (by omega) zne_I (Nat.le_of_ble_eq_true rfl) (Nat.le_of_ble_eq_true rfl) rfl ?_
      refine z_ifB_eq (C := 0 ≤ w ∧ w ≤ 11) (tgt := 46) dX11_gone_29 (by decide) (fun c3 => ?_) (fun c3 => ?_)
      ·
        refine z_iconst dX11_gone_46 (zi32_d rfl) ?_
        exact z_iret dX11_gone_47 rfl (k3 c1 c2 c3)
      ·
        refine z_aload_n 0 dX11_gone_32 rfl ?_
        refine z_getS (v := 236) (k := 94) (kz := 94) pk11 dX11_gone_33 (by decide) zb_1218 rfl (zOb.lit (by decide +kernel)) rfl (by decide +kernel) ?_
        refine z_bipush dX11_gone_36 (zi32_d rfl) (by decide) ?_
        refine z_iload_n 1 dX11_gone_38 rfl ?_
        refine z_imulN dX11_gone_39 (show -2147483648 ≤ 12 * p ∧ 12 * p < 2147483648 from ⟨by omega, by omega⟩).1 (show -2147483648 ≤ 12 * p ∧ 12 * p < 2147483648 from ⟨by omega, by omega⟩).2 ?_
        refine z_iload_n 2 dX11_gone_40 rfl ?_
        refine z_iaddN dX11_gone_41 (show -2147483648 ≤ (12 * p) + w ∧ (12 * p) + w < 2147483648 from ⟨by omega, by omega⟩).1 (show -2147483648 ≤ (12 * p) + w ∧ (12 * p) + w < 2147483648 from ⟨by omega, by omega⟩).2 ?_
        refine z_ialdV (v := (h 236 ((12 * p) + w))) dX11_gone_42 (zOb.lit (by decide +kernel)) (show 0 ≤ ((12 * p) + w) ∧ ((12 * p) + w) < 96 from ⟨by omega, by omega⟩).1 (show 0 ≤ ((12 * p) + w) ∧ ((12 * p) + w) < 96 from ⟨by omega, by omega⟩).2 (zst_ne (Or.inl (by decide))) ?_
        refine z_goto (tgt := 47) dX11_gone_43 (by decide) ?_
        exact z_iret dX11_gone_47 rfl (k4 c1 c2 c3)
theorem f_X11_gone {X : zX} {dep : Nat} (p : Int) (w : Int) {h : zH} (hdep : 1 ≤ dep) : zW mX11_gone X dep 0 0 239 0 (zar 0 [xR 169, xI p, xI w]) [] h (zF (zst h 169 0 0) [xI (if h 169 96 ≠ 0 ∧ (0 ≤ p ∧ p ≤ 7) ∧ 0 ≤ w ∧ w ≤ 11 then h 236 (12 * p + w) else -1)]) := by
  refine bX11_gone_0 p w hdep ?_ ?_ ?_ ?_
  all_goals intros
  all_goals refine ⟨rfl, rfl, ?_⟩
  all_goals refine congrArg (fun x => [xI x]) ?_
  all_goals (repeat' split) <;> first | rfl | omega

set_option maxRecDepth 20000 in
theorem bX11_count_0 {X : zX} {dep bc bs : Nat} (w : Int) {h : zH} {Q : Nat → zH → List zV → Prop}
    (k1 : w < 0 → Q 239 (zst h 169 0 0) [xI (-1)])
    (k2 : 9 < w → Q 239 (zst h 169 0 0) [xI (-1)])
    (k3 : w = 0 → Q 239 (zst h 169 0 0) [xI (h 169 5)])
    (k4 : w = 1 → Q 239 (zst h 169 0 0) [xI (h 169 25)])
    (k5 : w = 2 → Q 239 (zst h 169 0 0) [xI (h 169 65)])
    (k6 : w = 3 → Q 239 (zst h 169 0 0) [xI (h 169 45)])
    (k7 : w = 4 → Q 239 (zst h 169 0 0) [xI (h 169 27)])
    (k8 : w = 5 → Q 239 (zst h 169 0 0) [xI (h 169 28)])
    (k9 : w = 6 → Q 239 (zst h 169 0 0) [xI (h 169 85)])
    (k10 : w = 7 → Q 239 (zst h 169 0 0) [xI (h 169 90)])
    (k11 : w = 8 → Q 239 (zst h 169 0 0) [xI (h 169 91)])
    (k12 : w = 9 → Q 239 (zst h 169 0 0) [xI (h 169 2)]) : zW mX11_count X dep bc bs 239 0 [(0, xR 169), (1, xI w)] [] h Q := by
  refine z_aload_n 0 dX11_count_0 rfl ?_
  refine z_iconst dX11_count_1 (zi32_d rfl) ?_
  refine z_putI (k := 0) (kz := 0) pk11 dX11_count_2 (by decide) zb_1124 rfl (zFit_int _) (zOb.lit (by decide +kernel)) rfl ?_
  refine z_iload_n 1 dX11_count_5 rfl ?_
  rcases (show w < 0 ∨ 9 < w ∨ w = 0 ∨ w = 1 ∨ w = 2 ∨ w = 3 ∨ w = 4 ∨ w = 5 ∨ w = 6 ∨ w = 7 ∨ w = 8 ∨ w = 9 by omega) with c1 | c1 | c1 | c1 | c1 | c1 | c1 | c1 | c1 | c1 | c1 | c1
  ·
    refine z_tsOut (tgt := 110) dX11_count_6 (Or.inl c1) (by decide) ?_
    refine z_iconst dX11_count_110 (zi32_d rfl) ?_
    exact z_iret dX11_count_111 rfl (k1 c1)
  ·
    refine z_tsOut (tgt := 110) dX11_count_6 (Or.inr c1) (by decide) ?_
    refine z_iconst dX11_count_110 (zi32_d rfl) ?_
    exact z_iret dX11_count_111 rfl (k2 c1)
  ·
    refine z_tsIn (tgt := 60) dX11_count_6 (by omega) (by omega) (by rw [c1]; rfl) (by decide) ?_
    refine z_aload_n 0 dX11_count_60 rfl ?_
    refine z_getIV (v := (h 169 5)) (k := 5) (kz := 5) pk11 dX11_count_61 (by decide) zb_1129 rfl (zOb.lit (by decide +kernel)) rfl (zst_ne (Or.inr (by decide))) ?_
    exact z_iret dX11_count_64 rfl (k3 c1)
  ·
    refine z_tsIn (tgt := 65) dX11_count_6 (by omega) (by omega) (by rw [c1]; rfl) (by decide) ?_
    refine z_aload_n 0 dX11_count_65 rfl ?_
    refine z_getIV (v := (h 169 25)) (k := 25) (kz := 25) pk11 dX11_count_66 (by decide) zb_1149 rfl (zOb.lit (by decide +kernel)) rfl (zst_ne (Or.inr (by decide))) ?_
    exact z_iret dX11_count_69 rfl (k4 c1)
  ·
    refine z_tsIn (tgt := 70) dX11_count_6 (by omega) (by omega) (by rw [c1]; rfl) (by decide) ?_
    refine z_aload_n 0 dX11_count_70 rfl ?_
    refine z_getIV (v := (h 169 65)) (k := 65) (kz := 65) pk11 dX11_count_71 (by decide) zb_1189 rfl (zOb.lit (by decide +kernel)) rfl (zst_ne (Or.inr (by decide))) ?_
    exact z_iret dX11_count_74 rfl (k5 c1)
  ·
    refine z_tsIn (tgt := 75) dX11_count_6 (by omega) (by omega) (by rw [c1]; rfl) (by decide) ?_
    refine z_aload_n 0 dX11_count_75 rfl ?_
    refine z_getIV (v := (h 169 45)) (k := 45) (kz := 45) pk11 dX11_count_76 (by decide) zb_1169 rfl (zOb.lit (by decide +kernel)) rfl (zst_ne (Or.inr (by decide))) ?_
    exact z_iret dX11_count_79 rfl (k6 c1)
  ·
    refine z_tsIn (tgt := 80) dX11_count_6 (by omega) (by omega) (by rw [c1]; rfl) (by decide) ?_
    refine z_aload_n 0 dX11_count_80 rfl ?_
    refine z_getIV (v := (h 169 27)) (k := 27) (kz := 27) pk11 dX11_count_81 (by decide) zb_1151 rfl (zOb.lit (by decide +kernel)) rfl (zst_ne (Or.inr (by decide))) ?_
    exact z_iret dX11_count_84 rfl (k7 c1)
  ·
    refine z_tsIn (tgt := 85) dX11_count_6 (by omega) (by omega) (by rw [c1]; rfl) (by decide) ?_
    refine z_aload_n 0 dX11_count_85 rfl ?_
    refine z_getIV (v := (h 169 28)) (k := 28) (kz := 28) pk11 dX11_count_86 (by decide) zb_1152 rfl (zOb.lit (by decide +kernel)) rfl (zst_ne (Or.inr (by decide))) ?_
    exact z_iret dX11_count_89 rfl (k8 c1)
  ·
    refine z_tsIn (tgt := 90) dX11_count_6 (by omega) (by omega) (by rw [c1]; rfl) (by decide) ?_
    refine z_aload_n 0 dX11_count_90 rfl ?_
    refine z_getIV (v := (h 169 85)) (k := 85) (kz := 85) pk11 dX11_count_91 (by decide) zb_1209 rfl (zOb.lit (by decide +kernel)) rfl (zst_ne (Or.inr (by decide))) ?_
    exact z_iret dX11_count_94 rfl (k9 c1)
  ·
    refine z_tsIn (tgt := 95) dX11_count_6 (by omega) (by omega) (by rw [c1]; rfl) (by decide) ?_
    refine z_aload_n 0 dX11_count_95 rfl ?_
    refine z_getIV (v := (h 169 90)) (k := 90) (kz := 90) pk11 dX11_count_96 (by decide) zb_1214 rfl (zOb.lit (by decide +kernel)) rfl (zst_ne (Or.inr (by decide))) ?_
    exact z_iret dX11_count_99 rfl (k10 c1)
  ·
    refine z_tsIn (tgt := 100) dX11_count_6 (by omega) (by omega) (by rw [c1]; rfl) (by decide) ?_
    refine z_aload_n 0 dX11_count_100 rfl ?_
    refine z_getIV (v := (h 169 91)) (k := 91) (kz := 91) pk11 dX11_count_101 (by decide) zb_1215 rfl (zOb.lit (by decide +kernel)) rfl (zst_ne (Or.inr (by decide))) ?_
    exact z_iret dX11_count_104 rfl (k11 c1)
  ·
    refine z_tsIn (tgt := 105) dX11_count_6 (by omega) (by omega) (by rw [c1]; rfl) (by decide) ?_
    refine z_aload_n 0 dX11_count_105 rfl ?_
    refine z_getIV (v := (h 169 2)) (k := 2) (kz := 2) pk11 dX11_count_106 (by decide) zb_1126 rfl (zOb.lit (by decide +kernel)) rfl (zst_ne (Or.inr (by decide))) ?_
    exact z_iret dX11_count_109 rfl (k12 c1)
theorem f_X11_count {X : zX} {dep : Nat} (w : Int) {h : zH} : zW mX11_count X dep 0 0 239 0 (zar 0 [xR 169, xI w]) [] h (zF (zst h 169 0 0) [xI (if w = 0 then h 169 5 else if w = 1 then h 169 25 else if w = 2 then h 169 65 else if w = 3 then h 169 45 else if w = 4 then h 169 27 else if w = 5 then h 169 28 else if w = 6 then h 169 85 else if w = 7 then h 169 90 else if w = 8 then h 169 91 else if w = 9 then h 169 2 else -1)]) := by
  refine bX11_count_0 w ?_ ?_ ?_ ?_ ?_ ?_ ?_ ?_ ?_ ?_ ?_ ?_
  all_goals intros
  all_goals refine ⟨rfl, rfl, ?_⟩
  all_goals refine congrArg (fun x => [xI x]) ?_
  all_goals (repeat' split) <;> first | rfl | omega

set_option maxRecDepth 20000 in
theorem bX11_ageOf_0 {X : zX} {dep bc bs : Nat} (m : Int) (d : Int) {h : zH} {Q : Nat → zH → List zV → Prop} (h0 : 0 ≤ m ∧ m < 60) (h1 : 0 ≤ d ∧ d ≤ 3639) (h2 : -3120 ≤ h 214 m ∧ h 214 m < 520) (h7 : 0 ≤ zdiv d 7 ∧ zdiv d 7 ≤ 519)
    (k1 : 0 ≤ ((zdiv d 7) - (h 214 m)) → Q 239 h [xI (zdiv ((zdiv d 7) - (h 214 m)) 52)])
    (k2 : ¬ (0 ≤ ((zdiv d 7) - (h 214 m))) → Q 239 h [xI 0]) : zW mX11_ageOf X dep bc bs 239 0 [(0, xR 169), (1, xI m), (2, xI d)] [] h Q := by
  refine z_iload_n 2 dX11_ageOf_0 rfl ?_
  refine z_bipush dX11_ageOf_1 (zi32_d rfl) (by decide) ?_
  refine z_idiv dX11_ageOf_3 (by decide) ?_
  refine z_aload_n 0 dX11_ageOf_4 rfl ?_
  refine z_getS (v := 214) (k := 67) (kz := 67) pk11 dX11_ageOf_5 (by decide) zb_1191 rfl (zOb.lit (by decide +kernel)) rfl (by decide +kernel) ?_
  refine z_iload_n 1 dX11_ageOf_8 rfl ?_
  refine z_iald dX11_ageOf_9 (zOb.lit (by decide +kernel)) h0.1 h0.2 ?_
  refine z_isubN dX11_ageOf_10 (show -2147483648 ≤ (zdiv d 7) - (h 214 m) ∧ (zdiv d 7) - (h 214 m) < 2147483648 from ⟨by omega, by omega⟩).1 (show -2147483648 ≤ (zdiv d 7) - (h 214 m) ∧ (zdiv d 7) - (h 214 m) < 2147483648 from ⟨by omega, by omega⟩).2 ?_
  refine z_istore_n (lv' := [(3, xI ((zdiv d 7) - (h 214 m))), (0, xR 169), (1, xI m), (2, xI d)]) dX11_ageOf_11 (by decide) rfl ?_
  refine z_iload_n 0 dX11_ageOf_12 rfl ?_
  refine z_if_ge (tgt := 20) dX11_ageOf_13 (by decide) (fun c1 => ?_) (fun c1 => ?_)
  ·
    refine z_iload_n 0 dX11_ageOf_20 rfl ?_
    refine z_bipush dX11_ageOf_21 (zi32_d rfl) (by decide) ?_
    refine z_idiv dX11_ageOf_23 (by decide) ?_
    exact z_iret dX11_ageOf_24 rfl (k1 c1)
  ·
    refine z_iconst dX11_ageOf_16 (zi32_d rfl) ?_
    refine z_goto (tgt := 24) dX11_ageOf_17 (by decide) ?_
    exact z_iret dX11_ageOf_24 rfl (k2 c1)

theorem f_X11_ageOf {X : zX} {dep : Nat} (m : Int) (d : Int) {h : zH} (h0 : 0 ≤ m ∧ m < 60) (h1 : 0 ≤ d ∧ d ≤ 3639) (h2 : -3120 ≤ h 214 m ∧ h 214 m < 520) : zW mX11_ageOf X dep 0 0 239 0 (zar 0 [xR 169, xI m, xI d]) [] h (zF h [xI (zage (h 214 m) d)]) := by
  refine bX11_ageOf_0 m d h0 h1 h2 (zdiv7 h1.1 h1.2) ?_ ?_
  all_goals intro c
  all_goals refine ⟨rfl, rfl, congrArg (fun x => [xI x]) ?_⟩
  all_goals unfold zage
  · rw [if_neg (by omega)]
  · rw [if_pos (by omega)]

set_option maxRecDepth 20000 in
theorem bX11_areBrothers_0 {X : zX} {dep bc bs : Nat} (a : Int) (b : Int) {h : zH} {Q : Nat → zH → List zV → Prop} (ha : 0 ≤ a ∧ a < 60) (hb : 0 ≤ b ∧ b < 60)
    (k1 : Q 239 h [xI (if a = b then 0 else if (h 215 b) = 0 then 0 else if (h 173 a) = (h 173 b) then 1 else 0 : Int)]) : zW mX11_areBrothers X dep bc bs 239 0 [(0, xR 169), (1, xI a), (2, xI b)] [] h Q := by
  refine z_iload_n 1 dX11_areBrothers_0 rfl ?_
  refine z_iload_n 2 dX11_areBrothers_1 rfl ?_
  suffices KJ : zW mX11_areBrothers X dep bc bs 239 34 [(0, xR 169), (1, xI a), (2, xI b)] [xI (if a = b then 0 else if (h 215 b) = 0 then 0 else if (h 173 a) = (h 173 b) then 1 else 0 : Int)] h Q by
    refine z_icmp_eq (tgt := 33) dX11_areBrothers_2 (by decide) (fun j1 => ?_) (fun j1 => ?_)
    ·
      refine z_iconst dX11_areBrothers_33 (zi32_d rfl) ?_
      rw [if_pos j1] at KJ
      exact KJ
    ·
      refine z_aload_n 0 dX11_areBrothers_5 rfl ?_
      refine z_getS (v := 215) (k := 68) (kz := 68) pk11 dX11_areBrothers_6 (by decide) zb_1192 rfl (zOb.lit (by decide +kernel)) rfl (by decide +kernel) ?_
      refine z_iload_n 2 dX11_areBrothers_9 rfl ?_
      refine z_zald dX11_areBrothers_10 (zOb.lit (by decide +kernel)) (show 0 ≤ b ∧ b < 60 from ⟨by omega, by omega⟩).1 (show 0 ≤ b ∧ b < 60 from ⟨by omega, by omega⟩).2 ?_
      refine z_if_eq (tgt := 33) dX11_areBrothers_11 (by decide) (fun j2 => ?_) (fun j2 => ?_)
      ·
        refine z_iconst dX11_areBrothers_33 (zi32_d rfl) ?_
        rw [if_neg j1] at KJ
        rw [if_pos j2] at KJ
        exact KJ
      ·
        refine z_aload_n 0 dX11_areBrothers_14 rfl ?_
        refine z_getS (v := 173) (k := 8) (kz := 8) pk11 dX11_areBrothers_15 (by decide) zb_1132 rfl (zOb.lit (by decide +kernel)) rfl (by decide +kernel) ?_
        refine z_iload_n 1 dX11_areBrothers_18 rfl ?_
        refine z_iald dX11_areBrothers_19 (zOb.lit (by decide +kernel)) (show 0 ≤ a ∧ a < 60 from ⟨by omega, by omega⟩).1 (show 0 ≤ a ∧ a < 60 from ⟨by omega, by omega⟩).2 ?_
        refine z_aload_n 0 dX11_areBrothers_20 rfl ?_
        refine z_getS (v := 173) (k := 8) (kz := 8) pk11 dX11_areBrothers_21 (by decide) zb_1132 rfl (zOb.lit (by decide +kernel)) rfl (by decide +kernel) ?_
        refine z_iload_n 2 dX11_areBrothers_24 rfl ?_
        refine z_iald dX11_areBrothers_25 (zOb.lit (by decide +kernel)) (show 0 ≤ b ∧ b < 60 from ⟨by omega, by omega⟩).1 (show 0 ≤ b ∧ b < 60 from ⟨by omega, by omega⟩).2 ?_
        refine z_icmp_ne (tgt := 33) dX11_areBrothers_26 (by decide) (fun j3 => ?_) (fun j3 => ?_)
        ·
          refine z_iconst dX11_areBrothers_33 (zi32_d rfl) ?_
          rw [if_neg j1] at KJ
          rw [if_neg j2] at KJ
          rw [if_neg j3] at KJ
          exact KJ
        ·
          refine z_iconst dX11_areBrothers_29 (zi32_d rfl) ?_
          refine z_goto (tgt := 34) dX11_areBrothers_30 (by decide) ?_
          rw [if_neg j1] at KJ
          rw [if_neg j2] at KJ
          rw [if_pos j3] at KJ
          exact KJ
  exact z_zret dX11_areBrothers_34 rfl (by repeat (first | (left; rfl) | (right; rfl) | split)) (k1)
theorem f_X11_areBrothers {X : zX} {dep : Nat} (a : Int) (b : Int) {h : zH} (ha : 0 ≤ a ∧ a < 60) (hb : 0 ≤ b ∧ b < 60) : zW mX11_areBrothers X dep 0 0 239 0 (zar 0 [xR 169, xI a, xI b]) [] h (zF h [xI (zb (a ≠ b ∧ h 215 b ≠ 0 ∧ h 173 a = h 173 b))]) := by
  refine bX11_areBrothers_0 a b ha hb ?_
  all_goals intros
  all_goals refine ⟨rfl, rfl, ?_⟩
  all_goals (first | rfl | (refine congrArg (fun x => [xI x]) ?_; unfold zb; (repeat' split) <;> first | rfl | omega))

set_option maxRecDepth 20000 in
theorem bX11_isListed_0 {X : zX} {dep bc bs : Nat} (l : Int) (m : Int) {h : zH} {Q : Nat → zH → List zV → Prop} (hl : 0 ≤ l ∧ l < 4) (hm : 0 ≤ m ∧ m < 60)
    (k1 : Q 239 h [xI (if (h 219 ((60 * l) + m)) < 4 then 0 else 1 : Int)]) : zW mX11_isListed X dep bc bs 239 0 [(0, xR 169), (1, xI l), (2, xI m)] [] h Q := by
  refine z_aload_n 0 dX11_isListed_0 rfl ?_
  refine z_getS (v := 219) (k := 72) (kz := 72) pk11 dX11_isListed_1 (by decide) zb_1196 rfl (zOb.lit (by decide +kernel)) rfl (by decide +kernel) ?_
  refine z_bipush dX11_isListed_4 (zi32_d rfl) (by decide) ?_
  refine z_iload_n 1 dX11_isListed_6 rfl ?_
  refine z_imulN dX11_isListed_7 (show -2147483648 ≤ 60 * l ∧ 60 * l < 2147483648 from ⟨by omega, by omega⟩).1 (show -2147483648 ≤ 60 * l ∧ 60 * l < 2147483648 from ⟨by omega, by omega⟩).2 ?_
  refine z_iload_n 2 dX11_isListed_8 rfl ?_
  refine z_iaddN dX11_isListed_9 (show -2147483648 ≤ (60 * l) + m ∧ (60 * l) + m < 2147483648 from ⟨by omega, by omega⟩).1 (show -2147483648 ≤ (60 * l) + m ∧ (60 * l) + m < 2147483648 from ⟨by omega, by omega⟩).2 ?_
  refine z_iald dX11_isListed_10 (zOb.lit (by decide +kernel)) (show 0 ≤ ((60 * l) + m) ∧ ((60 * l) + m) < 240 from ⟨by omega, by omega⟩).1 (show 0 ≤ ((60 * l) + m) ∧ ((60 * l) + m) < 240 from ⟨by omega, by omega⟩).2 ?_
  refine z_iconst dX11_isListed_11 (zi32_d rfl) ?_
  suffices KJ : zW mX11_isListed X dep bc bs 239 20 [(0, xR 169), (1, xI l), (2, xI m)] [xI (if (h 219 ((60 * l) + m)) < 4 then 0 else 1 : Int)] h Q by
    refine z_icmp_lt (tgt := 19) dX11_isListed_12 (by decide) (fun j1 => ?_) (fun j1 => ?_)
    ·
      refine z_iconst dX11_isListed_19 (zi32_d rfl) ?_
      rw [if_pos j1] at KJ
      exact KJ
    ·
      refine z_iconst dX11_isListed_15 (zi32_d rfl) ?_
      refine z_goto (tgt := 20) dX11_isListed_16 (by decide) ?_
      rw [if_neg j1] at KJ
      exact KJ
  exact z_zret dX11_isListed_20 rfl (by repeat (first | (left; rfl) | (right; rfl) | split)) (k1)
theorem f_X11_isListed {X : zX} {dep : Nat} (l : Int) (m : Int) {h : zH} (hl : 0 ≤ l ∧ l < 4) (hm : 0 ≤ m ∧ m < 60) : zW mX11_isListed X dep 0 0 239 0 (zar 0 [xR 169, xI l, xI m]) [] h (zF h [xI (zb (4 ≤ h 219 (60 * l + m)))]) := by
  refine bX11_isListed_0 l m hl hm ?_
  all_goals intros
  all_goals refine ⟨rfl, rfl, ?_⟩
  all_goals (first | rfl | (refine congrArg (fun x => [xI x]) ?_; unfold zb; (repeat' split) <;> first | rfl | omega))

set_option maxRecDepth 20000 in
theorem bX11_weekOf_0 {X : zX} {dep bc bs : Nat} (m : Int) {h : zH} {Q : Nat → zH → List zV → Prop} (h0 : 0 ≤ m ∧ m < 60) (hz : -52 < zrem (h 214 m) 52 ∧ zrem (h 214 m) 52 < 52)
    (k1 : Q 239 h [xI (zrem ((zrem (h 214 m) 52) + 52) 52)]) : zW mX11_weekOf X dep bc bs 239 0 [(0, xR 169), (1, xI m)] [] h Q := by
  refine z_aload_n 0 dX11_weekOf_0 rfl ?_
  refine z_getS (v := 214) (k := 67) (kz := 67) pk11 dX11_weekOf_1 (by decide) zb_1191 rfl (zOb.lit (by decide +kernel)) rfl (by decide +kernel) ?_
  refine z_iload_n 1 dX11_weekOf_4 rfl ?_
  refine z_iald dX11_weekOf_5 (zOb.lit (by decide +kernel)) h0.1 h0.2 ?_
  refine z_bipush dX11_weekOf_6 (zi32_d rfl) (by decide) ?_
  refine z_irem dX11_weekOf_8 (by decide) ?_
  refine z_bipush dX11_weekOf_9 (zi32_d rfl) (by decide) ?_
  refine z_iaddN dX11_weekOf_11 (show -2147483648 ≤ (zrem (h 214 m) 52) + 52 ∧ (zrem (h 214 m) 52) + 52 < 2147483648 from ⟨by omega, by omega⟩).1 (show -2147483648 ≤ (zrem (h 214 m) 52) + 52 ∧ (zrem (h 214 m) 52) + 52 < 2147483648 from ⟨by omega, by omega⟩).2 ?_
  refine z_bipush dX11_weekOf_12 (zi32_d rfl) (by decide) ?_
  refine z_irem dX11_weekOf_14 (by decide) ?_
  exact z_iret dX11_weekOf_15 rfl (k1)

theorem ztmod52 (a : Int) : a.tmod 52 = if 0 ≤ a then a % 52 else -((-a) % 52) := by
  split
  · exact Int.tmod_eq_emod_of_nonneg (by omega)
  · rw [show a = -(-a) by omega, Int.neg_tmod, Int.tmod_eq_emod_of_nonneg (by omega)]
    simp
theorem f_X11_weekOf {X : zX} {dep : Nat} (m : Int) {h : zH} (h0 : 0 ≤ m ∧ m < 60) (hb : -3120 ≤ h 214 m ∧ h 214 m < 520) : zW mX11_weekOf X dep 0 0 239 0 (zar 0 [xR 169, xI m]) [] h (zF h [xI (h 214 m % 52)]) := by
  obtain ⟨e1, e2⟩ := zmod_at hb.1 hb.2
  have e3 := ztmod52 (h 214 m)
  have hz : -52 < zrem (h 214 m) 52 ∧ zrem (h 214 m) 52 < 52 := by rw [e2, e3]; split <;> omega
  refine bX11_weekOf_0 m h0 hz ?_
  obtain ⟨e4, e5⟩ := zmod_at (a := zrem (h 214 m) 52 + 52) (by omega) (by omega)
  have e6 := ztmod52 (zrem (h 214 m) 52 + 52)
  refine ⟨rfl, rfl, congrArg (fun x => [xI x]) ?_⟩
  rw [e5, e6, e2, e3]
  (repeat' split) <;> omega

set_option maxRecDepth 20000 in
theorem bX11_isAhead_0 {X : zX} {dep bc bs : Nat} (l : Int) (a : Int) (b : Int) {h : zH} {Q : Nat → zH → List zV → Prop} (hl : 0 ≤ l ∧ l < 4) (ha0 : 0 ≤ a ∧ a < 60) (ha1 : -3120 ≤ h 214 a ∧ h 214 a < 520) (ha2 : 0 ≤ h 171 a ∧ h 171 a < 26) (ha3 : 0 ≤ h 221 (60 * l + a) ∧ h 221 (60 * l + a) ≤ 9) (ha4 : 0 ≤ h 208 (52 * l + h 214 a % 52) ∧ h 208 (52 * l + h 214 a % 52) < 52) (ha5 : 0 ≤ h 209 (26 * l + h 171 a) ∧ h 209 (26 * l + h 171 a) < 26) (hb0 : 0 ≤ b ∧ b < 60) (hb1 : -3120 ≤ h 214 b ∧ h 214 b < 520) (hb2 : 0 ≤ h 171 b ∧ h 171 b < 26) (hb3 : 0 ≤ h 221 (60 * l + b) ∧ h 221 (60 * l + b) ≤ 9) (hb4 : 0 ≤ h 208 (52 * l + h 214 b % 52) ∧ h 208 (52 * l + h 214 b % 52) < 52) (hb5 : 0 ≤ h 209 (26 * l + h 171 b) ∧ h 209 (26 * l + h 171 b) < 26) (hdep : 1 ≤ dep)
    (k1 : ¬ ((h 221 ((60 * l) + a)) - (h 221 ((60 * l) + b))) = 0 → ¬ ((h 221 ((60 * l) + a)) - (h 221 ((60 * l) + b))) = 0 → Q 239 h [xI (if ((h 221 ((60 * l) + a)) - (h 221 ((60 * l) + b))) = 0 then if b ≤ a then 0 else 1 else if 0 ≤ ((h 221 ((60 * l) + a)) - (h 221 ((60 * l) + b))) then 0 else 1 : Int)])
    (k2 : ¬ ((h 221 ((60 * l) + a)) - (h 221 ((60 * l) + b))) = 0 → ((h 221 ((60 * l) + a)) - (h 221 ((60 * l) + b))) = 0 → Q 239 h [xI (if ((h 209 ((26 * l) + (h 171 a))) - (h 209 ((26 * l) + (h 171 b)))) = 0 then if b ≤ a then 0 else 1 else if 0 ≤ ((h 209 ((26 * l) + (h 171 a))) - (h 209 ((26 * l) + (h 171 b)))) then 0 else 1 : Int)])
    (k3 : ((h 221 ((60 * l) + a)) - (h 221 ((60 * l) + b))) = 0 → ¬ ((h 208 ((52 * l) + (h 214 a % 52))) - (h 208 ((52 * l) + (h 214 b % 52)))) = 0 → Q 239 h [xI (if ((h 208 ((52 * l) + (h 214 a % 52))) - (h 208 ((52 * l) + (h 214 b % 52)))) = 0 then if b ≤ a then 0 else 1 else if 0 ≤ ((h 208 ((52 * l) + (h 214 a % 52))) - (h 208 ((52 * l) + (h 214 b % 52)))) then 0 else 1 : Int)])
    (k4 : ((h 221 ((60 * l) + a)) - (h 221 ((60 * l) + b))) = 0 → ((h 208 ((52 * l) + (h 214 a % 52))) - (h 208 ((52 * l) + (h 214 b % 52)))) = 0 → Q 239 h [xI (if ((h 209 ((26 * l) + (h 171 a))) - (h 209 ((26 * l) + (h 171 b)))) = 0 then if b ≤ a then 0 else 1 else if 0 ≤ ((h 209 ((26 * l) + (h 171 a))) - (h 209 ((26 * l) + (h 171 b)))) then 0 else 1 : Int)]) : zW mX11_isAhead X dep bc bs 239 0 [(0, xR 169), (1, xI l), (2, xI a), (3, xI b)] [] h Q := by
  refine z_aload_n 0 dX11_isAhead_0 rfl ?_
  refine z_getS (v := 221) (k := 74) (kz := 74) pk11 dX11_isAhead_1 (by decide) zb_1198 rfl (zOb.lit (by decide +kernel)) rfl (by decide +kernel) ?_
  refine z_bipush dX11_isAhead_4 (zi32_d rfl) (by decide) ?_
  refine z_iload_n 1 dX11_isAhead_6 rfl ?_
  refine z_imulN dX11_isAhead_7 (show -2147483648 ≤ 60 * l ∧ 60 * l < 2147483648 from ⟨by omega, by omega⟩).1 (show -2147483648 ≤ 60 * l ∧ 60 * l < 2147483648 from ⟨by omega, by omega⟩).2 ?_
  refine z_iload_n 2 dX11_isAhead_8 rfl ?_
  refine z_iaddN dX11_isAhead_9 (show -2147483648 ≤ (60 * l) + a ∧ (60 * l) + a < 2147483648 from ⟨by omega, by omega⟩).1 (show -2147483648 ≤ (60 * l) + a ∧ (60 * l) + a < 2147483648 from ⟨by omega, by omega⟩).2 ?_
  refine z_iald dX11_isAhead_10 (zOb.lit (by decide +kernel)) (show 0 ≤ ((60 * l) + a) ∧ ((60 * l) + a) < 240 from ⟨by omega, by omega⟩).1 (show 0 ≤ ((60 * l) + a) ∧ ((60 * l) + a) < 240 from ⟨by omega, by omega⟩).2 ?_
  refine z_aload_n 0 dX11_isAhead_11 rfl ?_
  refine z_getS (v := 221) (k := 74) (kz := 74) pk11 dX11_isAhead_12 (by decide) zb_1198 rfl (zOb.lit (by decide +kernel)) rfl (by decide +kernel) ?_
  refine z_bipush dX11_isAhead_15 (zi32_d rfl) (by decide) ?_
  refine z_iload_n 1 dX11_isAhead_17 rfl ?_
  refine z_imulN dX11_isAhead_18 (show -2147483648 ≤ 60 * l ∧ 60 * l < 2147483648 from ⟨by omega, by omega⟩).1 (show -2147483648 ≤ 60 * l ∧ 60 * l < 2147483648 from ⟨by omega, by omega⟩).2 ?_
  refine z_iload_n 3 dX11_isAhead_19 rfl ?_
  refine z_iaddN dX11_isAhead_20 (show -2147483648 ≤ (60 * l) + b ∧ (60 * l) + b < 2147483648 from ⟨by omega, by omega⟩).1 (show -2147483648 ≤ (60 * l) + b ∧ (60 * l) + b < 2147483648 from ⟨by omega, by omega⟩).2 ?_
  refine z_iald dX11_isAhead_21 (zOb.lit (by decide +kernel)) (show 0 ≤ ((60 * l) + b) ∧ ((60 * l) + b) < 240 from ⟨by omega, by omega⟩).1 (show 0 ≤ ((60 * l) + b) ∧ ((60 * l) + b) < 240 from ⟨by omega, by omega⟩).2 ?_
  refine z_isubN dX11_isAhead_22 (show -2147483648 ≤ (h 221 ((60 * l) + a)) - (h 221 ((60 * l) + b)) ∧ (h 221 ((60 * l) + a)) - (h 221 ((60 * l) + b)) < 2147483648 from ⟨by omega, by omega⟩).1 (show -2147483648 ≤ (h 221 ((60 * l) + a)) - (h 221 ((60 * l) + b)) ∧ (h 221 ((60 * l) + a)) - (h 221 ((60 * l) + b)) < 2147483648 from ⟨by omega, by omega⟩).2 ?_
  refine z_istore (lv' := [(4, xI ((h 221 ((60 * l) + a)) - (h 221 ((60 * l) + b)))), (0, xR 169), (1, xI l), (2, xI a), (3, xI b)]) dX11_isAhead_23 (by decide) rfl ?_
  refine z_iload 0 dX11_isAhead_25 rfl ?_
  refine z_if_ne (tgt := 63) dX11_isAhead_27 (by decide) (fun c1 => ?_) (fun c1 => ?_)
  ·
    refine z_iload 0 dX11_isAhead_63 rfl ?_
    refine z_if_ne (tgt := 103) dX11_isAhead_65 (by decide) (fun c2 => ?_) (fun c2 => ?_)
    ·
      refine z_iload 0 dX11_isAhead_103 rfl ?_
      suffices KJ : zW mX11_isAhead X dep bc bs 239 131 [(4, xI ((h 221 ((60 * l) + a)) - (h 221 ((60 * l) + b)))), (0, xR 169), (1, xI l), (2, xI a), (3, xI b)] [xI (if ((h 221 ((60 * l) + a)) - (h 221 ((60 * l) + b))) = 0 then if b ≤ a then 0 else 1 else if 0 ≤ ((h 221 ((60 * l) + a)) - (h 221 ((60 * l) + b))) then 0 else 1 : Int)] h Q by
        refine z_if_ne (tgt := 121) dX11_isAhead_105 (by decide) (fun j1 => ?_) (fun j1 => ?_)
        ·
          refine z_iload 0 dX11_isAhead_121 rfl ?_
          refine z_if_ge (tgt := 130) dX11_isAhead_123 (by decide) (fun j2 => ?_) (fun j2 => ?_)
          ·
            refine z_iconst dX11_isAhead_130 (zi32_d rfl) ?_
            rw [if_neg j1] at KJ
            rw [if_pos j2] at KJ
            exact KJ
          ·
            refine z_iconst dX11_isAhead_126 (zi32_d rfl) ?_
            refine z_goto (tgt := 131) dX11_isAhead_127 (by decide) ?_
            rw [if_neg j1] at KJ
            rw [if_neg j2] at KJ
            exact KJ
        ·
          refine z_iload_n 3 dX11_isAhead_108 rfl ?_
          refine z_iload_n 4 dX11_isAhead_109 rfl ?_
          refine z_icmp_ge (tgt := 117) dX11_isAhead_110 (by decide) (fun j2 => ?_) (fun j2 => ?_)
          ·
            refine z_iconst dX11_isAhead_117 (zi32_d rfl) ?_
            refine z_goto (tgt := 131) dX11_isAhead_118 (by decide) ?_
            rw [if_pos j1] at KJ
            rw [if_pos j2] at KJ
            exact KJ
          ·
            refine z_iconst dX11_isAhead_113 (zi32_d rfl) ?_
            refine z_goto (tgt := 131) dX11_isAhead_114 (by decide) ?_
            rw [if_pos j1] at KJ
            rw [if_neg j2] at KJ
            exact KJ
      exact z_zret dX11_isAhead_131 rfl (by repeat (first | (left; rfl) | (right; rfl) | split)) (k1 c1 c2)
    ·
      refine z_aload_n 1 dX11_isAhead_68 rfl ?_
      refine z_getS (v := 209) (k := 61) (kz := 61) pk11 dX11_isAhead_69 (by decide) zb_1185 rfl (zOb.lit (by decide +kernel)) rfl (by decide +kernel) ?_
      refine z_bipush dX11_isAhead_72 (zi32_d rfl) (by decide) ?_
      refine z_iload_n 2 dX11_isAhead_74 rfl ?_
      refine z_imulN dX11_isAhead_75 (show -2147483648 ≤ 26 * l ∧ 26 * l < 2147483648 from ⟨by omega, by omega⟩).1 (show -2147483648 ≤ 26 * l ∧ 26 * l < 2147483648 from ⟨by omega, by omega⟩).2 ?_
      refine z_aload_n 1 dX11_isAhead_76 rfl ?_
      refine z_getS (v := 171) (k := 6) (kz := 6) pk11 dX11_isAhead_77 (by decide) zb_1130 rfl (zOb.lit (by decide +kernel)) rfl (by decide +kernel) ?_
      refine z_iload_n 3 dX11_isAhead_80 rfl ?_
      refine z_iald dX11_isAhead_81 (zOb.lit (by decide +kernel)) ha0.1 ha0.2 ?_
      refine z_iaddN dX11_isAhead_82 (show -2147483648 ≤ (26 * l) + (h 171 a) ∧ (26 * l) + (h 171 a) < 2147483648 from ⟨by omega, by omega⟩).1 (show -2147483648 ≤ (26 * l) + (h 171 a) ∧ (26 * l) + (h 171 a) < 2147483648 from ⟨by omega, by omega⟩).2 ?_
      refine z_iald dX11_isAhead_83 (zOb.lit (by decide +kernel)) (show 0 ≤ ((26 * l) + (h 171 a)) ∧ ((26 * l) + (h 171 a)) < 104 from ⟨by omega, by omega⟩).1 (show 0 ≤ ((26 * l) + (h 171 a)) ∧ ((26 * l) + (h 171 a)) < 104 from ⟨by omega, by omega⟩).2 ?_
      refine z_aload_n 1 dX11_isAhead_84 rfl ?_
      refine z_getS (v := 209) (k := 61) (kz := 61) pk11 dX11_isAhead_85 (by decide) zb_1185 rfl (zOb.lit (by decide +kernel)) rfl (by decide +kernel) ?_
      refine z_bipush dX11_isAhead_88 (zi32_d rfl) (by decide) ?_
      refine z_iload_n 2 dX11_isAhead_90 rfl ?_
      refine z_imulN dX11_isAhead_91 (show -2147483648 ≤ 26 * l ∧ 26 * l < 2147483648 from ⟨by omega, by omega⟩).1 (show -2147483648 ≤ 26 * l ∧ 26 * l < 2147483648 from ⟨by omega, by omega⟩).2 ?_
      refine z_aload_n 1 dX11_isAhead_92 rfl ?_
      refine z_getS (v := 171) (k := 6) (kz := 6) pk11 dX11_isAhead_93 (by decide) zb_1130 rfl (zOb.lit (by decide +kernel)) rfl (by decide +kernel) ?_
      refine z_iload_n 4 dX11_isAhead_96 rfl ?_
      refine z_iald dX11_isAhead_97 (zOb.lit (by decide +kernel)) hb0.1 hb0.2 ?_
      refine z_iaddN dX11_isAhead_98 (show -2147483648 ≤ (26 * l) + (h 171 b) ∧ (26 * l) + (h 171 b) < 2147483648 from ⟨by omega, by omega⟩).1 (show -2147483648 ≤ (26 * l) + (h 171 b) ∧ (26 * l) + (h 171 b) < 2147483648 from ⟨by omega, by omega⟩).2 ?_
      refine z_iald dX11_isAhead_99 (zOb.lit (by decide +kernel)) (show 0 ≤ ((26 * l) + (h 171 b)) ∧ ((26 * l) + (h 171 b)) < 104 from ⟨by omega, by omega⟩).1 (show 0 ≤ ((26 * l) + (h 171 b)) ∧ ((26 * l) + (h 171 b)) < 104 from ⟨by omega, by omega⟩).2 ?_
      refine z_isubN dX11_isAhead_100 (show -2147483648 ≤ (h 209 ((26 * l) + (h 171 a))) - (h 209 ((26 * l) + (h 171 b))) ∧ (h 209 ((26 * l) + (h 171 a))) - (h 209 ((26 * l) + (h 171 b))) < 2147483648 from ⟨by omega, by omega⟩).1 (show -2147483648 ≤ (h 209 ((26 * l) + (h 171 a))) - (h 209 ((26 * l) + (h 171 b))) ∧ (h 209 ((26 * l) + (h 171 a))) - (h 209 ((26 * l) + (h 171 b))) < 2147483648 from ⟨by omega, by omega⟩).2 ?_
      refine z_istore (lv' := [(4, xI ((h 209 ((26 * l) + (h 171 a))) - (h 209 ((26 * l) + (h 171 b))))), (0, xR 169), (1, xI l), (2, xI a), (3, xI b)]) dX11_isAhead_101 (by decide) rfl ?_
      refine z_iload 0 dX11_isAhead_103 rfl ?_
      suffices KJ : zW mX11_isAhead X dep bc bs 239 131 [(4, xI ((h 209 ((26 * l) + (h 171 a))) - (h 209 ((26 * l) + (h 171 b))))), (0, xR 169), (1, xI l), (2, xI a), (3, xI b)] [xI (if ((h 209 ((26 * l) + (h 171 a))) - (h 209 ((26 * l) + (h 171 b)))) = 0 then if b ≤ a then 0 else 1 else if 0 ≤ ((h 209 ((26 * l) + (h 171 a))) - (h 209 ((26 * l) + (h 171 b)))) then 0 else 1 : Int)] h Q by
        refine z_if_ne (tgt := 121) dX11_isAhead_105 (by decide) (fun j1 => ?_) (fun j1 => ?_)
        ·
          refine z_iload 0 dX11_isAhead_121 rfl ?_
          refine z_if_ge (tgt := 130) dX11_isAhead_123 (by decide) (fun j2 => ?_) (fun j2 => ?_)
          ·
            refine z_iconst dX11_isAhead_130 (zi32_d rfl) ?_
            rw [if_neg j1] at KJ
            rw [if_pos j2] at KJ
            exact KJ
          ·
            refine z_iconst dX11_isAhead_126 (zi32_d rfl) ?_
            refine z_goto (tgt := 131) dX11_isAhead_127 (by decide) ?_
            rw [if_neg j1] at KJ
            rw [if_neg j2] at KJ
            exact KJ
        ·
          refine z_iload_n 3 dX11_isAhead_108 rfl ?_
          refine z_iload_n 4 dX11_isAhead_109 rfl ?_
          refine z_icmp_ge (tgt := 117) dX11_isAhead_110 (by decide) (fun j2 => ?_) (fun j2 => ?_)
          ·
            refine z_iconst dX11_isAhead_117 (zi32_d rfl) ?_
            refine z_goto (tgt := 131) dX11_isAhead_118 (by decide) ?_
            rw [if_pos j1] at KJ
            rw [if_pos j2] at KJ
            exact KJ
          ·
            refine z_iconst dX11_isAhead_113 (zi32_d rfl) ?_
            refine z_goto (tgt := 131) dX11_isAhead_114 (by decide) ?_
            rw [if_pos j1] at KJ
            rw [if_neg j2] at KJ
            exact KJ
      exact z_zret dX11_isAhead_131 rfl (by repeat (first | (left; rfl) | (right; rfl) | split)) (k2 c1 c2)
  ·
    refine z_aload_n 1 dX11_isAhead_30 rfl ?_
    refine z_getS (v := 208) (k := 60) (kz := 60) pk11 dX11_isAhead_31 (by decide) zb_1184 rfl (zOb.lit (by decide +kernel)) rfl (by decide +kernel) ?_
    refine z_bipush dX11_isAhead_34 (zi32_d rfl) (by decide) ?_
    refine z_iload_n 2 dX11_isAhead_36 rfl ?_
    refine z_imulN dX11_isAhead_37 (show -2147483648 ≤ 52 * l ∧ 52 * l < 2147483648 from ⟨by omega, by omega⟩).1 (show -2147483648 ≤ 52 * l ∧ 52 * l < 2147483648 from ⟨by omega, by omega⟩).2 ?_
    refine z_aload_n 1 dX11_isAhead_38 rfl ?_
    refine z_iload_n 3 dX11_isAhead_39 rfl ?_
    refine z_invF (ci := 11) (N := 97) (as := [xI a]) (st := [xI (52 * l), xR 208]) (ra := [xI a]) (dep' := dep - 1) (rs := [xI (h 214 a % 52)]) (h' := h) (f_X11_weekOf a (h := h) ha0 ha1) dX11_isAhead_40 nX11_weekOf zb_1675 zb_1677 zb_73 zb_92 (zOb.lit (by decide +kernel)) rfl (by omega) zne_I (Nat.le_of_ble_eq_true rfl) (Nat.le_of_ble_eq_true rfl) rfl ?_
    refine z_iaddN dX11_isAhead_43 (show -2147483648 ≤ (52 * l) + (h 214 a % 52) ∧ (52 * l) + (h 214 a % 52) < 2147483648 from ⟨by omega, by omega⟩).1 (show -2147483648 ≤ (52 * l) + (h 214 a % 52) ∧ (52 * l) + (h 214 a % 52) < 2147483648 from ⟨by omega, by omega⟩).2 ?_
    refine z_iald dX11_isAhead_44 (zOb.lit (by decide +kernel)) (show 0 ≤ ((52 * l) + (h 214 a % 52)) ∧ ((52 * l) + (h 214 a % 52)) < 208 from ⟨by omega, by omega⟩).1 (show 0 ≤ ((52 * l) + (h 214 a % 52)) ∧ ((52 * l) + (h 214 a % 52)) < 208 from ⟨by omega, by omega⟩).2 ?_
    refine z_aload_n 1 dX11_isAhead_45 rfl ?_
    refine z_getS (v := 208) (k := 60) (kz := 60) pk11 dX11_isAhead_46 (by decide) zb_1184 rfl (zOb.lit (by decide +kernel)) rfl (by decide +kernel) ?_
    refine z_bipush dX11_isAhead_49 (zi32_d rfl) (by decide) ?_
    refine z_iload_n 2 dX11_isAhead_51 rfl ?_
    refine z_imulN dX11_isAhead_52 (show -2147483648 ≤ 52 * l ∧ 52 * l < 2147483648 from ⟨by omega, by omega⟩).1 (show -2147483648 ≤ 52 * l ∧ 52 * l < 2147483648 from ⟨by omega, by omega⟩).2 ?_
    refine z_aload_n 1 dX11_isAhead_53 rfl ?_
    refine z_iload_n 4 dX11_isAhead_54 rfl ?_
    refine z_invF (ci := 11) (N := 97) (as := [xI b]) (st := [xI (52 * l), xR 208, xI (h 208 ((52 * l) + (h 214 a % 52)))]) (ra := [xI b]) (dep' := dep - 1) (rs := [xI (h 214 b % 52)]) (h' := h) (f_X11_weekOf b (h := h) hb0 hb1) dX11_isAhead_55 nX11_weekOf zb_1675 zb_1677 zb_73 zb_92 (zOb.lit (by decide +kernel)) rfl (by omega) zne_I (Nat.le_of_ble_eq_true rfl) (Nat.le_of_ble_eq_true rfl) rfl ?_
    refine z_iaddN dX11_isAhead_58 (show -2147483648 ≤ (52 * l) + (h 214 b % 52) ∧ (52 * l) + (h 214 b % 52) < 2147483648 from ⟨by omega, by omega⟩).1 (show -2147483648 ≤ (52 * l) + (h 214 b % 52) ∧ (52 * l) + (h 214 b % 52) < 2147483648 from ⟨by omega, by omega⟩).2 ?_
    refine z_iald dX11_isAhead_59 (zOb.lit (by decide +kernel)) (show 0 ≤ ((52 * l) + (h 214 b % 52)) ∧ ((52 * l) + (h 214 b % 52)) < 208 from ⟨by omega, by omega⟩).1 (show 0 ≤ ((52 * l) + (h 214 b % 52)) ∧ ((52 * l) + (h 214 b % 52)) < 208 from ⟨by omega, by omega⟩).2 ?_
    refine z_isubN dX11_isAhead_60 (show -2147483648 ≤ (h 208 ((52 * l) + (h 214 a % 52))) - (h 208 ((52 * l) + (h 214 b % 52))) ∧ (h 208 ((52 * l) + (h 214 a % 52))) - (h 208 ((52 * l) + (h 214 b % 52))) < 2147483648 from ⟨by omega, by omega⟩).1 (show -2147483648 ≤ (h 208 ((52 * l) + (h 214 a % 52))) - (h 208 ((52 * l) + (h 214 b % 52))) ∧ (h 208 ((52 * l) + (h 214 a % 52))) - (h 208 ((52 * l) + (h 214 b % 52))) < 2147483648 from ⟨by omega, by omega⟩).2 ?_
    refine z_istore (lv' := [(4, xI ((h 208 ((52 * l) + (h 214 a % 52))) - (h 208 ((52 * l) + (h 214 b % 52))))), (0, xR 169), (1, xI l), (2, xI a), (3, xI b)]) dX11_isAhead_61 (by decide) rfl ?_
    refine z_iload 0 dX11_isAhead_63 rfl ?_
    refine z_if_ne (tgt := 103) dX11_isAhead_65 (by decide) (fun c2 => ?_) (fun c2 => ?_)
    ·
      refine z_iload 0 dX11_isAhead_103 rfl ?_
      suffices KJ : zW mX11_isAhead X dep bc bs 239 131 [(4, xI ((h 208 ((52 * l) + (h 214 a % 52))) - (h 208 ((52 * l) + (h 214 b % 52))))), (0, xR 169), (1, xI l), (2, xI a), (3, xI b)] [xI (if ((h 208 ((52 * l) + (h 214 a % 52))) - (h 208 ((52 * l) + (h 214 b % 52)))) = 0 then if b ≤ a then 0 else 1 else if 0 ≤ ((h 208 ((52 * l) + (h 214 a % 52))) - (h 208 ((52 * l) + (h 214 b % 52)))) then 0 else 1 : Int)] h Q by
        refine z_if_ne (tgt := 121) dX11_isAhead_105 (by decide) (fun j1 => ?_) (fun j1 => ?_)
        ·
          refine z_iload 0 dX11_isAhead_121 rfl ?_
          refine z_if_ge (tgt := 130) dX11_isAhead_123 (by decide) (fun j2 => ?_) (fun j2 => ?_)
          ·
            refine z_iconst dX11_isAhead_130 (zi32_d rfl) ?_
            rw [if_neg j1] at KJ
            rw [if_pos j2] at KJ
            exact KJ
          ·
            refine z_iconst dX11_isAhead_126 (zi32_d rfl) ?_
            refine z_goto (tgt := 131) dX11_isAhead_127 (by decide) ?_
            rw [if_neg j1] at KJ
            rw [if_neg j2] at KJ
            exact KJ
        ·
          refine z_iload_n 3 dX11_isAhead_108 rfl ?_
          refine z_iload_n 4 dX11_isAhead_109 rfl ?_
          refine z_icmp_ge (tgt := 117) dX11_isAhead_110 (by decide) (fun j2 => ?_) (fun j2 => ?_)
          ·
            refine z_iconst dX11_isAhead_117 (zi32_d rfl) ?_
            refine z_goto (tgt := 131) dX11_isAhead_118 (by decide) ?_
            rw [if_pos j1] at KJ
            rw [if_pos j2] at KJ
            exact KJ
          ·
            refine z_iconst dX11_isAhead_113 (zi32_d rfl) ?_
            refine z_goto (tgt := 131) dX11_isAhead_114 (by decide) ?_
            rw [if_pos j1] at KJ
            rw [if_neg j2] at KJ
            exact KJ
      exact z_zret dX11_isAhead_131 rfl (by repeat (first | (left; rfl) | (right; rfl) | split)) (k3 c1 c2)
    ·
      refine z_aload_n 1 dX11_isAhead_68 rfl ?_
      refine z_getS (v := 209) (k := 61) (kz := 61) pk11 dX11_isAhead_69 (by decide) zb_1185 rfl (zOb.lit (by decide +kernel)) rfl (by decide +kernel) ?_
      refine z_bipush dX11_isAhead_72 (zi32_d rfl) (by decide) ?_
      refine z_iload_n 2 dX11_isAhead_74 rfl ?_
      refine z_imulN dX11_isAhead_75 (show -2147483648 ≤ 26 * l ∧ 26 * l < 2147483648 from ⟨by omega, by omega⟩).1 (show -2147483648 ≤ 26 * l ∧ 26 * l < 2147483648 from ⟨by omega, by omega⟩).2 ?_
      refine z_aload_n 1 dX11_isAhead_76 rfl ?_
      refine z_getS (v := 171) (k := 6) (kz := 6) pk11 dX11_isAhead_77 (by decide) zb_1130 rfl (zOb.lit (by decide +kernel)) rfl (by decide +kernel) ?_
      refine z_iload_n 3 dX11_isAhead_80 rfl ?_
      refine z_iald dX11_isAhead_81 (zOb.lit (by decide +kernel)) ha0.1 ha0.2 ?_
      refine z_iaddN dX11_isAhead_82 (show -2147483648 ≤ (26 * l) + (h 171 a) ∧ (26 * l) + (h 171 a) < 2147483648 from ⟨by omega, by omega⟩).1 (show -2147483648 ≤ (26 * l) + (h 171 a) ∧ (26 * l) + (h 171 a) < 2147483648 from ⟨by omega, by omega⟩).2 ?_
      refine z_iald dX11_isAhead_83 (zOb.lit (by decide +kernel)) (show 0 ≤ ((26 * l) + (h 171 a)) ∧ ((26 * l) + (h 171 a)) < 104 from ⟨by omega, by omega⟩).1 (show 0 ≤ ((26 * l) + (h 171 a)) ∧ ((26 * l) + (h 171 a)) < 104 from ⟨by omega, by omega⟩).2 ?_
      refine z_aload_n 1 dX11_isAhead_84 rfl ?_
      refine z_getS (v := 209) (k := 61) (kz := 61) pk11 dX11_isAhead_85 (by decide) zb_1185 rfl (zOb.lit (by decide +kernel)) rfl (by decide +kernel) ?_
      refine z_bipush dX11_isAhead_88 (zi32_d rfl) (by decide) ?_
      refine z_iload_n 2 dX11_isAhead_90 rfl ?_
      refine z_imulN dX11_isAhead_91 (show -2147483648 ≤ 26 * l ∧ 26 * l < 2147483648 from ⟨by omega, by omega⟩).1 (show -2147483648 ≤ 26 * l ∧ 26 * l < 2147483648 from ⟨by omega, by omega⟩).2 ?_
      refine z_aload_n 1 dX11_isAhead_92 rfl ?_
      refine z_getS (v := 171) (k := 6) (kz := 6) pk11 dX11_isAhead_93 (by decide) zb_1130 rfl (zOb.lit (by decide +kernel)) rfl (by decide +kernel) ?_
      refine z_iload_n 4 dX11_isAhead_96 rfl ?_
      refine z_iald dX11_isAhead_97 (zOb.lit (by decide +kernel)) hb0.1 hb0.2 ?_
      refine z_iaddN dX11_isAhead_98 (show -2147483648 ≤ (26 * l) + (h 171 b) ∧ (26 * l) + (h 171 b) < 2147483648 from ⟨by omega, by omega⟩).1 (show -2147483648 ≤ (26 * l) + (h 171 b) ∧ (26 * l) + (h 171 b) < 2147483648 from ⟨by omega, by omega⟩).2 ?_
      refine z_iald dX11_isAhead_99 (zOb.lit (by decide +kernel)) (show 0 ≤ ((26 * l) + (h 171 b)) ∧ ((26 * l) + (h 171 b)) < 104 from ⟨by omega, by omega⟩).1 (show 0 ≤ ((26 * l) + (h 171 b)) ∧ ((26 * l) + (h 171 b)) < 104 from ⟨by omega, by omega⟩).2 ?_
      refine z_isubN dX11_isAhead_100 (show -2147483648 ≤ (h 209 ((26 * l) + (h 171 a))) - (h 209 ((26 * l) + (h 171 b))) ∧ (h 209 ((26 * l) + (h 171 a))) - (h 209 ((26 * l) + (h 171 b))) < 2147483648 from ⟨by omega, by omega⟩).1 (show -2147483648 ≤ (h 209 ((26 * l) + (h 171 a))) - (h 209 ((26 * l) + (h 171 b))) ∧ (h 209 ((26 * l) + (h 171 a))) - (h 209 ((26 * l) + (h 171 b))) < 2147483648 from ⟨by omega, by omega⟩).2 ?_
      refine z_istore (lv' := [(4, xI ((h 209 ((26 * l) + (h 171 a))) - (h 209 ((26 * l) + (h 171 b))))), (0, xR 169), (1, xI l), (2, xI a), (3, xI b)]) dX11_isAhead_101 (by decide) rfl ?_
      refine z_iload 0 dX11_isAhead_103 rfl ?_
      suffices KJ : zW mX11_isAhead X dep bc bs 239 131 [(4, xI ((h 209 ((26 * l) + (h 171 a))) - (h 209 ((26 * l) + (h 171 b))))), (0, xR 169), (1, xI l), (2, xI a), (3, xI b)] [xI (if ((h 209 ((26 * l) + (h 171 a))) - (h 209 ((26 * l) + (h 171 b)))) = 0 then if b ≤ a then 0 else 1 else if 0 ≤ ((h 209 ((26 * l) + (h 171 a))) - (h 209 ((26 * l) + (h 171 b)))) then 0 else 1 : Int)] h Q by
        refine z_if_ne (tgt := 121) dX11_isAhead_105 (by decide) (fun j1 => ?_) (fun j1 => ?_)
        ·
          refine z_iload 0 dX11_isAhead_121 rfl ?_
          refine z_if_ge (tgt := 130) dX11_isAhead_123 (by decide) (fun j2 => ?_) (fun j2 => ?_)
          ·
            refine z_iconst dX11_isAhead_130 (zi32_d rfl) ?_
            rw [if_neg j1] at KJ
            rw [if_pos j2] at KJ
            exact KJ
          ·
            refine z_iconst dX11_isAhead_126 (zi32_d rfl) ?_
            refine z_goto (tgt := 131) dX11_isAhead_127 (by decide) ?_
            rw [if_neg j1] at KJ
            rw [if_neg j2] at KJ
            exact KJ
        ·
          refine z_iload_n 3 dX11_isAhead_108 rfl ?_
          refine z_iload_n 4 dX11_isAhead_109 rfl ?_
          refine z_icmp_ge (tgt := 117) dX11_isAhead_110 (by decide) (fun j2 => ?_) (fun j2 => ?_)
          ·
            refine z_iconst dX11_isAhead_117 (zi32_d rfl) ?_
            refine z_goto (tgt := 131) dX11_isAhead_118 (by decide) ?_
            rw [if_pos j1] at KJ
            rw [if_pos j2] at KJ
            exact KJ
          ·
            refine z_iconst dX11_isAhead_113 (zi32_d rfl) ?_
            refine z_goto (tgt := 131) dX11_isAhead_114 (by decide) ?_
            rw [if_pos j1] at KJ
            rw [if_neg j2] at KJ
            exact KJ
      exact z_zret dX11_isAhead_131 rfl (by repeat (first | (left; rfl) | (right; rfl) | split)) (k4 c1 c2)
theorem f_X11_isAhead {X : zX} {dep : Nat} (l : Int) (a : Int) (b : Int) {h : zH} (hl : 0 ≤ l ∧ l < 4) (ha0 : 0 ≤ a ∧ a < 60) (ha1 : -3120 ≤ h 214 a ∧ h 214 a < 520) (ha2 : 0 ≤ h 171 a ∧ h 171 a < 26) (ha3 : 0 ≤ h 221 (60 * l + a) ∧ h 221 (60 * l + a) ≤ 9) (ha4 : 0 ≤ h 208 (52 * l + h 214 a % 52) ∧ h 208 (52 * l + h 214 a % 52) < 52) (ha5 : 0 ≤ h 209 (26 * l + h 171 a) ∧ h 209 (26 * l + h 171 a) < 26) (hb0 : 0 ≤ b ∧ b < 60) (hb1 : -3120 ≤ h 214 b ∧ h 214 b < 520) (hb2 : 0 ≤ h 171 b ∧ h 171 b < 26) (hb3 : 0 ≤ h 221 (60 * l + b) ∧ h 221 (60 * l + b) ≤ 9) (hb4 : 0 ≤ h 208 (52 * l + h 214 b % 52) ∧ h 208 (52 * l + h 214 b % 52) < 52) (hb5 : 0 ≤ h 209 (26 * l + h 171 b) ∧ h 209 (26 * l + h 171 b) < 26) (hdep : 1 ≤ dep) : zW mX11_isAhead X dep 0 0 239 0 (zar 0 [xR 169, xI l, xI a, xI b]) [] h (zF h [xI (zb (h 221 (60 * l + a) < h 221 (60 * l + b) ∨ h 221 (60 * l + a) = h 221 (60 * l + b) ∧ (h 208 (52 * l + h 214 a % 52) < h 208 (52 * l + h 214 b % 52) ∨ h 208 (52 * l + h 214 a % 52) = h 208 (52 * l + h 214 b % 52) ∧ (h 209 (26 * l + h 171 a) < h 209 (26 * l + h 171 b) ∨ h 209 (26 * l + h 171 a) = h 209 (26 * l + h 171 b) ∧ a < b))))]) := by
  refine bX11_isAhead_0 l a b hl ha0 ha1 ha2 ha3 ha4 ha5 hb0 hb1 hb2 hb3 hb4 hb5 hdep ?_ ?_ ?_ ?_
  all_goals intros
  all_goals refine ⟨rfl, rfl, ?_⟩
  all_goals (first | rfl | (refine congrArg (fun x => [xI x]) ?_; unfold zb; (repeat' split) <;> first | rfl | omega))
