/-! the model: tokens -/
/-- the bytes of the tape that was taken -/
def mbt (h : zH) (i : Int) : Int := if 0 ≤ i ∧ i < h 169 3 then zand (h 170 i) 255 else -1
theorem mbt_st (h : zH) (o k x i : Int) (ho : o ≠ 170 ∧ (o ≠ 169 ∨ k ≠ 3)) : mbt (zst h o k x) i = mbt h i := by
  unfold mbt
  rw [zst_ne (show (169 : Int) ≠ o ∨ (3 : Int) ≠ k by omega), zst_ne (Or.inl (by omega))]
theorem f_X11_pk {X : zX} {dep : Nat} {h : zH} (hp : 0 ≤ h 169 4 ∧ h 169 3 ≤ 340) : zW mX11_peek X dep 0 0 239 0 (zar 0 [xR 169]) [] h (zF h [xI (mbt h (h 169 4))]) := by
  have a := f_X11_peek (X := X) (dep := dep) hp
  unfold mbt
  by_cases c : h 169 4 < h 169 3
  · rw [if_pos ⟨hp.1, c⟩]
    rw [if_pos c] at a
    exact a
  · rw [if_neg (fun z => c z.2)]
    rw [if_neg c] at a
    exact a

set_option maxRecDepth 20000 in
theorem bX11_next__0 {X : zX} {dep bc bs : Nat} {g : zH} {Q : Nat → zH → List zV → Prop} (hp : 0 ≤ g 169 4 ∧ g 169 4 ≤ 340 ∧ g 169 3 ≤ 340) (hdep : 1 ≤ dep)
    (k1 : (mbt g (g 169 4)) = 32 → zW mX11_next_ X dep bc bs 239 0 [(0, xR 169)] [] (zst g 169 4 ((g 169 4) + 1)) Q)
    (k2 : ¬ ((mbt g (g 169 4)) = 32) → ¬ (mbt g (g 169 4)) = 10 → zW mX11_next_ X dep bc bs 239 31 [(0, xR 169)] [] g Q)
    (k3 : ¬ ((mbt g (g 169 4)) = 32) → (mbt g (g 169 4)) = 10 → zW mX11_next_ X dep bc bs 239 0 [(0, xR 169)] [] (zst g 169 4 ((g 169 4) + 1)) Q) : zW mX11_next_ X dep bc bs 239 0 [(0, xR 169)] [] g Q := by
  refine z_aload_n 0 dX11_next__0 rfl ?_
  refine z_invF (ci := 11) (N := 97) (as := []) (st := []) (ra := []) (dep' := dep - 1) (rs := [xI (mbt g (g 169 4))]) (h' := g) (f_X11_pk  (h := g) (show 0 ≤ g 169 4 ∧ g 169 3 ≤ 340 from ⟨by omega, by omega⟩)) dX11_next__1 nX11_peek zb_1479 zb_1481 zb_39 zb_92 (zOb.lit (by decide +kernel)) rfl (by omega) zne_I (Nat.le_of_ble_eq_true rfl) (Nat.le_of_ble_eq_true rfl) rfl ?_
  refine z_bipush dX11_next__4 (zi32_d rfl) (by decide) ?_
  refine z_icmp_eq (tgt := 18) dX11_next__6 (by decide) (fun c1 => ?_) (fun c1 => ?_)
  ·
    refine z_aload_n 0 dX11_next__18 rfl ?_
    refine z_dup dX11_next__19 zt2 ?_
    refine z_getI (k := 4) (kz := 4) pk11 dX11_next__20 (by decide) zb_1128 rfl (zOb.lit (by decide +kernel)) rfl ?_
    refine z_iconst dX11_next__23 (zi32_d rfl) ?_
    refine z_iaddN dX11_next__24 (show -2147483648 ≤ (g 169 4) + 1 ∧ (g 169 4) + 1 < 2147483648 from ⟨by omega, by omega⟩).1 (show -2147483648 ≤ (g 169 4) + 1 ∧ (g 169 4) + 1 < 2147483648 from ⟨by omega, by omega⟩).2 ?_
    refine z_putI (k := 4) (kz := 4) pk11 dX11_next__25 (by decide) zb_1128 rfl (zFit_int _) (zOb.lit (by decide +kernel)) rfl ?_
    refine z_goto (tgt := 0) dX11_next__28 (by decide) ?_
    exact k1 c1
  ·
    refine z_aload_n 0 dX11_next__9 rfl ?_
    refine z_invF (ci := 11) (N := 97) (as := []) (st := []) (ra := []) (dep' := dep - 1) (rs := [xI (mbt g (g 169 4))]) (h' := g) (f_X11_pk  (h := g) (show 0 ≤ g 169 4 ∧ g 169 3 ≤ 340 from ⟨by omega, by omega⟩)) dX11_next__10 nX11_peek zb_1479 zb_1481 zb_39 zb_92 (zOb.lit (by decide +kernel)) rfl (by omega) zne_I (Nat.le_of_ble_eq_true rfl) (Nat.le_of_ble_eq_true rfl) rfl ?_
    refine z_bipush dX11_next__13 (zi32_d rfl) (by decide) ?_
    refine z_icmp_ne (tgt := 31) dX11_next__15 (by decide) (fun c2 => ?_) (fun c2 => ?_)
    ·
      exact k2 c1 c2
    ·
      refine z_aload_n 0 dX11_next__18 rfl ?_
      refine z_dup dX11_next__19 zt2 ?_
      refine z_getI (k := 4) (kz := 4) pk11 dX11_next__20 (by decide) zb_1128 rfl (zOb.lit (by decide +kernel)) rfl ?_
      refine z_iconst dX11_next__23 (zi32_d rfl) ?_
      refine z_iaddN dX11_next__24 (show -2147483648 ≤ (g 169 4) + 1 ∧ (g 169 4) + 1 < 2147483648 from ⟨by omega, by omega⟩).1 (show -2147483648 ≤ (g 169 4) + 1 ∧ (g 169 4) + 1 < 2147483648 from ⟨by omega, by omega⟩).2 ?_
      refine z_putI (k := 4) (kz := 4) pk11 dX11_next__25 (by decide) zb_1128 rfl (zFit_int _) (zOb.lit (by decide +kernel)) rfl ?_
      refine z_goto (tgt := 0) dX11_next__28 (by decide) ?_
      exact k3 c1 c2

set_option maxRecDepth 20000 in
theorem bX11_next__31 {X : zX} {dep bc bs : Nat} {g : zH} {Q : Nat → zH → List zV → Prop} (hp : 0 ≤ g 169 4 ∧ g 169 4 ≤ 340 ∧ g 169 3 ≤ 340)
    (k1 : (g 169 3) ≤ 300 → zW mX11_next_ X dep bc bs 239 77 [(0, xR 169)] [] (zst (zst g 169 50 (g 169 4)) 169 51 0) Q)
    (k2 : ¬ ((g 169 3) ≤ 300) → (g 169 4) < 300 → zW mX11_next_ X dep bc bs 239 77 [(0, xR 169)] [] (zst (zst g 169 50 (g 169 4)) 169 51 0) Q)
    (k3 : ¬ ((g 169 3) ≤ 300) → ¬ ((g 169 4) < 300) → Q 239 (zst (zst (zst (zst g 169 50 (g 169 4)) 169 51 0) 169 50 300) 169 49 4) []) : zW mX11_next_ X dep bc bs 239 31 [(0, xR 169)] [] g Q := by
  refine z_aload_n 0 dX11_next__31 rfl ?_
  refine z_aload_n 0 dX11_next__32 rfl ?_
  refine z_getI (k := 4) (kz := 4) pk11 dX11_next__33 (by decide) zb_1128 rfl (zOb.lit (by decide +kernel)) rfl ?_
  refine z_putI (k := 50) (kz := 50) pk11 dX11_next__36 (by decide) zb_1174 rfl (zFit_int _) (zOb.lit (by decide +kernel)) rfl ?_
  refine z_aload_n 0 dX11_next__39 rfl ?_
  refine z_iconst dX11_next__40 (zi32_d rfl) ?_
  refine z_putI (k := 51) (kz := 51) pk11 dX11_next__41 (by decide) zb_1175 rfl (zFit_int _) (zOb.lit (by decide +kernel)) rfl ?_
  refine z_aload_n 0 dX11_next__44 rfl ?_
  refine z_getIV (v := (g 169 3)) (k := 3) (kz := 3) pk11 dX11_next__45 (by decide) zb_1127 rfl (zOb.lit (by decide +kernel)) rfl ((zst_ne (Or.inr (by decide))).trans (zst_ne (Or.inr (by decide)))) ?_
  refine z_sipush dX11_next__48 (zi32_d rfl) (by decide) ?_
  refine z_icmp_le (tgt := 77) dX11_next__51 (by decide) (fun c1 => ?_) (fun c1 => ?_)
  ·
    exact k1 c1
  ·
    refine z_aload_n 0 dX11_next__54 rfl ?_
    refine z_getIV (v := (g 169 4)) (k := 4) (kz := 4) pk11 dX11_next__55 (by decide) zb_1128 rfl (zOb.lit (by decide +kernel)) rfl ((zst_ne (Or.inr (by decide))).trans (zst_ne (Or.inr (by decide)))) ?_
    refine z_sipush dX11_next__58 (zi32_d rfl) (by decide) ?_
    refine z_icmp_lt (tgt := 77) dX11_next__61 (by decide) (fun c2 => ?_) (fun c2 => ?_)
    ·
      exact k2 c1 c2
    ·
      refine z_aload_n 0 dX11_next__64 rfl ?_
      refine z_sipush dX11_next__65 (zi32_d rfl) (by decide) ?_
      refine z_putI (k := 50) (kz := 50) pk11 dX11_next__68 (by decide) zb_1174 rfl (zFit_int _) (zOb.lit (by decide +kernel)) rfl ?_
      refine z_aload_n 0 dX11_next__71 rfl ?_
      refine z_iconst dX11_next__72 (zi32_d rfl) ?_
      refine z_putI (k := 49) (kz := 49) pk11 dX11_next__73 (by decide) zb_1173 rfl (zFit_int _) (zOb.lit (by decide +kernel)) rfl ?_
      exact z_ret dX11_next__76 rfl (k3 c1 c2)

set_option maxRecDepth 20000 in
theorem bX11_next__77 {X : zX} {dep bc bs : Nat} {g : zH} {Q : Nat → zH → List zV → Prop} (hp : 0 ≤ g 169 4 ∧ g 169 4 ≤ 340 ∧ g 169 3 ≤ 340) (hdep : 1 ≤ dep)
    (k1 : 0 ≤ (mbt g (g 169 4)) → 97 ≤ (mbt g (g 169 4)) ∧ (mbt g (g 169 4)) ≤ 122 → zW mX11_next_ X dep bc bs 239 161 [(0, xR 169), (1, xI (mbt g (g 169 4)))] [] g Q)
    (k2 : 0 ≤ (mbt g (g 169 4)) → ¬ (97 ≤ (mbt g (g 169 4)) ∧ (mbt g (g 169 4)) ≤ 122) → 48 ≤ (mbt g (g 169 4)) ∧ (mbt g (g 169 4)) ≤ 57 → zW mX11_next_ X dep bc bs 239 161 [(0, xR 169), (1, xI (mbt g (g 169 4)))] [] g Q)
    (k3 : 0 ≤ (mbt g (g 169 4)) → ¬ (97 ≤ (mbt g (g 169 4)) ∧ (mbt g (g 169 4)) ≤ 122) → ¬ (48 ≤ (mbt g (g 169 4)) ∧ (mbt g (g 169 4)) ≤ 57) → Q 239 (zst (zst (zst g 169 49 (if (mbt g (g 169 4)) = 59 then 3 else if (mbt g (g 169 4)) = 40 then 3 else if (mbt g (g 169 4)) = 41 then 3 else if (mbt g (g 169 4)) < 60 then 4 else if 62 < (mbt g (g 169 4)) then 4 else 3 : Int)) 169 52 (mbt g (g 169 4))) 169 4 ((g 169 4) + 1)) [])
    (k4 : ¬ (0 ≤ (mbt g (g 169 4))) → Q 239 (zst g 169 49 0) []) : zW mX11_next_ X dep bc bs 239 77 [(0, xR 169)] [] g Q := by
  refine z_aload_n 0 dX11_next__77 rfl ?_
  refine z_invF (ci := 11) (N := 97) (as := []) (st := []) (ra := []) (dep' := dep - 1) (rs := [xI (mbt g (g 169 4))]) (h' := g) (f_X11_pk  (h := g) (show 0 ≤ g 169 4 ∧ g 169 3 ≤ 340 from ⟨by omega, by omega⟩)) dX11_next__78 nX11_peek zb_1479 zb_1481 zb_39 zb_92 (zOb.lit (by decide +kernel)) rfl (by omega) zne_I (Nat.le_of_ble_eq_true rfl) (Nat.le_of_ble_eq_true rfl) rfl ?_
  refine z_istore_n (lv' := [(1, xI (mbt g (g 169 4))), (0, xR 169)]) dX11_next__81 (by decide) rfl ?_
  refine z_iload_n 0 dX11_next__82 rfl ?_
  refine z_if_ge (tgt := 92) dX11_next__83 (by decide) (fun c1 => ?_) (fun c1 => ?_)
  ·
    refine z_iload_n 0 dX11_next__92 rfl ?_
    refine z_invSF (as := [xI (mbt g (g 169 4))]) (st := []) (ra := [xI (mbt g (g 169 4))]) (dep' := dep - 1) (rs := [xI (zb (97 ≤ (mbt g (g 169 4)) ∧ (mbt g (g 169 4)) ≤ 122))]) (h' := g) (f_X11_isSmall (mbt g (g 169 4)) (h := g) ) dX11_next__93 nX11_isSmall zb_1448 zb_1449 zb_92 (by omega) zne_I (Nat.le_of_ble_eq_true rfl) (Nat.le_of_ble_eq_true rfl) rfl ?_
    refine z_ifB_ne (C := 97 ≤ (mbt g (g 169 4)) ∧ (mbt g (g 169 4)) ≤ 122) (tgt := 161) dX11_next__96 (by decide) (fun c2 => ?_) (fun c2 => ?_)
    ·
      refine zW.sub (lv' := [(0, xR 169), (1, xI (mbt g (g 169 4)))]) [1, 0] rfl ?_
      exact k1 c1 c2
    ·
      refine z_iload_n 0 dX11_next__99 rfl ?_
      refine z_invSF (as := [xI (mbt g (g 169 4))]) (st := []) (ra := [xI (mbt g (g 169 4))]) (dep' := dep - 1) (rs := [xI (zb (48 ≤ (mbt g (g 169 4)) ∧ (mbt g (g 169 4)) ≤ 57))]) (h' := g) (f_X11_isDigit (mbt g (g 169 4)) (h := g) ) dX11_next__100 nX11_isDigit zb_1483 zb_1484 zb_92 (by omega) zne_I (Nat.le_of_ble_eq_true rfl) (Nat.le_of_ble_eq_true rfl) rfl ?_
      refine z_ifB_ne (C := 48 ≤ (mbt g (g 169 4)) ∧ (mbt g (g 169 4)) ≤ 57) (tgt := 161) dX11_next__103 (by decide) (fun c3 => ?_) (fun c3 => ?_)
      ·
        refine zW.sub (lv' := [(0, xR 169), (1, xI (mbt g (g 169 4)))]) [1, 0] rfl ?_
        exact k2 c1 c2 c3
      ·
        refine z_aload_n 1 dX11_next__106 rfl ?_
        refine z_iload_n 0 dX11_next__107 rfl ?_
        refine z_bipush dX11_next__108 (zi32_d rfl) (by decide) ?_
        suffices KJ : zW mX11_next_ X dep bc bs 239 142 [(1, xI (mbt g (g 169 4))), (0, xR 169)] [xI (if (mbt g (g 169 4)) = 59 then 3 else if (mbt g (g 169 4)) = 40 then 3 else if (mbt g (g 169 4)) = 41 then 3 else if (mbt g (g 169 4)) < 60 then 4 else if 62 < (mbt g (g 169 4)) then 4 else 3 : Int), xR 169] g Q by
          refine z_icmp_eq (tgt := 137) dX11_next__110 (by decide) (fun j1 => ?_) (fun j1 => ?_)
          ·
            refine z_iconst dX11_next__137 (zi32_d rfl) ?_
            refine z_goto (tgt := 142) dX11_next__138 (by decide) ?_
            rw [if_pos j1] at KJ
            exact KJ
          ·
            refine z_iload_n 0 dX11_next__113 rfl ?_
            refine z_bipush dX11_next__114 (zi32_d rfl) (by decide) ?_
            refine z_icmp_eq (tgt := 137) dX11_next__116 (by decide) (fun j2 => ?_) (fun j2 => ?_)
            ·
              refine z_iconst dX11_next__137 (zi32_d rfl) ?_
              refine z_goto (tgt := 142) dX11_next__138 (by decide) ?_
              rw [if_neg j1] at KJ
              rw [if_pos j2] at KJ
              exact KJ
            ·
              refine z_iload_n 0 dX11_next__119 rfl ?_
              refine z_bipush dX11_next__120 (zi32_d rfl) (by decide) ?_
              refine z_icmp_eq (tgt := 137) dX11_next__122 (by decide) (fun j3 => ?_) (fun j3 => ?_)
              ·
                refine z_iconst dX11_next__137 (zi32_d rfl) ?_
                refine z_goto (tgt := 142) dX11_next__138 (by decide) ?_
                rw [if_neg j1] at KJ
                rw [if_neg j2] at KJ
                rw [if_pos j3] at KJ
                exact KJ
              ·
                refine z_iload_n 0 dX11_next__125 rfl ?_
                refine z_bipush dX11_next__126 (zi32_d rfl) (by decide) ?_
                refine z_icmp_lt (tgt := 141) dX11_next__128 (by decide) (fun j4 => ?_) (fun j4 => ?_)
                ·
                  refine z_iconst dX11_next__141 (zi32_d rfl) ?_
                  rw [if_neg j1] at KJ
                  rw [if_neg j2] at KJ
                  rw [if_neg j3] at KJ
                  rw [if_pos j4] at KJ
                  exact KJ
                ·
                  refine z_iload_n 0 dX11_next__131 rfl ?_
                  refine z_bipush dX11_next__132 (zi32_d rfl) (by decide) ?_
                  refine z_icmp_gt (tgt := 141) dX11_next__134 (by decide) (fun j5 => ?_) (fun j5 => ?_)
                  ·
                    refine z_iconst dX11_next__141 (zi32_d rfl) ?_
                    rw [if_neg j1] at KJ
                    rw [if_neg j2] at KJ
                    rw [if_neg j3] at KJ
                    rw [if_neg j4] at KJ
                    rw [if_pos j5] at KJ
                    exact KJ
                  ·
                    refine z_iconst dX11_next__137 (zi32_d rfl) ?_
                    refine z_goto (tgt := 142) dX11_next__138 (by decide) ?_
                    rw [if_neg j1] at KJ
                    rw [if_neg j2] at KJ
                    rw [if_neg j3] at KJ
                    rw [if_neg j4] at KJ
                    rw [if_neg j5] at KJ
                    exact KJ
        refine z_putI (k := 49) (kz := 49) pk11 dX11_next__142 (by decide) zb_1173 rfl (zFit_int _) (zOb.lit (by decide +kernel)) rfl ?_
        refine z_aload_n 1 dX11_next__145 rfl ?_
        refine z_iload_n 0 dX11_next__146 rfl ?_
        refine z_putI (k := 52) (kz := 52) pk11 dX11_next__147 (by decide) zb_1176 rfl (zFit_int _) (zOb.lit (by decide +kernel)) rfl ?_
        refine z_aload_n 1 dX11_next__150 rfl ?_
        refine z_dup dX11_next__151 zt2 ?_
        refine z_getIV (v := (g 169 4)) (k := 4) (kz := 4) pk11 dX11_next__152 (by decide) zb_1128 rfl (zOb.lit (by decide +kernel)) rfl ((zst_ne (Or.inr (by decide))).trans (zst_ne (Or.inr (by decide)))) ?_
        refine z_iconst dX11_next__155 (zi32_d rfl) ?_
        refine z_iaddN dX11_next__156 (show -2147483648 ≤ (g 169 4) + 1 ∧ (g 169 4) + 1 < 2147483648 from ⟨by omega, by omega⟩).1 (show -2147483648 ≤ (g 169 4) + 1 ∧ (g 169 4) + 1 < 2147483648 from ⟨by omega, by omega⟩).2 ?_
        refine z_putI (k := 4) (kz := 4) pk11 dX11_next__157 (by decide) zb_1128 rfl (zFit_int _) (zOb.lit (by decide +kernel)) rfl ?_
        exact z_ret dX11_next__160 rfl (k3 c1 c2 c3)
  ·
    refine z_aload_n 1 dX11_next__86 rfl ?_
    refine z_iconst dX11_next__87 (zi32_d rfl) ?_
    refine z_putI (k := 49) (kz := 49) pk11 dX11_next__88 (by decide) zb_1173 rfl (zFit_int _) (zOb.lit (by decide +kernel)) rfl ?_
    exact z_ret dX11_next__91 rfl (k4 c1)

set_option maxRecDepth 20000 in
theorem bX11_next__161 {X : zX} {dep bc bs : Nat} (c : Int) {g : zH} {Q : Nat → zH → List zV → Prop} (hdep : 1 ≤ dep)
    (k1 : zW mX11_next_ X dep bc bs 239 178 [(0, xR 169), (2, xI (zb (97 ≤ c ∧ c ≤ 122))), (3, xI 1)] [] (zst (zst g 169 56 0) 169 52 0) Q) : zW mX11_next_ X dep bc bs 239 161 [(0, xR 169), (1, xI c)] [] g Q := by
  refine z_iload_n 1 dX11_next__161 rfl ?_
  refine z_invSF (as := [xI c]) (st := []) (ra := [xI c]) (dep' := dep - 1) (rs := [xI (zb (97 ≤ c ∧ c ≤ 122))]) (h' := g) (f_X11_isSmall c (h := g) ) dX11_next__162 nX11_isSmall zb_1448 zb_1449 zb_92 (by omega) zne_I (Nat.le_of_ble_eq_true rfl) (Nat.le_of_ble_eq_true rfl) rfl ?_
  refine z_istore_n (lv' := [(2, xI (zb (97 ≤ c ∧ c ≤ 122))), (0, xR 169), (1, xI c)]) dX11_next__165 (by decide) rfl ?_
  refine z_iconst dX11_next__166 (zi32_d rfl) ?_
  refine z_istore_n (lv' := [(3, xI 1), (2, xI (zb (97 ≤ c ∧ c ≤ 122))), (0, xR 169), (1, xI c)]) dX11_next__167 (by decide) rfl ?_
  refine z_aload_n 2 dX11_next__168 rfl ?_
  refine z_lconst dX11_next__169 ?_
  show zW mX11_next_ X dep bc bs 239 170 [(3, xI 1), (2, xI (zb (97 ≤ c ∧ c ≤ 122))), (0, xR 169), (1, xI c)] [xL 0, xR 169] g Q
  refine z_putI (k := 56) (kz := 56) pk11 dX11_next__170 (by decide) zb_1180 rfl (zFit_long _) (zOb.lit (by decide +kernel)) rfl ?_
  refine z_aload_n 2 dX11_next__173 rfl ?_
  refine z_iconst dX11_next__174 (zi32_d rfl) ?_
  refine z_putI (k := 52) (kz := 52) pk11 dX11_next__175 (by decide) zb_1176 rfl (zFit_int _) (zOb.lit (by decide +kernel)) rfl ?_
  refine zW.sub (lv' := [(0, xR 169), (2, xI (zb (97 ≤ c ∧ c ≤ 122))), (3, xI 1)]) [2, 1, 0] rfl ?_
  exact k1

set_option maxRecDepth 20000 in
theorem bX11_next__178 {X : zX} {dep bc bs : Nat} (s : Int) (y : Int) {g : zH} {Q : Nat → zH → List zV → Prop} (hp : 0 ≤ g 169 4 ∧ g 169 4 ≤ 340 ∧ g 169 3 ≤ 340) (hdep : 1 ≤ dep)
    (k1 : 97 ≤ (mbt g (g 169 4)) ∧ (mbt g (g 169 4)) ≤ 122 → zW mX11_next_ X dep bc bs 239 198 [(0, xR 169), (2, xI s), (3, xI y)] [] g Q)
    (k2 : ¬ (97 ≤ (mbt g (g 169 4)) ∧ (mbt g (g 169 4)) ≤ 122) → ¬ (48 ≤ (mbt g (g 169 4)) ∧ (mbt g (g 169 4)) ≤ 57) → zW mX11_next_ X dep bc bs 239 295 [(0, xR 169), (2, xI s), (3, xI y)] [] g Q)
    (k3 : ¬ (97 ≤ (mbt g (g 169 4)) ∧ (mbt g (g 169 4)) ≤ 122) → 48 ≤ (mbt g (g 169 4)) ∧ (mbt g (g 169 4)) ≤ 57 → zW mX11_next_ X dep bc bs 239 198 [(0, xR 169), (2, xI s), (3, xI y)] [] g Q) : zW mX11_next_ X dep bc bs 239 178 [(0, xR 169), (2, xI s), (3, xI y)] [] g Q := by
  refine z_aload_n 0 dX11_next__178 rfl ?_
  refine z_invF (ci := 11) (N := 97) (as := []) (st := []) (ra := []) (dep' := dep - 1) (rs := [xI (mbt g (g 169 4))]) (h' := g) (f_X11_pk  (h := g) (show 0 ≤ g 169 4 ∧ g 169 3 ≤ 340 from ⟨by omega, by omega⟩)) dX11_next__179 nX11_peek zb_1479 zb_1481 zb_39 zb_92 (zOb.lit (by decide +kernel)) rfl (by omega) zne_I (Nat.le_of_ble_eq_true rfl) (Nat.le_of_ble_eq_true rfl) rfl ?_
  refine z_invSF (as := [xI (mbt g (g 169 4))]) (st := []) (ra := [xI (mbt g (g 169 4))]) (dep' := dep - 1) (rs := [xI (zb (97 ≤ (mbt g (g 169 4)) ∧ (mbt g (g 169 4)) ≤ 122))]) (h' := g) (f_X11_isSmall (mbt g (g 169 4)) (h := g) ) dX11_next__182 nX11_isSmall zb_1448 zb_1449 zb_92 (by omega) zne_I (Nat.le_of_ble_eq_true rfl) (Nat.le_of_ble_eq_true rfl) rfl ?_
  refine z_ifB_ne (C := 97 ≤ (mbt g (g 169 4)) ∧ (mbt g (g 169 4)) ≤ 122) (tgt := 198) dX11_next__185 (by decide) (fun c1 => ?_) (fun c1 => ?_)
  ·
    exact k1 c1
  ·
    refine z_aload_n 0 dX11_next__188 rfl ?_
    refine z_invF (ci := 11) (N := 97) (as := []) (st := []) (ra := []) (dep' := dep - 1) (rs := [xI (mbt g (g 169 4))]) (h' := g) (f_X11_pk  (h := g) (show 0 ≤ g 169 4 ∧ g 169 3 ≤ 340 from ⟨by omega, by omega⟩)) dX11_next__189 nX11_peek zb_1479 zb_1481 zb_39 zb_92 (zOb.lit (by decide +kernel)) rfl (by omega) zne_I (Nat.le_of_ble_eq_true rfl) (Nat.le_of_ble_eq_true rfl) rfl ?_
    refine z_invSF (as := [xI (mbt g (g 169 4))]) (st := []) (ra := [xI (mbt g (g 169 4))]) (dep' := dep - 1) (rs := [xI (zb (48 ≤ (mbt g (g 169 4)) ∧ (mbt g (g 169 4)) ≤ 57))]) (h' := g) (f_X11_isDigit (mbt g (g 169 4)) (h := g) ) dX11_next__192 nX11_isDigit zb_1483 zb_1484 zb_92 (by omega) zne_I (Nat.le_of_ble_eq_true rfl) (Nat.le_of_ble_eq_true rfl) rfl ?_
    refine z_ifB_eq (C := 48 ≤ (mbt g (g 169 4)) ∧ (mbt g (g 169 4)) ≤ 57) (tgt := 295) dX11_next__195 (by decide) (fun c2 => ?_) (fun c2 => ?_)
    ·
      exact k2 c1 c2
    ·
      exact k3 c1 c2

set_option maxRecDepth 20000 in
theorem bX11_next__198 {X : zX} {dep bc bs : Nat} (s : Int) (y : Int) {g : zH} {Q : Nat → zH → List zV → Prop} (hp : 0 ≤ g 169 4 ∧ g 169 4 ≤ 340 ∧ g 169 3 ≤ 340) (hs : s = 0 ∨ s = 1) (hdep : 1 ≤ dep)
    (k1 : y = 0 → zW mX11_next_ X dep bc bs 239 219 [(0, xR 169), (2, xI s), (3, xI 0)] [] g Q)
    (k2 : ¬ (y = 0) → ¬ (zb (97 ≤ (mbt g (g 169 4)) ∧ (mbt g (g 169 4)) ≤ 122)) = s → zW mX11_next_ X dep bc bs 239 219 [(0, xR 169), (2, xI s), (3, xI 0)] [] g Q)
    (k3 : ¬ (y = 0) → (zb (97 ≤ (mbt g (g 169 4)) ∧ (mbt g (g 169 4)) ≤ 122)) = s → zW mX11_next_ X dep bc bs 239 219 [(0, xR 169), (2, xI s), (3, xI 1)] [] g Q) : zW mX11_next_ X dep bc bs 239 198 [(0, xR 169), (2, xI s), (3, xI y)] [] g Q := by
  refine z_iload_n 2 dX11_next__198 rfl ?_
  refine z_if_eq (tgt := 217) dX11_next__199 (by decide) (fun c1 => ?_) (fun c1 => ?_)
  ·
    refine z_iconst dX11_next__217 (zi32_d rfl) ?_
    refine z_istore_n (lv' := [(3, xI 0), (0, xR 169), (2, xI s)]) dX11_next__218 (by decide) rfl ?_
    refine zW.sub (lv' := [(0, xR 169), (2, xI s), (3, xI 0)]) [1, 2, 0] rfl ?_
    exact k1 c1
  ·
    refine z_aload_n 0 dX11_next__202 rfl ?_
    refine z_invF (ci := 11) (N := 97) (as := []) (st := []) (ra := []) (dep' := dep - 1) (rs := [xI (mbt g (g 169 4))]) (h' := g) (f_X11_pk  (h := g) (show 0 ≤ g 169 4 ∧ g 169 3 ≤ 340 from ⟨by omega, by omega⟩)) dX11_next__203 nX11_peek zb_1479 zb_1481 zb_39 zb_92 (zOb.lit (by decide +kernel)) rfl (by omega) zne_I (Nat.le_of_ble_eq_true rfl) (Nat.le_of_ble_eq_true rfl) rfl ?_
    refine z_invSF (as := [xI (mbt g (g 169 4))]) (st := []) (ra := [xI (mbt g (g 169 4))]) (dep' := dep - 1) (rs := [xI (zb (97 ≤ (mbt g (g 169 4)) ∧ (mbt g (g 169 4)) ≤ 122))]) (h' := g) (f_X11_isSmall (mbt g (g 169 4)) (h := g) ) dX11_next__206 nX11_isSmall zb_1448 zb_1449 zb_92 (by omega) zne_I (Nat.le_of_ble_eq_true rfl) (Nat.le_of_ble_eq_true rfl) rfl ?_
    refine z_iload_n 1 dX11_next__209 rfl ?_
    refine z_icmp_ne (tgt := 217) dX11_next__210 (by decide) (fun c2 => ?_) (fun c2 => ?_)
    ·
      refine z_iconst dX11_next__217 (zi32_d rfl) ?_
      refine z_istore_n (lv' := [(3, xI 0), (0, xR 169), (2, xI s)]) dX11_next__218 (by decide) rfl ?_
      refine zW.sub (lv' := [(0, xR 169), (2, xI s), (3, xI 0)]) [1, 2, 0] rfl ?_
      exact k2 c1 c2
    ·
      refine z_iconst dX11_next__213 (zi32_d rfl) ?_
      refine z_goto (tgt := 218) dX11_next__214 (by decide) ?_
      refine z_istore_n (lv' := [(3, xI 1), (0, xR 169), (2, xI s)]) dX11_next__218 (by decide) rfl ?_
      refine zW.sub (lv' := [(0, xR 169), (2, xI s), (3, xI 1)]) [1, 2, 0] rfl ?_
      exact k3 c1 c2

set_option maxRecDepth 20000 in
theorem bX11_next__219 {X : zX} {dep bc bs : Nat} (s : Int) (y : Int) {g : zH} {Q : Nat → zH → List zV → Prop} (hp : 0 ≤ g 169 4 ∧ g 169 4 ≤ 340 ∧ g 169 3 ≤ 340) (hn : 0 ≤ g 169 51 ∧ g 169 51 ≤ 340) (hdep : 1 ≤ dep)
    (k1 : 8 ≤ (g 169 51) → zW mX11_next_ X dep bc bs 239 245 [(0, xR 169), (2, xI s), (3, xI y)] [] g Q)
    (k2 : ¬ (8 ≤ (g 169 51)) → zW mX11_next_ X dep bc bs 239 245 [(0, xR 169), (2, xI s), (3, xI y)] [] (zst g 169 56 (zlor (zlshl (g 169 56) 8) (mbt g (g 169 4)))) Q) : zW mX11_next_ X dep bc bs 239 219 [(0, xR 169), (2, xI s), (3, xI y)] [] g Q := by
  refine z_aload_n 0 dX11_next__219 rfl ?_
  refine z_getI (k := 51) (kz := 51) pk11 dX11_next__220 (by decide) zb_1175 rfl (zOb.lit (by decide +kernel)) rfl ?_
  refine z_bipush dX11_next__223 (zi32_d rfl) (by decide) ?_
  refine z_icmp_ge (tgt := 245) dX11_next__225 (by decide) (fun c1 => ?_) (fun c1 => ?_)
  ·
    exact k1 c1
  ·
    refine z_aload_n 0 dX11_next__228 rfl ?_
    refine z_aload_n 0 dX11_next__229 rfl ?_
    refine z_getL (k := 56) (kz := 56) pk11 dX11_next__230 (by decide) zb_1180 rfl (zOb.lit (by decide +kernel)) rfl ?_
    refine z_bipush dX11_next__233 (zi32_d rfl) (by decide) ?_
    refine z_lshl dX11_next__235 ?_
    refine z_aload_n 0 dX11_next__236 rfl ?_
    refine z_invF (ci := 11) (N := 97) (as := []) (st := [xL (zlshl (g 169 56) 8), xR 169]) (ra := []) (dep' := dep - 1) (rs := [xI (mbt g (g 169 4))]) (h' := g) (f_X11_pk  (h := g) (show 0 ≤ g 169 4 ∧ g 169 3 ≤ 340 from ⟨by omega, by omega⟩)) dX11_next__237 nX11_peek zb_1479 zb_1481 zb_39 zb_92 (zOb.lit (by decide +kernel)) rfl (by omega) zne_I (Nat.le_of_ble_eq_true rfl) (Nat.le_of_ble_eq_true rfl) rfl ?_
    refine z_i2l dX11_next__240 ?_
    refine z_lor dX11_next__241 ?_
    refine z_putI (k := 56) (kz := 56) pk11 dX11_next__242 (by decide) zb_1180 rfl (zFit_long _) (zOb.lit (by decide +kernel)) rfl ?_
    exact k2 c1

set_option maxRecDepth 20000 in
theorem bX11_next__245 {X : zX} {dep bc bs : Nat} (s : Int) (y : Int) {g : zH} {Q : Nat → zH → List zV → Prop} (hp : 0 ≤ g 169 4 ∧ g 169 4 ≤ 340 ∧ g 169 3 ≤ 340) (hn : 0 ≤ g 169 51 ∧ g 169 51 ≤ 340) (hu : 0 ≤ g 169 52 ∧ g 169 52 ≤ 100000) (hc : -1 ≤ mbt g (g 169 4) ∧ mbt g (g 169 4) ≤ 255) (hdep : 1 ≤ dep)
    (k1 : 4 ≤ (g 169 51) → zW mX11_next_ X dep bc bs 239 272 [(0, xR 169), (2, xI s), (3, xI y)] [] g Q)
    (k2 : ¬ (4 ≤ (g 169 51)) → zW mX11_next_ X dep bc bs 239 272 [(0, xR 169), (2, xI s), (3, xI y)] [] (zst g 169 52 (((10 * (g 169 52)) + (mbt g (g 169 4))) - 48)) Q) : zW mX11_next_ X dep bc bs 239 245 [(0, xR 169), (2, xI s), (3, xI y)] [] g Q := by
  refine z_aload_n 0 dX11_next__245 rfl ?_
  refine z_getI (k := 51) (kz := 51) pk11 dX11_next__246 (by decide) zb_1175 rfl (zOb.lit (by decide +kernel)) rfl ?_
  refine z_iconst dX11_next__249 (zi32_d rfl) ?_
  refine z_icmp_ge (tgt := 272) dX11_next__250 (by decide) (fun c1 => ?_) (fun c1 => ?_)
  ·
    exact k1 c1
  ·
    refine z_aload_n 0 dX11_next__253 rfl ?_
    refine z_bipush dX11_next__254 (zi32_d rfl) (by decide) ?_
    refine z_aload_n 0 dX11_next__256 rfl ?_
    refine z_getI (k := 52) (kz := 52) pk11 dX11_next__257 (by decide) zb_1176 rfl (zOb.lit (by decide +kernel)) rfl ?_
    refine z_imulN dX11_next__260 (show -2147483648 ≤ 10 * (g 169 52) ∧ 10 * (g 169 52) < 2147483648 from ⟨by omega, by omega⟩).1 (show -2147483648 ≤ 10 * (g 169 52) ∧ 10 * (g 169 52) < 2147483648 from ⟨by omega, by omega⟩).2 ?_
    refine z_aload_n 0 dX11_next__261 rfl ?_
    refine z_invF (ci := 11) (N := 97) (as := []) (st := [xI (10 * (g 169 52)), xR 169]) (ra := []) (dep' := dep - 1) (rs := [xI (mbt g (g 169 4))]) (h' := g) (f_X11_pk  (h := g) (show 0 ≤ g 169 4 ∧ g 169 3 ≤ 340 from ⟨by omega, by omega⟩)) dX11_next__262 nX11_peek zb_1479 zb_1481 zb_39 zb_92 (zOb.lit (by decide +kernel)) rfl (by omega) zne_I (Nat.le_of_ble_eq_true rfl) (Nat.le_of_ble_eq_true rfl) rfl ?_
    refine z_iaddN dX11_next__265 (show -2147483648 ≤ (10 * (g 169 52)) + (mbt g (g 169 4)) ∧ (10 * (g 169 52)) + (mbt g (g 169 4)) < 2147483648 from ⟨by omega, by omega⟩).1 (show -2147483648 ≤ (10 * (g 169 52)) + (mbt g (g 169 4)) ∧ (10 * (g 169 52)) + (mbt g (g 169 4)) < 2147483648 from ⟨by omega, by omega⟩).2 ?_
    refine z_bipush dX11_next__266 (zi32_d rfl) (by decide) ?_
    refine z_isubN dX11_next__268 (show -2147483648 ≤ ((10 * (g 169 52)) + (mbt g (g 169 4))) - 48 ∧ ((10 * (g 169 52)) + (mbt g (g 169 4))) - 48 < 2147483648 from ⟨by omega, by omega⟩).1 (show -2147483648 ≤ ((10 * (g 169 52)) + (mbt g (g 169 4))) - 48 ∧ ((10 * (g 169 52)) + (mbt g (g 169 4))) - 48 < 2147483648 from ⟨by omega, by omega⟩).2 ?_
    refine z_putI (k := 52) (kz := 52) pk11 dX11_next__269 (by decide) zb_1176 rfl (zFit_int _) (zOb.lit (by decide +kernel)) rfl ?_
    exact k2 c1

set_option maxRecDepth 20000 in
theorem bX11_next__272 {X : zX} {dep bc bs : Nat} (s : Int) (y : Int) {g : zH} {Q : Nat → zH → List zV → Prop} (hp : 0 ≤ g 169 4 ∧ g 169 4 ≤ 340 ∧ g 169 3 ≤ 340) (hn : 0 ≤ g 169 51 ∧ g 169 51 ≤ 340)
    (k1 : zW mX11_next_ X dep bc bs 239 178 [(0, xR 169), (2, xI s), (3, xI y)] [] (zst (zst g 169 51 ((g 169 51) + 1)) 169 4 ((g 169 4) + 1)) Q) : zW mX11_next_ X dep bc bs 239 272 [(0, xR 169), (2, xI s), (3, xI y)] [] g Q := by
  refine z_aload_n 0 dX11_next__272 rfl ?_
  refine z_dup dX11_next__273 zt2 ?_
  refine z_getI (k := 51) (kz := 51) pk11 dX11_next__274 (by decide) zb_1175 rfl (zOb.lit (by decide +kernel)) rfl ?_
  refine z_iconst dX11_next__277 (zi32_d rfl) ?_
  refine z_iaddN dX11_next__278 (show -2147483648 ≤ (g 169 51) + 1 ∧ (g 169 51) + 1 < 2147483648 from ⟨by omega, by omega⟩).1 (show -2147483648 ≤ (g 169 51) + 1 ∧ (g 169 51) + 1 < 2147483648 from ⟨by omega, by omega⟩).2 ?_
  refine z_putI (k := 51) (kz := 51) pk11 dX11_next__279 (by decide) zb_1175 rfl (zFit_int _) (zOb.lit (by decide +kernel)) rfl ?_
  refine z_aload_n 0 dX11_next__282 rfl ?_
  refine z_dup dX11_next__283 zt2 ?_
  refine z_getIV (v := (g 169 4)) (k := 4) (kz := 4) pk11 dX11_next__284 (by decide) zb_1128 rfl (zOb.lit (by decide +kernel)) rfl (zst_ne (Or.inr (by decide))) ?_
  refine z_iconst dX11_next__287 (zi32_d rfl) ?_
  refine z_iaddN dX11_next__288 (show -2147483648 ≤ (g 169 4) + 1 ∧ (g 169 4) + 1 < 2147483648 from ⟨by omega, by omega⟩).1 (show -2147483648 ≤ (g 169 4) + 1 ∧ (g 169 4) + 1 < 2147483648 from ⟨by omega, by omega⟩).2 ?_
  refine z_putI (k := 4) (kz := 4) pk11 dX11_next__289 (by decide) zb_1128 rfl (zFit_int _) (zOb.lit (by decide +kernel)) rfl ?_
  refine z_goto (tgt := 178) dX11_next__292 (by decide) ?_
  exact k1

set_option maxRecDepth 20000 in
theorem bX11_next__295 {X : zX} {dep bc bs : Nat} (s : Int) (y : Int) {g : zH} {Q : Nat → zH → List zV → Prop} (hn : 0 ≤ g 169 51 ∧ g 169 51 ≤ 340)
    (k1 : y = 0 → Q 239 (zst g 169 49 4) [])
    (k2 : ¬ (y = 0) → Q 239 (zst g 169 49 (if (g 169 51) ≤ (if s = 0 then 4 else 8 : Int) then if s = 0 then 2 else 1 else 4 : Int)) []) : zW mX11_next_ X dep bc bs 239 295 [(0, xR 169), (2, xI s), (3, xI y)] [] g Q := by
  refine z_aload_n 0 dX11_next__295 rfl ?_
  refine z_iload_n 2 dX11_next__296 rfl ?_
  refine z_if_eq (tgt := 317) dX11_next__297 (by decide) (fun c1 => ?_) (fun c1 => ?_)
  ·
    refine z_iconst dX11_next__317 (zi32_d rfl) ?_
    refine z_goto (tgt := 330) dX11_next__318 (by decide) ?_
    refine z_putI (k := 49) (kz := 49) pk11 dX11_next__330 (by decide) zb_1173 rfl (zFit_int _) (zOb.lit (by decide +kernel)) rfl ?_
    exact z_ret dX11_next__333 rfl (k1 c1)
  ·
    refine z_aload_n 0 dX11_next__300 rfl ?_
    refine z_getI (k := 51) (kz := 51) pk11 dX11_next__301 (by decide) zb_1175 rfl (zOb.lit (by decide +kernel)) rfl ?_
    refine z_iload_n 1 dX11_next__304 rfl ?_
    suffices KJ : zW mX11_next_ X dep bc bs 239 314 [(0, xR 169), (2, xI s), (3, xI y)] [xI (if s = 0 then 4 else 8 : Int), xI (g 169 51), xR 169] g Q by
      refine z_if_eq (tgt := 313) dX11_next__305 (by decide) (fun j1 => ?_) (fun j1 => ?_)
      ·
        refine z_iconst dX11_next__313 (zi32_d rfl) ?_
        rw [if_pos j1] at KJ
        exact KJ
      ·
        refine z_bipush dX11_next__308 (zi32_d rfl) (by decide) ?_
        refine z_goto (tgt := 314) dX11_next__310 (by decide) ?_
        rw [if_neg j1] at KJ
        exact KJ
    suffices KJ : zW mX11_next_ X dep bc bs 239 330 [(0, xR 169), (2, xI s), (3, xI y)] [xI (if (g 169 51) ≤ (if s = 0 then 4 else 8 : Int) then if s = 0 then 2 else 1 else 4 : Int), xR 169] g Q by
      refine z_icmp_le (tgt := 321) dX11_next__314 (by decide) (fun j1 => ?_) (fun j1 => ?_)
      ·
        refine z_iload_n 1 dX11_next__321 rfl ?_
        refine z_if_eq (tgt := 329) dX11_next__322 (by decide) (fun j2 => ?_) (fun j2 => ?_)
        ·
          refine z_iconst dX11_next__329 (zi32_d rfl) ?_
          rw [if_pos j1] at KJ
          rw [if_pos j2] at KJ
          exact KJ
        ·
          refine z_iconst dX11_next__325 (zi32_d rfl) ?_
          refine z_goto (tgt := 330) dX11_next__326 (by decide) ?_
          rw [if_pos j1] at KJ
          rw [if_neg j2] at KJ
          exact KJ
      ·
        refine z_iconst dX11_next__317 (zi32_d rfl) ?_
        refine z_goto (tgt := 330) dX11_next__318 (by decide) ?_
        rw [if_neg j1] at KJ
        exact KJ
    refine z_putI (k := 49) (kz := 49) pk11 dX11_next__330 (by decide) zb_1173 rfl (zFit_int _) (zOb.lit (by decide +kernel)) rfl ?_
    exact z_ret dX11_next__333 rfl (k2 c1)

theorem zlor8 {w c : Int} (h0 : 0 ≤ w) (h1 : w < 36028797018963968) (c0 : 0 ≤ c) (c1 : c < 256) : zlor (zlshl w 8) c = w * 256 + c := by
  obtain ⟨a, rfl⟩ := Int.eq_ofNat_of_zero_le h0
  obtain ⟨k, rfl⟩ := Int.eq_ofNat_of_zero_le c0
  have e : Int64.ofInt (a : Int) <<< ((Int32.ofInt 8).toInt64 &&& 63) ||| Int64.ofInt (k : Int) = Int64.ofInt ((a : Int) * 256 + k) := by
    rw [← Int64.toBitVec_inj, show (Int32.ofInt 8).toInt64 &&& 63 = (8 : Int64) by decide]
    rw [Int64.toBitVec_or, Int64.toBitVec_shiftLeft]
    rw [show ((8 : Int64).toBitVec.smod 64) = (8#64) by decide]
    show BitVec.ofInt 64 (a : Int) <<< (8#64) ||| BitVec.ofInt 64 (k : Int) = BitVec.ofInt 64 ((a : Int) * 256 + k)
    apply BitVec.eq_of_toNat_eq
    rw [show (a : Int) * 256 + k = ((a * 256 + k : Nat) : Int) by omega, BitVec.ofInt_natCast, BitVec.ofInt_natCast, BitVec.ofInt_natCast]
    rw [BitVec.toNat_or, BitVec.shiftLeft_eq', BitVec.toNat_shiftLeft, show (8#64).toNat = 8 from rfl, BitVec.toNat_ofNat, BitVec.toNat_ofNat, BitVec.toNat_ofNat]
    rw [Nat.mod_eq_of_lt (a := a) (by omega), Nat.mod_eq_of_lt (a := k) (by omega), Nat.mod_eq_of_lt (a := a * 256 + k) (by omega), Nat.shiftLeft_eq, Nat.mod_eq_of_lt (by omega)]
    rw [show a * 2 ^ 8 = a <<< 8 from (Nat.shiftLeft_eq a 8).symm, ← Nat.shiftLeft_add_eq_or_of_lt (by omega), Nat.shiftLeft_eq]
  unfold zlor zlshl
  rw [Int64.ofInt_toInt, e, Int64.toInt_ofInt_of_le (by omega) (by omega)]
theorem zb32 (a : Nat) : (Int32.ofInt (a : Int)).toBitVec = BitVec.ofNat 32 a := BitVec.ofInt_natCast 32 a
theorem zi32_eq {x : Int32} {n : Nat} (h : n < 2147483648) (e : x.toBitVec = BitVec.ofNat 32 n) : x.toInt = (n : Int) := by
  have : x = Int32.ofInt (n : Int) := by
    rw [← Int32.toBitVec_inj, zb32]
    exact e
  rw [this, Int32.toInt_ofInt_of_le (by omega) (by omega)]
theorem zandN {a b : Nat} (ha : a < 2147483648) (hb : b < 2147483648) : zand (a : Int) (b : Int) = ((a &&& b : Nat) : Int) := by
  refine zi32_eq (Nat.lt_of_le_of_lt Nat.and_le_left ha) ?_
  rw [Int32.toBitVec_and, zb32, zb32]
  apply BitVec.eq_of_toNat_eq
  rw [BitVec.toNat_and, BitVec.toNat_ofNat, BitVec.toNat_ofNat, BitVec.toNat_ofNat, Nat.mod_eq_of_lt (a := a) (by omega), Nat.mod_eq_of_lt (a := b) (by omega), Nat.mod_eq_of_lt]
  exact Nat.lt_of_le_of_lt Nat.and_le_left (by omega)
theorem zorN {a b : Nat} (ha : a < 2147483648) (hb : b < 2147483648) : zor (a : Int) (b : Int) = ((a ||| b : Nat) : Int) := by
  have lt : a ||| b < 2 ^ 31 := Nat.or_lt_two_pow (by omega) (by omega)
  refine zi32_eq (by omega) ?_
  rw [Int32.toBitVec_or, zb32, zb32]
  apply BitVec.eq_of_toNat_eq
  rw [BitVec.toNat_or, BitVec.toNat_ofNat, BitVec.toNat_ofNat, BitVec.toNat_ofNat, Nat.mod_eq_of_lt (a := a) (by omega), Nat.mod_eq_of_lt (a := b) (by omega), Nat.mod_eq_of_lt (by omega)]
theorem zshlN {a : Nat} {k : Nat} (hk : k < 31) (h : a * 2 ^ k < 2147483648) : zshl (a : Int) (k : Int) = ((a * 2 ^ k : Nat) : Int) := by
  have hk2 : 1 ≤ 2 ^ k := Nat.one_le_two_pow
  have la : a < 2147483648 := Nat.lt_of_le_of_lt (Nat.le_mul_of_pos_right a hk2) h
  refine zi32_eq h ?_
  rw [show Int32.ofInt (k : Int) &&& 31 = Int32.ofInt (k : Int) by (have : ∀ k : Nat, k < 31 → Int32.ofInt (k : Int) &&& 31 = Int32.ofInt (k : Int) := by decide); exact this k hk]
  rw [Int32.toBitVec_shiftLeft, zb32, zb32]
  rw [show (BitVec.ofNat 32 k).smod 32 = BitVec.ofNat 32 k by (have : ∀ k : Nat, k < 31 → (BitVec.ofNat 32 k).smod 32 = BitVec.ofNat 32 k := by decide); exact this k hk]
  apply BitVec.eq_of_toNat_eq
  rw [BitVec.shiftLeft_eq', BitVec.toNat_shiftLeft, BitVec.toNat_ofNat, BitVec.toNat_ofNat, BitVec.toNat_ofNat, Nat.mod_eq_of_lt (a := a) (by omega), Nat.mod_eq_of_lt (a := k) (by omega), Nat.shiftLeft_eq]
theorem zshrN {a : Nat} {k : Nat} (hk : k < 31) (h : a < 2147483648) : zshr (a : Int) (k : Int) = ((a / 2 ^ k : Nat) : Int) := by
  have le : a / 2 ^ k ≤ a := Nat.div_le_self a _
  refine zi32_eq (by omega) ?_
  rw [show Int32.ofInt (k : Int) &&& 31 = Int32.ofInt (k : Int) by (have : ∀ k : Nat, k < 31 → Int32.ofInt (k : Int) &&& 31 = Int32.ofInt (k : Int) := by decide); exact this k hk]
  rw [Int32.toBitVec_shiftRight, zb32, zb32]
  rw [show (BitVec.ofNat 32 k).smod 32 = BitVec.ofNat 32 k by (have : ∀ k : Nat, k < 31 → (BitVec.ofNat 32 k).smod 32 = BitVec.ofNat 32 k := by decide); exact this k hk]
  have ms : (BitVec.ofNat 32 a).msb = false := by
    rw [BitVec.msb_eq_false_iff_two_mul_lt, BitVec.toNat_ofNat, Nat.mod_eq_of_lt (by omega)]
    omega
  apply BitVec.eq_of_toNat_eq
  rw [BitVec.sshiftRight_eq', BitVec.sshiftRight_eq_of_msb_false ms, BitVec.toNat_ushiftRight, BitVec.toNat_ofNat, BitVec.toNat_ofNat, BitVec.toNat_ofNat, Nat.mod_eq_of_lt (a := a) (by omega), Nat.mod_eq_of_lt (a := k) (by omega), Nat.shiftRight_eq_div_pow, Nat.mod_eq_of_lt (by omega)]
/-- a question's parts -/
theorem zqs_val {a s t : Int} (a0 : 0 ≤ a) (a1 : a < 16) (s0 : 0 ≤ s) (s1 : s < 256) (t0 : 0 ≤ t) (t1 : t < 100000) : zqs a s t = t * 4096 + s * 16 + a := by
  obtain ⟨a, rfl⟩ := Int.eq_ofNat_of_zero_le a0
  obtain ⟨s, rfl⟩ := Int.eq_ofNat_of_zero_le s0
  obtain ⟨t, rfl⟩ := Int.eq_ofNat_of_zero_le t0
  unfold zqs
  rw [show (12 : Int) = ((12 : Nat) : Int) from rfl, show (4 : Int) = ((4 : Nat) : Int) from rfl, zshlN (by decide) (by omega), zshlN (by decide) (by omega), zorN (by omega) (by omega)]
  rw [show t * 2 ^ 12 = t <<< 12 from (Nat.shiftLeft_eq t 12).symm, ← Nat.shiftLeft_add_eq_or_of_lt (by omega), Nat.shiftLeft_eq]
  rw [zorN (by omega) (by omega), show t * 2 ^ 12 + s * 2 ^ 4 = (t * 2 ^ 8 + s) <<< 4 by rw [Nat.shiftLeft_eq]; omega, ← Nat.shiftLeft_add_eq_or_of_lt (by omega), Nat.shiftLeft_eq]
  omega
theorem zqs_dec {a s t : Int} (a0 : 0 ≤ a) (a1 : a < 16) (s0 : 0 ≤ s) (s1 : s < 256) (t0 : 0 ≤ t) (t1 : t < 100000) : 0 ≤ zqs a s t ∧ zand (zqs a s t) 15 = a ∧ zand (zshr (zqs a s t) 4) 255 = s ∧ zshr (zqs a s t) 12 = t := by
  rw [zqs_val a0 a1 s0 s1 t0 t1]
  obtain ⟨a, rfl⟩ := Int.eq_ofNat_of_zero_le a0
  obtain ⟨s, rfl⟩ := Int.eq_ofNat_of_zero_le s0
  obtain ⟨t, rfl⟩ := Int.eq_ofNat_of_zero_le t0
  rw [show (t : Int) * 4096 + s * 16 + a = ((t * 4096 + s * 16 + a : Nat) : Int) by omega]
  refine ⟨by omega, ?_, ?_, ?_⟩
  · rw [show (15 : Int) = ((15 : Nat) : Int) from rfl, zandN (by omega) (by omega), show 15 = 2 ^ 4 - 1 from rfl, Nat.and_two_pow_sub_one_eq_mod]
    omega
  · rw [show (4 : Int) = ((4 : Nat) : Int) from rfl, zshrN (by decide) (by omega), show (255 : Int) = ((255 : Nat) : Int) from rfl, zandN (by omega) (by omega), show 255 = 2 ^ 8 - 1 from rfl, Nat.and_two_pow_sub_one_eq_mod]
    omega
  · rw [show (12 : Int) = ((12 : Nat) : Int) from rfl, zshrN (by decide) (by omega)]
    omega
/-- bytes packed into one number; the number that four bytes make -/
def mpk (b : Int → Int) (q : Int) : Nat → Int
  | 0 => 0
  | n + 1 => mpk b q n * 256 + b (q + n)
def mnb (b : Int → Int) (q : Int) : Nat → Int
  | 0 => 0
  | n + 1 => 10 * mnb b q n + b (q + n) - 48
theorem mpk_in {b : Int → Int} {q : Int} : ∀ n : Nat, (∀ i : Int, 0 ≤ i → i < n → 0 ≤ b (q + i) ∧ b (q + i) ≤ 122) → 0 ≤ mpk b q n ∧ (n = 0 ∨ 2 * mpk b q n + 2 ≤ (256 : Int) ^ n)
  | 0, _ => ⟨Int.le_refl _, Or.inl rfl⟩
  | n + 1, hh => by
    have i1 := mpk_in n (fun i i0 i1 => hh i i0 (by omega))
    have i2 := hh n (by omega) (by omega)
    show 0 ≤ mpk b q n * 256 + b (q + n) ∧ (n + 1 = 0 ∨ 2 * (mpk b q n * 256 + b (q + n)) + 2 ≤ (256 : Int) ^ (n + 1))
    rw [Int.pow_succ]
    refine ⟨by omega, Or.inr ?_⟩
    rcases i1.2 with z | z
    · subst z
      have : mpk b q 0 = 0 := rfl
      rw [this]
      show 2 * (0 * 256 + b (q + ((0 : Nat) : Int))) + 2 ≤ 1 * 256
      omega
    · generalize (256 : Int) ^ n = P at z ⊢
      omega
theorem mpk_lt {b : Int → Int} {q : Int} {n : Nat} (hn : n < 8) (hh : ∀ i : Int, 0 ≤ i → i < n → 0 ≤ b (q + i) ∧ b (q + i) ≤ 122) : 0 ≤ mpk b q n ∧ mpk b q n < 36028797018963968 := by
  have i1 := mpk_in n hh
  have p : ∀ n : Nat, n < 8 → (256 : Int) ^ n ≤ 72057594037927936 := by decide
  have pn := p n hn
  refine ⟨i1.1, ?_⟩
  rcases i1.2 with z | z
  · subst z
    show (0 : Int) < _
    decide
  · generalize (256 : Int) ^ n = P at z pn
    omega
theorem mnb_in {b : Int → Int} {q : Int} {n : Nat} (hn : n ≤ 4) (hh : ∀ i : Int, 0 ≤ i → i < n → 48 ≤ b (q + i) ∧ b (q + i) ≤ 122) : 0 ≤ mnb b q n ∧ mnb b q n ≤ 100000 := by
  have key : ∀ n : Nat, (∀ i : Int, 0 ≤ i → i < n → 48 ≤ b (q + i) ∧ b (q + i) ≤ 122) → 0 ≤ mnb b q n ∧ 9 * mnb b q n ≤ 74 * ((10 : Int) ^ n - 1) := by
    intro n
    induction n with
    | zero =>
      intro _
      refine ⟨Int.le_refl _, ?_⟩
      show (9 : Int) * 0 ≤ 74 * ((10 : Int) ^ 0 - 1)
      decide
    | succ n ih =>
      intro hh
      have i1 := ih (fun i i0 i1 => hh i i0 (by omega))
      have i2 := hh n (by omega) (by omega)
      show 0 ≤ 10 * mnb b q n + b (q + n) - 48 ∧ 9 * (10 * mnb b q n + b (q + n) - 48) ≤ 74 * ((10 : Int) ^ (n + 1) - 1)
      rw [Int.pow_succ]
      generalize (10 : Int) ^ n = P at i1 ⊢
      omega
  have k1 := key n hh
  have p : ∀ n : Nat, n ≤ 4 → (10 : Int) ^ n ≤ 10000 := by decide
  have pn := p n hn
  generalize (10 : Int) ^ n = P at k1 pn
  omega
theorem zvl_le (b : Int → Int) (q : Int) : ∀ n : Nat, 0 ≤ (zvl b q n).1 ∧ (zvl b q n).1 ≤ n
  | 0 => ⟨Int.le_refl _, Int.le_refl _⟩
  | n + 1 => by
    have := zvl_le b q n
    unfold zvl
    split
    · exact ⟨this.1, by omega⟩
    · show 0 ≤ (zvl b q n).1 + 1 ∧ (zvl b q n).1 + 1 ≤ ((n + 1 : Nat) : Int)
      omega
theorem zvl_s {b : Int → Int} {q : Int} {n : Nat} (c : zsm1 (b (q + n))) : zvl b q (n + 1) = zvl b q n := if_pos c
theorem zvl_d {b : Int → Int} {q : Int} {n : Nat} (c : ¬ zsm1 (b (q + n))) : zvl b q (n + 1) = ((zvl b q n).1 + 1, if 4 < (zvl b q n).1 + 1 then 0 else (zvl b q n).2 * 10 + b (q + n) - 48) := if_neg c
theorem zvl_nb {b : Int → Int} {q : Int} : ∀ n : Nat, n ≤ 4 → (zvl b q n).1 = n → (zvl b q n).2 = mnb b q n
  | 0, _, _ => rfl
  | n + 1, hn, hd => by
    have le := zvl_le b q n
    by_cases c : zsm1 (b (q + n))
    · rw [zvl_s c] at hd
      omega
    · rw [zvl_d c] at hd ⊢
      have hd2 : (zvl b q n).1 + 1 = ((n + 1 : Nat) : Int) := hd
      have ih := zvl_nb (b := b) (q := q) n (by omega) (by omega)
      show (if 4 < (zvl b q n).1 + 1 then 0 else (zvl b q n).2 * 10 + b (q + n) - 48) = 10 * mnb b q n + b (q + n) - 48
      rw [if_neg (by omega), ih, Int.mul_comm]
theorem mre_run {b : Int → Int} (hb : ∀ q : Int, 340 ≤ q → b q = -1) : ∀ (n : Nat) (q : Int), 0 ≤ q → (∀ i : Int, 0 ≤ i → i < n → zrc (b (q + i))) → ¬ zrc (b (q + n)) → zre b 400 q = q + n
  | 0, q, h0, _, hn => by
    rw [zre_s hb h0, if_neg (by simpa using hn)]
    simp
  | n + 1, q, h0, hh, hn => by
    have c := hh 0 (by omega) (by omega)
    rw [Int.add_zero] at c
    rw [zre_s hb h0, if_pos c, mre_run hb n (q + 1) (by omega) (fun i i0 i1 => by rw [show q + 1 + i = q + (i + 1) by omega]; exact hh (i + 1) (by omega) (by omega)) (by rw [show q + 1 + (n : Int) = q + ((n + 1 : Nat) : Int) by omega]; exact hn)]
    omega
/-- what reading a token that begins at q leaves -/
def mLex (b : Int → Int) (sz q : Int) (g : zH) : Prop :=
  (sz ≤ q ∨ (300 < sz ∧ 300 ≤ q) → g 169 50 = (if 300 < sz then 300 else q) ∧ g 169 49 = (if 300 < sz then 4 else 0)) ∧
  (¬ (sz ≤ q ∨ (300 < sz ∧ 300 ≤ q)) → g 169 50 = q ∧ g 169 4 = znx b q ∧ (zkd b q = 1 → g 169 49 = 1 ∧ g 169 56 = mpk b q (zrn b q)) ∧ (zkd b q = 2 → g 169 49 = 2 ∧ g 169 52 = (zvl b q (zrn b q)).2) ∧ (zkd b q = 3 → g 169 49 = 4) ∧ (zkd b q ≠ 1 → zkd b q ≠ 2 → zkd b q ≠ 3 → g 169 49 = 3 ∧ g 169 52 = zkd b q))
abbrev mLxS : List Int := [4, 49, 50, 51, 52, 56]
def mLf (h g : zH) : Prop := zag [169] h g ∧ ∀ k : Int, k ∉ mLxS → g 169 k = h 169 k
theorem mLf.rf (h : zH) : mLf h h := ⟨zag.rf _ _, fun _ _ => rfl⟩
theorem mLf.st {h g : zH} (a : mLf h g) {k : Int} (hk : k ∈ mLxS) (x : Int) : mLf h (zst g 169 k x) := ⟨a.1.st (by decide) _ _, fun j hj => by
  rw [zst_ne (Or.inr (fun e : j = k => hj (by rw [e]; exact hk)))]
  exact a.2 j hj⟩
theorem mLf.bt {h g : zH} (a : mLf h g) : mbt g = mbt h := funext fun i => by
  unfold mbt
  rw [a.2 3 (by decide), a.1 170 i (by decide)]
theorem mbt_out {h : zH} (hs : h 169 3 ≤ 340) (q : Int) (hq : 340 ≤ q) : mbt h q = -1 := if_neg (by omega)
theorem mbt_at {h : zH} {q : Int} : (0 ≤ mbt h q ↔ 0 ≤ q ∧ q < h 169 3) ∧ mbt h q ≤ 255 ∧ -1 ≤ mbt h q := by
  have z := zand_le (h 170 q) (c := 255) (by decide) (by decide)
  unfold mbt
  by_cases c : 0 ≤ q ∧ q < h 169 3
  · rw [if_pos c]
    exact ⟨⟨fun _ => c, fun _ => z.1⟩, z.2, by omega⟩
  · rw [if_neg c]
    exact ⟨⟨fun q => by omega, fun q => absurd q c⟩, by omega, by omega⟩
theorem l_X11_next__178 {X : zX} {dep : Nat} (q s : Int) {h : zH} (hs : s = 0 ∨ s = 1) (hq : 0 ≤ q ∧ q < h 169 3) (hz : 0 ≤ h 169 3 ∧ h 169 3 ≤ 340) (he : ¬ (300 < h 169 3 ∧ 300 ≤ q)) (hc : zrc (mbt h q)) (hsm : s = 1 ↔ zsm1 (mbt h q)) (hdep : 1 ≤ dep) :
    ∀ (k n : Nat) (y : Int) (g : zH), q + n + k = 341 → mLf h g → g 169 4 = q + n → g 169 51 = n → g 169 50 = q → g 169 56 = mpk (mbt h) q (min n 8) → g 169 52 = mnb (mbt h) q (min n 4) → (∀ i : Int, 0 ≤ i → i < n → zrc (mbt h (q + i))) → (y = 0 ∧ (zvl (mbt h) q n).1 ≠ (if s = 1 then 0 else (n : Int)) ∨ y = 1 ∧ (zvl (mbt h) q n).1 = (if s = 1 then 0 else (n : Int))) →
      zW mX11_next_ X dep 0 0 239 178 [(0, xR 169), (2, xI s), (3, xI y)] [] g (zQ0 (fun g => mLf h g ∧ mLex (mbt h) (h 169 3) q g)) := by
  have hb : ∀ p : Int, 340 ≤ p → mbt h p = -1 := mbt_out hz.2
  intro k
  induction k with
  | zero =>
    intro n y g hk ha g4 g51 g50 g56 g52 hr hy
    exfalso
    have := hr 339 
    have c := hb (q + ((n : Int) - 1)) (by omega)
    by_cases n0 : n = 0
    · omega
    · have r := hr ((n : Int) - 1) (by omega) (by omega)
      rw [c] at r
      simp only [zrc, zsm1, zdg1] at r
      omega
  | succ k ih =>
    intro n y g hk ha g4 g51 g50 g56 g52 hr hy
    have eb := ha.bt
    have sz : g 169 3 = h 169 3 := ha.2 3 (by decide)
    have eq4 : mbt g (g 169 4) = mbt h (q + n) := by rw [eb, g4]
    have le := zvl_le (mbt h) q n
    have q4 : g 169 4 ≤ 340 := by
      rw [g4]
      by_cases c : q + (n : Int) ≤ 340
      · exact c
      · omega
    have step : zrc (mbt h (q + n)) → zW mX11_next_ X dep 0 0 239 198 [(0, xR 169), (2, xI s), (3, xI y)] [] g (zQ0 (fun g => mLf h g ∧ mLex (mbt h) (h 169 3) q g)) := fun rc => by
      have r2 : ∀ i : Int, 0 ≤ i → i < ((n + 1 : Nat) : Int) → zrc (mbt h (q + i)) := fun i i0 i1 => by
        by_cases e : i = n
        · rw [e]
          exact rc
        · exact hr i i0 (by omega)
      have bnd : ∀ i : Int, 0 ≤ i → i < ((n + 1 : Nat) : Int) → 48 ≤ mbt h (q + i) ∧ mbt h (q + i) ≤ 122 := fun i i0 i1 => by
        have := r2 i i0 i1
        simp only [zrc, zsm1, zdg1] at this
        omega
      have go : ∀ y' : Int, (y' = 0 ∧ (zvl (mbt h) q (n + 1)).1 ≠ (if s = 1 then 0 else ((n + 1 : Nat) : Int)) ∨ y' = 1 ∧ (zvl (mbt h) q (n + 1)).1 = (if s = 1 then 0 else ((n + 1 : Nat) : Int))) → zW mX11_next_ X dep 0 0 239 219 [(0, xR 169), (2, xI s), (3, xI y')] [] g (zQ0 (fun g => mLf h g ∧ mLex (mbt h) (h 169 3) q g)) := fun y' hy' => by
        have b1 := bnd n (by omega) (by omega)
        have fin : ∀ g1 : zH, mLf h g1 → g1 169 4 = q + n → g1 169 51 = n → g1 169 50 = q → g1 169 56 = mpk (mbt h) q (min (n + 1) 8) → g1 169 52 = mnb (mbt h) q (min n 4) → zW mX11_next_ X dep 0 0 239 245 [(0, xR 169), (2, xI s), (3, xI y')] [] g1 (zQ0 (fun g => mLf h g ∧ mLex (mbt h) (h 169 3) q g)) := fun g1 a1 f4 f51 f50 f56 f52 => by
          have e1 : mbt g1 (g1 169 4) = mbt h (q + n) := by rw [a1.bt, f4]
          have s1 : g1 169 3 = h 169 3 := a1.2 3 (by decide)
          have mb := mnb_in (b := mbt h) (q := q) (n := min n 4) (by omega) (fun i i0 i1 => bnd i i0 (by omega))
          have fin2 : ∀ g2 : zH, mLf h g2 → g2 169 4 = q + n → g2 169 51 = n → g2 169 50 = q → g2 169 56 = mpk (mbt h) q (min (n + 1) 8) → g2 169 52 = mnb (mbt h) q (min (n + 1) 4) → zW mX11_next_ X dep 0 0 239 272 [(0, xR 169), (2, xI s), (3, xI y')] [] g2 (zQ0 (fun g => mLf h g ∧ mLex (mbt h) (h 169 3) q g)) := fun g2 a2 v4 v51 v50 v56 v52 => by
            refine bX11_next__272 s y' (by rw [v4, a2.2 3 (by decide)]; omega) (by rw [v51]; omega) ?_
            refine ih (n + 1) y' _ (by omega) ((a2.st (by decide) _).st (by decide) _) ?_ ?_ ?_ ?_ ?_ r2 hy'
            · rw [zst_self, v4]; omega
            · rw [zst_ne (Or.inr (by decide)), zst_self, v51]; omega
            · rw [zst_ne (Or.inr (by decide)), zst_ne (Or.inr (by decide))]; exact v50
            · rw [zst_ne (Or.inr (by decide)), zst_ne (Or.inr (by decide))]; exact v56
            · rw [zst_ne (Or.inr (by decide)), zst_ne (Or.inr (by decide))]; exact v52
          refine bX11_next__245 s y' (by rw [f4, s1]; omega) (by rw [f51]; omega) (by rw [f52]; exact mb) (by rw [e1]; omega) hdep (fun c => ?_) (fun c => ?_)
          · refine fin2 g1 a1 f4 f51 f50 f56 ?_
            rw [f52, show min n 4 = 4 by omega, show min (n + 1) 4 = 4 by omega]
          · refine fin2 _ (a1.st (by decide) _) ?_ ?_ ?_ ?_ ?_
            · rw [zst_ne (Or.inr (by decide))]; exact f4
            · rw [zst_ne (Or.inr (by decide))]; exact f51
            · rw [zst_ne (Or.inr (by decide))]; exact f50
            · rw [zst_ne (Or.inr (by decide))]; exact f56
            · rw [zst_self, e1, f52, show min n 4 = n by omega, show min (n + 1) 4 = n + 1 by omega]
              rfl
        refine bX11_next__219 s y' (by rw [g4, sz]; omega) (by rw [g51]; omega) hdep (fun c => ?_) (fun c => ?_)
        · refine fin g ha g4 g51 g50 ?_ g52
          rw [g56, show min n 8 = 8 by omega, show min (n + 1) 8 = 8 by omega]
        · have pl := mpk_lt (b := mbt h) (q := q) (n := n) (by omega) (fun i i0 i1 => by have := bnd i i0 (by omega); omega)
          refine fin _ (ha.st (by decide) _) ?_ ?_ ?_ ?_ ?_
          · rw [zst_ne (Or.inr (by decide))]; exact g4
          · rw [zst_ne (Or.inr (by decide))]; exact g51
          · rw [zst_ne (Or.inr (by decide))]; exact g50
          · rw [zst_self, eq4, g56, show min n 8 = n by omega, show min (n + 1) 8 = n + 1 by omega, zlor8 pl.1 pl.2 (by omega) (by omega)]
            rfl
          · rw [zst_ne (Or.inr (by decide))]; exact g52
      by_cases sm : zsm1 (mbt h (q + n))
      · have e := zvl_s (b := mbt h) (q := q) (n := n) sm
        refine bX11_next__198 s y (by rw [g4, sz]; omega) hs hdep (fun c => go 0 (Or.inl ⟨rfl, ?_⟩)) (fun c c2 => go 0 (Or.inl ⟨rfl, ?_⟩)) (fun c c2 => go 1 (Or.inr ⟨rfl, ?_⟩))
        · rw [e]
          rcases hs with z | z
          · rw [z, if_neg (by decide)]; omega
          · rw [z, if_pos rfl] at hy ⊢; omega
        · rw [eq4, zb_t sm] at c2
          rw [e, if_neg (by omega)]
          omega
        · rw [eq4, zb_t sm] at c2
          rw [e, if_pos (by omega)]
          rw [if_pos (by omega)] at hy
          omega
      · have e := zvl_d (b := mbt h) (q := q) (n := n) sm
        have e1 : (zvl (mbt h) q (n + 1)).1 = (zvl (mbt h) q n).1 + 1 := by rw [e]
        refine bX11_next__198 s y (by rw [g4, sz]; omega) hs hdep (fun c => go 0 (Or.inl ⟨rfl, ?_⟩)) (fun c c2 => go 0 (Or.inl ⟨rfl, ?_⟩)) (fun c c2 => go 1 (Or.inr ⟨rfl, ?_⟩))
        · rw [e1]
          rcases hs with z | z
          · rw [z, if_neg (by decide)] at hy ⊢; omega
          · rw [z, if_pos rfl]; omega
        · rw [eq4, zb_f sm] at c2
          rw [e1, if_pos (by omega)]
          omega
        · rw [eq4, zb_f sm] at c2
          rw [e1, if_neg (by omega)]
          rw [if_neg (by omega)] at hy
          omega
    refine bX11_next__178 s y (by rw [g4, sz]; omega) hdep (fun c => ?_) (fun c c2 => ?_) (fun c c2 => ?_)
    · rw [eq4] at c
      exact step (Or.inl c)
    · rw [eq4] at c c2
      have nrc : ¬ zrc (mbt h (q + n)) := fun z => z.elim c c2
      have n1 : 1 ≤ n := by
        rcases Nat.eq_zero_or_pos n with z | z
        · subst z
          rw [show q + ((0 : Nat) : Int) = q by omega] at nrc
          exact absurd hc nrc
        · exact z
      have re := mre_run hb n q hq.1 hr nrc
      have rn : zrn (mbt h) q = n := by
        unfold zrn
        rw [re]
        omega
      have first : (s = 1 → (zvl (mbt h) q n).1 < n) ∧ (s = 0 → 1 ≤ (zvl (mbt h) q n).1) := by
        have key : ∀ m : Nat, 1 ≤ m → (zsm1 (mbt h q) → (zvl (mbt h) q m).1 < m) ∧ (¬ zsm1 (mbt h q) → 1 ≤ (zvl (mbt h) q m).1) := by
          intro m
          induction m with
          | zero => intro hm; omega
          | succ m ihm =>
            intro hm
            have lm := zvl_le (mbt h) q m
            by_cases m0 : m = 0
            · subst m0
              refine ⟨fun z => ?_, fun z => ?_⟩
              · rw [zvl_s (by simpa using z)]
                omega
              · rw [zvl_d (by simpa using z)]
                show 1 ≤ (zvl (mbt h) q 0).1 + 1
                omega
            · have i := ihm (by omega)
              by_cases sm : zsm1 (mbt h (q + m))
              · rw [zvl_s sm]
                exact ⟨fun z => by have := i.1 z; omega, i.2⟩
              · rw [zvl_d sm]
                exact ⟨fun z => by show (zvl (mbt h) q m).1 + 1 < _; have := i.1 z; omega, fun z => by show 1 ≤ (zvl (mbt h) q m).1 + 1; omega⟩
        have kn := key n n1
        exact ⟨fun z => kn.1 (hsm.mp z), fun z => kn.2 (fun w => by have := hsm.mpr w; omega)⟩
      have kd : zkd (mbt h) q = (if (zvl (mbt h) q n).1 = 0 ∧ n ≤ 8 then 1 else if (zvl (mbt h) q n).1 = (n : Nat) ∧ (zvl (mbt h) q n).1 ≤ 4 then 2 else 3) := by
        unfold zkd
        rw [if_pos hc, rn]
      have nx : znx (mbt h) q = q + n := by
        unfold znx
        rw [if_pos hc, re]
      have notend : ¬ (h 169 3 ≤ q ∨ (300 < h 169 3 ∧ 300 ≤ q)) := fun z => z.elim (fun z => by omega) he
      have fin : ∀ x : Int, (zkd (mbt h) q = 1 → x = 1 ∧ n ≤ 8) → (zkd (mbt h) q = 2 → x = 2 ∧ n ≤ 4 ∧ (zvl (mbt h) q n).1 = n) → (zkd (mbt h) q = 3 → x = 4) → zQ0 (fun g => mLf h g ∧ mLex (mbt h) (h 169 3) q g) 239 (zst g 169 49 x) [] := fun x x1 x2 x3 => by
        refine ⟨rfl, rfl, ha.st (by decide) _, fun z => absurd z notend, fun _ => ⟨?_, ?_, fun z => ?_, fun z => ?_, fun z => ?_, fun z1 z2 z3 => ?_⟩⟩
        · rw [zst_ne (Or.inr (by decide))]; exact g50
        · rw [zst_ne (Or.inr (by decide)), g4, nx]
        · have w := x1 z
          rw [zst_self, zst_ne (Or.inr (by decide)), g56, rn, show min n 8 = n by omega]
          exact ⟨w.1, rfl⟩
        · have w := x2 z
          rw [zst_self, zst_ne (Or.inr (by decide)), g52, rn, show min n 4 = n by omega, zvl_nb n w.2.1 w.2.2]
          exact ⟨w.1, rfl⟩
        · rw [zst_self]
          exact x3 z
        · exfalso
          rw [kd] at z1 z2 z3
          split at z1
          · exact z1 rfl
          · rename_i k1
            rw [if_neg k1] at z2 z3
            split at z2
            · exact z2 rfl
            · rename_i k2
              rw [if_neg k2] at z3
              exact z3 rfl
      refine bX11_next__295 s y (by rw [g51]; omega) (fun cy => ?_) (fun cy => ?_)
      · have ny : (zvl (mbt h) q n).1 ≠ (if s = 1 then 0 else (n : Int)) := by
          rcases hy with z | z
          · exact z.2
          · omega
        refine fin 4 (fun z => ?_) (fun z => ?_) (fun _ => rfl)
        · exfalso
          rw [kd] at z
          rcases hs with s0 | s0
          · have := first.2 s0
            rw [if_neg (by omega)] at z
            split at z <;> omega
          · rw [s0, if_pos rfl] at ny
            rw [if_neg (by omega)] at z
            split at z <;> omega
        · exfalso
          rw [kd] at z
          rcases hs with s0 | s0
          · rw [s0, if_neg (by decide)] at ny
            split at z
            · omega
            · rw [if_neg (by omega)] at z
              omega
          · have := first.1 s0
            split at z
            · omega
            · rw [if_neg (by omega)] at z
              omega
      · have ny : (zvl (mbt h) q n).1 = (if s = 1 then 0 else (n : Int)) := by
          rcases hy with z | z
          · omega
          · exact z.2
        rw [g51]
        rcases hs with s0 | s0
        · have f := first.2 s0
          rw [s0, if_neg (by decide)] at ny
          subst s0
          rw [show (if (0 : Int) = 0 then (4 : Int) else 8) = 4 from rfl, show (if (0 : Int) = 0 then (2 : Int) else 1) = 2 from rfl]
          by_cases n4 : (n : Int) ≤ 4
          · rw [if_pos n4]
            have k2 : zkd (mbt h) q = 2 := by
              rw [kd, if_neg (by omega), if_pos (by omega)]
            exact fin 2 (fun z => by omega) (fun _ => ⟨rfl, by omega, ny⟩) (fun z => by omega)
          · rw [if_neg n4]
            have k3 : zkd (mbt h) q = 3 := by
              rw [kd, if_neg (by omega), if_neg (by omega)]
            exact fin 4 (fun z => by omega) (fun z => by omega) (fun _ => rfl)
        · have f := first.1 s0
          rw [s0, if_pos rfl] at ny
          subst s0
          rw [show (if (1 : Int) = 0 then (4 : Int) else 8) = 8 from rfl, show (if (1 : Int) = 0 then (2 : Int) else 1) = 1 from rfl]
          by_cases n8 : (n : Int) ≤ 8
          · rw [if_pos n8]
            have k1 : zkd (mbt h) q = 1 := by
              rw [kd, if_pos (by omega)]
            exact fin 1 (fun _ => ⟨rfl, by omega⟩) (fun z => by omega) (fun z => by omega)
          · rw [if_neg n8]
            have k3 : zkd (mbt h) q = 3 := by
              rw [kd, if_neg (by omega), if_neg (by omega)]
            exact fin 4 (fun z => by omega) (fun z => by omega) (fun _ => rfl)
    · rw [eq4] at c2
      exact step (Or.inr c2)
theorem f_X11_next_ {X : zX} {dep : Nat} {h : zH} (hz : 0 ≤ h 169 3 ∧ h 169 3 ≤ 340) (hp : 0 ≤ h 169 4 ∧ h 169 4 ≤ 340) (hdep : 1 ≤ dep) : zW mX11_next_ X dep 0 0 239 0 (zar 0 [xR 169]) [] h (zQ0 (fun g => mLf h g ∧ mLex (mbt h) (h 169 3) (zsk (mbt h) 400 (h 169 4)) g)) := by
  have hb : ∀ p : Int, 340 ≤ p → mbt h p = -1 := mbt_out hz.2
  have main : ∀ (k : Nat) (g : zH), g 169 4 + k = 341 → 0 ≤ g 169 4 → g 169 4 ≤ 340 → mLf h g → zW mX11_next_ X dep 0 0 239 0 [(0, xR 169)] [] g (zQ0 (fun f => mLf h f ∧ mLex (mbt h) (h 169 3) (zsk (mbt h) 400 (g 169 4)) f)) := by
    intro k
    induction k with
    | zero =>
      intro g hk h0 h1 ha
      exfalso
      omega
    | succ k ih =>
      intro g hk h0 h1 ha
      have eb := ha.bt
      have sz : g 169 3 = h 169 3 := ha.2 3 (by decide)
      have sk := zsk_s hb h0
      have more : (mbt h (g 169 4) = 32 ∨ mbt h (g 169 4) = 10) → zW mX11_next_ X dep 0 0 239 0 [(0, xR 169)] [] (zst g 169 4 (g 169 4 + 1)) (zQ0 (fun f => mLf h f ∧ mLex (mbt h) (h 169 3) (zsk (mbt h) 400 (g 169 4)) f)) := fun c => by
        have lt : g 169 4 < 340 := by
          rcases Int.lt_or_le (g 169 4) 340 with z | z
          · exact z
          · rw [hb _ z] at c
            omega
        rw [sk, if_pos c]
        have go := ih (zst g 169 4 (g 169 4 + 1)) (by rw [zst_self]; omega) (by rw [zst_self]; omega) (by rw [zst_self]; omega) (ha.st (by decide) _)
        rw [zst_self] at go
        exact go
      refine bX11_next__0 (by omega) hdep (fun c => ?_) (fun c c2 => ?_) (fun c c2 => ?_)
      · rw [eb] at c
        exact more (Or.inl c)
      · rw [eb] at c c2
        rw [sk, if_neg (by omega)]
        generalize eq : g 169 4 = q at *
        have at_ := mbt_at (h := h) (q := q)
        have after : (h 169 3 ≤ 300 ∨ q < 300) → zW mX11_next_ X dep 0 0 239 77 [(0, xR 169)] [] (zst (zst g 169 50 (g 169 4)) 169 51 0) (zQ0 (fun f => mLf h f ∧ mLex (mbt h) (h 169 3) q f)) := fun c3 => by
          rw [eq]
          have a1 : mLf h (zst (zst g 169 50 q) 169 51 0) := (ha.st (by decide) _).st (by decide) _
          have f4 : zst (zst g 169 50 q) 169 51 0 169 4 = q := by
            rw [zst_ne (Or.inr (by decide)), zst_ne (Or.inr (by decide))]; exact eq
          have f50 : zst (zst g 169 50 q) 169 51 0 169 50 = q := by
            rw [zst_ne (Or.inr (by decide)), zst_self]
          have f51 : zst (zst g 169 50 q) 169 51 0 169 51 = 0 := zst_self _ _ _ _
          generalize zst (zst g 169 50 q) 169 51 0 = g1 at a1 f4 f50 f51
          have e1 : mbt g1 (g1 169 4) = mbt h q := by rw [a1.bt, f4]
          have run : 0 ≤ mbt h q → zrc (mbt h q) → zW mX11_next_ X dep 0 0 239 161 [(0, xR 169), (1, xI (mbt h q))] [] g1 (zQ0 (fun f => mLf h f ∧ mLex (mbt h) (h 169 3) q f)) := fun p0 rc => by
            have hq := at_.1.mp p0
            refine bX11_next__161 _ hdep ?_
            refine l_X11_next__178 q _ (zb01 _) hq hz (by omega) rc ⟨fun z => ?_, fun z => zb_t z⟩ hdep (341 - q).toNat 0 1 _ (by omega) ((a1.st (by decide) _).st (by decide) _) ?_ ?_ ?_ ?_ ?_ (fun i i0 i1 => by omega) (Or.inr ⟨rfl, ?_⟩)
            · by_cases w : zsm1 (mbt h q)
              · exact w
              · rw [zb_f w] at z
                omega
            · rw [zst_ne (Or.inr (by decide)), zst_ne (Or.inr (by decide)), f4]; omega
            · rw [zst_ne (Or.inr (by decide)), zst_ne (Or.inr (by decide)), f51]; rfl
            · rw [zst_ne (Or.inr (by decide)), zst_ne (Or.inr (by decide)), f50]
            · rw [zst_ne (Or.inr (by decide)), zst_self]; rfl
            · rw [zst_self]; rfl
            · show (0 : Int) = _
              split <;> rfl
          refine bX11_next__77 (by rw [f4, a1.2 3 (by decide)]; omega) hdep ?_ ?_ ?_ ?_
          all_goals rw [e1]
          · intro p0 p1
            exact run p0 (Or.inl p1)
          · intro p0 _ p1
            exact run p0 (Or.inr p1)
          · intro p0 p1 p2
            rw [f4]
            have hq := at_.1.mp p0
            have nrc : ¬ zrc (mbt h q) := fun z => z.elim p1 p2
            refine ⟨rfl, rfl, ((a1.st (by decide) _).st (by decide) _).st (by decide) _, fun z => by exfalso; omega, fun _ => ?_⟩
            have kd : zkd (mbt h) q = if zsg (mbt h q) then mbt h q else 3 := by
              unfold zkd
              rw [if_neg nrc]
            rw [zst_ne (k := 4) (k' := 50) (Or.inr (by decide)), zst_ne (k := 52) (k' := 50) (Or.inr (by decide)), zst_ne (k := 49) (k' := 50) (Or.inr (by decide)), zst_self, zst_ne (k := 4) (k' := 49) (Or.inr (by decide)), zst_ne (k := 52) (k' := 49) (Or.inr (by decide)), zst_self, zst_ne (k := 4) (k' := 52) (Or.inr (by decide)), zst_self, kd]
            have nx : znx (mbt h) q = q + 1 := by
              unfold znx
              rw [if_neg nrc]
            refine ⟨f50, nx.symm, ?_, ?_, ?_, ?_⟩
            all_goals by_cases sg : zsg (mbt h q)
            all_goals (first | rw [if_pos sg] | rw [if_neg sg])
            all_goals simp only [zsg] at sg
            all_goals intros
            all_goals (first | (exfalso; omega) | skip)
            · (repeat' split) <;> omega
            · refine ⟨?_, rfl⟩
              (repeat' split) <;> omega
          · intro p0
            refine ⟨rfl, rfl, a1.st (by decide) _, fun _ => ?_, fun z => by exfalso; omega⟩
            rw [zst_ne (Or.inr (by decide)), zst_self, f50, if_neg (by omega), if_neg (by omega)]
            exact ⟨rfl, rfl⟩
        refine bX11_next__31 (by omega) (fun c3 => after (Or.inl (by omega))) (fun c3 c4 => after (Or.inr (by omega))) (fun c3 c4 => ?_)
        refine ⟨rfl, rfl, (((ha.st (by decide) _).st (by decide) _).st (by decide) _).st (by decide) _, fun _ => ?_, fun z => by exfalso; omega⟩
        rw [zst_ne (Or.inr (by decide)), zst_self, zst_self, if_pos (by omega), if_pos (by omega)]
        exact ⟨rfl, rfl⟩
      · rw [eb] at c2
        exact more (Or.inr c2)
  exact main (341 - h 169 4).toNat h (by omega) hp.1 hp.2 (mLf.rf h)
