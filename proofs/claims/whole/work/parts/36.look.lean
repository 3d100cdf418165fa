/-! looking at a day -/
set_option maxRecDepth 20000 in
theorem c_X4_servingBrothersOf_4 {X : zX} {dep bc bs : Nat} (m : Int) (n : Int) (i : Int) {h : zH} {Q : Nat → zH → List zV → Prop} (hm : 0 ≤ h 3 0 ∧ h 3 0 ≤ 60) (hq : 0 ≤ m ∧ m < 60) (hi : 0 ≤ i) (hn : 0 ≤ n ∧ n ≤ i)
    (k1 : (h 3 0) ≤ i → Q 239 h [xI n])
    (k2 : ¬ ((h 3 0) ≤ i) → zW mX4_servingBrothersOf X dep bc bs 239 4 [(0, xR 3), (1, xI m), (2, xI (n + (if i = m then 0 else if (h 20 i) = 0 then 0 else if (h 23 i) = 0 then 0 else if (h 5 i) = (h 5 m) then 1 else 0 : Int))), (3, xI (i + 1))] [] h Q) : zW mX4_servingBrothersOf X dep bc bs 239 4 [(0, xR 3), (1, xI m), (2, xI n), (3, xI i)] [] h Q := by
  refine z_iload_n 3 dX4_servingBrothersOf_4 rfl ?_
  refine z_aload_n 0 dX4_servingBrothersOf_5 rfl ?_
  refine z_getI (k := 0) (kz := 0) pk4 dX4_servingBrothersOf_6 (by decide) zb_154 rfl (zOb.lit (by decide +kernel)) rfl ?_
  refine z_icmp_ge (tgt := 64) dX4_servingBrothersOf_9 (by decide) (fun c1 => ?_) (fun c1 => ?_)
  ·
    refine z_iload_n 2 dX4_servingBrothersOf_64 rfl ?_
    exact z_iret dX4_servingBrothersOf_65 rfl (k1 c1)
  ·
    refine z_iload_n 2 dX4_servingBrothersOf_12 rfl ?_
    refine z_iload_n 3 dX4_servingBrothersOf_13 rfl ?_
    refine z_iload_n 1 dX4_servingBrothersOf_14 rfl ?_
    suffices KJ : zW mX4_servingBrothersOf X dep bc bs 239 56 [(0, xR 3), (1, xI m), (2, xI n), (3, xI i)] [xI (if i = m then 0 else if (h 20 i) = 0 then 0 else if (h 23 i) = 0 then 0 else if (h 5 i) = (h 5 m) then 1 else 0 : Int), xI n] h Q by
      refine z_icmp_eq (tgt := 55) dX4_servingBrothersOf_15 (by decide) (fun j1 => ?_) (fun j1 => ?_)
      ·
        refine z_iconst dX4_servingBrothersOf_55 (zi32_d rfl) ?_
        rw [if_pos j1] at KJ
        exact KJ
      ·
        refine z_aload_n 0 dX4_servingBrothersOf_18 rfl ?_
        refine z_getS (v := 20) (k := 13) (kz := 13) pk4 dX4_servingBrothersOf_19 (by decide) zb_183 rfl (zOb.lit (by decide +kernel)) rfl (by decide +kernel) ?_
        refine z_iload_n 3 dX4_servingBrothersOf_22 rfl ?_
        refine z_zald dX4_servingBrothersOf_23 (zOb.lit (by decide +kernel)) (show 0 ≤ i ∧ i < 60 from ⟨by omega, by omega⟩).1 (show 0 ≤ i ∧ i < 60 from ⟨by omega, by omega⟩).2 ?_
        refine z_if_eq (tgt := 55) dX4_servingBrothersOf_24 (by decide) (fun j2 => ?_) (fun j2 => ?_)
        ·
          refine z_iconst dX4_servingBrothersOf_55 (zi32_d rfl) ?_
          rw [if_neg j1] at KJ
          rw [if_pos j2] at KJ
          exact KJ
        ·
          refine z_aload_n 0 dX4_servingBrothersOf_27 rfl ?_
          refine z_getS (v := 23) (k := 16) (kz := 16) pk4 dX4_servingBrothersOf_28 (by decide) zb_189 rfl (zOb.lit (by decide +kernel)) rfl (by decide +kernel) ?_
          refine z_iload_n 3 dX4_servingBrothersOf_31 rfl ?_
          refine z_zald dX4_servingBrothersOf_32 (zOb.lit (by decide +kernel)) (show 0 ≤ i ∧ i < 60 from ⟨by omega, by omega⟩).1 (show 0 ≤ i ∧ i < 60 from ⟨by omega, by omega⟩).2 ?_
          refine z_if_eq (tgt := 55) dX4_servingBrothersOf_33 (by decide) (fun j3 => ?_) (fun j3 => ?_)
          ·
            refine z_iconst dX4_servingBrothersOf_55 (zi32_d rfl) ?_
            rw [if_neg j1] at KJ
            rw [if_neg j2] at KJ
            rw [if_pos j3] at KJ
            exact KJ
          ·
            refine z_aload_n 0 dX4_servingBrothersOf_36 rfl ?_
            refine z_getS (v := 5) (k := 2) (kz := 2) pk4 dX4_servingBrothersOf_37 (by decide) zb_159 rfl (zOb.lit (by decide +kernel)) rfl (by decide +kernel) ?_
            refine z_iload_n 3 dX4_servingBrothersOf_40 rfl ?_
            refine z_iald dX4_servingBrothersOf_41 (zOb.lit (by decide +kernel)) (show 0 ≤ i ∧ i < 60 from ⟨by omega, by omega⟩).1 (show 0 ≤ i ∧ i < 60 from ⟨by omega, by omega⟩).2 ?_
            refine z_aload_n 0 dX4_servingBrothersOf_42 rfl ?_
            refine z_getS (v := 5) (k := 2) (kz := 2) pk4 dX4_servingBrothersOf_43 (by decide) zb_159 rfl (zOb.lit (by decide +kernel)) rfl (by decide +kernel) ?_
            refine z_iload_n 1 dX4_servingBrothersOf_46 rfl ?_
            refine z_iald dX4_servingBrothersOf_47 (zOb.lit (by decide +kernel)) (show 0 ≤ m ∧ m < 60 from ⟨by omega, by omega⟩).1 (show 0 ≤ m ∧ m < 60 from ⟨by omega, by omega⟩).2 ?_
            refine z_icmp_ne (tgt := 55) dX4_servingBrothersOf_48 (by decide) (fun j4 => ?_) (fun j4 => ?_)
            ·
              refine z_iconst dX4_servingBrothersOf_55 (zi32_d rfl) ?_
              rw [if_neg j1] at KJ
              rw [if_neg j2] at KJ
              rw [if_neg j3] at KJ
              rw [if_neg j4] at KJ
              exact KJ
            ·
              refine z_iconst dX4_servingBrothersOf_51 (zi32_d rfl) ?_
              refine z_goto (tgt := 56) dX4_servingBrothersOf_52 (by decide) ?_
              rw [if_neg j1] at KJ
              rw [if_neg j2] at KJ
              rw [if_neg j3] at KJ
              rw [if_pos j4] at KJ
              exact KJ
    refine z_iaddN dX4_servingBrothersOf_56 (show -2147483648 ≤ n + (if i = m then 0 else if (h 20 i) = 0 then 0 else if (h 23 i) = 0 then 0 else if (h 5 i) = (h 5 m) then 1 else 0 : Int) ∧ n + (if i = m then 0 else if (h 20 i) = 0 then 0 else if (h 23 i) = 0 then 0 else if (h 5 i) = (h 5 m) then 1 else 0 : Int) < 2147483648 from ⟨by omega, by omega⟩).1 (show -2147483648 ≤ n + (if i = m then 0 else if (h 20 i) = 0 then 0 else if (h 23 i) = 0 then 0 else if (h 5 i) = (h 5 m) then 1 else 0 : Int) ∧ n + (if i = m then 0 else if (h 20 i) = 0 then 0 else if (h 23 i) = 0 then 0 else if (h 5 i) = (h 5 m) then 1 else 0 : Int) < 2147483648 from ⟨by omega, by omega⟩).2 ?_
    refine z_istore_n (lv' := [(2, xI (n + (if i = m then 0 else if (h 20 i) = 0 then 0 else if (h 23 i) = 0 then 0 else if (h 5 i) = (h 5 m) then 1 else 0 : Int))), (0, xR 3), (1, xI m), (3, xI i)]) dX4_servingBrothersOf_57 (by decide) rfl ?_
    refine z_iincN (lv' := [(3, xI (i + 1)), (2, xI (n + (if i = m then 0 else if (h 20 i) = 0 then 0 else if (h 23 i) = 0 then 0 else if (h 5 i) = (h 5 m) then 1 else 0 : Int))), (0, xR 3), (1, xI m)]) 3 dX4_servingBrothersOf_58 rfl (by decide) rfl (show -2147483648 ≤ i + 1 ∧ i + 1 < 2147483648 from ⟨by omega, by omega⟩).1 (show -2147483648 ≤ i + 1 ∧ i + 1 < 2147483648 from ⟨by omega, by omega⟩).2 ?_
    refine z_goto (tgt := 4) dX4_servingBrothersOf_61 (by decide) ?_
    refine zW.sub (lv' := [(0, xR 3), (1, xI m), (2, xI (n + (if i = m then 0 else if (h 20 i) = 0 then 0 else if (h 23 i) = 0 then 0 else if (h 5 i) = (h 5 m) then 1 else 0 : Int))), (3, xI (i + 1))]) [2, 3, 1, 0] rfl ?_
    exact k2 c1

def zsbP (h : zH) (m k : Int) : Prop := k ≠ m ∧ h 20 k ≠ 0 ∧ h 23 k ≠ 0 ∧ h 5 k = h 5 m
theorem l_X4_servingBrothersOf {X : zX} {dep : Nat} (m : Int) {h : zH} (hm : 0 ≤ h 3 0 ∧ h 3 0 ≤ 60) (hq : 0 ≤ m ∧ m < 60) : ∀ (k j : Nat), (j : Int) + k = h 3 0 → zW mX4_servingBrothersOf X dep 0 0 239 4 [(0, xR 3), (1, xI m), (2, xI (zcnt (zsbP h m) j)), (3, xI j)] [] h (zF h [xI (zcnt (zsbP h m) (h 3 0).toNat)]) := by
  intro k
  induction k with
  | zero =>
    intro j hk
    have := zcnt_in (zsbP h m) j
    refine c_X4_servingBrothersOf_4 m _ j hm hq (by omega) (by omega) ?_ ?_
    · intro c
      rw [show (h 3 0).toNat = j by omega]
      exact ⟨rfl, rfl, rfl⟩
    · intro c; exfalso; omega
  | succ k ih =>
    intro j hk
    have := zcnt_in (zsbP h m) j
    refine c_X4_servingBrothersOf_4 m _ j hm hq (by omega) (by omega) ?_ ?_
    · intro c; exfalso; omega
    · intro c
      have e : zcnt (zsbP h m) j + (if (j : Int) = m then 0 else if (h 20 j) = 0 then 0 else if (h 23 j) = 0 then 0 else if (h 5 j) = (h 5 m) then 1 else 0) = zcnt (zsbP h m) (j + 1) := by
        show _ = zcnt (zsbP h m) j + zb (zsbP h m j)
        congr 1
        unfold zb zsbP
        (repeat' split) <;> first | rfl | omega
      rw [e]
      have := ih (j + 1) (by omega)
      rw [show ((j + 1 : Nat) : Int) = (j : Int) + 1 by omega] at this
      exact this
theorem f_X4_servingBrothersOf {X : zX} {dep : Nat} (m : Int) {h : zH} (hm : 0 ≤ h 3 0 ∧ h 3 0 ≤ 60) (hq : 0 ≤ m ∧ m < 60) : zW mX4_servingBrothersOf X dep 0 0 239 0 (zar 0 [xR 3, xI m]) [] h (zF h [xI (zcnt (zsbP h m) (h 3 0).toNat)]) := by
  refine bX4_servingBrothersOf_0 m ?_
  exact l_X4_servingBrothersOf m hm hq (h 3 0).toNat 0 (by omega)

set_option maxRecDepth 20000 in
theorem bX4_look_31 {X : zX} {dep bc bs : Nat} (i : Int) {g : zH} {Q : Nat → zH → List zV → Prop} (hm : 0 ≤ g 3 0 ∧ g 3 0 ≤ 60) (hi : 0 ≤ i) (hf : i < g 3 0 → 0 ≤ g 5 i ∧ g 5 i < 60 ∧ 0 ≤ g 4 i ∧ g 4 i < 8) (hs : i < g 3 0 → 0 ≤ g 21 (g 5 i) ∧ g 21 (g 5 i) ≤ 60 ∧ 0 ≤ g 22 (g 4 i) ∧ g 22 (g 4 i) ≤ 60)
    (k1 : (g 3 0) ≤ i → Q 239 g [])
    (k2 : ¬ ((g 3 0) ≤ i) → (if (g 18 i) = 0 then 0 else if (g 17 i) = i then 1 else 0 : Int) = 0 → zW mX4_look X dep bc bs 239 31 [(0, xR 3), (2, xI (i + 1))] [] (zst (zst g 23 i 0) 20 i (if (g 18 i) = 0 then 0 else if (g 17 i) = i then 1 else 0 : Int)) Q)
    (k3 : ¬ ((g 3 0) ≤ i) → ¬ ((if (g 18 i) = 0 then 0 else if (g 17 i) = i then 1 else 0 : Int) = 0) → zW mX4_look X dep bc bs 239 31 [(0, xR 3), (2, xI (i + 1))] [] (zst (zst (zst (zst g 23 i 0) 20 i (if (g 18 i) = 0 then 0 else if (g 17 i) = i then 1 else 0 : Int)) 21 (g 5 i) ((g 21 (g 5 i)) + 1)) 22 (g 4 i) ((g 22 (g 4 i)) + 1)) Q) : zW mX4_look X dep bc bs 239 31 [(0, xR 3), (2, xI i)] [] g Q := by
  refine z_iload_n 1 dX4_look_31 rfl ?_
  refine z_aload_n 0 dX4_look_32 rfl ?_
  refine z_getI (k := 0) (kz := 0) pk4 dX4_look_33 (by decide) zb_154 rfl (zOb.lit (by decide +kernel)) rfl ?_
  refine z_icmp_ge (tgt := 121) dX4_look_36 (by decide) (fun c1 => ?_) (fun c1 => ?_)
  ·
    exact z_ret dX4_look_121 rfl (k1 c1)
  ·
    refine z_aload_n 0 dX4_look_39 rfl ?_
    refine z_getS (v := 23) (k := 16) (kz := 16) pk4 dX4_look_40 (by decide) zb_189 rfl (zOb.lit (by decide +kernel)) rfl (by decide +kernel) ?_
    refine z_iload_n 1 dX4_look_43 rfl ?_
    refine z_iconst dX4_look_44 (zi32_d rfl) ?_
    refine z_zast dX4_look_45 (zOb.lit (by decide +kernel)) (show 0 ≤ i ∧ i < 60 from ⟨by omega, by omega⟩).1 (show 0 ≤ i ∧ i < 60 from ⟨by omega, by omega⟩).2 (Or.inl rfl) ?_
    refine z_aload_n 0 dX4_look_46 rfl ?_
    refine z_getS (v := 20) (k := 13) (kz := 13) pk4 dX4_look_47 (by decide) zb_183 rfl (zOb.lit (by decide +kernel)) rfl (by decide +kernel) ?_
    refine z_iload_n 1 dX4_look_50 rfl ?_
    refine z_aload_n 0 dX4_look_51 rfl ?_
    refine z_getS (v := 18) (k := 11) (kz := 11) pk4 dX4_look_52 (by decide) zb_179 rfl (zOb.lit (by decide +kernel)) rfl (by decide +kernel) ?_
    refine z_iload_n 1 dX4_look_55 rfl ?_
    refine z_zaldV (v := (g 18 i)) dX4_look_56 (zOb.lit (by decide +kernel)) (show 0 ≤ i ∧ i < 60 from ⟨by omega, by omega⟩).1 (show 0 ≤ i ∧ i < 60 from ⟨by omega, by omega⟩).2 (zst_ne (Or.inl (by decide))) ?_
    suffices KJ : zW mX4_look X dep bc bs 239 75 [(0, xR 3), (2, xI i)] [xI (if (g 18 i) = 0 then 0 else if (g 17 i) = i then 1 else 0 : Int), xI i, xR 20] (zst g 23 i 0) Q by
      refine z_if_eq (tgt := 74) dX4_look_57 (by decide) (fun j1 => ?_) (fun j1 => ?_)
      ·
        refine z_iconst dX4_look_74 (zi32_d rfl) ?_
        rw [if_pos j1] at KJ
        exact KJ
      ·
        refine z_aload_n 0 dX4_look_60 rfl ?_
        refine z_getS (v := 17) (k := 10) (kz := 10) pk4 dX4_look_61 (by decide) zb_177 rfl (zOb.lit (by decide +kernel)) rfl (by decide +kernel) ?_
        refine z_iload_n 1 dX4_look_64 rfl ?_
        refine z_ialdV (v := (g 17 i)) dX4_look_65 (zOb.lit (by decide +kernel)) (show 0 ≤ i ∧ i < 60 from ⟨by omega, by omega⟩).1 (show 0 ≤ i ∧ i < 60 from ⟨by omega, by omega⟩).2 (zst_ne (Or.inl (by decide))) ?_
        refine z_iload_n 1 dX4_look_66 rfl ?_
        refine z_icmp_ne (tgt := 74) dX4_look_67 (by decide) (fun j2 => ?_) (fun j2 => ?_)
        ·
          refine z_iconst dX4_look_74 (zi32_d rfl) ?_
          rw [if_neg j1] at KJ
          rw [if_neg j2] at KJ
          exact KJ
        ·
          refine z_iconst dX4_look_70 (zi32_d rfl) ?_
          refine z_goto (tgt := 75) dX4_look_71 (by decide) ?_
          rw [if_neg j1] at KJ
          rw [if_pos j2] at KJ
          exact KJ
    refine z_zast dX4_look_75 (zOb.lit (by decide +kernel)) (show 0 ≤ i ∧ i < 60 from ⟨by omega, by omega⟩).1 (show 0 ≤ i ∧ i < 60 from ⟨by omega, by omega⟩).2 (by repeat (first | (left; rfl) | (right; rfl) | split)) ?_
    refine z_aload_n 0 dX4_look_76 rfl ?_
    refine z_getS (v := 20) (k := 13) (kz := 13) pk4 dX4_look_77 (by decide) zb_183 rfl (zOb.lit (by decide +kernel)) rfl (by decide +kernel) ?_
    refine z_iload_n 1 dX4_look_80 rfl ?_
    refine z_zaldV (v := (if (g 18 i) = 0 then 0 else if (g 17 i) = i then 1 else 0 : Int)) dX4_look_81 (zOb.lit (by decide +kernel)) (show 0 ≤ i ∧ i < 60 from ⟨by omega, by omega⟩).1 (show 0 ≤ i ∧ i < 60 from ⟨by omega, by omega⟩).2 (zst_self _ _ _ _) ?_
    refine z_if_eq (tgt := 115) dX4_look_82 (by decide) (fun c2 => ?_) (fun c2 => ?_)
    ·
      refine z_iincN (lv' := [(2, xI (i + 1)), (0, xR 3)]) 1 dX4_look_115 rfl (by decide) rfl (show -2147483648 ≤ i + 1 ∧ i + 1 < 2147483648 from ⟨by omega, by omega⟩).1 (show -2147483648 ≤ i + 1 ∧ i + 1 < 2147483648 from ⟨by omega, by omega⟩).2 ?_
      refine z_goto (tgt := 31) dX4_look_118 (by decide) ?_
      refine zW.sub (lv' := [(0, xR 3), (2, xI (i + 1))]) [1, 0] rfl ?_
      exact k2 c1 c2
    ·
      refine z_aload_n 0 dX4_look_85 rfl ?_
      refine z_getS (v := 21) (k := 14) (kz := 14) pk4 dX4_look_86 (by decide) zb_186 rfl (zOb.lit (by decide +kernel)) rfl (by decide +kernel) ?_
      refine z_aload_n 0 dX4_look_89 rfl ?_
      refine z_getS (v := 5) (k := 2) (kz := 2) pk4 dX4_look_90 (by decide) zb_159 rfl (zOb.lit (by decide +kernel)) rfl (by decide +kernel) ?_
      refine z_iload_n 1 dX4_look_93 rfl ?_
      refine z_ialdV (v := (g 5 i)) dX4_look_94 (zOb.lit (by decide +kernel)) (show 0 ≤ i ∧ i < 60 from ⟨by omega, by omega⟩).1 (show 0 ≤ i ∧ i < 60 from ⟨by omega, by omega⟩).2 ((zst_ne (Or.inl (by decide))).trans (zst_ne (Or.inl (by decide)))) ?_
      refine z_dup2 dX4_look_95 zt0 zt2 ?_
      refine z_ialdV (v := (g 21 (g 5 i))) dX4_look_96 (zOb.lit (by decide +kernel)) (show 0 ≤ (g 5 i) ∧ (g 5 i) < 60 from ⟨by omega, by omega⟩).1 (show 0 ≤ (g 5 i) ∧ (g 5 i) < 60 from ⟨by omega, by omega⟩).2 ((zst_ne (Or.inl (by decide))).trans (zst_ne (Or.inl (by decide)))) ?_
      refine z_iconst dX4_look_97 (zi32_d rfl) ?_
      refine z_iaddN dX4_look_98 (show -2147483648 ≤ (g 21 (g 5 i)) + 1 ∧ (g 21 (g 5 i)) + 1 < 2147483648 from ⟨by omega, by omega⟩).1 (show -2147483648 ≤ (g 21 (g 5 i)) + 1 ∧ (g 21 (g 5 i)) + 1 < 2147483648 from ⟨by omega, by omega⟩).2 ?_
      refine z_iast dX4_look_99 (zOb.lit (by decide +kernel)) (show 0 ≤ (g 5 i) ∧ (g 5 i) < 60 from ⟨by omega, by omega⟩).1 (show 0 ≤ (g 5 i) ∧ (g 5 i) < 60 from ⟨by omega, by omega⟩).2 ?_
      refine z_aload_n 0 dX4_look_100 rfl ?_
      refine z_getS (v := 22) (k := 15) (kz := 15) pk4 dX4_look_101 (by decide) zb_187 rfl (zOb.lit (by decide +kernel)) rfl (by decide +kernel) ?_
      refine z_aload_n 0 dX4_look_104 rfl ?_
      refine z_getS (v := 4) (k := 1) (kz := 1) pk4 dX4_look_105 (by decide) zb_157 rfl (zOb.lit (by decide +kernel)) rfl (by decide +kernel) ?_
      refine z_iload_n 1 dX4_look_108 rfl ?_
      refine z_ialdV (v := (g 4 i)) dX4_look_109 (zOb.lit (by decide +kernel)) (show 0 ≤ i ∧ i < 60 from ⟨by omega, by omega⟩).1 (show 0 ≤ i ∧ i < 60 from ⟨by omega, by omega⟩).2 ((zst_ne (Or.inl (by decide))).trans ((zst_ne (Or.inl (by decide))).trans (zst_ne (Or.inl (by decide))))) ?_
      refine z_dup2 dX4_look_110 zt0 zt2 ?_
      refine z_ialdV (v := (g 22 (g 4 i))) dX4_look_111 (zOb.lit (by decide +kernel)) (show 0 ≤ (g 4 i) ∧ (g 4 i) < 8 from ⟨by omega, by omega⟩).1 (show 0 ≤ (g 4 i) ∧ (g 4 i) < 8 from ⟨by omega, by omega⟩).2 ((zst_ne (Or.inl (by decide))).trans ((zst_ne (Or.inl (by decide))).trans (zst_ne (Or.inl (by decide))))) ?_
      refine z_iconst dX4_look_112 (zi32_d rfl) ?_
      refine z_iaddN dX4_look_113 (show -2147483648 ≤ (g 22 (g 4 i)) + 1 ∧ (g 22 (g 4 i)) + 1 < 2147483648 from ⟨by omega, by omega⟩).1 (show -2147483648 ≤ (g 22 (g 4 i)) + 1 ∧ (g 22 (g 4 i)) + 1 < 2147483648 from ⟨by omega, by omega⟩).2 ?_
      refine z_iast dX4_look_114 (zOb.lit (by decide +kernel)) (show 0 ≤ (g 4 i) ∧ (g 4 i) < 8 from ⟨by omega, by omega⟩).1 (show 0 ≤ (g 4 i) ∧ (g 4 i) < 8 from ⟨by omega, by omega⟩).2 ?_
      refine z_iincN (lv' := [(2, xI (i + 1)), (0, xR 3)]) 1 dX4_look_115 rfl (by decide) rfl (show -2147483648 ≤ i + 1 ∧ i + 1 < 2147483648 from ⟨by omega, by omega⟩).1 (show -2147483648 ≤ i + 1 ∧ i + 1 < 2147483648 from ⟨by omega, by omega⟩).2 ?_
      refine z_goto (tgt := 31) dX4_look_118 (by decide) ?_
      refine zW.sub (lv' := [(0, xR 3), (2, xI (i + 1))]) [1, 0] rfl ?_
      exact k3 c1 c2

set_option maxRecDepth 20000 in
theorem bX4_look_0 {X : zX} {dep bc bs : Nat} (t : Int) {h : zH} {Q : Nat → zH → List zV → Prop}
    (k1 : zW mX4_look X dep bc bs 239 6 [(0, xR 3), (1, xI t)] [xR 3] (zst h 3 9 t) Q) : zW mX4_look X dep bc bs 239 0 [(0, xR 3), (1, xI t)] [] h Q := by
  refine z_aload_n 0 dX4_look_0 rfl ?_
  refine z_iload_n 1 dX4_look_1 rfl ?_
  refine z_putI (k := 9) (kz := 9) pk4 dX4_look_2 (by decide) zb_175 rfl (zFit_int _) (zOb.lit (by decide +kernel)) rfl ?_
  refine z_aload_n 0 dX4_look_5 rfl ?_
  exact k1

set_option maxRecDepth 20000 in
theorem bX4_look_9 {X : zX} {dep bc bs : Nat} (t : Int) {g : zH} {Q : Nat → zH → List zV → Prop}
    (k1 : zW mX4_look X dep bc bs 239 10 [(0, xR 3), (1, xI t)] [xR 3] g Q) : zW mX4_look X dep bc bs 239 9 [(0, xR 3), (1, xI t)] [] g Q := by
  refine z_aload_n 0 dX4_look_9 rfl ?_
  exact k1

set_option maxRecDepth 20000 in
theorem bX4_look_13 {X : zX} {dep bc bs : Nat} (t : Int) {g : zH} {Q : Nat → zH → List zV → Prop} (hdep : 1 ≤ dep)
    (k1 : zW mX4_look X dep bc bs 239 31 [(0, xR 3), (2, xI 0)] [] (zfill (zfill g 21 0 60) 22 0 8) Q) : zW mX4_look X dep bc bs 239 13 [(0, xR 3), (1, xI t)] [] g Q := by
  refine z_aload_n 0 dX4_look_13 rfl ?_
  refine z_getS (v := 21) (k := 14) (kz := 14) pk4 dX4_look_14 (by decide) zb_186 rfl (zOb.lit (by decide +kernel)) rfl (by decide +kernel) ?_
  refine z_iconst dX4_look_17 (zi32_d rfl) ?_
  refine z_invSF (as := [xR 21, xI 0]) (st := []) (ra := [xI 0, xR 21]) (dep' := dep - 1) (rs := []) (h' := (zfill g 21 0 60)) (f_J7_fill_53178 (N := 60) 21 0 (h := g) (zOb.lit (by decide +kernel)) (by decide)) dX4_look_18 nJ7_fill_53178 zb_842 zb_843 zb_100 (by omega) zne_0 (Nat.le_of_ble_eq_true rfl) (Nat.le_of_ble_eq_true rfl) rfl ?_
  refine z_aload_n 0 dX4_look_21 rfl ?_
  refine z_getS (v := 22) (k := 15) (kz := 15) pk4 dX4_look_22 (by decide) zb_187 rfl (zOb.lit (by decide +kernel)) rfl (by decide +kernel) ?_
  refine z_iconst dX4_look_25 (zi32_d rfl) ?_
  refine z_invSF (as := [xR 22, xI 0]) (st := []) (ra := [xI 0, xR 22]) (dep' := dep - 1) (rs := []) (h' := (zfill (zfill g 21 0 60) 22 0 8)) (f_J7_fill_53178 (N := 8) 22 0 (h := (zfill g 21 0 60)) (zOb.lit (by decide +kernel)) (by decide)) dX4_look_26 nJ7_fill_53178 zb_842 zb_843 zb_100 (by omega) zne_0 (Nat.le_of_ble_eq_true rfl) (Nat.le_of_ble_eq_true rfl) rfl ?_
  refine z_iconst dX4_look_29 (zi32_d rfl) ?_
  refine z_istore_n (lv' := [(2, xI 0), (0, xR 3), (1, xI t)]) dX4_look_30 (by decide) rfl ?_
  refine zW.sub (lv' := [(0, xR 3), (2, xI 0)]) [1, 0] rfl ?_
  exact k1

set_option maxRecDepth 20000 in
theorem rX4_look_6 {X : zX} {dep bc bs : Nat} (t : Int) {h : zH} {Q : Nat → zH → List zV → Prop} {P : zH → Prop}
    (hZ : zW mX4_lookWho X (dep - 1) 0 0 239 0 (zar 0 [xR 3]) [] h (zQ0 P)) (hdep : 1 ≤ dep)
    (k : ∀ g : zH, P g → zW mX4_look X dep bc bs 239 9 [(0, xR 3), (1, xI t)] [] g Q) : zW mX4_look X dep bc bs 239 6 [(0, xR 3), (1, xI t)] [xR 3] h Q :=
  z_invQ0 (ci := 4) (N := 17) (as := []) (st := []) (ra := []) hZ dX4_look_6 nX4_lookWho zb_821 zb_823 zb_18 zb_84 (zOb.lit (by decide +kernel)) rfl (by omega) (Nat.le_of_ble_eq_true rfl) (Nat.le_of_ble_eq_true rfl) rfl (fun g hg => k g hg)

set_option maxRecDepth 20000 in
theorem rX4_look_10 {X : zX} {dep bc bs : Nat} (t : Int) {h : zH} {Q : Nat → zH → List zV → Prop} {P : zH → Prop}
    (hZ : zW mX4_lookBirths X (dep - 1) 0 0 239 0 (zar 0 [xR 3]) [] h (zQ0 P)) (hdep : 1 ≤ dep)
    (k : ∀ g : zH, P g → zW mX4_look X dep bc bs 239 13 [(0, xR 3), (1, xI t)] [] g Q) : zW mX4_look X dep bc bs 239 10 [(0, xR 3), (1, xI t)] [xR 3] h Q :=
  z_invQ0 (ci := 4) (N := 17) (as := []) (st := []) (ra := []) hZ dX4_look_10 nX4_lookBirths zb_838 zb_840 zb_19 zb_84 (zOb.lit (by decide +kernel)) rfl (by omega) (Nat.le_of_ble_eq_true rfl) (Nat.le_of_ble_eq_true rfl) rfl (fun g hg => k g hg)

/-- who is there and no mere name, by the first rows of what was told -/
def zthere (h : zH) (R B : Nat) (m : Int) : Prop := zbn h B m ≠ 0 ∧ zwho h R m = m
theorem zcnt_1 {P : Int → Prop} {k : Nat} (hp : P k) : zcnt P (k + 1) = zcnt P k + 1 := by
  show zcnt P k + zb (P k) = _
  rw [zb_t hp]
theorem zcnt_0 {P : Int → Prop} {k : Nat} (hp : ¬ P k) : zcnt P (k + 1) = zcnt P k := by
  show zcnt P k + zb (P k) = _
  rw [zb_f hp]
  omega
/-- what holds of the people's rows when a day has been looked at -/
def zLook (h g : zH) (R B n : Nat) : Prop :=
  (∀ m : Int, 0 ≤ m → m < h 3 0 → g 17 m = zwho h R m ∧ g 18 m = zbn h B m ∧ g 19 m = zbw h B m) ∧
  (∀ m : Int, 0 ≤ m → m < n → g 23 m = 0 ∧ g 20 m = zb (zthere h R B m)) ∧
  (∀ f : Int, 0 ≤ f → f < 60 → g 21 f = zcnt (fun m => zthere h R B m ∧ h 5 m = f) n) ∧
  (∀ p : Int, 0 ≤ p → p < 8 → g 22 p = zcnt (fun m => zthere h R B m ∧ h 4 m = p) n)
def zMenOK (h : zH) : Prop := (0 ≤ h 3 0 ∧ h 3 0 ≤ 60) ∧ ∀ m : Int, 0 ≤ m → m < h 3 0 → (0 ≤ h 5 m ∧ h 5 m < 60) ∧ (0 ≤ h 4 m ∧ h 4 m < 8) ∧ 0 ≤ h 6 m ∧ h 6 m < 26
theorem l_X4_look_31 {X : zX} {dep : Nat} {h : zH} {Q : Nat → zH → List zV → Prop} (hm : zMenOK h) (R B : Nat)
    (kx : ∀ g : zH, zag [17, 18, 19, 20, 21, 22, 23] h g → zLook h g R B (h 3 0).toNat → Q 239 g []) :
    ∀ (k j : Nat) (g : zH), (j : Int) + k = h 3 0 → zag [17, 18, 19, 20, 21, 22, 23] h g → zLook h g R B j → zW mX4_look X dep 0 0 239 31 [(0, xR 3), (2, xI j)] [] g Q := by
  have hm1 := hm.1
  intro k
  induction k with
  | zero =>
    intro j g hk ha hl
    have e3 := ha 3 0 (by decide)
    refine bX4_look_31 j (by omega) (by omega) (fun c => by exfalso; omega) (fun c => by exfalso; omega) ?_ ?_ ?_
    · intro c
      exact kx g ha (by rw [show (h 3 0).toNat = j by omega]; exact hl)
    · intro c; exfalso; omega
    · intro c; exfalso; omega
  | succ k ih =>
    intro j g hk ha hl
    obtain ⟨l1, l2, l3, l4⟩ := hl
    have e3 := ha 3 0 (by decide)
    have e4 := ha 4 j (by decide)
    have e5 := ha 5 j (by decide)
    have hj := hm.2 j (by omega) (by omega)
    have w := l1 j (by omega) (by omega)
    have z1 := zcnt_in (fun m => zthere h R B m ∧ h 5 m = h 5 j) j
    have z2 := zcnt_in (fun m => zthere h R B m ∧ h 4 m = h 4 j) j
    have q1 := l3 (h 5 j) (by omega) (by omega)
    have q2 := l4 (h 4 j) (by omega) (by omega)
    have e9 : (if (g 18 j) = 0 then 0 else if (g 17 j) = j then 1 else 0 : Int) = zb (zthere h R B j) := by
      rw [w.1, w.2.1]
      unfold zb zthere
      (repeat' split) <;> first | rfl | omega
    refine bX4_look_31 j (by omega) (by omega) (fun c => by omega) (fun c => by rw [e5, e4, q1, q2]; omega) ?_ ?_ ?_
    · intro c; exfalso; omega
    · intro c c2
      rw [e9] at c2 ⊢
      have hn : ¬ zthere h R B j := fun z => by rw [zb_t z] at c2; omega
      have := ih (j + 1) _ (by omega) ((ha.st (o := 23) (by decide) j 0).st (o := 20) (by decide) j (zb (zthere h R B j))) ⟨fun m p1 p2 => by
          rw [zst_ne (Or.inl (by decide)), zst_ne (Or.inl (by decide)), zst_ne (Or.inl (by decide)), zst_ne (Or.inl (by decide)), zst_ne (Or.inl (by decide)), zst_ne (Or.inl (by decide))]
          exact l1 m p1 p2, fun m p1 p2 => by
          rw [zst_ne (Or.inl (by decide)), zst_or, zst_or, zst_ne (Or.inl (by decide))]
          by_cases e : m = j
          · rw [if_pos e, if_pos e, e]
            exact ⟨rfl, rfl⟩
          · rw [if_neg e, if_neg e]
            exact l2 m p1 (by omega), fun f p1 p2 => by
          rw [zst_ne (Or.inl (by decide)), zst_ne (Or.inl (by decide)), zcnt_0 (fun z => hn z.1)]
          exact l3 f p1 p2, fun f p1 p2 => by
          rw [zst_ne (Or.inl (by decide)), zst_ne (Or.inl (by decide)), zcnt_0 (fun z => hn z.1)]
          exact l4 f p1 p2⟩
      rw [show ((j + 1 : Nat) : Int) = (j : Int) + 1 by omega] at this
      exact this
    · intro c c2
      rw [e9] at c2 ⊢
      have hy : zthere h R B j := Classical.byContradiction fun z => c2 (zb_f z)
      rw [e5, e4]
      have := ih (j + 1) _ (by omega) ((((ha.st (o := 23) (by decide) j 0).st (o := 20) (by decide) j (zb (zthere h R B j))).st (o := 21) (by decide) (h 5 j) (g 21 (h 5 j) + 1)).st (o := 22) (by decide) (h 4 j) (g 22 (h 4 j) + 1)) ⟨fun m p1 p2 => by
          simp only [zst_ne (Or.inl (show (17 : Int) ≠ 20 by decide)), zst_ne (Or.inl (show (17 : Int) ≠ 21 by decide)), zst_ne (Or.inl (show (17 : Int) ≠ 22 by decide)), zst_ne (Or.inl (show (17 : Int) ≠ 23 by decide)), zst_ne (Or.inl (show (18 : Int) ≠ 20 by decide)), zst_ne (Or.inl (show (18 : Int) ≠ 21 by decide)), zst_ne (Or.inl (show (18 : Int) ≠ 22 by decide)), zst_ne (Or.inl (show (18 : Int) ≠ 23 by decide)), zst_ne (Or.inl (show (19 : Int) ≠ 20 by decide)), zst_ne (Or.inl (show (19 : Int) ≠ 21 by decide)), zst_ne (Or.inl (show (19 : Int) ≠ 22 by decide)), zst_ne (Or.inl (show (19 : Int) ≠ 23 by decide))]
          exact l1 m p1 p2, fun m p1 p2 => by
          simp only [zst_ne (Or.inl (show (23 : Int) ≠ 20 by decide)), zst_ne (Or.inl (show (23 : Int) ≠ 21 by decide)), zst_ne (Or.inl (show (23 : Int) ≠ 22 by decide)), zst_ne (Or.inl (show (20 : Int) ≠ 21 by decide)), zst_ne (Or.inl (show (20 : Int) ≠ 22 by decide)), zst_ne (Or.inl (show (20 : Int) ≠ 23 by decide)), zst_or]
          by_cases e : m = j
          · rw [if_pos e, if_pos e, e]
            exact ⟨rfl, rfl⟩
          · rw [if_neg e, if_neg e]
            exact l2 m p1 (by omega), fun f p1 p2 => by
          simp only [zst_ne (Or.inl (show (21 : Int) ≠ 22 by decide)), zst_or, zst_ne (Or.inl (show (21 : Int) ≠ 20 by decide)), zst_ne (Or.inl (show (21 : Int) ≠ 23 by decide))]
          by_cases e : f = h 5 j
          · subst e
            rw [if_pos rfl, zcnt_1 (P := fun m => zthere h R B m ∧ h 5 m = h 5 j) ⟨hy, rfl⟩, q1]
          · rw [if_neg e, zcnt_0 (fun z => e z.2.symm)]
            exact l3 f p1 p2, fun f p1 p2 => by
          simp only [zst_or, zst_ne (Or.inl (show (22 : Int) ≠ 21 by decide)), zst_ne (Or.inl (show (22 : Int) ≠ 20 by decide)), zst_ne (Or.inl (show (22 : Int) ≠ 23 by decide))]
          by_cases e : f = h 4 j
          · subst e
            rw [if_pos rfl, zcnt_1 (P := fun m => zthere h R B m ∧ h 4 m = h 4 j) ⟨hy, rfl⟩, q2]
          · rw [if_neg e, zcnt_0 (fun z => e z.2.symm)]
            exact l4 f p1 p2⟩
      rw [show ((j + 1 : Nat) : Int) = (j : Int) + 1 by omega] at this
      exact this
theorem zwho_ag {S : List Int} {h g : zH} (a : zag S h g) (h1 : (13 : Int) ∉ S) (h2 : (14 : Int) ∉ S) : ∀ (r : Nat) (m : Int), zwho g r m = zwho h r m
  | 0, m => rfl
  | r + 1, m => by
    have e : ∀ (q c : Int), zget g 13 q c = zget h 13 q c := fun q c => zget_ag a h1 h2
    unfold zwho
    simp only [e, zwho_ag a h1 h2 r]
theorem zbn_ag {S : List Int} {h g : zH} (a : zag S h g) (h1 : (7 : Int) ∉ S) (h2 : (8 : Int) ∉ S) : ∀ (r : Nat) (m : Int), zbn g r m = zbn h r m ∧ zbw g r m = zbw h r m
  | 0, m => ⟨rfl, rfl⟩
  | r + 1, m => by
    have e : ∀ (q c : Int), zget g 7 q c = zget h 7 q c := fun q c => zget_ag a h1 h2
    have ih := zbn_ag a h1 h2 r m
    unfold zbn zbw
    rw [e, e, ih.1, ih.2]
    exact ⟨rfl, rfl⟩
/-- a day is looked at: h is the heap with the day written -/
theorem f_X4_look {X : zX} {dep : Nat} (t : Int) {h : zH} (hm : zMenOK h) (hs : zSameOK h) (hb : zBirthOK h) (hdep : 3 ≤ dep) : zW mX4_look X dep 0 0 239 0 (zar 0 [xR 3, xI t]) [] h
    (zQ0 (fun g => zag [17, 18, 19, 20, 21, 22, 23] (zst h 3 9 t) g ∧ zLook h g (zknown h 13 t).toNat (zknown h 7 t).toNat (h 3 0).toNat)) := by
  have hm1 := hm.1
  have a0 : zag [3] h (zst h 3 9 t) := (zag.rf _ h).st (by decide) 9 t
  have e30 : zst h 3 9 t 3 0 = h 3 0 := zst_ne (Or.inr (by decide))
  have e39 : zst h 3 9 t 3 9 = t := zst_self _ _ _ _
  have k13 := zknown_ag (t := t) a0 (o := 13) (by decide) (by decide)
  have k7 := zknown_ag (t := t) a0 (o := 7) (by decide) (by decide)
  have hs1 : zSameOK (zst h 3 9 t) := by
    unfold zSameOK
    rw [e30, a0 13 2 (by decide)]
    simp only [zget_ag a0 (o := 13) (by decide) (by decide)]
    exact hs
  have hb1 : zBirthOK (zst h 3 9 t) := by
    unfold zBirthOK
    rw [e30, a0 7 2 (by decide)]
    simp only [zget_ag a0 (o := 7) (by decide) (by decide)]
    exact hb
  refine bX4_look_0 t ?_
  refine rX4_look_6 t (f_X4_lookWho (h := zst h 3 9 t) (by omega) hs1 (by omega)) (by omega) (fun g1 hg1 => ?_)
  obtain ⟨b1, b2⟩ := hg1
  rw [e30, e39, k13] at b2
  have f30 : g1 3 0 = h 3 0 := (b1 3 0 (by decide)).trans e30
  have hb2 : zBirthOK g1 := by
    unfold zBirthOK
    rw [b1 7 2 (by decide), f30]
    simp only [zget_ag b1 (o := 7) (by decide) (by decide)]
    have := hb1
    unfold zBirthOK at this
    rw [e30] at this
    exact this
  refine bX4_look_9 t ?_
  refine rX4_look_10 t (f_X4_lookBirths (h := g1) (by omega) hb2 (by omega)) (by omega) (fun g2 hg2 => ?_)
  obtain ⟨c1, c2⟩ := hg2
  have f39 : g1 3 9 = t := (b1 3 9 (by decide)).trans e39
  rw [f30, f39, zknown_ag b1 (o := 7) (by decide) (by decide), k7] at c2
  have a2 : zag [17, 18, 19, 20, 21, 22, 23] (zst h 3 9 t) g2 := (b1.mono (by decide)).tr (c1.mono (by decide))
  have m3 : zMenOK (zst h 3 9 t) := by
    unfold zMenOK
    rw [e30]
    simp only [a0 5 _ (by decide : (5 : Int) ∉ [(3 : Int)]), a0 4 _ (by decide : (4 : Int) ∉ [(3 : Int)]), a0 6 _ (by decide : (6 : Int) ∉ [(3 : Int)])]
    exact hm
  refine bX4_look_13 t (by omega) ?_
  have wt : ∀ R B n g, zLook (zst h 3 9 t) g R B n ↔ zLook h g R B n := by
    intro R B n g
    unfold zLook zthere
    rw [e30]
    simp only [zwho_ag a0 (by decide) (by decide), (zbn_ag a0 (by decide) (by decide) _ _).1, (zbn_ag a0 (by decide) (by decide) _ _).2, a0 5 _ (by decide : (5 : Int) ∉ [(3 : Int)]), a0 4 _ (by decide : (4 : Int) ∉ [(3 : Int)])]
  refine l_X4_look_31 (h := zst h 3 9 t) m3 (zknown h 13 t).toNat (zknown h 7 t).toNat (fun g ha hl => ⟨rfl, rfl, ha, by rw [e30] at hl; exact (wt _ _ _ _).mp hl⟩) (h 3 0).toNat 0 _ (by rw [e30]; omega) (zfill_ag (zfill_ag a2 (by decide) _ _) (by decide) _ _) ?_
  · rw [wt]
    refine ⟨fun m p1 p2 => ?_, fun m p1 p2 => by omega, fun f p1 p2 => ?_, fun f p1 p2 => ?_⟩
    · have z := zfill_ag (S := [21, 22]) (zfill_ag (S := [21, 22]) (zag.rf _ g2) (a := 21) (by decide) 0 60) (a := 22) (by decide) 0 8
      rw [z 17 m (by decide), z 18 m (by decide), z 19 m (by decide), c1 17 m (by decide), b2 m p1 p2, (c2 m p1 p2).1, (c2 m p1 p2).2]
      have y := zbn_ag (h := h) (g := g1) (S := [3, 17]) ((a0.mono (by decide)).tr (b1.mono (by decide))) (by decide) (by decide) (zknown h 7 t).toNat m
      exact ⟨zwho_ag a0 (by decide) (by decide) _ _, y.1, y.2⟩
    · have z := zfill_ag (S := [22]) (zag.rf _ (zfill g2 21 0 60)) (a := 22) (by decide) 0 8
      rw [z 21 f (by decide), zfill_in _ p1 p2]
      rfl
    · rw [zfill_in _ p1 p2]
      rfl
