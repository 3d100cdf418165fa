/-! the people -/
theorem zdiv_eq {a b : Int} (h0 : 0 ≤ a) (h1 : a < 2147483648) (h2 : 0 < b) (h3 : b < 2147483648) : zdiv a b = a / b := by
  unfold zdiv
  rw [Int32.toInt_div_of_ne_right _ _ (fun e => by
    have := congrArg Int32.toInt e
    rw [Int32.toInt_ofInt_of_le (by omega) h3] at this
    rw [show Int32.toInt (-1) = -1 from rfl] at this
    omega), Int32.toInt_ofInt_of_le (by omega) h1, Int32.toInt_ofInt_of_le (by omega) h3, Int.tdiv_eq_ediv_of_nonneg h0]
theorem zdiv7 {a : Int} (h0 : 0 ≤ a) (h1 : a ≤ 3639) : 0 ≤ zdiv a 7 ∧ zdiv a 7 ≤ 519 := by
  rw [zdiv_eq h0 (by omega) (by omega) (by omega)]
  omega
/-- the age of who was born in a week, on a day -/
def zage (w day : Int) : Int := if zdiv day 7 - w < 0 then 0 else zdiv (zdiv day 7 - w) 52
theorem zage_in {w day : Int} (h0 : 0 ≤ day) (h1 : day ≤ 3639) (h2 : -3120 ≤ w) (h3 : w < 520) : 0 ≤ zage w day ∧ zage w day ≤ 100 := by
  have h7 := zdiv7 h0 h1
  unfold zage
  split
  · omega
  · rw [zdiv_eq (by omega) (by omega) (by omega) (by omega)]
    omega
/-- how many of the first n hold -/
noncomputable def zcnt (P : Int → Prop) : Nat → Int
  | 0 => 0
  | k + 1 => zcnt P k + zb (P k)
theorem zcnt_in (P : Int → Prop) : ∀ n : Nat, 0 ≤ zcnt P n ∧ zcnt P n ≤ n
  | 0 => ⟨Int.le_refl _, Int.le_refl _⟩
  | k + 1 => by
    have ih := zcnt_in P k
    have := zb01 (P k)
    unfold zcnt
    omega
theorem zcnt_congr {P R : Int → Prop} : ∀ {n : Nat}, (∀ k : Int, 0 ≤ k → k < n → (P k ↔ R k)) → zcnt P n = zcnt R n
  | 0, _ => rfl
  | k + 1, hh => by
    unfold zcnt
    rw [zcnt_congr (n := k) (fun j q1 q2 => hh j q1 (by omega)), zb_iff (hh k (by omega) (by omega))]

set_option maxRecDepth 20000 in
theorem bX4_ageOn_0 {X : zX} {dep bc bs : Nat} (m : Int) (day : Int) {h : zH} {Q : Nat → zH → List zV → Prop} (hm : 0 ≤ m ∧ m < 60) (hd : 0 ≤ day ∧ day ≤ 3639) (hw : -3120 ≤ h 19 m ∧ h 19 m < 520) (h7 : 0 ≤ zdiv day 7 ∧ zdiv day 7 ≤ 519)
    (k1 : 0 ≤ ((zdiv day 7) - (h 19 m)) → Q 239 h [xI (zdiv ((zdiv day 7) - (h 19 m)) 52)])
    (k2 : ¬ (0 ≤ ((zdiv day 7) - (h 19 m))) → Q 239 h [xI 0]) : zW mX4_ageOn X dep bc bs 239 0 [(0, xR 3), (1, xI m), (2, xI day)] [] h Q := by
  refine z_iload_n 2 dX4_ageOn_0 rfl ?_
  refine z_bipush dX4_ageOn_1 (zi32_d rfl) (by decide) ?_
  refine z_idiv dX4_ageOn_3 (by decide) ?_
  refine z_aload_n 0 dX4_ageOn_4 rfl ?_
  refine z_getS (v := 19) (k := 12) (kz := 12) pk4 dX4_ageOn_5 (by decide) zb_181 rfl (zOb.lit (by decide +kernel)) rfl (by decide +kernel) ?_
  refine z_iload_n 1 dX4_ageOn_8 rfl ?_
  refine z_iald dX4_ageOn_9 (zOb.lit (by decide +kernel)) hm.1 hm.2 ?_
  refine z_isubN dX4_ageOn_10 (show -2147483648 ≤ (zdiv day 7) - (h 19 m) ∧ (zdiv day 7) - (h 19 m) < 2147483648 from ⟨by omega, by omega⟩).1 (show -2147483648 ≤ (zdiv day 7) - (h 19 m) ∧ (zdiv day 7) - (h 19 m) < 2147483648 from ⟨by omega, by omega⟩).2 ?_
  refine z_istore_n (lv' := [(3, xI ((zdiv day 7) - (h 19 m))), (0, xR 3), (1, xI m), (2, xI day)]) dX4_ageOn_11 (by decide) rfl ?_
  refine z_iload_n 0 dX4_ageOn_12 rfl ?_
  refine z_if_ge (tgt := 20) dX4_ageOn_13 (by decide) (fun c1 => ?_) (fun c1 => ?_)
  ·
    refine z_iload_n 0 dX4_ageOn_20 rfl ?_
    refine z_bipush dX4_ageOn_21 (zi32_d rfl) (by decide) ?_
    refine z_idiv dX4_ageOn_23 (by decide) ?_
    exact z_iret dX4_ageOn_24 rfl (k1 c1)
  ·
    refine z_iconst dX4_ageOn_16 (zi32_d rfl) ?_
    refine z_goto (tgt := 24) dX4_ageOn_17 (by decide) ?_
    exact z_iret dX4_ageOn_24 rfl (k2 c1)

theorem f_X4_ageOn {X : zX} {dep : Nat} (m : Int) (day : Int) {h : zH} (hm : 0 ≤ m ∧ m < 60) (hd : 0 ≤ day ∧ day ≤ 3639) (hw : -3120 ≤ h 19 m ∧ h 19 m < 520) : zW mX4_ageOn X dep 0 0 239 0 (zar 0 [xR 3, xI m, xI day]) [] h (zF h [xI (zage (h 19 m) day)]) := by
  refine bX4_ageOn_0 m day hm hd hw (zdiv7 hd.1 hd.2) ?_ ?_
  · intro c
    refine ⟨rfl, rfl, ?_⟩
    congr 2
    unfold zage
    rw [if_neg (by omega)]
  · intro c
    refine ⟨rfl, rfl, ?_⟩
    congr 2
    unfold zage
    rw [if_pos (by omega)]

set_option maxRecDepth 20000 in
theorem bX4_brothersOf_0 {X : zX} {dep bc bs : Nat} (m : Int) {h : zH} {Q : Nat → zH → List zV → Prop} (hm : 0 ≤ m ∧ m < 60) (hf : 0 ≤ h 5 m ∧ h 5 m < 60) (hs : 0 ≤ h 21 (h 5 m) ∧ h 21 (h 5 m) ≤ 60)
    (k1 : Q 239 h [xI ((h 21 (h 5 m)) - 1)]) : zW mX4_brothersOf X dep bc bs 239 0 [(0, xR 3), (1, xI m)] [] h Q := by
  refine z_aload_n 0 dX4_brothersOf_0 rfl ?_
  refine z_getS (v := 21) (k := 14) (kz := 14) pk4 dX4_brothersOf_1 (by decide) zb_186 rfl (zOb.lit (by decide +kernel)) rfl (by decide +kernel) ?_
  refine z_aload_n 0 dX4_brothersOf_4 rfl ?_
  refine z_getS (v := 5) (k := 2) (kz := 2) pk4 dX4_brothersOf_5 (by decide) zb_159 rfl (zOb.lit (by decide +kernel)) rfl (by decide +kernel) ?_
  refine z_iload_n 1 dX4_brothersOf_8 rfl ?_
  refine z_iald dX4_brothersOf_9 (zOb.lit (by decide +kernel)) hm.1 hm.2 ?_
  refine z_iald dX4_brothersOf_10 (zOb.lit (by decide +kernel)) (show 0 ≤ (h 5 m) ∧ (h 5 m) < 60 from ⟨by omega, by omega⟩).1 (show 0 ≤ (h 5 m) ∧ (h 5 m) < 60 from ⟨by omega, by omega⟩).2 ?_
  refine z_iconst dX4_brothersOf_11 (zi32_d rfl) ?_
  refine z_isubN dX4_brothersOf_12 (show -2147483648 ≤ (h 21 (h 5 m)) - 1 ∧ (h 21 (h 5 m)) - 1 < 2147483648 from ⟨by omega, by omega⟩).1 (show -2147483648 ≤ (h 21 (h 5 m)) - 1 ∧ (h 21 (h 5 m)) - 1 < 2147483648 from ⟨by omega, by omega⟩).2 ?_
  exact z_iret dX4_brothersOf_13 rfl (k1)
theorem f_X4_brothersOf {X : zX} {dep : Nat} (m : Int) {h : zH} (hm : 0 ≤ m ∧ m < 60) (hf : 0 ≤ h 5 m ∧ h 5 m < 60) (hs : 0 ≤ h 21 (h 5 m) ∧ h 21 (h 5 m) ≤ 60) : zW mX4_brothersOf X dep 0 0 239 0 (zar 0 [xR 3, xI m]) [] h (zF h [xI (h 21 (h 5 m) - 1)]) := by
  refine bX4_brothersOf_0 m hm hf hs ?_
  all_goals intros
  all_goals refine ⟨rfl, rfl, ?_⟩
  all_goals try rfl
  all_goals congr 2
  all_goals (try unfold zb); (repeat' split) <;> first | rfl | omega

set_option maxRecDepth 20000 in
theorem bX4_addMan_0 {X : zX} {dep bc bs : Nat} (p : Int) (f : Int) (l : Int) {h : zH} {Q : Nat → zH → List zV → Prop} (hm : 0 ≤ h 3 0 ∧ h 3 0 < 60)
    (k1 : (h 3 0) < 60 → Q 239 (zst (zst (zst (zst h 4 (h 3 0) p) 5 (h 3 0) f) 6 (h 3 0) l) 3 0 ((h 3 0) + 1)) [xI (h 3 0)])
    (k2 : ¬ ((h 3 0) < 60) → Q 239 h [xI (-1)]) : zW mX4_addMan X dep bc bs 239 0 [(0, xR 3), (1, xI p), (2, xI f), (3, xI l)] [] h Q := by
  refine z_aload_n 0 dX4_addMan_0 rfl ?_
  refine z_getI (k := 0) (kz := 0) pk4 dX4_addMan_1 (by decide) zb_154 rfl (zOb.lit (by decide +kernel)) rfl ?_
  refine z_bipush dX4_addMan_4 (zi32_d rfl) (by decide) ?_
  refine z_icmp_lt (tgt := 11) dX4_addMan_6 (by decide) (fun c1 => ?_) (fun c1 => ?_)
  ·
    refine z_aload_n 0 dX4_addMan_11 rfl ?_
    refine z_getS (v := 4) (k := 1) (kz := 1) pk4 dX4_addMan_12 (by decide) zb_157 rfl (zOb.lit (by decide +kernel)) rfl (by decide +kernel) ?_
    refine z_aload_n 0 dX4_addMan_15 rfl ?_
    refine z_getI (k := 0) (kz := 0) pk4 dX4_addMan_16 (by decide) zb_154 rfl (zOb.lit (by decide +kernel)) rfl ?_
    refine z_iload_n 1 dX4_addMan_19 rfl ?_
    refine z_iast dX4_addMan_20 (zOb.lit (by decide +kernel)) (show 0 ≤ (h 3 0) ∧ (h 3 0) < 60 from ⟨by omega, by omega⟩).1 (show 0 ≤ (h 3 0) ∧ (h 3 0) < 60 from ⟨by omega, by omega⟩).2 ?_
    refine z_aload_n 0 dX4_addMan_21 rfl ?_
    refine z_getS (v := 5) (k := 2) (kz := 2) pk4 dX4_addMan_22 (by decide) zb_159 rfl (zOb.lit (by decide +kernel)) rfl (by decide +kernel) ?_
    refine z_aload_n 0 dX4_addMan_25 rfl ?_
    refine z_getIV (v := (h 3 0)) (k := 0) (kz := 0) pk4 dX4_addMan_26 (by decide) zb_154 rfl (zOb.lit (by decide +kernel)) rfl (zst_ne (Or.inl (by decide))) ?_
    refine z_iload_n 2 dX4_addMan_29 rfl ?_
    refine z_iast dX4_addMan_30 (zOb.lit (by decide +kernel)) (show 0 ≤ (h 3 0) ∧ (h 3 0) < 60 from ⟨by omega, by omega⟩).1 (show 0 ≤ (h 3 0) ∧ (h 3 0) < 60 from ⟨by omega, by omega⟩).2 ?_
    refine z_aload_n 0 dX4_addMan_31 rfl ?_
    refine z_getS (v := 6) (k := 3) (kz := 3) pk4 dX4_addMan_32 (by decide) zb_160 rfl (zOb.lit (by decide +kernel)) rfl (by decide +kernel) ?_
    refine z_aload_n 0 dX4_addMan_35 rfl ?_
    refine z_getIV (v := (h 3 0)) (k := 0) (kz := 0) pk4 dX4_addMan_36 (by decide) zb_154 rfl (zOb.lit (by decide +kernel)) rfl ((zst_ne (Or.inl (by decide))).trans (zst_ne (Or.inl (by decide)))) ?_
    refine z_iload_n 3 dX4_addMan_39 rfl ?_
    refine z_iast dX4_addMan_40 (zOb.lit (by decide +kernel)) (show 0 ≤ (h 3 0) ∧ (h 3 0) < 60 from ⟨by omega, by omega⟩).1 (show 0 ≤ (h 3 0) ∧ (h 3 0) < 60 from ⟨by omega, by omega⟩).2 ?_
    refine z_aload_n 0 dX4_addMan_41 rfl ?_
    refine z_dup dX4_addMan_42 (by decide) ?_
    refine z_getIV (v := (h 3 0)) (k := 0) (kz := 0) pk4 dX4_addMan_43 (by decide) zb_154 rfl (zOb.lit (by decide +kernel)) rfl ((zst_ne (Or.inl (by decide))).trans ((zst_ne (Or.inl (by decide))).trans (zst_ne (Or.inl (by decide))))) ?_
    refine z_iconst dX4_addMan_46 (zi32_d rfl) ?_
    refine z_iaddN dX4_addMan_47 (show -2147483648 ≤ (h 3 0) + 1 ∧ (h 3 0) + 1 < 2147483648 from ⟨by omega, by omega⟩).1 (show -2147483648 ≤ (h 3 0) + 1 ∧ (h 3 0) + 1 < 2147483648 from ⟨by omega, by omega⟩).2 ?_
    refine z_putI (k := 0) (kz := 0) pk4 dX4_addMan_48 (by decide) zb_154 rfl (zFit_int _) (zOb.lit (by decide +kernel)) rfl ?_
    refine z_aload_n 0 dX4_addMan_51 rfl ?_
    refine z_getIV (v := ((h 3 0) + 1)) (k := 0) (kz := 0) pk4 dX4_addMan_52 (by decide) zb_154 rfl (zOb.lit (by decide +kernel)) rfl (zst_self _ _ _ _) ?_
    refine z_iconst dX4_addMan_55 (zi32_d rfl) ?_
    refine z_isubV (v := (h 3 0)) dX4_addMan_56 (by omega) (show -2147483648 ≤ (h 3 0) ∧ (h 3 0) < 2147483648 from ⟨by omega, by omega⟩).1 (show -2147483648 ≤ (h 3 0) ∧ (h 3 0) < 2147483648 from ⟨by omega, by omega⟩).2 ?_
    exact z_iret dX4_addMan_57 rfl (k1 c1)
  ·
    refine z_iconst dX4_addMan_9 (zi32_d rfl) ?_
    exact z_iret dX4_addMan_10 rfl (k2 c1)
theorem f_X4_addMan {X : zX} {dep : Nat} (p : Int) (f : Int) (l : Int) {h : zH} (hm : 0 ≤ h 3 0 ∧ h 3 0 < 60) : zW mX4_addMan X dep 0 0 239 0 (zar 0 [xR 3, xI p, xI f, xI l]) [] h (zF (zst (zst (zst (zst h 4 (h 3 0) p) 5 (h 3 0) f) 6 (h 3 0) l) 3 0 ((h 3 0) + 1)) [xI (h 3 0)]) := by
  refine bX4_addMan_0 p f l hm ?_ ?_
  all_goals intros
  all_goals first | (exfalso; omega) | skip
  all_goals refine ⟨rfl, rfl, ?_⟩
  all_goals congr 2

set_option maxRecDepth 20000 in
theorem bX4_servingBrothersOf_4 {X : zX} {dep bc bs : Nat} (m : Int) (n : Int) (i : Int) {h : zH} {Q : Nat → zH → List zV → Prop} (hm : 0 ≤ h 3 0 ∧ h 3 0 ≤ 60) (hq : 0 ≤ m ∧ m < 60) (hi : 0 ≤ i) (hn : 0 ≤ n ∧ n ≤ i)
    (k1 : (h 3 0) ≤ i → Q 239 h [xI n])
    (k2 : ¬ ((h 3 0) ≤ i) → i = m → zW mX4_servingBrothersOf X dep bc bs 239 4 [(0, xR 3), (1, xI m), (2, xI (n + 0)), (3, xI (i + 1))] [] h Q)
    (k3 : ¬ ((h 3 0) ≤ i) → ¬ (i = m) → (h 20 i) = 0 → zW mX4_servingBrothersOf X dep bc bs 239 4 [(0, xR 3), (1, xI m), (2, xI (n + 0)), (3, xI (i + 1))] [] h Q)
    (k4 : ¬ ((h 3 0) ≤ i) → ¬ (i = m) → ¬ ((h 20 i) = 0) → (h 23 i) = 0 → zW mX4_servingBrothersOf X dep bc bs 239 4 [(0, xR 3), (1, xI m), (2, xI (n + 0)), (3, xI (i + 1))] [] h Q)
    (k5 : ¬ ((h 3 0) ≤ i) → ¬ (i = m) → ¬ ((h 20 i) = 0) → ¬ ((h 23 i) = 0) → zW mX4_servingBrothersOf X dep bc bs 239 4 [(0, xR 3), (1, xI m), (2, xI (n + (if (h 5 i) = (h 5 m) then 1 else 0))), (3, xI (i + 1))] [] h Q) : zW mX4_servingBrothersOf X dep bc bs 239 4 [(0, xR 3), (1, xI m), (2, xI n), (3, xI i)] [] h Q := by
  refine z_iload_n 3 dX4_servingBrothersOf_4 rfl ?_
  refine z_aload_n 0 dX4_servingBrothersOf_5 rfl ?_
  refine z_getI (k := 0) (kz := 0) pk4 dX4_servingBrothersOf_6 (by decide) zb_154 rfl (zOb.lit (by decide +kernel)) rfl ?_
  refine z_icmp_ge (tgt := 64) dX4_servingBrothersOf_9 (by decide) (fun c1 => ?_) (fun c1 => ?_)
  ·
    refine z_iload_n 2 dX4_servingBrothersOf_64 rfl ?_
    exact z_iret dX4_servingBrothersOf_65 rfl (k1 c1)
  ·
    refine z_iload_n 2 dX4_servingBrothersOf_12 rfl ?_
    refine z_iload_n 3 dX4_servingBrothersOf_13 rfl ?_
    refine z_iload_n 1 dX4_servingBrothersOf_14 rfl ?_
    refine z_icmp_eq (tgt := 55) dX4_servingBrothersOf_15 (by decide) (fun c2 => ?_) (fun c2 => ?_)
    ·
      refine z_iconst dX4_servingBrothersOf_55 (zi32_d rfl) ?_
      refine z_iaddN dX4_servingBrothersOf_56 (show -2147483648 ≤ n + 0 ∧ n + 0 < 2147483648 from ⟨by omega, by omega⟩).1 (show -2147483648 ≤ n + 0 ∧ n + 0 < 2147483648 from ⟨by omega, by omega⟩).2 ?_
      refine z_istore_n (lv' := [(2, xI (n + 0)), (0, xR 3), (1, xI m), (3, xI i)]) dX4_servingBrothersOf_57 (by decide) rfl ?_
      refine z_iincN (lv' := [(3, xI (i + 1)), (2, xI (n + 0)), (0, xR 3), (1, xI m)]) 3 dX4_servingBrothersOf_58 rfl (by decide) rfl (show -2147483648 ≤ i + 1 ∧ i + 1 < 2147483648 from ⟨by omega, by omega⟩).1 (show -2147483648 ≤ i + 1 ∧ i + 1 < 2147483648 from ⟨by omega, by omega⟩).2 ?_
      refine z_goto (tgt := 4) dX4_servingBrothersOf_61 (by decide) ?_
      refine zW.sub (lv' := [(0, xR 3), (1, xI m), (2, xI (n + 0)), (3, xI (i + 1))]) [2, 3, 1, 0] rfl ?_
      exact k2 c1 c2
    ·
      refine z_aload_n 0 dX4_servingBrothersOf_18 rfl ?_
      refine z_getS (v := 20) (k := 13) (kz := 13) pk4 dX4_servingBrothersOf_19 (by decide) zb_183 rfl (zOb.lit (by decide +kernel)) rfl (by decide +kernel) ?_
      refine z_iload_n 3 dX4_servingBrothersOf_22 rfl ?_
      refine z_zald dX4_servingBrothersOf_23 (zOb.lit (by decide +kernel)) (show 0 ≤ i ∧ i < 60 from ⟨by omega, by omega⟩).1 (show 0 ≤ i ∧ i < 60 from ⟨by omega, by omega⟩).2 ?_
      refine z_if_eq (tgt := 55) dX4_servingBrothersOf_24 (by decide) (fun c3 => ?_) (fun c3 => ?_)
      ·
        refine z_iconst dX4_servingBrothersOf_55 (zi32_d rfl) ?_
        refine z_iaddN dX4_servingBrothersOf_56 (show -2147483648 ≤ n + 0 ∧ n + 0 < 2147483648 from ⟨by omega, by omega⟩).1 (show -2147483648 ≤ n + 0 ∧ n + 0 < 2147483648 from ⟨by omega, by omega⟩).2 ?_
        refine z_istore_n (lv' := [(2, xI (n + 0)), (0, xR 3), (1, xI m), (3, xI i)]) dX4_servingBrothersOf_57 (by decide) rfl ?_
        refine z_iincN (lv' := [(3, xI (i + 1)), (2, xI (n + 0)), (0, xR 3), (1, xI m)]) 3 dX4_servingBrothersOf_58 rfl (by decide) rfl (show -2147483648 ≤ i + 1 ∧ i + 1 < 2147483648 from ⟨by omega, by omega⟩).1 (show -2147483648 ≤ i + 1 ∧ i + 1 < 2147483648 from ⟨by omega, by omega⟩).2 ?_
        refine z_goto (tgt := 4) dX4_servingBrothersOf_61 (by decide) ?_
        refine zW.sub (lv' := [(0, xR 3), (1, xI m), (2, xI (n + 0)), (3, xI (i + 1))]) [2, 3, 1, 0] rfl ?_
        exact k3 c1 c2 c3
      ·
        refine z_aload_n 0 dX4_servingBrothersOf_27 rfl ?_
        refine z_getS (v := 23) (k := 16) (kz := 16) pk4 dX4_servingBrothersOf_28 (by decide) zb_189 rfl (zOb.lit (by decide +kernel)) rfl (by decide +kernel) ?_
        refine z_iload_n 3 dX4_servingBrothersOf_31 rfl ?_
        refine z_zald dX4_servingBrothersOf_32 (zOb.lit (by decide +kernel)) (show 0 ≤ i ∧ i < 60 from ⟨by omega, by omega⟩).1 (show 0 ≤ i ∧ i < 60 from ⟨by omega, by omega⟩).2 ?_
        refine z_if_eq (tgt := 55) dX4_servingBrothersOf_33 (by decide) (fun c4 => ?_) (fun c4 => ?_)
        ·
          refine z_iconst dX4_servingBrothersOf_55 (zi32_d rfl) ?_
          refine z_iaddN dX4_servingBrothersOf_56 (show -2147483648 ≤ n + 0 ∧ n + 0 < 2147483648 from ⟨by omega, by omega⟩).1 (show -2147483648 ≤ n + 0 ∧ n + 0 < 2147483648 from ⟨by omega, by omega⟩).2 ?_
          refine z_istore_n (lv' := [(2, xI (n + 0)), (0, xR 3), (1, xI m), (3, xI i)]) dX4_servingBrothersOf_57 (by decide) rfl ?_
          refine z_iincN (lv' := [(3, xI (i + 1)), (2, xI (n + 0)), (0, xR 3), (1, xI m)]) 3 dX4_servingBrothersOf_58 rfl (by decide) rfl (show -2147483648 ≤ i + 1 ∧ i + 1 < 2147483648 from ⟨by omega, by omega⟩).1 (show -2147483648 ≤ i + 1 ∧ i + 1 < 2147483648 from ⟨by omega, by omega⟩).2 ?_
          refine z_goto (tgt := 4) dX4_servingBrothersOf_61 (by decide) ?_
          refine zW.sub (lv' := [(0, xR 3), (1, xI m), (2, xI (n + 0)), (3, xI (i + 1))]) [2, 3, 1, 0] rfl ?_
          exact k4 c1 c2 c3 c4
        ·
          refine z_aload_n 0 dX4_servingBrothersOf_36 rfl ?_
          refine z_getS (v := 5) (k := 2) (kz := 2) pk4 dX4_servingBrothersOf_37 (by decide) zb_159 rfl (zOb.lit (by decide +kernel)) rfl (by decide +kernel) ?_
          refine z_iload_n 3 dX4_servingBrothersOf_40 rfl ?_
          refine z_iald dX4_servingBrothersOf_41 (zOb.lit (by decide +kernel)) (show 0 ≤ i ∧ i < 60 from ⟨by omega, by omega⟩).1 (show 0 ≤ i ∧ i < 60 from ⟨by omega, by omega⟩).2 ?_
          refine z_aload_n 0 dX4_servingBrothersOf_42 rfl ?_
          refine z_getS (v := 5) (k := 2) (kz := 2) pk4 dX4_servingBrothersOf_43 (by decide) zb_159 rfl (zOb.lit (by decide +kernel)) rfl (by decide +kernel) ?_
          refine z_iload_n 1 dX4_servingBrothersOf_46 rfl ?_
          refine z_iald dX4_servingBrothersOf_47 (zOb.lit (by decide +kernel)) hq.1 hq.2 ?_
          suffices KJ : zW mX4_servingBrothersOf X dep bc bs 239 56 [(0, xR 3), (1, xI m), (2, xI n), (3, xI i)] [xI (if (h 5 i) = (h 5 m) then 1 else 0), xI n] h Q by
            refine z_icmp_ne (tgt := 55) dX4_servingBrothersOf_48 (by decide) (fun j1 => ?_) (fun j1 => ?_)
            ·
              refine z_iconst dX4_servingBrothersOf_55 (zi32_d rfl) ?_
              rw [if_neg j1] at KJ
              exact KJ
            ·
              refine z_iconst dX4_servingBrothersOf_51 (zi32_d rfl) ?_
              refine z_goto (tgt := 56) dX4_servingBrothersOf_52 (by decide) ?_
              rw [if_pos j1] at KJ
              exact KJ
          refine z_iaddN dX4_servingBrothersOf_56 (show -2147483648 ≤ n + (if (h 5 i) = (h 5 m) then 1 else 0) ∧ n + (if (h 5 i) = (h 5 m) then 1 else 0) < 2147483648 from ⟨by omega, by omega⟩).1 (show -2147483648 ≤ n + (if (h 5 i) = (h 5 m) then 1 else 0) ∧ n + (if (h 5 i) = (h 5 m) then 1 else 0) < 2147483648 from ⟨by omega, by omega⟩).2 ?_
          refine z_istore_n (lv' := [(2, xI (n + (if (h 5 i) = (h 5 m) then 1 else 0))), (0, xR 3), (1, xI m), (3, xI i)]) dX4_servingBrothersOf_57 (by decide) rfl ?_
          refine z_iincN (lv' := [(3, xI (i + 1)), (2, xI (n + (if (h 5 i) = (h 5 m) then 1 else 0))), (0, xR 3), (1, xI m)]) 3 dX4_servingBrothersOf_58 rfl (by decide) rfl (show -2147483648 ≤ i + 1 ∧ i + 1 < 2147483648 from ⟨by omega, by omega⟩).1 (show -2147483648 ≤ i + 1 ∧ i + 1 < 2147483648 from ⟨by omega, by omega⟩).2 ?_
          refine z_goto (tgt := 4) dX4_servingBrothersOf_61 (by decide) ?_
          refine zW.sub (lv' := [(0, xR 3), (1, xI m), (2, xI (n + (if (h 5 i) = (h 5 m) then 1 else 0))), (3, xI (i + 1))]) [2, 3, 1, 0] rfl ?_
          exact k5 c1 c2 c3 c4

set_option maxRecDepth 20000 in
theorem bX4_servingBrothersOf_0 {X : zX} {dep bc bs : Nat} (m : Int) {h : zH} {Q : Nat → zH → List zV → Prop}
    (k1 : zW mX4_servingBrothersOf X dep bc bs 239 4 [(0, xR 3), (1, xI m), (2, xI 0), (3, xI 0)] [] h Q) : zW mX4_servingBrothersOf X dep bc bs 239 0 [(0, xR 3), (1, xI m)] [] h Q := by
  refine z_iconst dX4_servingBrothersOf_0 (zi32_d rfl) ?_
  refine z_istore_n (lv' := [(2, xI 0), (0, xR 3), (1, xI m)]) dX4_servingBrothersOf_1 (by decide) rfl ?_
  refine z_iconst dX4_servingBrothersOf_2 (zi32_d rfl) ?_
  refine z_istore_n (lv' := [(3, xI 0), (2, xI 0), (0, xR 3), (1, xI m)]) dX4_servingBrothersOf_3 (by decide) rfl ?_
  refine zW.sub (lv' := [(0, xR 3), (1, xI m), (2, xI 0), (3, xI 0)]) [2, 3, 1, 0] rfl ?_
  exact k1
