/-! a roll: small ones -/
set_option maxRecDepth 20000 in
theorem bX6_isListed_0 {X : zX} {dep bc bs : Nat} (o : Int) (m : Int) {h : zH} {Q : Nat → zH → List zV → Prop} (ho : zRollO o) (hm : 0 ≤ m ∧ m < 60)
    (k1 : Q 239 h [xI (if (h (o + 5) m) = 4 then 1 else if (h (o + 5) m) = 5 then 1 else 0 : Int)]) : zW mX6_isListed X dep bc bs 239 0 [(0, xR o), (1, xI m)] [] h Q := by
  refine z_aload_n 0 dX6_isListed_0 rfl ?_
  refine z_getS (v := (o + 5)) (k := 3) (kz := 3) pk6 dX6_isListed_1 (by decide) zb_414 rfl ho.1 rfl ho.2.2.2.2.2.2.2.2.2.2.2.2.2.2.2.2.1 ?_
  refine z_iload_n 1 dX6_isListed_4 rfl ?_
  refine z_iald dX6_isListed_5 ho.2.2.2.2.2.1 hm.1 hm.2 ?_
  refine z_iconst dX6_isListed_6 (zi32_d rfl) ?_
  suffices KJ : zW mX6_isListed X dep bc bs 239 25 [(0, xR o), (1, xI m)] [xI (if (h (o + 5) m) = 4 then 1 else if (h (o + 5) m) = 5 then 1 else 0 : Int)] h Q by
    refine z_icmp_eq (tgt := 20) dX6_isListed_7 (by decide) (fun j1 => ?_) (fun j1 => ?_)
    ·
      refine z_iconst dX6_isListed_20 (zi32_d rfl) ?_
      refine z_goto (tgt := 25) dX6_isListed_21 (by decide) ?_
      rw [if_pos j1] at KJ
      exact KJ
    ·
      refine z_aload_n 0 dX6_isListed_10 rfl ?_
      refine z_getS (v := (o + 5)) (k := 3) (kz := 3) pk6 dX6_isListed_11 (by decide) zb_414 rfl ho.1 rfl ho.2.2.2.2.2.2.2.2.2.2.2.2.2.2.2.2.1 ?_
      refine z_iload_n 1 dX6_isListed_14 rfl ?_
      refine z_iald dX6_isListed_15 ho.2.2.2.2.2.1 (show 0 ≤ m ∧ m < 60 from ⟨by omega, by omega⟩).1 (show 0 ≤ m ∧ m < 60 from ⟨by omega, by omega⟩).2 ?_
      refine z_iconst dX6_isListed_16 (zi32_d rfl) ?_
      refine z_icmp_ne (tgt := 24) dX6_isListed_17 (by decide) (fun j2 => ?_) (fun j2 => ?_)
      ·
        refine z_iconst dX6_isListed_24 (zi32_d rfl) ?_
        rw [if_neg j1] at KJ
        rw [if_neg j2] at KJ
        exact KJ
      ·
        refine z_iconst dX6_isListed_20 (zi32_d rfl) ?_
        refine z_goto (tgt := 25) dX6_isListed_21 (by decide) ?_
        rw [if_neg j1] at KJ
        rw [if_pos j2] at KJ
        exact KJ
  exact z_zret dX6_isListed_25 rfl (by repeat (first | (left; rfl) | (right; rfl) | split)) (k1)
theorem f_X6_isListed {X : zX} {dep : Nat} (o : Int) (m : Int) {h : zH} (ho : zRollO o) (hm : 0 ≤ m ∧ m < 60) : zW mX6_isListed X dep 0 0 239 0 (zar 0 [xR o, xI m]) [] h (zF h [xI (zb (h (o + 5) m = 4 ∨ h (o + 5) m = 5))]) := by
  refine bX6_isListed_0 o m ho hm ?_
  all_goals intros
  all_goals refine ⟨rfl, rfl, ?_⟩
  all_goals try rfl
  all_goals congr 2
  all_goals (try unfold zb); (repeat' split) <;> first | rfl | omega

set_option maxRecDepth 20000 in
theorem bX6_mayBeSent_0 {X : zX} {dep bc bs : Nat} (o : Int) (m : Int) {h : zH} {Q : Nat → zH → List zV → Prop} (ho : zRollO o) (hm : 0 ≤ m ∧ m < 60)
    (k1 : Q 239 h [xI (if (if (h (o + 5) m) = 1 then 1 else if (h (o + 5) m) = 4 then 1 else 0 : Int) = 0 then 0 else if (h (o + 13) m) = 0 then if (h (o + 12) m) = (-1) then 1 else 0 else 0 : Int)]) : zW mX6_mayBeSent X dep bc bs 239 0 [(0, xR o), (1, xI m)] [] h Q := by
  refine z_aload_n 0 dX6_mayBeSent_0 rfl ?_
  refine z_getS (v := (o + 5)) (k := 3) (kz := 3) pk6 dX6_mayBeSent_1 (by decide) zb_414 rfl ho.1 rfl ho.2.2.2.2.2.2.2.2.2.2.2.2.2.2.2.2.1 ?_
  refine z_iload_n 1 dX6_mayBeSent_4 rfl ?_
  refine z_iald dX6_mayBeSent_5 ho.2.2.2.2.2.1 hm.1 hm.2 ?_
  refine z_iconst dX6_mayBeSent_6 (zi32_d rfl) ?_
  suffices KJ : zW mX6_mayBeSent X dep bc bs 239 25 [(0, xR o), (1, xI m)] [xI (if (h (o + 5) m) = 1 then 1 else if (h (o + 5) m) = 4 then 1 else 0 : Int)] h Q by
    refine z_icmp_eq (tgt := 20) dX6_mayBeSent_7 (by decide) (fun j1 => ?_) (fun j1 => ?_)
    ·
      refine z_iconst dX6_mayBeSent_20 (zi32_d rfl) ?_
      refine z_goto (tgt := 25) dX6_mayBeSent_21 (by decide) ?_
      rw [if_pos j1] at KJ
      exact KJ
    ·
      refine z_aload_n 0 dX6_mayBeSent_10 rfl ?_
      refine z_getS (v := (o + 5)) (k := 3) (kz := 3) pk6 dX6_mayBeSent_11 (by decide) zb_414 rfl ho.1 rfl ho.2.2.2.2.2.2.2.2.2.2.2.2.2.2.2.2.1 ?_
      refine z_iload_n 1 dX6_mayBeSent_14 rfl ?_
      refine z_iald dX6_mayBeSent_15 ho.2.2.2.2.2.1 (show 0 ≤ m ∧ m < 60 from ⟨by omega, by omega⟩).1 (show 0 ≤ m ∧ m < 60 from ⟨by omega, by omega⟩).2 ?_
      refine z_iconst dX6_mayBeSent_16 (zi32_d rfl) ?_
      refine z_icmp_ne (tgt := 24) dX6_mayBeSent_17 (by decide) (fun j2 => ?_) (fun j2 => ?_)
      ·
        refine z_iconst dX6_mayBeSent_24 (zi32_d rfl) ?_
        rw [if_neg j1] at KJ
        rw [if_neg j2] at KJ
        exact KJ
      ·
        refine z_iconst dX6_mayBeSent_20 (zi32_d rfl) ?_
        refine z_goto (tgt := 25) dX6_mayBeSent_21 (by decide) ?_
        rw [if_neg j1] at KJ
        rw [if_pos j2] at KJ
        exact KJ
  refine z_istore_n (lv' := [(2, xI (if (h (o + 5) m) = 1 then 1 else if (h (o + 5) m) = 4 then 1 else 0 : Int)), (0, xR o), (1, xI m)]) dX6_mayBeSent_25 (by decide) rfl ?_
  refine z_iload_n 0 dX6_mayBeSent_26 rfl ?_
  suffices KJ : zW mX6_mayBeSent X dep bc bs 239 54 [(2, xI (if (h (o + 5) m) = 1 then 1 else if (h (o + 5) m) = 4 then 1 else 0 : Int)), (0, xR o), (1, xI m)] [xI (if (if (h (o + 5) m) = 1 then 1 else if (h (o + 5) m) = 4 then 1 else 0 : Int) = 0 then 0 else if (h (o + 13) m) = 0 then if (h (o + 12) m) = (-1) then 1 else 0 else 0 : Int)] h Q by
    refine z_if_eq (tgt := 53) dX6_mayBeSent_27 (by decide) (fun j1 => ?_) (fun j1 => ?_)
    ·
      refine z_iconst dX6_mayBeSent_53 (zi32_d rfl) ?_
      rw [if_pos j1] at KJ
      exact KJ
    ·
      refine z_aload_n 1 dX6_mayBeSent_30 rfl ?_
      refine z_getS (v := (o + 13)) (k := 12) (kz := 12) pk6 dX6_mayBeSent_31 (by decide) zb_429 rfl ho.1 rfl ho.2.2.2.2.2.2.2.2.2.2.2.2.2.2.2.2.2.2.2.2.2.2.2.2.1 ?_
      refine z_iload_n 2 dX6_mayBeSent_34 rfl ?_
      refine z_zald dX6_mayBeSent_35 ho.2.2.2.2.2.2.2.2.2.2.2.2.2.1 (show 0 ≤ m ∧ m < 60 from ⟨by omega, by omega⟩).1 (show 0 ≤ m ∧ m < 60 from ⟨by omega, by omega⟩).2 ?_
      refine z_if_ne (tgt := 53) dX6_mayBeSent_36 (by decide) (fun j2 => ?_) (fun j2 => ?_)
      ·
        refine z_iconst dX6_mayBeSent_53 (zi32_d rfl) ?_
        rw [if_neg j1] at KJ
        rw [if_neg j2] at KJ
        exact KJ
      ·
        refine z_aload_n 1 dX6_mayBeSent_39 rfl ?_
        refine z_getS (v := (o + 12)) (k := 11) (kz := 11) pk6 dX6_mayBeSent_40 (by decide) zb_428 rfl ho.1 rfl ho.2.2.2.2.2.2.2.2.2.2.2.2.2.2.2.2.2.2.2.2.2.2.2.1 ?_
        refine z_iload_n 2 dX6_mayBeSent_43 rfl ?_
        refine z_iald dX6_mayBeSent_44 ho.2.2.2.2.2.2.2.2.2.2.2.2.1 (show 0 ≤ m ∧ m < 60 from ⟨by omega, by omega⟩).1 (show 0 ≤ m ∧ m < 60 from ⟨by omega, by omega⟩).2 ?_
        refine z_iconst dX6_mayBeSent_45 (zi32_d rfl) ?_
        refine z_icmp_ne (tgt := 53) dX6_mayBeSent_46 (by decide) (fun j3 => ?_) (fun j3 => ?_)
        ·
          refine z_iconst dX6_mayBeSent_53 (zi32_d rfl) ?_
          rw [if_neg j1] at KJ
          rw [if_pos j2] at KJ
          rw [if_neg j3] at KJ
          exact KJ
        ·
          refine z_iconst dX6_mayBeSent_49 (zi32_d rfl) ?_
          refine z_goto (tgt := 54) dX6_mayBeSent_50 (by decide) ?_
          rw [if_neg j1] at KJ
          rw [if_pos j2] at KJ
          rw [if_pos j3] at KJ
          exact KJ
  exact z_zret dX6_mayBeSent_54 rfl (by repeat (first | (left; rfl) | (right; rfl) | split)) (k1)
theorem f_X6_mayBeSent {X : zX} {dep : Nat} (o : Int) (m : Int) {h : zH} (ho : zRollO o) (hm : 0 ≤ m ∧ m < 60) : zW mX6_mayBeSent X dep 0 0 239 0 (zar 0 [xR o, xI m]) [] h (zF h [xI (zb ((h (o + 5) m = 1 ∨ h (o + 5) m = 4) ∧ h (o + 13) m = 0 ∧ h (o + 12) m = -1))]) := by
  refine bX6_mayBeSent_0 o m ho hm ?_
  all_goals intros
  all_goals refine ⟨rfl, rfl, ?_⟩
  all_goals congr 2
  all_goals (try unfold zb)
  all_goals (repeat' split) <;> first | rfl | (exfalso; (repeat' split at *) <;> omega)

/-- the end of a chain, k steps on -/
def zchain (h : zH) (s : Int) : Nat → Int → Int
  | 0, m => m
  | k + 1, m => if h s m = -1 then m else zchain h s k (h s m)

set_option maxRecDepth 20000 in
theorem bX6_endOfChain_0 {X : zX} {dep bc bs : Nat} (o : Int) (m : Int) {h : zH} {Q : Nat → zH → List zV → Prop}
    (k1 : zW mX6_endOfChain X dep bc bs 239 4 [(0, xR o), (2, xI m), (3, xI 0)] [] h Q) : zW mX6_endOfChain X dep bc bs 239 0 [(0, xR o), (1, xI m)] [] h Q := by
  refine z_iload_n 1 dX6_endOfChain_0 rfl ?_
  refine z_istore_n (lv' := [(2, xI m), (0, xR o), (1, xI m)]) dX6_endOfChain_1 (by decide) rfl ?_
  refine z_iconst dX6_endOfChain_2 (zi32_d rfl) ?_
  refine z_istore_n (lv' := [(3, xI 0), (2, xI m), (0, xR o), (1, xI m)]) dX6_endOfChain_3 (by decide) rfl ?_
  refine zW.sub (lv' := [(0, xR o), (2, xI m), (3, xI 0)]) [2, 1, 0] rfl ?_
  exact k1

set_option maxRecDepth 20000 in
theorem bX6_endOfChain_4 {X : zX} {dep bc bs : Nat} (o : Int) (m : Int) (i : Int) {h : zH} {Q : Nat → zH → List zV → Prop} (ho : zRollO o) (hm : 0 ≤ m ∧ m < 60) (hi : 0 ≤ i)
    (k1 : 60 ≤ i → Q 239 h [xI m])
    (k2 : ¬ (60 ≤ i) → (h (o + 12) m) = (-1) → Q 239 h [xI m])
    (k3 : ¬ (60 ≤ i) → ¬ ((h (o + 12) m) = (-1)) → zW mX6_endOfChain X dep bc bs 239 4 [(0, xR o), (2, xI (h (o + 12) m)), (3, xI (i + 1))] [] h Q) : zW mX6_endOfChain X dep bc bs 239 4 [(0, xR o), (2, xI m), (3, xI i)] [] h Q := by
  refine z_iload_n 2 dX6_endOfChain_4 rfl ?_
  refine z_bipush dX6_endOfChain_5 (zi32_d rfl) (by decide) ?_
  refine z_icmp_ge (tgt := 33) dX6_endOfChain_7 (by decide) (fun c1 => ?_) (fun c1 => ?_)
  ·
    refine z_iload_n 1 dX6_endOfChain_33 rfl ?_
    exact z_iret dX6_endOfChain_34 rfl (k1 c1)
  ·
    refine z_aload_n 0 dX6_endOfChain_10 rfl ?_
    refine z_getS (v := (o + 12)) (k := 11) (kz := 11) pk6 dX6_endOfChain_11 (by decide) zb_428 rfl ho.1 rfl ho.2.2.2.2.2.2.2.2.2.2.2.2.2.2.2.2.2.2.2.2.2.2.2.1 ?_
    refine z_iload_n 1 dX6_endOfChain_14 rfl ?_
    refine z_iald dX6_endOfChain_15 ho.2.2.2.2.2.2.2.2.2.2.2.2.1 hm.1 hm.2 ?_
    refine z_iconst dX6_endOfChain_16 (zi32_d rfl) ?_
    refine z_icmp_eq (tgt := 33) dX6_endOfChain_17 (by decide) (fun c2 => ?_) (fun c2 => ?_)
    ·
      refine z_iload_n 1 dX6_endOfChain_33 rfl ?_
      exact z_iret dX6_endOfChain_34 rfl (k2 c1 c2)
    ·
      refine z_aload_n 0 dX6_endOfChain_20 rfl ?_
      refine z_getS (v := (o + 12)) (k := 11) (kz := 11) pk6 dX6_endOfChain_21 (by decide) zb_428 rfl ho.1 rfl ho.2.2.2.2.2.2.2.2.2.2.2.2.2.2.2.2.2.2.2.2.2.2.2.1 ?_
      refine z_iload_n 1 dX6_endOfChain_24 rfl ?_
      refine z_iald dX6_endOfChain_25 ho.2.2.2.2.2.2.2.2.2.2.2.2.1 hm.1 hm.2 ?_
      refine z_istore_n (lv' := [(2, xI (h (o + 12) m)), (0, xR o), (3, xI i)]) dX6_endOfChain_26 (by decide) rfl ?_
      refine z_iincN (lv' := [(3, xI (i + 1)), (2, xI (h (o + 12) m)), (0, xR o)]) 2 dX6_endOfChain_27 rfl (by decide) rfl (show -2147483648 ≤ i + 1 ∧ i + 1 < 2147483648 from ⟨by omega, by omega⟩).1 (show -2147483648 ≤ i + 1 ∧ i + 1 < 2147483648 from ⟨by omega, by omega⟩).2 ?_
      refine z_goto (tgt := 4) dX6_endOfChain_30 (by decide) ?_
      refine zW.sub (lv' := [(0, xR o), (2, xI (h (o + 12) m)), (3, xI (i + 1))]) [2, 1, 0] rfl ?_
      exact k3 c1 c2

theorem l_X6_endOfChain {X : zX} {dep : Nat} (o : Int) {h : zH} (ho : zRollO o) (hs : ∀ q : Int, 0 ≤ q → q < 60 → -1 ≤ h (o + 12) q ∧ h (o + 12) q < 60) : ∀ (k : Nat) (i m : Int), 0 ≤ i → i + k = 60 → 0 ≤ m → m < 60 → zW mX6_endOfChain X dep 0 0 239 4 [(0, xR o), (2, xI m), (3, xI i)] [] h (zF h [xI (zchain h (o + 12) k m)]) := by
  intro k
  induction k with
  | zero =>
    intro i m h0 hk m0 m1
    refine bX6_endOfChain_4 o m i ho ⟨m0, m1⟩ h0 ?_ ?_ ?_
    · intro c
      exact ⟨rfl, rfl, rfl⟩
    all_goals
      intros
      exfalso
      omega
  | succ k ih =>
    intro i m h0 hk m0 m1
    have q := hs m m0 m1
    refine bX6_endOfChain_4 o m i ho ⟨m0, m1⟩ h0 ?_ ?_ ?_
    · intro c; exfalso; omega
    · intro c c1
      unfold zchain
      rw [if_pos c1]
      exact ⟨rfl, rfl, rfl⟩
    · intro c c1
      unfold zchain
      rw [if_neg c1]
      exact ih (i + 1) _ (by omega) (by omega) (by omega) (by omega)
theorem f_X6_endOfChain {X : zX} {dep : Nat} (o m : Int) {h : zH} (ho : zRollO o) (hm : 0 ≤ m ∧ m < 60) (hs : ∀ q : Int, 0 ≤ q → q < 60 → -1 ≤ h (o + 12) q ∧ h (o + 12) q < 60) : zW mX6_endOfChain X dep 0 0 239 0 (zar 0 [xR o, xI m]) [] h (zF h [xI (zchain h (o + 12) 60 m)]) := by
  refine bX6_endOfChain_0 o m ?_
  exact l_X6_endOfChain o ho hs 60 0 m (by omega) (by omega) hm.1 hm.2
theorem zchain_in {h : zH} {s : Int} (hs : ∀ q : Int, 0 ≤ q → q < 60 → -1 ≤ h s q ∧ h s q < 60) : ∀ (k : Nat) (m : Int), 0 ≤ m → m < 60 → 0 ≤ zchain h s k m ∧ zchain h s k m < 60
  | 0, m, h0, h1 => ⟨h0, h1⟩
  | k + 1, m, h0, h1 => by
    have q := hs m h0 h1
    unfold zchain
    split
    · exact ⟨h0, h1⟩
    · exact zchain_in hs k _ (by omega) (by omega)

theorem zmod_tab : ∀ i : Fin 56, ∀ j : Fin 65, ((0 ≤ zxor (((65 * i.val + j.val : Nat) : Int) - 3120) 52) ↔ (0 ≤ ((65 * i.val + j.val : Nat) : Int) - 3120)) ∧ zrem (((65 * i.val + j.val : Nat) : Int) - 3120) 52 = (((65 * i.val + j.val : Nat) : Int) - 3120).tmod 52 := by decide +kernel
theorem zmod_at {a : Int} (h0 : -3120 ≤ a) (h1 : a < 520) : (0 ≤ zxor a 52 ↔ 0 ≤ a) ∧ zrem a 52 = a.tmod 52 := by
  have := zmod_tab ⟨(a + 3120).toNat / 65, by omega⟩ ⟨(a + 3120).toNat % 65, by omega⟩
  simp only [show ((65 * ((a + 3120).toNat / 65) + (a + 3120).toNat % 65 : Nat) : Int) - 3120 = a by omega] at this
  exact this

set_option maxRecDepth 20000 in
theorem bJ9_floorMod52 {X : zX} {dep bc bs : Nat} (a : Int) {h : zH} {Q : Nat → zH → List zV → Prop} (h0 : -3120 ≤ a ∧ a < 520) (hx : -52 < zrem a 52 ∧ zrem a 52 < 52)
    (k1 : 0 ≤ (zxor a 52) → Q 239 h [xI (zrem a 52)])
    (k2 : ¬ (0 ≤ (zxor a 52)) → (zrem a 52) = 0 → Q 239 h [xI (zrem a 52)])
    (k3 : ¬ (0 ≤ (zxor a 52)) → ¬ ((zrem a 52) = 0) → Q 239 h [xI ((zrem a 52) + 52)]) : zW mJ9_floorMod_7cf53 X dep bc bs 239 0 [(0, xI a), (1, xI 52)] [] h Q := by
  refine z_iload_n 0 dJ9_floorMod_7cf53_0 rfl ?_
  refine z_iload_n 1 dJ9_floorMod_7cf53_1 rfl ?_
  refine z_irem dJ9_floorMod_7cf53_2 (by decide) ?_
  refine z_istore_n (lv' := [(2, xI (zrem a 52)), (0, xI a), (1, xI 52)]) dJ9_floorMod_7cf53_3 (by decide) rfl ?_
  refine z_iload_n 1 dJ9_floorMod_7cf53_4 rfl ?_
  refine z_iload_n 2 dJ9_floorMod_7cf53_5 rfl ?_
  refine z_ixor dJ9_floorMod_7cf53_6 ?_
  refine z_if_ge (tgt := 18) dJ9_floorMod_7cf53_7 (by decide) (fun c1 => ?_) (fun c1 => ?_)
  ·
    refine z_iload_n 0 dJ9_floorMod_7cf53_18 rfl ?_
    exact z_iret dJ9_floorMod_7cf53_19 rfl (k1 c1)
  ·
    refine z_iload_n 0 dJ9_floorMod_7cf53_10 rfl ?_
    refine z_if_eq (tgt := 18) dJ9_floorMod_7cf53_11 (by decide) (fun c2 => ?_) (fun c2 => ?_)
    ·
      refine z_iload_n 0 dJ9_floorMod_7cf53_18 rfl ?_
      exact z_iret dJ9_floorMod_7cf53_19 rfl (k2 c1 c2)
    ·
      refine z_iload_n 0 dJ9_floorMod_7cf53_14 rfl ?_
      refine z_iload_n 2 dJ9_floorMod_7cf53_15 rfl ?_
      refine z_iaddN dJ9_floorMod_7cf53_16 (show -2147483648 ≤ (zrem a 52) + 52 ∧ (zrem a 52) + 52 < 2147483648 from ⟨by omega, by omega⟩).1 (show -2147483648 ≤ (zrem a 52) + 52 ∧ (zrem a 52) + 52 < 2147483648 from ⟨by omega, by omega⟩).2 ?_
      exact z_iret dJ9_floorMod_7cf53_17 rfl (k3 c1 c2)

theorem f_J9_floorMod_7cf53 {X : zX} {dep : Nat} (a : Int) {h : zH} (h0 : -3120 ≤ a ∧ a < 520) : zW mJ9_floorMod_7cf53 X dep 0 0 239 0 (zar 0 [xI a, xI 52]) [] h (zF h [xI (a % 52)]) := by
  obtain ⟨e1, e2⟩ := zmod_at h0.1 h0.2
  have e3 : a.tmod 52 = if 0 ≤ a then a % 52 else -((-a) % 52) := by
    split
    · exact Int.tmod_eq_emod_of_nonneg (by omega)
    · rw [show a = -(-a) by omega, Int.neg_tmod, Int.tmod_eq_emod_of_nonneg (by omega)]
      simp
  refine bJ9_floorMod52 a h0 (by rw [e2, e3]; split <;> omega) ?_ ?_ ?_
  all_goals intros
  all_goals refine ⟨rfl, rfl, ?_⟩
  all_goals congr 2
  all_goals rw [e2, e3] at *
  all_goals split at * <;> omega

set_option maxRecDepth 20000 in
theorem bX6_orderOf_0 {X : zX} {dep bc bs : Nat} (o : Int) (m : Int) (q : Int) {h : zH} {Q : Nat → zH → List zV → Prop} (ho : zRollO o) (hm : 0 ≤ m ∧ m < 60) (hq : 0 ≤ q ∧ q ≤ 9) (hb : -3120 ≤ h 19 m ∧ h 19 m < 520) (hl : 0 ≤ h 6 m ∧ h 6 m < 26) (hw : 0 ≤ h (o + 2) (h 19 m % 52) ∧ h (o + 2) (h 19 m % 52) < 52) (hz : 0 ≤ h (o + 3) (h 6 m) ∧ h (o + 3) (h 6 m) < 26) (hdep : 1 ≤ dep)
    (k1 : Q 239 h [xI ((((((q * 52) + (h (o + 2) ((h 19 m) % 52))) * 26) + (h (o + 3) (h 6 m))) * 60) + m)]) : zW mX6_orderOf X dep bc bs 239 0 [(0, xR o), (1, xR 3), (2, xI m), (3, xI q)] [] h Q := by
  refine z_aload_n 0 dX6_orderOf_0 rfl ?_
  refine z_getS (v := (o + 1)) (k := 1) (kz := 1) pk6 dX6_orderOf_1 (by decide) zb_411 rfl ho.1 rfl ho.2.2.2.2.2.2.2.2.2.2.2.2.2.2.1 ?_
  refine z_getS (v := (o + 2)) (k := 4) (kz := 4) pk3 dX6_orderOf_4 (by decide) zb_394 rfl ho.2.1 rfl ho.2.2.2.2.2.2.2.2.2.2.2.2.2.2.2.2.2.2.2.2.2.2.2.2.2.1 ?_
  refine z_aload_n 1 dX6_orderOf_7 rfl ?_
  refine z_getS (v := 19) (k := 12) (kz := 12) pk4 dX6_orderOf_8 (by decide) zb_182 rfl (zOb.lit (by decide +kernel)) rfl (by decide +kernel) ?_
  refine z_iload_n 2 dX6_orderOf_11 rfl ?_
  refine z_iald dX6_orderOf_12 (zOb.lit (by decide +kernel)) hm.1 hm.2 ?_
  refine z_bipush dX6_orderOf_13 (zi32_d rfl) (by decide) ?_
  refine z_invSF (as := [xI (h 19 m), xI 52]) (st := [xR (o + 2)]) (ra := [xI 52, xI (h 19 m)]) (dep' := dep - 1) (rs := [xI ((h 19 m) % 52)]) (h' := h) (f_J9_floorMod_7cf53 (h 19 m) (h := h) (show -3120 ≤ (h 19 m) ∧ (h 19 m) < 520 from ⟨by omega, by omega⟩)) dX6_orderOf_15 nJ9_floorMod_7cf53 zb_923 zb_924 zb_93 (by omega) zne_I (Nat.le_of_ble_eq_true rfl) (Nat.le_of_ble_eq_true rfl) rfl ?_
  refine z_iald dX6_orderOf_18 ho.2.2.1 (show 0 ≤ ((h 19 m) % 52) ∧ ((h 19 m) % 52) < 52 from ⟨by omega, by omega⟩).1 (show 0 ≤ ((h 19 m) % 52) ∧ ((h 19 m) % 52) < 52 from ⟨by omega, by omega⟩).2 ?_
  refine z_istore (lv' := [(4, xI (h (o + 2) ((h 19 m) % 52))), (0, xR o), (1, xR 3), (2, xI m), (3, xI q)]) dX6_orderOf_19 (by decide) rfl ?_
  refine z_aload_n 1 dX6_orderOf_21 rfl ?_
  refine z_getS (v := (o + 1)) (k := 1) (kz := 1) pk6 dX6_orderOf_22 (by decide) zb_411 rfl ho.1 rfl ho.2.2.2.2.2.2.2.2.2.2.2.2.2.2.1 ?_
  refine z_getS (v := (o + 3)) (k := 5) (kz := 5) pk3 dX6_orderOf_25 (by decide) zb_396 rfl ho.2.1 rfl ho.2.2.2.2.2.2.2.2.2.2.2.2.2.2.2.2.2.2.2.2.2.2.2.2.2.2 ?_
  refine z_aload_n 2 dX6_orderOf_28 rfl ?_
  refine z_getS (v := 6) (k := 3) (kz := 3) pk4 dX6_orderOf_29 (by decide) zb_161 rfl (zOb.lit (by decide +kernel)) rfl (by decide +kernel) ?_
  refine z_iload_n 3 dX6_orderOf_32 rfl ?_
  refine z_iald dX6_orderOf_33 (zOb.lit (by decide +kernel)) hm.1 hm.2 ?_
  refine z_iald dX6_orderOf_34 ho.2.2.2.1 (show 0 ≤ (h 6 m) ∧ (h 6 m) < 26 from ⟨by omega, by omega⟩).1 (show 0 ≤ (h 6 m) ∧ (h 6 m) < 26 from ⟨by omega, by omega⟩).2 ?_
  refine z_istore (lv' := [(5, xI (h (o + 3) (h 6 m))), (4, xI (h (o + 2) ((h 19 m) % 52))), (0, xR o), (1, xR 3), (2, xI m), (3, xI q)]) dX6_orderOf_35 (by decide) rfl ?_
  refine z_iload_n 5 dX6_orderOf_37 rfl ?_
  refine z_bipush dX6_orderOf_38 (zi32_d rfl) (by decide) ?_
  refine z_imulN dX6_orderOf_40 (show -2147483648 ≤ q * 52 ∧ q * 52 < 2147483648 from ⟨by omega, by omega⟩).1 (show -2147483648 ≤ q * 52 ∧ q * 52 < 2147483648 from ⟨by omega, by omega⟩).2 ?_
  refine z_iload 1 dX6_orderOf_41 rfl ?_
  refine z_iaddN dX6_orderOf_43 (show -2147483648 ≤ (q * 52) + (h (o + 2) ((h 19 m) % 52)) ∧ (q * 52) + (h (o + 2) ((h 19 m) % 52)) < 2147483648 from ⟨by omega, by omega⟩).1 (show -2147483648 ≤ (q * 52) + (h (o + 2) ((h 19 m) % 52)) ∧ (q * 52) + (h (o + 2) ((h 19 m) % 52)) < 2147483648 from ⟨by omega, by omega⟩).2 ?_
  refine z_bipush dX6_orderOf_44 (zi32_d rfl) (by decide) ?_
  refine z_imulN dX6_orderOf_46 (show -2147483648 ≤ ((q * 52) + (h (o + 2) ((h 19 m) % 52))) * 26 ∧ ((q * 52) + (h (o + 2) ((h 19 m) % 52))) * 26 < 2147483648 from ⟨by omega, by omega⟩).1 (show -2147483648 ≤ ((q * 52) + (h (o + 2) ((h 19 m) % 52))) * 26 ∧ ((q * 52) + (h (o + 2) ((h 19 m) % 52))) * 26 < 2147483648 from ⟨by omega, by omega⟩).2 ?_
  refine z_iload 0 dX6_orderOf_47 rfl ?_
  refine z_iaddN dX6_orderOf_49 (show -2147483648 ≤ (((q * 52) + (h (o + 2) ((h 19 m) % 52))) * 26) + (h (o + 3) (h 6 m)) ∧ (((q * 52) + (h (o + 2) ((h 19 m) % 52))) * 26) + (h (o + 3) (h 6 m)) < 2147483648 from ⟨by omega, by omega⟩).1 (show -2147483648 ≤ (((q * 52) + (h (o + 2) ((h 19 m) % 52))) * 26) + (h (o + 3) (h 6 m)) ∧ (((q * 52) + (h (o + 2) ((h 19 m) % 52))) * 26) + (h (o + 3) (h 6 m)) < 2147483648 from ⟨by omega, by omega⟩).2 ?_
  refine z_bipush dX6_orderOf_50 (zi32_d rfl) (by decide) ?_
  refine z_imulN dX6_orderOf_52 (show -2147483648 ≤ ((((q * 52) + (h (o + 2) ((h 19 m) % 52))) * 26) + (h (o + 3) (h 6 m))) * 60 ∧ ((((q * 52) + (h (o + 2) ((h 19 m) % 52))) * 26) + (h (o + 3) (h 6 m))) * 60 < 2147483648 from ⟨by omega, by omega⟩).1 (show -2147483648 ≤ ((((q * 52) + (h (o + 2) ((h 19 m) % 52))) * 26) + (h (o + 3) (h 6 m))) * 60 ∧ ((((q * 52) + (h (o + 2) ((h 19 m) % 52))) * 26) + (h (o + 3) (h 6 m))) * 60 < 2147483648 from ⟨by omega, by omega⟩).2 ?_
  refine z_iload_n 4 dX6_orderOf_53 rfl ?_
  refine z_iaddN dX6_orderOf_54 (show -2147483648 ≤ (((((q * 52) + (h (o + 2) ((h 19 m) % 52))) * 26) + (h (o + 3) (h 6 m))) * 60) + m ∧ (((((q * 52) + (h (o + 2) ((h 19 m) % 52))) * 26) + (h (o + 3) (h 6 m))) * 60) + m < 2147483648 from ⟨by omega, by omega⟩).1 (show -2147483648 ≤ (((((q * 52) + (h (o + 2) ((h 19 m) % 52))) * 26) + (h (o + 3) (h 6 m))) * 60) + m ∧ (((((q * 52) + (h (o + 2) ((h 19 m) % 52))) * 26) + (h (o + 3) (h 6 m))) * 60) + m < 2147483648 from ⟨by omega, by omega⟩).2 ?_
  exact z_iret dX6_orderOf_55 rfl (k1)
theorem f_X6_orderOf {X : zX} {dep : Nat} (o : Int) (m : Int) (q : Int) {h : zH} (ho : zRollO o) (hm : 0 ≤ m ∧ m < 60) (hq : 0 ≤ q ∧ q ≤ 9) (hb : -3120 ≤ h 19 m ∧ h 19 m < 520) (hl : 0 ≤ h 6 m ∧ h 6 m < 26) (hw : 0 ≤ h (o + 2) (h 19 m % 52) ∧ h (o + 2) (h 19 m % 52) < 52) (hz : 0 ≤ h (o + 3) (h 6 m) ∧ h (o + 3) (h 6 m) < 26) (hdep : 1 ≤ dep) : zW mX6_orderOf X dep 0 0 239 0 (zar 0 [xR o, xR 3, xI m, xI q]) [] h (zF h [xI (((q * 52 + h (o + 2) (h 19 m % 52)) * 26 + h (o + 3) (h 6 m)) * 60 + m)]) := by
  refine bX6_orderOf_0 o m q ho hm hq hb hl hw hz hdep ?_
  all_goals intros
  all_goals refine ⟨rfl, rfl, ?_⟩
  all_goals try rfl
  all_goals congr 2
  all_goals (try unfold zb); (repeat' split) <;> first | rfl | omega

set_option maxRecDepth 20000 in
theorem bX6_countAhead_0 {X : zX} {dep bc bs : Nat} (o : Int) (m : Int) {h : zH} {Q : Nat → zH → List zV → Prop}
    (k1 : zW mX6_countAhead X dep bc bs 239 5 [(0, xR o), (1, xR 3), (2, xI m), (3, xI 0), (4, xI 0)] [] h Q) : zW mX6_countAhead X dep bc bs 239 0 [(0, xR o), (1, xR 3), (2, xI m)] [] h Q := by
  refine z_iconst dX6_countAhead_0 (zi32_d rfl) ?_
  refine z_istore_n (lv' := [(3, xI 0), (0, xR o), (1, xR 3), (2, xI m)]) dX6_countAhead_1 (by decide) rfl ?_
  refine z_iconst dX6_countAhead_2 (zi32_d rfl) ?_
  refine z_istore (lv' := [(4, xI 0), (3, xI 0), (0, xR o), (1, xR 3), (2, xI m)]) dX6_countAhead_3 (by decide) rfl ?_
  refine zW.sub (lv' := [(0, xR o), (1, xR 3), (2, xI m), (3, xI 0), (4, xI 0)]) [2, 3, 4, 1, 0] rfl ?_
  exact k1

set_option maxRecDepth 20000 in
theorem bX6_countAhead_5 {X : zX} {dep bc bs : Nat} (o : Int) (m : Int) (n : Int) (i : Int) {h : zH} {Q : Nat → zH → List zV → Prop} (ho : zRollO o) (hm : 0 ≤ m ∧ m < 60) (h3 : 0 ≤ h 3 0 ∧ h 3 0 ≤ 60) (hi : 0 ≤ i) (hn : 0 ≤ n ∧ n ≤ i) (hdep : 1 ≤ dep)
    (k1 : (h 3 0) ≤ i → Q 239 h [xI n])
    (k2 : ¬ ((h 3 0) ≤ i) → ¬ (h (o + 5) i = 4 ∨ h (o + 5) i = 5) → zW mX6_countAhead X dep bc bs 239 5 [(0, xR o), (1, xR 3), (2, xI m), (3, xI n), (4, xI (i + 1))] [] h Q)
    (k3 : ¬ ((h 3 0) ≤ i) → h (o + 5) i = 4 ∨ h (o + 5) i = 5 → ¬ (h 4 i) = (h 4 m) → zW mX6_countAhead X dep bc bs 239 5 [(0, xR o), (1, xR 3), (2, xI m), (3, xI n), (4, xI (i + 1))] [] h Q)
    (k4 : ¬ ((h 3 0) ≤ i) → h (o + 5) i = 4 ∨ h (o + 5) i = 5 → (h 4 i) = (h 4 m) → (h (o + 7) m) ≤ (h (o + 7) i) → zW mX6_countAhead X dep bc bs 239 5 [(0, xR o), (1, xR 3), (2, xI m), (3, xI n), (4, xI (i + 1))] [] h Q)
    (k5 : ¬ ((h 3 0) ≤ i) → h (o + 5) i = 4 ∨ h (o + 5) i = 5 → (h 4 i) = (h 4 m) → ¬ ((h (o + 7) m) ≤ (h (o + 7) i)) → zW mX6_countAhead X dep bc bs 239 5 [(0, xR o), (1, xR 3), (2, xI m), (3, xI (n + 1)), (4, xI (i + 1))] [] h Q) : zW mX6_countAhead X dep bc bs 239 5 [(0, xR o), (1, xR 3), (2, xI m), (3, xI n), (4, xI i)] [] h Q := by
  refine z_iload 4 dX6_countAhead_5 rfl ?_
  refine z_aload_n 1 dX6_countAhead_7 rfl ?_
  refine z_getI (k := 0) (kz := 0) pk4 dX6_countAhead_8 (by decide) zb_155 rfl (zOb.lit (by decide +kernel)) rfl ?_
  refine z_icmp_ge (tgt := 64) dX6_countAhead_11 (by decide) (fun c1 => ?_) (fun c1 => ?_)
  ·
    refine z_iload_n 3 dX6_countAhead_64 rfl ?_
    exact z_iret dX6_countAhead_65 rfl (k1 c1)
  ·
    refine z_aload_n 0 dX6_countAhead_14 rfl ?_
    refine z_iload 4 dX6_countAhead_15 rfl ?_
    refine z_invF (ci := 6) (N := 13) (as := [xI i]) (st := []) (ra := [xI i]) (dep' := dep - 1) (rs := [xI (zb (h (o + 5) i = 4 ∨ h (o + 5) i = 5))]) (h' := h) (f_X6_isListed o i (h := h) ho (show 0 ≤ i ∧ i < 60 from ⟨by omega, by omega⟩)) dX6_countAhead_17 nX6_isListed zb_930 zb_931 zb_932 zb_90 ho.1 rfl (by omega) zne_I (Nat.le_of_ble_eq_true rfl) (Nat.le_of_ble_eq_true rfl) rfl ?_
    refine z_ifB_eq (C := h (o + 5) i = 4 ∨ h (o + 5) i = 5) (tgt := 58) dX6_countAhead_20 (by decide) (fun c2 => ?_) (fun c2 => ?_)
    ·
      refine z_iincN (lv' := [(4, xI (i + 1)), (0, xR o), (1, xR 3), (2, xI m), (3, xI n)]) 4 dX6_countAhead_58 rfl (by decide) rfl (show -2147483648 ≤ i + 1 ∧ i + 1 < 2147483648 from ⟨by omega, by omega⟩).1 (show -2147483648 ≤ i + 1 ∧ i + 1 < 2147483648 from ⟨by omega, by omega⟩).2 ?_
      refine z_goto (tgt := 5) dX6_countAhead_61 (by decide) ?_
      refine zW.sub (lv' := [(0, xR o), (1, xR 3), (2, xI m), (3, xI n), (4, xI (i + 1))]) [1, 2, 3, 4, 0] rfl ?_
      exact k2 c1 c2
    ·
      refine z_aload_n 1 dX6_countAhead_23 rfl ?_
      refine z_getS (v := 4) (k := 1) (kz := 1) pk4 dX6_countAhead_24 (by decide) zb_158 rfl (zOb.lit (by decide +kernel)) rfl (by decide +kernel) ?_
      refine z_iload 4 dX6_countAhead_27 rfl ?_
      refine z_iald dX6_countAhead_29 (zOb.lit (by decide +kernel)) (show 0 ≤ i ∧ i < 60 from ⟨by omega, by omega⟩).1 (show 0 ≤ i ∧ i < 60 from ⟨by omega, by omega⟩).2 ?_
      refine z_aload_n 1 dX6_countAhead_30 rfl ?_
      refine z_getS (v := 4) (k := 1) (kz := 1) pk4 dX6_countAhead_31 (by decide) zb_158 rfl (zOb.lit (by decide +kernel)) rfl (by decide +kernel) ?_
      refine z_iload_n 2 dX6_countAhead_34 rfl ?_
      refine z_iald dX6_countAhead_35 (zOb.lit (by decide +kernel)) hm.1 hm.2 ?_
      refine z_icmp_ne (tgt := 58) dX6_countAhead_36 (by decide) (fun c3 => ?_) (fun c3 => ?_)
      ·
        refine z_iincN (lv' := [(4, xI (i + 1)), (0, xR o), (1, xR 3), (2, xI m), (3, xI n)]) 4 dX6_countAhead_58 rfl (by decide) rfl (show -2147483648 ≤ i + 1 ∧ i + 1 < 2147483648 from ⟨by omega, by omega⟩).1 (show -2147483648 ≤ i + 1 ∧ i + 1 < 2147483648 from ⟨by omega, by omega⟩).2 ?_
        refine z_goto (tgt := 5) dX6_countAhead_61 (by decide) ?_
        refine zW.sub (lv' := [(0, xR o), (1, xR 3), (2, xI m), (3, xI n), (4, xI (i + 1))]) [1, 2, 3, 4, 0] rfl ?_
        exact k3 c1 c2 c3
      ·
        refine z_aload_n 0 dX6_countAhead_39 rfl ?_
        refine z_getS (v := (o + 7)) (k := 5) (kz := 5) pk6 dX6_countAhead_40 (by decide) zb_418 rfl ho.1 rfl ho.2.2.2.2.2.2.2.2.2.2.2.2.2.2.2.2.2.2.1 ?_
        refine z_iload 4 dX6_countAhead_43 rfl ?_
        refine z_iald dX6_countAhead_45 ho.2.2.2.2.2.2.2.1 (show 0 ≤ i ∧ i < 60 from ⟨by omega, by omega⟩).1 (show 0 ≤ i ∧ i < 60 from ⟨by omega, by omega⟩).2 ?_
        refine z_aload_n 0 dX6_countAhead_46 rfl ?_
        refine z_getS (v := (o + 7)) (k := 5) (kz := 5) pk6 dX6_countAhead_47 (by decide) zb_418 rfl ho.1 rfl ho.2.2.2.2.2.2.2.2.2.2.2.2.2.2.2.2.2.2.1 ?_
        refine z_iload_n 2 dX6_countAhead_50 rfl ?_
        refine z_iald dX6_countAhead_51 ho.2.2.2.2.2.2.2.1 hm.1 hm.2 ?_
        refine z_icmp_ge (tgt := 58) dX6_countAhead_52 (by decide) (fun c4 => ?_) (fun c4 => ?_)
        ·
          refine z_iincN (lv' := [(4, xI (i + 1)), (0, xR o), (1, xR 3), (2, xI m), (3, xI n)]) 4 dX6_countAhead_58 rfl (by decide) rfl (show -2147483648 ≤ i + 1 ∧ i + 1 < 2147483648 from ⟨by omega, by omega⟩).1 (show -2147483648 ≤ i + 1 ∧ i + 1 < 2147483648 from ⟨by omega, by omega⟩).2 ?_
          refine z_goto (tgt := 5) dX6_countAhead_61 (by decide) ?_
          refine zW.sub (lv' := [(0, xR o), (1, xR 3), (2, xI m), (3, xI n), (4, xI (i + 1))]) [1, 2, 3, 4, 0] rfl ?_
          exact k4 c1 c2 c3 c4
        ·
          refine z_iincN (lv' := [(3, xI (n + 1)), (0, xR o), (1, xR 3), (2, xI m), (4, xI i)]) 3 dX6_countAhead_55 rfl (by decide) rfl (show -2147483648 ≤ n + 1 ∧ n + 1 < 2147483648 from ⟨by omega, by omega⟩).1 (show -2147483648 ≤ n + 1 ∧ n + 1 < 2147483648 from ⟨by omega, by omega⟩).2 ?_
          refine z_iincN (lv' := [(4, xI (i + 1)), (3, xI (n + 1)), (0, xR o), (1, xR 3), (2, xI m)]) 4 dX6_countAhead_58 rfl (by decide) rfl (show -2147483648 ≤ i + 1 ∧ i + 1 < 2147483648 from ⟨by omega, by omega⟩).1 (show -2147483648 ≤ i + 1 ∧ i + 1 < 2147483648 from ⟨by omega, by omega⟩).2 ?_
          refine z_goto (tgt := 5) dX6_countAhead_61 (by decide) ?_
          refine zW.sub (lv' := [(0, xR o), (1, xR 3), (2, xI m), (3, xI (n + 1)), (4, xI (i + 1))]) [2, 3, 4, 1, 0] rfl ?_
          exact k5 c1 c2 c3 c4

def zahead (h : zH) (o m k : Int) : Prop := (h (o + 5) k = 4 ∨ h (o + 5) k = 5) ∧ h 4 k = h 4 m ∧ h (o + 7) k < h (o + 7) m
theorem l_X6_countAhead {X : zX} {dep : Nat} (o m : Int) {h : zH} (ho : zRollO o) (hm : 0 ≤ m ∧ m < 60) (h3 : 0 ≤ h 3 0 ∧ h 3 0 ≤ 60) (hdep : 1 ≤ dep) : ∀ (k j : Nat), (j : Int) + k = h 3 0 → zW mX6_countAhead X dep 0 0 239 5 [(0, xR o), (1, xR 3), (2, xI m), (3, xI (zcnt (zahead h o m) j)), (4, xI j)] [] h (zF h [xI (zcnt (zahead h o m) (h 3 0).toNat)]) := by
  intro k
  induction k with
  | zero =>
    intro j hk
    have := zcnt_in (zahead h o m) j
    refine bX6_countAhead_5 o m _ j ho hm h3 (by omega) (by omega) hdep ?_ ?_ ?_ ?_ ?_
    · intro c
      rw [show (h 3 0).toNat = j by omega]
      exact ⟨rfl, rfl, rfl⟩
    all_goals
      intros
      exfalso
      omega
  | succ k ih =>
    intro j hk
    have := zcnt_in (zahead h o m) j
    have ih1 := ih (j + 1) (by omega)
    rw [show ((j + 1 : Nat) : Int) = (j : Int) + 1 by omega] at ih1
    refine bX6_countAhead_5 o m _ j ho hm h3 (by omega) (by omega) hdep ?_ ?_ ?_ ?_ ?_
    · intro c; exfalso; omega
    all_goals intros
    all_goals first
      | (rw [zcnt_0 (P := zahead h o m) (k := j) (fun z => by obtain ⟨z1, z2, z3⟩ := z; first | contradiction | omega)] at ih1; exact ih1)
      | (rw [zcnt_1 (P := zahead h o m) (k := j) ⟨by assumption, by assumption, by omega⟩] at ih1; exact ih1)
theorem f_X6_countAhead {X : zX} {dep : Nat} (o m : Int) {h : zH} (ho : zRollO o) (hm : 0 ≤ m ∧ m < 60) (h3 : 0 ≤ h 3 0 ∧ h 3 0 ≤ 60) (hdep : 1 ≤ dep) : zW mX6_countAhead X dep 0 0 239 0 (zar 0 [xR o, xR 3, xI m]) [] h (zF h [xI (zcnt (zahead h o m) (h 3 0).toNat)]) := by
  refine bX6_countAhead_0 o m ?_
  exact l_X6_countAhead o m ho hm h3 hdep (h 3 0).toNat 0 (by omega)
