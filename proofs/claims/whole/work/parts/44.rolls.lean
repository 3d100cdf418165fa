/-! rolls as of a day -/
set_option maxRecDepth 20000 in
theorem bX10_lawFor_0 {X : zX} {dep bc bs : Nat} (l : Int) (t : Int) {h : zH} {Q : Nat → zH → List zV → Prop}
    (k1 : zW mX10_lawFor X dep bc bs 239 8 [(0, xR 0), (1, xI l), (2, xI t), (3, xR 36), (4, xI 0)] [] h Q) : zW mX10_lawFor X dep bc bs 239 0 [(0, xR 0), (1, xI l), (2, xI t)] [] h Q := by
  refine z_aload_n 0 dX10_lawFor_0 rfl ?_
  refine z_getS (v := 36) (k := 3) (kz := 3) pk10 dX10_lawFor_1 (by decide) zb_460 rfl (zOb.lit (by decide +kernel)) rfl (by decide +kernel) ?_
  refine z_astore_n (lv' := [(3, xR 36), (0, xR 0), (1, xI l), (2, xI t)]) dX10_lawFor_4 (by decide) rfl ?_
  refine z_iconst dX10_lawFor_5 (zi32_d rfl) ?_
  refine z_istore (lv' := [(4, xI 0), (3, xR 36), (0, xR 0), (1, xI l), (2, xI t)]) dX10_lawFor_6 (by decide) rfl ?_
  refine zW.sub (lv' := [(0, xR 0), (1, xI l), (2, xI t), (3, xR 36), (4, xI 0)]) [2, 3, 4, 1, 0] rfl ?_
  exact k1

set_option maxRecDepth 20000 in
theorem bX10_lawFor_8 {X : zX} {dep bc bs : Nat} (l : Int) (t : Int) (B : Int) (i : Int) {h : zH} {Q : Nat → zH → List zV → Prop} (hn : 0 ≤ h 0 11 ∧ h 0 11 ≤ 8) (hl : 0 ≤ l ∧ l < 4) (hB : zLawO B) (hi : 0 ≤ i)
    (k1 : (h 0 11) ≤ i → Q 239 h [xR B])
    (k2 : ¬ ((h 0 11) ≤ i) → t < (h (65 + 6 * i) 0) → zW mX10_lawFor X dep bc bs 239 8 [(0, xR 0), (1, xI l), (2, xI t), (3, xR B), (4, xI (i + 1))] [] h Q)
    (k3 : ¬ ((h 0 11) ≤ i) → ¬ (t < (h (65 + 6 * i) 0)) → (h ((113 + 14 * l) + 1) 0) < (h (65 + 6 * i) 1) → zW mX10_lawFor X dep bc bs 239 8 [(0, xR 0), (1, xI l), (2, xI t), (3, xR B), (4, xI (i + 1))] [] h Q)
    (k4 : ¬ ((h 0 11) ≤ i) → ¬ (t < (h (65 + 6 * i) 0)) → ¬ ((h ((113 + 14 * l) + 1) 0) < (h (65 + 6 * i) 1)) → (h (65 + 6 * i) 1) < (h B 1) → zW mX10_lawFor X dep bc bs 239 8 [(0, xR 0), (1, xI l), (2, xI t), (3, xR B), (4, xI (i + 1))] [] h Q)
    (k5 : ¬ ((h 0 11) ≤ i) → ¬ (t < (h (65 + 6 * i) 0)) → ¬ ((h ((113 + 14 * l) + 1) 0) < (h (65 + 6 * i) 1)) → ¬ ((h (65 + 6 * i) 1) < (h B 1)) → zW mX10_lawFor X dep bc bs 239 8 [(0, xR 0), (1, xI l), (2, xI t), (3, xR (65 + 6 * i)), (4, xI (i + 1))] [] h Q) : zW mX10_lawFor X dep bc bs 239 8 [(0, xR 0), (1, xI l), (2, xI t), (3, xR B), (4, xI i)] [] h Q := by
  refine z_iload 4 dX10_lawFor_8 rfl ?_
  refine z_aload_n 0 dX10_lawFor_10 rfl ?_
  refine z_getI (k := 11) (kz := 11) pk10 dX10_lawFor_11 (by decide) zb_468 rfl (zOb.lit (by decide +kernel)) rfl ?_
  refine z_icmp_ge (tgt := 76) dX10_lawFor_14 (by decide) (fun c1 => ?_) (fun c1 => ?_)
  ·
    refine z_aload_n 3 dX10_lawFor_76 rfl ?_
    exact z_aret dX10_lawFor_77 rfl (k1 c1)
  ·
    refine z_aload_n 0 dX10_lawFor_17 rfl ?_
    refine z_getS (v := 42) (k := 4) (kz := 4) pk10 dX10_lawFor_18 (by decide) zb_461 rfl (zOb.lit (by decide +kernel)) rfl (by decide +kernel) ?_
    refine z_iload 4 dX10_lawFor_21 rfl ?_
    refine z_aaldSL (v := (65 + 6 * i)) dX10_lawFor_23 (zOb.lit (by decide +kernel)) (show 0 ≤ i ∧ i < 8 from ⟨by omega, by omega⟩).1 (show 0 ≤ i ∧ i < 8 from ⟨by omega, by omega⟩).2 (zRF_laws (show 0 ≤ i ∧ i < 8 from ⟨by omega, by omega⟩).1 (show 0 ≤ i ∧ i < 8 from ⟨by omega, by omega⟩).2) ?_
    refine z_astore (lv' := [(5, xR (65 + 6 * i)), (0, xR 0), (1, xI l), (2, xI t), (3, xR B), (4, xI i)]) dX10_lawFor_24 (by decide) rfl ?_
    refine z_aload 0 dX10_lawFor_26 rfl ?_
    refine z_getI (k := 0) (kz := 0) pk1 dX10_lawFor_28 (by decide) zb_272 rfl (zLawO_laws (show 0 ≤ i ∧ i < 8 from ⟨by omega, by omega⟩).1 (show 0 ≤ i ∧ i < 8 from ⟨by omega, by omega⟩).2).1 rfl ?_
    refine z_iload_n 3 dX10_lawFor_31 rfl ?_
    refine z_icmp_gt (tgt := 70) dX10_lawFor_32 (by decide) (fun c2 => ?_) (fun c2 => ?_)
    ·
      refine z_iincN (lv' := [(4, xI (i + 1)), (5, xR (65 + 6 * i)), (0, xR 0), (1, xI l), (2, xI t), (3, xR B)]) 5 dX10_lawFor_70 rfl (by decide) rfl (show -2147483648 ≤ i + 1 ∧ i + 1 < 2147483648 from ⟨by omega, by omega⟩).1 (show -2147483648 ≤ i + 1 ∧ i + 1 < 2147483648 from ⟨by omega, by omega⟩).2 ?_
      refine z_goto (tgt := 8) dX10_lawFor_73 (by decide) ?_
      refine zW.sub (lv' := [(0, xR 0), (1, xI l), (2, xI t), (3, xR B), (4, xI (i + 1))]) [2, 3, 4, 5, 0] rfl ?_
      exact k2 c1 c2
    ·
      refine z_aload 0 dX10_lawFor_35 rfl ?_
      refine z_getI (k := 1) (kz := 1) pk1 dX10_lawFor_37 (by decide) zb_274 rfl (zLawO_laws (show 0 ≤ i ∧ i < 8 from ⟨by omega, by omega⟩).1 (show 0 ≤ i ∧ i < 8 from ⟨by omega, by omega⟩).2).1 rfl ?_
      refine z_aload_n 1 dX10_lawFor_40 rfl ?_
      refine z_getS (v := 43) (k := 5) (kz := 5) pk10 dX10_lawFor_41 (by decide) zb_462 rfl (zOb.lit (by decide +kernel)) rfl (by decide +kernel) ?_
      refine z_iload_n 2 dX10_lawFor_44 rfl ?_
      refine z_aaldSR (v := (113 + 14 * l)) dX10_lawFor_45 (zOb.lit (by decide +kernel)) hl.1 hl.2 (zRF_rolls hl.1 hl.2) ?_
      refine z_getS (v := ((113 + 14 * l) + 1)) (k := 1) (kz := 1) pk6 dX10_lawFor_46 (by decide) zb_412 rfl (zRollO_rolls hl.1 hl.2).1 rfl (zRollO_rolls hl.1 hl.2).2.2.2.2.2.2.2.2.2.2.2.2.2.2.1 ?_
      refine z_getI (k := 0) (kz := 0) pk3 dX10_lawFor_49 (by decide) zb_388 rfl (zRollO_rolls hl.1 hl.2).2.1 rfl ?_
      refine z_icmp_gt (tgt := 70) dX10_lawFor_52 (by decide) (fun c3 => ?_) (fun c3 => ?_)
      ·
        refine z_iincN (lv' := [(4, xI (i + 1)), (5, xR (65 + 6 * i)), (0, xR 0), (1, xI l), (2, xI t), (3, xR B)]) 5 dX10_lawFor_70 rfl (by decide) rfl (show -2147483648 ≤ i + 1 ∧ i + 1 < 2147483648 from ⟨by omega, by omega⟩).1 (show -2147483648 ≤ i + 1 ∧ i + 1 < 2147483648 from ⟨by omega, by omega⟩).2 ?_
        refine z_goto (tgt := 8) dX10_lawFor_73 (by decide) ?_
        refine zW.sub (lv' := [(0, xR 0), (1, xI l), (2, xI t), (3, xR B), (4, xI (i + 1))]) [2, 3, 4, 5, 0] rfl ?_
        exact k3 c1 c2 c3
      ·
        refine z_aload 0 dX10_lawFor_55 rfl ?_
        refine z_getI (k := 1) (kz := 1) pk1 dX10_lawFor_57 (by decide) zb_274 rfl (zLawO_laws (show 0 ≤ i ∧ i < 8 from ⟨by omega, by omega⟩).1 (show 0 ≤ i ∧ i < 8 from ⟨by omega, by omega⟩).2).1 rfl ?_
        refine z_aload_n 4 dX10_lawFor_60 rfl ?_
        refine z_getI (k := 1) (kz := 1) pk1 dX10_lawFor_61 (by decide) zb_274 rfl hB.1 rfl ?_
        refine z_icmp_lt (tgt := 70) dX10_lawFor_64 (by decide) (fun c4 => ?_) (fun c4 => ?_)
        ·
          refine z_iincN (lv' := [(4, xI (i + 1)), (5, xR (65 + 6 * i)), (0, xR 0), (1, xI l), (2, xI t), (3, xR B)]) 5 dX10_lawFor_70 rfl (by decide) rfl (show -2147483648 ≤ i + 1 ∧ i + 1 < 2147483648 from ⟨by omega, by omega⟩).1 (show -2147483648 ≤ i + 1 ∧ i + 1 < 2147483648 from ⟨by omega, by omega⟩).2 ?_
          refine z_goto (tgt := 8) dX10_lawFor_73 (by decide) ?_
          refine zW.sub (lv' := [(0, xR 0), (1, xI l), (2, xI t), (3, xR B), (4, xI (i + 1))]) [2, 3, 4, 5, 0] rfl ?_
          exact k4 c1 c2 c3 c4
        ·
          refine z_aload 0 dX10_lawFor_67 rfl ?_
          refine z_astore_n (lv' := [(3, xR (65 + 6 * i)), (5, xR (65 + 6 * i)), (0, xR 0), (1, xI l), (2, xI t), (4, xI i)]) dX10_lawFor_69 (by decide) rfl ?_
          refine z_iincN (lv' := [(4, xI (i + 1)), (3, xR (65 + 6 * i)), (5, xR (65 + 6 * i)), (0, xR 0), (1, xI l), (2, xI t)]) 5 dX10_lawFor_70 rfl (by decide) rfl (show -2147483648 ≤ i + 1 ∧ i + 1 < 2147483648 from ⟨by omega, by omega⟩).1 (show -2147483648 ≤ i + 1 ∧ i + 1 < 2147483648 from ⟨by omega, by omega⟩).2 ?_
          refine z_goto (tgt := 8) dX10_lawFor_73 (by decide) ?_
          refine zW.sub (lv' := [(0, xR 0), (1, xI l), (2, xI t), (3, xR (65 + 6 * i)), (4, xI (i + 1))]) [3, 4, 5, 1, 0] rfl ?_
          exact k5 c1 c2 c3 c4

/-- the law for a lot's day among the first told -/
def zbest (h : zH) (l t : Int) : Nat → Int
  | 0 => 36
  | k + 1 => if h (65 + 6 * (k : Int)) 0 ≤ t ∧ h (65 + 6 * (k : Int)) 1 ≤ h (113 + 14 * l + 1) 0 ∧ h (zbest h l t k) 1 ≤ h (65 + 6 * (k : Int)) 1 then 65 + 6 * (k : Int) else zbest h l t k
theorem zbest_s (h : zH) (l t : Int) (k : Nat) : zbest h l t (k + 1) = if h (65 + 6 * (k : Int)) 0 ≤ t ∧ h (65 + 6 * (k : Int)) 1 ≤ h (113 + 14 * l + 1) 0 ∧ h (zbest h l t k) 1 ≤ h (65 + 6 * (k : Int)) 1 then 65 + 6 * (k : Int) else zbest h l t k := rfl
theorem zbest_is (h : zH) (l t : Int) : ∀ k : Nat, zbest h l t k = 36 ∨ ∃ i : Int, 0 ≤ i ∧ i < k ∧ zbest h l t k = 65 + 6 * i
  | 0 => Or.inl rfl
  | k + 1 => by
    unfold zbest
    split
    · exact Or.inr ⟨k, by omega, by omega, rfl⟩
    · rcases zbest_is h l t k with e | ⟨i, e1, e2, e3⟩
      · exact Or.inl e
      · exact Or.inr ⟨i, e1, by omega, e3⟩
theorem zbest_O (h : zH) (l t : Int) {k : Nat} (hk : k ≤ 8) : zLawO (zbest h l t k) ∧ 30 ≤ zbest h l t k ∧ zbest h l t k ≤ 107 := by
  rcases zbest_is h l t k with e | ⟨i, e1, e2, e3⟩
  · rw [e]; exact ⟨zLawO_no, by omega, by omega⟩
  · rw [e3]; exact ⟨zLawO_laws e1 (by omega), by omega, by omega⟩
theorem l_X10_lawFor {X : zX} {dep : Nat} (l t : Int) {h : zH} (hn : 0 ≤ h 0 11 ∧ h 0 11 ≤ 8) (hl : 0 ≤ l ∧ l < 4) :
    ∀ (k j : Nat), (j : Int) + k = h 0 11 → zW mX10_lawFor X dep 0 0 239 8 [(0, xR 0), (1, xI l), (2, xI t), (3, xR (zbest h l t j)), (4, xI j)] [] h (zF h [xR (zbest h l t (h 0 11).toNat)]) := by
  intro k
  induction k with
  | zero =>
    intro j hk
    refine bX10_lawFor_8 l t _ j hn hl (zbest_O h l t (by omega)).1 (by omega) ?_ ?_ ?_ ?_ ?_
    · intro c
      rw [show (h 0 11).toNat = j by omega]
      exact ⟨rfl, rfl, rfl⟩
    all_goals intros; exfalso; omega
  | succ k ih =>
    intro j hk
    have ih1 := ih (j + 1) (by omega)
    rw [zbest_s h l t j, show ((j + 1 : Nat) : Int) = (j : Int) + 1 by omega] at ih1
    refine bX10_lawFor_8 l t _ j hn hl (zbest_O h l t (by omega)).1 (by omega) ?_ ?_ ?_ ?_ ?_
    · intros; exfalso; omega
    · intro c c1
      rw [if_neg (fun z => by have := z.1; omega)] at ih1
      exact ih1
    · intro c c1 c2
      rw [if_neg (fun z => by have := z.2.1; omega)] at ih1
      exact ih1
    · intro c c1 c2 c3
      rw [if_neg (fun z => by have := z.2.2; omega)] at ih1
      exact ih1
    · intro c c1 c2 c3
      rw [if_pos ⟨by omega, by omega, by omega⟩] at ih1
      exact ih1
theorem f_X10_lawFor {X : zX} {dep : Nat} (l t : Int) {h : zH} (hn : 0 ≤ h 0 11 ∧ h 0 11 ≤ 8) (hl : 0 ≤ l ∧ l < 4) : zW mX10_lawFor X dep 0 0 239 0 (zar 0 [xR 0, xI l, xI t]) [] h (zF h [xR (zbest h l t (h 0 11).toNat)]) := by
  refine bX10_lawFor_0 l t ?_
  exact l_X10_lawFor l t hn hl (h 0 11).toNat 0 (by omega)

set_option maxRecDepth 20000 in
theorem bX10_rollAsOf_0 {X : zX} {dep bc bs : Nat} (l : Int) (t : Int) {h : zH} {Q : Nat → zH → List zV → Prop}
    (k1 : zW mX10_rollAsOf X dep bc bs 239 5 [(0, xR 0), (1, xI l), (2, xI t)] [xI t, xR 3] h Q) : zW mX10_rollAsOf X dep bc bs 239 0 [(0, xR 0), (1, xI l), (2, xI t)] [] h Q := by
  refine z_aload_n 0 dX10_rollAsOf_0 rfl ?_
  refine z_getS (v := 3) (k := 1) (kz := 1) pk10 dX10_rollAsOf_1 (by decide) zb_458 rfl (zOb.lit (by decide +kernel)) rfl (by decide +kernel) ?_
  refine z_iload_n 2 dX10_rollAsOf_4 rfl ?_
  exact k1

set_option maxRecDepth 20000 in
theorem rX10_rollAsOf_5 {X : zX} {dep bc bs : Nat} (l : Int) (t : Int) {h : zH} {Q : Nat → zH → List zV → Prop} {P : zH → Prop}
    (hZ : zW mX4_look X (dep - 1) 0 0 239 0 (zar 0 [xR 3, xI t]) [] h (zQ0 P)) (hdep : 1 ≤ dep)
    (k : ∀ g : zH, P g → zW mX10_rollAsOf X dep bc bs 239 8 [(0, xR 0), (1, xI l), (2, xI t)] [] g Q) : zW mX10_rollAsOf X dep bc bs 239 5 [(0, xR 0), (1, xI l), (2, xI t)] [xI t, xR 3] h Q :=
  z_invQ0 (ci := 4) (N := 17) (as := [xI t]) (st := []) (ra := [xI t]) hZ dX10_rollAsOf_5 nX4_look zb_817 zb_818 zb_819 zb_84 (zOb.lit (by decide +kernel)) rfl (by omega) (Nat.le_of_ble_eq_true rfl) (Nat.le_of_ble_eq_true rfl) rfl (fun g hg => k g hg)

set_option maxRecDepth 20000 in
theorem bX10_rollAsOf_8 {X : zX} {dep bc bs : Nat} (l : Int) (t : Int) {g : zH} {Q : Nat → zH → List zV → Prop} (hn : 0 ≤ g 0 11 ∧ g 0 11 ≤ 8) (hl : 0 ≤ l ∧ l < 4) (hq : ∀ j : Int, zLawO (zbest g j t (g 0 11).toNat)) (hdep : 1 ≤ dep)
    (k1 : (g (zbest g l t (g 0 11).toNat) 5) = 0 → zW mX10_rollAsOf X dep bc bs 239 29 [(0, xR 0), (1, xI l), (2, xI t), (4, xI l)] [] g Q)
    (k2 : ¬ ((g (zbest g l t (g 0 11).toNat) 5) = 0) → zW mX10_rollAsOf X dep bc bs 239 29 [(0, xR 0), (1, xI l), (2, xI t), (4, xI 0)] [] g Q) : zW mX10_rollAsOf X dep bc bs 239 8 [(0, xR 0), (1, xI l), (2, xI t)] [] g Q := by
  refine z_aload_n 0 dX10_rollAsOf_8 rfl ?_
  refine z_iload_n 1 dX10_rollAsOf_9 rfl ?_
  refine z_iload_n 2 dX10_rollAsOf_10 rfl ?_
  refine z_invF (ci := 10) (N := 17) (as := [xI l, xI t]) (st := []) (ra := [xI t, xI l]) (dep' := dep - 1) (rs := [xR (zbest g l t (g 0 11).toNat)]) (h' := g) (f_X10_lawFor l t (h := g) hn hl) dX10_rollAsOf_11 nX10_lawFor zb_869 zb_871 zb_21 zb_82 (zOb.lit (by decide +kernel)) rfl (by omega) zne_R (Nat.le_of_ble_eq_true rfl) (Nat.le_of_ble_eq_true rfl) rfl ?_
  refine z_getI (k := 5) (kz := 5) pk1 dX10_rollAsOf_14 (by decide) zb_286 rfl (hq l).1 rfl ?_
  refine z_if_eq (tgt := 24) dX10_rollAsOf_17 (by decide) (fun c1 => ?_) (fun c1 => ?_)
  ·
    refine z_iload_n 1 dX10_rollAsOf_24 rfl ?_
    refine z_istore_n (lv' := [(3, xI l), (0, xR 0), (1, xI l), (2, xI t)]) dX10_rollAsOf_25 (by decide) rfl ?_
    refine z_iload_n 0 dX10_rollAsOf_26 rfl ?_
    refine z_istore (lv' := [(4, xI l), (3, xI l), (0, xR 0), (1, xI l), (2, xI t)]) dX10_rollAsOf_27 (by decide) rfl ?_
    refine zW.sub (lv' := [(0, xR 0), (1, xI l), (2, xI t), (4, xI l)]) [2, 3, 4, 0] rfl ?_
    exact k1 c1
  ·
    refine z_iconst dX10_rollAsOf_20 (zi32_d rfl) ?_
    refine z_goto (tgt := 25) dX10_rollAsOf_21 (by decide) ?_
    refine z_istore_n (lv' := [(3, xI 0), (0, xR 0), (1, xI l), (2, xI t)]) dX10_rollAsOf_25 (by decide) rfl ?_
    refine z_iload_n 0 dX10_rollAsOf_26 rfl ?_
    refine z_istore (lv' := [(4, xI 0), (3, xI 0), (0, xR 0), (1, xI l), (2, xI t)]) dX10_rollAsOf_27 (by decide) rfl ?_
    refine zW.sub (lv' := [(0, xR 0), (1, xI l), (2, xI t), (4, xI 0)]) [2, 3, 4, 0] rfl ?_
    exact k2 c1

set_option maxRecDepth 20000 in
theorem bX10_rollAsOf_29 {X : zX} {dep bc bs : Nat} (l : Int) (t : Int) (i : Int) {g : zH} {Q : Nat → zH → List zV → Prop} (hn : 0 ≤ g 0 11 ∧ g 0 11 ≤ 8) (hl : 0 ≤ l ∧ l < 4) (hi : 0 ≤ i) (hq : ∀ j : Int, zLawO (zbest g j t (g 0 11).toNat)) (hdep : 1 ≤ dep)
    (k1 : l < i → Q 239 g [xR (113 + 14 * l)])
    (k2 : ¬ (l < i) → zW mX10_rollAsOf X dep bc bs 239 53 [(0, xR 0), (1, xI l), (2, xI t), (4, xI i)] [xR (zbest g i t (g 0 11).toNat), xR 3, xR (113 + 14 * i)] g Q) : zW mX10_rollAsOf X dep bc bs 239 29 [(0, xR 0), (1, xI l), (2, xI t), (4, xI i)] [] g Q := by
  refine z_iload 3 dX10_rollAsOf_29 rfl ?_
  refine z_iload_n 1 dX10_rollAsOf_31 rfl ?_
  refine z_icmp_gt (tgt := 62) dX10_rollAsOf_32 (by decide) (fun c1 => ?_) (fun c1 => ?_)
  ·
    refine z_aload_n 0 dX10_rollAsOf_62 rfl ?_
    refine z_getS (v := 43) (k := 5) (kz := 5) pk10 dX10_rollAsOf_63 (by decide) zb_462 rfl (zOb.lit (by decide +kernel)) rfl (by decide +kernel) ?_
    refine z_iload_n 1 dX10_rollAsOf_66 rfl ?_
    refine z_aaldSR (v := (113 + 14 * l)) dX10_rollAsOf_67 (zOb.lit (by decide +kernel)) hl.1 hl.2 (zRF_rolls hl.1 hl.2) ?_
    exact z_aret dX10_rollAsOf_68 rfl (k1 c1)
  ·
    refine z_aload_n 0 dX10_rollAsOf_35 rfl ?_
    refine z_getS (v := 43) (k := 5) (kz := 5) pk10 dX10_rollAsOf_36 (by decide) zb_462 rfl (zOb.lit (by decide +kernel)) rfl (by decide +kernel) ?_
    refine z_iload 3 dX10_rollAsOf_39 rfl ?_
    refine z_aaldSR (v := (113 + 14 * i)) dX10_rollAsOf_41 (zOb.lit (by decide +kernel)) (show 0 ≤ i ∧ i < 4 from ⟨by omega, by omega⟩).1 (show 0 ≤ i ∧ i < 4 from ⟨by omega, by omega⟩).2 (zRF_rolls (show 0 ≤ i ∧ i < 4 from ⟨by omega, by omega⟩).1 (show 0 ≤ i ∧ i < 4 from ⟨by omega, by omega⟩).2) ?_
    refine z_aload_n 0 dX10_rollAsOf_42 rfl ?_
    refine z_getS (v := 3) (k := 1) (kz := 1) pk10 dX10_rollAsOf_43 (by decide) zb_458 rfl (zOb.lit (by decide +kernel)) rfl (by decide +kernel) ?_
    refine z_aload_n 0 dX10_rollAsOf_46 rfl ?_
    refine z_iload 3 dX10_rollAsOf_47 rfl ?_
    refine z_iload_n 2 dX10_rollAsOf_49 rfl ?_
    refine z_invF (ci := 10) (N := 17) (as := [xI i, xI t]) (st := [xR 3, xR (113 + 14 * i)]) (ra := [xI t, xI i]) (dep' := dep - 1) (rs := [xR (zbest g i t (g 0 11).toNat)]) (h' := g) (f_X10_lawFor i t (h := g) hn (show 0 ≤ i ∧ i < 4 from ⟨by omega, by omega⟩)) dX10_rollAsOf_50 nX10_lawFor zb_869 zb_871 zb_21 zb_82 (zOb.lit (by decide +kernel)) rfl (by omega) zne_R (Nat.le_of_ble_eq_true rfl) (Nat.le_of_ble_eq_true rfl) rfl ?_
    exact k2 c1

set_option maxRecDepth 20000 in
theorem rX10_rollAsOf_53 {X : zX} {dep bc bs : Nat} (l : Int) (t : Int) (i : Int) {g : zH} {Q : Nat → zH → List zV → Prop} {P : zH → Prop} (hi : 0 ≤ i ∧ i < 4)
    (hZ : zW mX6_draw X (dep - 1) 0 0 239 0 (zar 0 [xR (113 + 14 * i), xR 3, xR (zbest g i t (g 0 11).toNat)]) [] g (zQ0 P)) (hdep : 1 ≤ dep)
    (k : ∀ g : zH, P g → zW mX10_rollAsOf X dep bc bs 239 56 [(0, xR 0), (1, xI l), (2, xI t), (4, xI i)] [] g Q) : zW mX10_rollAsOf X dep bc bs 239 53 [(0, xR 0), (1, xI l), (2, xI t), (4, xI i)] [xR (zbest g i t (g 0 11).toNat), xR 3, xR (113 + 14 * i)] g Q :=
  z_invQ0 (ci := 6) (N := 13) (as := [xR 3, xR (zbest g i t (g 0 11).toNat)]) (st := []) (ra := [xR (zbest g i t (g 0 11).toNat), xR 3]) hZ dX10_rollAsOf_53 nX6_draw zb_873 zb_874 zb_875 zb_90 (zRollO_rolls hi.1 hi.2).1 rfl (by omega) (Nat.le_of_ble_eq_true rfl) (Nat.le_of_ble_eq_true rfl) rfl (fun g hg => k g hg)

set_option maxRecDepth 20000 in
theorem bX10_rollAsOf_56 {X : zX} {dep bc bs : Nat} (l : Int) (t : Int) (i : Int) {g : zH} {Q : Nat → zH → List zV → Prop} (hi : 0 ≤ i ∧ i < 4)
    (k1 : zW mX10_rollAsOf X dep bc bs 239 29 [(0, xR 0), (1, xI l), (2, xI t), (4, xI (i + 1))] [] g Q) : zW mX10_rollAsOf X dep bc bs 239 56 [(0, xR 0), (1, xI l), (2, xI t), (4, xI i)] [] g Q := by
  refine z_iincN (lv' := [(4, xI (i + 1)), (0, xR 0), (1, xI l), (2, xI t)]) 3 dX10_rollAsOf_56 rfl (by decide) rfl (show -2147483648 ≤ i + 1 ∧ i + 1 < 2147483648 from ⟨by omega, by omega⟩).1 (show -2147483648 ≤ i + 1 ∧ i + 1 < 2147483648 from ⟨by omega, by omega⟩).2 ?_
  refine z_goto (tgt := 29) dX10_rollAsOf_59 (by decide) ?_
  refine zW.sub (lv' := [(0, xR 0), (1, xI l), (2, xI t), (4, xI (i + 1))]) [1, 2, 3, 0] rfl ?_
  exact k1

/-- what is kept between calls -/
def zBase (h : zH) : Prop := zMenOK h ∧ zSameOK h ∧ zBirthOK h ∧ zLedsOK h ∧ (∀ i : Int, 0 ≤ i → i < h 0 11 → zLawOK h (65 + 6 * i) ∧ zClsOK h (65 + 6 * i)) ∧ (zLawOK h 36 ∧ zClsOK h 36) ∧ (∀ l : Int, 0 ≤ l → l < 4 → zRollOK h (113 + 14 * l)) ∧ (0 ≤ h 0 11 ∧ h 0 11 ≤ 8) ∧ 0 ≤ h 0 12 ∧ h 0 12 ≤ 4
/-- what looking and drawing write -/
abbrev zKS : Int → Prop := fun q => q = 3 ∨ 17 ≤ q ∧ q ≤ 23 ∨ 113 ≤ q ∧ q ≤ 168 ∧ ((q - 113) % 14 = 0 ∨ 4 ≤ (q - 113) % 14)
def zKept (h g : zH) : Prop := zap zKS h g ∧ (∀ k : Int, k ≠ 9 → g 3 k = h 3 k) ∧ ∀ l k : Int, 0 ≤ l → l < 4 → k ≠ 10 → g (113 + 14 * l) k = h (113 + 14 * l) k
theorem zKept.rf (h : zH) : zKept h h := ⟨zap.rf _ h, fun _ _ => rfl, fun _ _ _ _ _ => rfl⟩
theorem zKept.tr {h g f : zH} (a : zKept h g) (b : zKept g f) : zKept h f := ⟨a.1.tr b.1, fun k hk => (b.2.1 k hk).trans (a.2.1 k hk), fun l k l0 l1 hk => (b.2.2 l k l0 l1 hk).trans (a.2.2 l k l0 l1 hk)⟩
theorem zRollOK.ap {S : Int → Prop} {h g : zH} (a : zap S h g) {o : Int} (h1 : ¬ S (o + 1)) (h2 : ¬ S (o + 2)) (h3 : ¬ S (o + 3)) (h12 : ∀ q : Int, 0 ≤ q → q < 60 → -1 ≤ g (o + 12) q ∧ g (o + 12) q < 60) (w : zRollOK h o) : zRollOK g o :=
  ⟨zPick_ap a h2 h3 w.1, by rw [a (o + 1) _ h1]; exact w.2.1, by rw [a (o + 1) _ h1]; exact w.2.2.1, h12⟩
theorem zBase.kept {h g : zH} (a : zKept h g) (hr : ∀ l : Int, 0 ≤ l → l < 4 → zRollOK g (113 + 14 * l)) (w : zBase h) : zBase g := by
  have e3 := a.2.1 0 (by omega)
  have n : ∀ q : Int, q < 3 ∨ 3 < q ∧ q < 17 ∨ 23 < q ∧ q < 113 → ¬ zKS q := fun q hq z => by simp only [zKS] at z; omega
  obtain ⟨w1, w2, w3, ⟨w4, w5, w6⟩, w7, w8, w9, w10, w11⟩ := w
  refine ⟨?_, ?_, ?_, ⟨?_, ?_, ?_⟩, fun i i0 i1 => ?_, ?_, hr, ?_, ?_⟩
  · unfold zMenOK
    simp only [e3, a.1 4 _ (n 4 (by omega)), a.1 5 _ (n 5 (by omega)), a.1 6 _ (n 6 (by omega))]
    exact w1
  · unfold zSameOK
    simp only [e3, a.1 13 _ (n 13 (by omega)), zget_ap a.1 (n 13 (by omega)) (n (13 + 1) (by omega))]
    exact w2
  · unfold zBirthOK
    simp only [e3, a.1 7 _ (n 7 (by omega)), zget_ap a.1 (n 7 (by omega)) (n (7 + 1) (by omega))]
    exact w3
  · unfold zFactOK
    simp only [e3, a.1 9 _ (n 9 (by omega)), zget_ap a.1 (n 9 (by omega)) (n (9 + 1) (by omega))]
    exact w4
  · unfold zExamOK
    simp only [e3, a.1 11 _ (n 11 (by omega)), zget_ap a.1 (n 11 (by omega)) (n (11 + 1) (by omega))]
    exact w5
  · unfold zSendOK
    simp only [e3, a.1 15 _ (n 15 (by omega)), zget_ap a.1 (n 15 (by omega)) (n (15 + 1) (by omega))]
    exact w6
  · rw [a.1 0 11 (n 0 (by omega))] at i1
    exact ⟨zLawOK_ap a.1 (n _ (by omega)) (n _ (by omega)) (n _ (by omega)) (w7 i i0 i1).1, zClsOK_ap a.1 (n _ (by omega)) (n _ (by omega)) (n _ (by omega)) (w7 i i0 i1).2⟩
  · exact ⟨zLawOK_ap a.1 (n _ (by omega)) (n _ (by omega)) (n _ (by omega)) w8.1, zClsOK_ap a.1 (n _ (by omega)) (n _ (by omega)) (n _ (by omega)) w8.2⟩
  · rw [a.1 0 _ (n 0 (by omega))]; exact w10
  · rw [a.1 0 _ (n 0 (by omega))]; exact w11
theorem zbest_ap {S : Int → Prop} {h g : zH} (a : zap S h g) {l t : Int} (h36 : ¬ S 36) (hl : ¬ S (113 + 14 * l + 1)) : ∀ {k : Nat}, (∀ i : Int, 0 ≤ i → i < k → ¬ S (65 + 6 * i)) → zbest g l t k = zbest h l t k
  | 0, _ => rfl
  | k + 1, hk => by
    have e := zbest_ap a h36 hl (t := t) (k := k) (fun i i0 i1 => hk i i0 (by omega))
    have n : ¬ S (zbest h l t k) := by
      rcases zbest_is h l t k with q | ⟨i, e1, e2, e3⟩
      · rw [q]; exact h36
      · rw [e3]; exact hk i e1 (by omega)
    unfold zbest
    rw [e, a _ _ (hk k (by omega) (by omega)), a _ _ hl, a _ _ n, a _ _ (hk k (by omega) (by omega))]
theorem zbest_K {h g : zH} (a : zKept h g) {l t : Int} (hl : 0 ≤ l ∧ l < 4) {k : Nat} (hk : k ≤ 8) : zbest g l t k = zbest h l t k :=
  zbest_ap a.1 (by simp only [zKS]; omega) (by simp only [zKS]; omega) (fun i i0 i1 => by simp only [zKS]; omega)
theorem zPeo_of {h g : zH} {t : Int} (w : zBase h) (a : zag [17, 18, 19, 20, 21, 22, 23] (zst h 3 9 t) g) (b : zLook h g (zknown h 13 t).toNat (zknown h 7 t).toNat (h 3 0).toNat) : zPeo g ∧ zKept h g := by
  have hm := w.1
  have k7 := zknown_le (h := h) (o := 7) (t := t) w.2.2.1.1.1
  have e : ∀ q k : Int, q ∉ [17, 18, 19, 20, 21, 22, 23] → q ≠ 3 ∨ k ≠ 9 → g q k = h q k := fun q k hq hk => (a q k hq).trans (zst_ne hk)
  have e3 := e 3 0 (by decide) (Or.inr (by omega))
  refine ⟨⟨?_, fun m m0 m1 => ?_⟩, ⟨fun q k hq => e q k (fun z => hq ?_) (Or.inl (fun z => hq (Or.inl z))), fun k hk => e 3 k (by decide) (Or.inr hk), fun l k l0 l1 hk => e _ k (fun z => ?_) (Or.inl (by omega))⟩⟩
  · unfold zMenOK
    rw [e3]
    simp only [e 4 _ (by decide) (Or.inl (by omega)), e 5 _ (by decide) (Or.inl (by omega)), e 6 _ (by decide) (Or.inl (by omega))]
    exact hm
  · rw [e3] at m1
    have b1 := (b.1 m m0 m1).2.2
    have f1 := (hm.2 m m0 m1).1
    have b2 := b.2.2.1 (h 5 m) f1.1 f1.2
    have c := zcnt_in (fun q => zthere h (zknown h 13 t).toNat (zknown h 7 t).toNat q ∧ h 5 q = h 5 m) (h 3 0).toNat
    have c2 := zbw_in w.2.2.1 (zknown h 7 t).toNat (by omega) m
    have h3 := hm.1
    rw [b1, e 5 m (by decide) (Or.inl (by omega)), b2]
    exact ⟨c2, by omega, by omega⟩
  · simp only [List.mem_cons, List.not_mem_nil, or_false] at z
    simp only [zKS]
    omega
  · simp only [List.mem_cons, List.not_mem_nil, or_false] at z
    omega
/-- rolls drawn one behind the other -/
def zRolls (L : Int → Int) (g0 : zH) (f : Int) : Nat → zH → Prop
  | 0, g => g = g0
  | k + 1, g => ∃ e, zRolls L g0 f k e ∧ zDrawn e (113 + 14 * (f + k)) (L (f + k)) g
/-- the state behind the drawing of lot l as known as of t -/
def zRolled (h : zH) (l t : Int) (g : zH) : Prop := zBase g ∧ zKept h g ∧ ∃ g0 : zH, (zag [17, 18, 19, 20, 21, 22, 23] (zst h 3 9 t) g0 ∧ zLook h g0 (zknown h 13 t).toNat (zknown h 7 t).toNat (h 3 0).toNat) ∧
  zRolls (fun j => zbest h j t (h 0 11).toNat) g0 (if h (zbest h l t (h 0 11).toNat) 5 = 0 then l else 0) (l + 1 - if h (zbest h l t (h 0 11).toNat) 5 = 0 then l else 0).toNat g
theorem zDrawn.kept {h g : zH} {l L : Int} (hl : 0 ≤ l ∧ l < 4) (a : zDrawn h (113 + 14 * l) L g) : zKept h g := by
  refine ⟨a.1.1.mono (fun q z => ?_), fun k _ => a.1.1 3 k (by simp only [zDS]; omega), fun j k j0 j1 hk => ?_⟩
  · simp only [zDS] at z
    simp only [zKS]
    omega
  · by_cases e : j = l
    · rw [e]; exact a.1.2 k hk
    · exact a.1.1 _ k (by simp only [zDS]; omega)
theorem zDrawn.base {h g : zH} {l L : Int} (hl : 0 ≤ l ∧ l < 4) (a : zDrawn h (113 + 14 * l) L g) (w : zBase h) : zBase g := by
  refine w.kept (a.kept hl) (fun j j0 j1 => ?_)
  by_cases e : j = l
  · rw [e]
    exact (w.2.2.2.2.2.2.1 l hl.1 hl.2).ap a.1.1 (by simp only [zDS]; omega) (by simp only [zDS]; omega) (by simp only [zDS]; omega) a.2.2.2.2.2.2.1
  · exact (w.2.2.2.2.2.2.1 j j0 j1).ap a.1.1 (by simp only [zDS]; omega) (by simp only [zDS]; omega) (by simp only [zDS]; omega) (fun q q0 q1 => by
      rw [a.1.1 _ q (by simp only [zDS]; omega)]
      exact (w.2.2.2.2.2.2.1 j j0 j1).2.2.2 q q0 q1)
theorem zDrawn.peo {h g : zH} {l L : Int} (hl : 0 ≤ l ∧ l < 4) (a : zDrawn h (113 + 14 * l) L g) (w : zPeo h) : zPeo g := by
  have n : ∀ q : Int, q < 23 → ¬ zDS (113 + 14 * l) q := fun q hq z => by simp only [zDS] at z; omega
  unfold zPeo zMenOK
  simp only [a.1.1 3 _ (n 3 (by omega)), a.1.1 4 _ (n 4 (by omega)), a.1.1 5 _ (n 5 (by omega)), a.1.1 6 _ (n 6 (by omega)), a.1.1 19 _ (n 19 (by omega)), a.1.1 21 _ (n 21 (by omega))]
  exact w
theorem l_X10_rollAsOf_29 {X : zX} {dep : Nat} (l t : Int) {h g0 : zH} (hl : 0 ≤ l ∧ l < 4) (w : zBase h) (k0 : zKept h g0) (hg0 : zag [17, 18, 19, 20, 21, 22, 23] (zst h 3 9 t) g0 ∧ zLook h g0 (zknown h 13 t).toNat (zknown h 7 t).toNat (h 3 0).toNat) (f : Int) (hf : f = if h (zbest h l t (h 0 11).toNat) 5 = 0 then l else 0) (hdep : 5 ≤ dep) :
    ∀ (k j : Nat) (g : zH), f + (j : Int) + k = l + 1 → zBase g → zPeo g → zKept h g → zRolls (fun j => zbest h j t (h 0 11).toNat) g0 f j g → zW mX10_rollAsOf X dep 0 0 239 29 [(0, xR 0), (1, xI l), (2, xI t), (4, xI (f + j))] [] g (zQR (fun v g => v = 113 + 14 * l ∧ zRolled h l t g)) := by
  have hn := w.2.2.2.2.2.2.2.1
  have f0 : 0 ≤ f ∧ f ≤ l := by rw [hf]; split <;> omega
  intro k
  induction k with
  | zero =>
    intro j g hk wg pg kg rg
    have e11 := kg.1 0 11 (by simp only [zKS]; omega)
    refine bX10_rollAsOf_29 l t (f + j) (by rw [e11]; exact hn) hl (by omega) (fun q => (zbest_O g q t (by omega)).1) (by omega) (fun c => ?_) (fun c => ?_)
    · refine ⟨rfl, _, rfl, rfl, wg, kg, g0, hg0, ?_⟩
      rw [← hf, show (l + 1 - f).toNat = j by omega]
      exact rg
    · exfalso; omega
  | succ k ih =>
    intro j g hk wg pg kg rg
    have e11 := kg.1 0 11 (by simp only [zKS]; omega)
    refine bX10_rollAsOf_29 l t (f + j) (by rw [e11]; exact hn) hl (by omega) (fun q => (zbest_O g q t (by omega)).1) (by omega) (fun c => ?_) (fun c => ?_)
    · exfalso; omega
    · rw [e11, zbest_K kg (l := f + j) (by omega) (by omega)]
      have bo := zbest_O h (f + j) t (k := (h 0 11).toNat) (by omega)
      have bk : zLawOK g (zbest h (f + j) t (h 0 11).toNat) ∧ zClsOK g (zbest h (f + j) t (h 0 11).toNat) := by
        rcases zbest_is h (f + j) t (h 0 11).toNat with e | ⟨i, e1, e2, e3⟩
        · rw [e]; exact wg.2.2.2.2.2.1
        · rw [e3]; exact wg.2.2.2.2.1 i e1 (by omega)
      have rr := rX10_rollAsOf_53 (X := X) (dep := dep) (bc := 0) (bs := 0) (Q := zQR (fun v g => v = 113 + 14 * l ∧ zRolled h l t g)) l t (f + j) (g := g) (P := zDrawn g (113 + 14 * (f + j)) (zbest h (f + j) t (h 0 11).toNat)) (by omega)
      rw [e11, zbest_K kg (l := f + j) (by omega) (by omega)] at rr
      refine rr (f_X6_draw _ _ (zRollO_rolls (by omega) (by omega)) (by omega) bo.1 bo.2 (by omega) bk.1 bk.2 pg (wg.2.2.2.2.2.2.1 _ (by omega) (by omega)) wg.2.2.2.1 (by omega)) (by omega) (fun e he => ?_)
      refine bX10_rollAsOf_56 l t (f + j) (by omega) ?_
      have ih1 := ih (j + 1) e (by omega) (he.base (by omega) wg) (he.peo (by omega) pg) (kg.tr (he.kept (by omega))) ⟨g, rg, he⟩
      rw [show f + ((j + 1 : Nat) : Int) = f + (j : Int) + 1 by omega] at ih1
      exact ih1
theorem f_X10_rollAsOf {X : zX} {dep : Nat} (l t : Int) {h : zH} (hl : 0 ≤ l ∧ l < 4) (w : zBase h) (hdep : 5 ≤ dep) : zW mX10_rollAsOf X dep 0 0 239 0 (zar 0 [xR 0, xI l, xI t]) [] h (zQR (fun v g => v = 113 + 14 * l ∧ zRolled h l t g)) := by
  have hn := w.2.2.2.2.2.2.2.1
  refine bX10_rollAsOf_0 l t ?_
  refine rX10_rollAsOf_5 l t (f_X4_look t w.1 w.2.1 w.2.2.1 (by omega)) (by omega) (fun g hg => ?_)
  obtain ⟨pg, kg⟩ := zPeo_of w hg.1 hg.2
  have wg : zBase g := w.kept kg (fun j j0 j1 => (w.2.2.2.2.2.2.1 j j0 j1).ap kg.1 (by simp only [zKS]; omega) (by simp only [zKS]; omega) (by simp only [zKS]; omega) (fun q q0 q1 => by
    have : g (113 + 14 * j + 12) q = h (113 + 14 * j + 12) q := (hg.1 _ q (fun z => by simp only [List.mem_cons, List.not_mem_nil, or_false] at z; omega)).trans (zst_ne (Or.inl (by omega)))
    rw [this]
    exact (w.2.2.2.2.2.2.1 j j0 j1).2.2.2 q q0 q1))
  have e11 := kg.1 0 11 (by simp only [zKS]; omega)
  have bo := zbest_O h l t (k := (h 0 11).toNat) (by omega)
  have e5 : g (zbest h l t (h 0 11).toNat) 5 = h (zbest h l t (h 0 11).toNat) 5 := kg.1 _ 5 (by simp only [zKS]; omega)
  refine bX10_rollAsOf_8 l t (by rw [e11]; exact hn) hl (fun q => (zbest_O g q t (by omega)).1) (by omega) (fun c => ?_) (fun c => ?_)
  all_goals rw [e11, zbest_K kg hl (by omega), e5] at c
  · have go := l_X10_rollAsOf_29 (X := X) (dep := dep) l t hl w kg hg l (by rw [if_pos c]) hdep 1 0 g (by omega) wg pg kg rfl
    rw [show l + ((0 : Nat) : Int) = l by omega] at go
    exact go
  · have go := l_X10_rollAsOf_29 (X := X) (dep := dep) l t hl w kg hg 0 (by rw [if_neg c]) hdep (l + 1).toNat 0 g (by omega) wg pg kg rfl
    exact go
