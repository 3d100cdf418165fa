/-! the ledgers -/
/-- a row's number; 0 where there is none -/
def zget (h : zH) (o r c : Int) : Int := if 0 ≤ r ∧ r < h o 2 ∧ 0 ≤ c ∧ c < 6 then h (o + 1) (r * 6 + c) else 0
/-- how many of the first k rows are known as of t, from the last one down -/
def zkn (h : zH) (o t : Int) : Nat → Int
  | 0 => 0
  | k + 1 => if h (o + 1) (k * 6) ≤ t then k + 1 else zkn h o t k
def zknown (h : zH) (o t : Int) : Int := zkn h o t (h o 2).toNat

set_option maxRecDepth 20000 in
theorem bX2_get_0 {X : zX} {dep bc bs : Nat} {N : Nat} (o : Int) (r : Int) (c : Int) {h : zH} {Q : Nat → zH → List zV → Prop} (ho : zLedO o N) (hN : 0 ≤ h o 2 ∧ h o 2 ≤ 240 ∧ 6 * h o 2 ≤ N ∧ N ≤ 1440)
    (k1 : r < 0 → Q 239 h [xI 0])
    (k2 : ¬ (r < 0) → (h o 2) ≤ r → Q 239 h [xI 0])
    (k3 : ¬ (r < 0) → ¬ ((h o 2) ≤ r) → c < 0 → Q 239 h [xI 0])
    (k4 : ¬ (r < 0) → ¬ ((h o 2) ≤ r) → ¬ (c < 0) → c < 6 → Q 239 h [xI (h (o + 1) ((r * 6) + c))])
    (k5 : ¬ (r < 0) → ¬ ((h o 2) ≤ r) → ¬ (c < 0) → ¬ (c < 6) → Q 239 h [xI 0]) : zW mX2_get X dep bc bs 239 0 [(0, xR o), (1, xI r), (2, xI c)] [] h Q := by
  refine z_iload_n 1 dX2_get_0 rfl ?_
  refine z_if_lt (tgt := 22) dX2_get_1 (by decide) (fun c1 => ?_) (fun c1 => ?_)
  ·
    refine z_iconst dX2_get_22 (zi32_d rfl) ?_
    exact z_iret dX2_get_23 rfl (k1 c1)
  ·
    refine z_iload_n 1 dX2_get_4 rfl ?_
    refine z_aload_n 0 dX2_get_5 rfl ?_
    refine z_getI (k := 2) (kz := 2) pk2 dX2_get_6 (by decide) zb_144 rfl ho.1 rfl ?_
    refine z_icmp_ge (tgt := 22) dX2_get_9 (by decide) (fun c2 => ?_) (fun c2 => ?_)
    ·
      refine z_iconst dX2_get_22 (zi32_d rfl) ?_
      exact z_iret dX2_get_23 rfl (k2 c1 c2)
    ·
      refine z_iload_n 2 dX2_get_12 rfl ?_
      refine z_if_lt (tgt := 22) dX2_get_13 (by decide) (fun c3 => ?_) (fun c3 => ?_)
      ·
        refine z_iconst dX2_get_22 (zi32_d rfl) ?_
        exact z_iret dX2_get_23 rfl (k3 c1 c2 c3)
      ·
        refine z_iload_n 2 dX2_get_16 rfl ?_
        refine z_bipush dX2_get_17 (zi32_d rfl) (by decide) ?_
        refine z_icmp_lt (tgt := 24) dX2_get_19 (by decide) (fun c4 => ?_) (fun c4 => ?_)
        ·
          refine z_aload_n 0 dX2_get_24 rfl ?_
          refine z_getS (v := (o + 1)) (k := 0) (kz := 0) pk2 dX2_get_25 (by decide) zb_142 rfl ho.1 rfl ho.2.2 ?_
          refine z_iload_n 1 dX2_get_28 rfl ?_
          refine z_bipush dX2_get_29 (zi32_d rfl) (by decide) ?_
          refine z_imulN dX2_get_31 (show -2147483648 ≤ r * 6 ∧ r * 6 < 2147483648 from ⟨by omega, by omega⟩).1 (show -2147483648 ≤ r * 6 ∧ r * 6 < 2147483648 from ⟨by omega, by omega⟩).2 ?_
          refine z_iload_n 2 dX2_get_32 rfl ?_
          refine z_iaddN dX2_get_33 (show -2147483648 ≤ (r * 6) + c ∧ (r * 6) + c < 2147483648 from ⟨by omega, by omega⟩).1 (show -2147483648 ≤ (r * 6) + c ∧ (r * 6) + c < 2147483648 from ⟨by omega, by omega⟩).2 ?_
          refine z_iald dX2_get_34 ho.2.1 (show 0 ≤ ((r * 6) + c) ∧ ((r * 6) + c) < N from ⟨by omega, by omega⟩).1 (show 0 ≤ ((r * 6) + c) ∧ ((r * 6) + c) < N from ⟨by omega, by omega⟩).2 ?_
          exact z_iret dX2_get_35 rfl (k4 c1 c2 c3 c4)
        ·
          refine z_iconst dX2_get_22 (zi32_d rfl) ?_
          exact z_iret dX2_get_23 rfl (k5 c1 c2 c3 c4)
theorem f_X2_get {X : zX} {dep : Nat} {N : Nat} (o : Int) (r : Int) (c : Int) {h : zH} (ho : zLedO o N) (hN : 0 ≤ h o 2 ∧ h o 2 ≤ 240 ∧ 6 * h o 2 ≤ N ∧ N ≤ 1440) : zW mX2_get X dep 0 0 239 0 (zar 0 [xR o, xI r, xI c]) [] h (zF h [xI (zget h o r c)]) := by
  refine bX2_get_0 o r c ho hN ?_ ?_ ?_ ?_ ?_
  all_goals intros
  all_goals refine ⟨rfl, rfl, ?_⟩
  all_goals congr 2
  all_goals unfold zget
  all_goals (repeat' split) <;> first | rfl | omega

set_option maxRecDepth 20000 in
theorem bX2_knownBy_5 {X : zX} {dep bc bs : Nat} {N : Nat} (i : Int) (o : Int) (t : Int) {h : zH} {Q : Nat → zH → List zV → Prop} (ho : zLedO o N) (hN : 0 ≤ h o 2 ∧ h o 2 ≤ 240 ∧ 6 * h o 2 ≤ N ∧ N ≤ 1440) (hi : 0 ≤ i ∧ i ≤ h o 2) (hdep : 1 ≤ dep)
    (k1 : i ≤ 0 → Q 239 h [xI i])
    (k2 : ¬ (i ≤ 0) → (zget h o (i - 1) 0) ≤ t → Q 239 h [xI i])
    (k3 : ¬ (i ≤ 0) → ¬ ((zget h o (i - 1) 0) ≤ t) → zW mX2_knownBy X dep bc bs 239 5 [(2, xI (i + (-1))), (0, xR o), (1, xI t)] [] h Q) : zW mX2_knownBy X dep bc bs 239 5 [(2, xI i), (0, xR o), (1, xI t)] [] h Q := by
  refine z_iload_n 0 dX2_knownBy_5 rfl ?_
  refine z_if_le (tgt := 27) dX2_knownBy_6 (by decide) (fun c1 => ?_) (fun c1 => ?_)
  ·
    refine z_iload_n 0 dX2_knownBy_27 rfl ?_
    exact z_iret dX2_knownBy_28 rfl (k1 c1)
  ·
    refine z_aload_n 1 dX2_knownBy_9 rfl ?_
    refine z_iload_n 0 dX2_knownBy_10 rfl ?_
    refine z_iconst dX2_knownBy_11 (zi32_d rfl) ?_
    refine z_isubN dX2_knownBy_12 (show -2147483648 ≤ i - 1 ∧ i - 1 < 2147483648 from ⟨by omega, by omega⟩).1 (show -2147483648 ≤ i - 1 ∧ i - 1 < 2147483648 from ⟨by omega, by omega⟩).2 ?_
    refine z_iconst dX2_knownBy_13 (zi32_d rfl) ?_
    refine z_invF (ci := 2) (N := 3) (as := [xI (i - 1), xI 0]) (st := []) (ra := [xI 0, xI (i - 1)]) (dep' := dep - 1) (rs := [xI (zget h o (i - 1) 0)]) (h' := h) (f_X2_get o (i - 1) 0 (h := h) ho hN) dX2_knownBy_14 nX2_get zb_829 zb_830 zb_831 zb_85 ho.1 rfl (by omega) zne_I (Nat.le_of_ble_eq_true rfl) (Nat.le_of_ble_eq_true rfl) rfl ?_
    refine z_iload_n 2 dX2_knownBy_17 rfl ?_
    refine z_icmp_le (tgt := 27) dX2_knownBy_18 (by decide) (fun c2 => ?_) (fun c2 => ?_)
    ·
      refine z_iload_n 0 dX2_knownBy_27 rfl ?_
      exact z_iret dX2_knownBy_28 rfl (k2 c1 c2)
    ·
      refine z_iincN (lv' := [(2, xI (i + (-1))), (0, xR o), (1, xI t)]) 0 dX2_knownBy_21 rfl (by decide) rfl (show -2147483648 ≤ i + (-1) ∧ i + (-1) < 2147483648 from ⟨by omega, by omega⟩).1 (show -2147483648 ≤ i + (-1) ∧ i + (-1) < 2147483648 from ⟨by omega, by omega⟩).2 ?_
      refine z_goto (tgt := 5) dX2_knownBy_24 (by decide) ?_
      exact k3 c1 c2

theorem l_X2_knownBy {X : zX} {dep : Nat} {N : Nat} (o : Int) (t : Int) {h : zH} (ho : zLedO o N) (hN : 0 ≤ h o 2 ∧ h o 2 ≤ 240 ∧ 6 * h o 2 ≤ N ∧ N ≤ 1440) (hdep : 1 ≤ dep) : ∀ k : Nat, (k : Int) ≤ h o 2 → zW mX2_knownBy X dep 0 0 239 5 [(2, xI k), (0, xR o), (1, xI t)] [] h (zF h [xI (zkn h o t k)])
  | 0, hk => by
    refine bX2_knownBy_5 _ o t ho hN ⟨by omega, hk⟩ hdep ?_ ?_ ?_
    all_goals intros
    all_goals first | (exact ⟨rfl, rfl, rfl⟩) | (exfalso; omega)
  | k + 1, hk => by
    have hz : zget h o (((k + 1 : Nat) : Int) - 1) 0 = h (o + 1) (k * 6) := by
      unfold zget
      rw [if_pos (by omega)]
      congr 1
      omega
    have e1 : (((k + 1 : Nat) : Int) - 1) = k := by omega
    have e2 : zkn h o t (k + 1) = if h (o + 1) (k * 6) ≤ t then ((k + 1 : Nat) : Int) else zkn h o t k := rfl
    refine bX2_knownBy_5 _ o t ho hN ⟨by omega, hk⟩ hdep ?_ ?_ ?_
    · intro c
      exfalso
      omega
    · intro c1 c2
      rw [hz] at c2
      rw [e2, if_pos c2]
      exact ⟨rfl, rfl, rfl⟩
    · intro c1 c2
      rw [hz] at c2
      rw [e2, if_neg c2]
      have ih := l_X2_knownBy (X := X) (dep := dep) o t ho hN hdep k (by omega)
      rw [show (((k + 1 : Nat) : Int) + (-1)) = k by omega]
      exact ih

set_option maxRecDepth 20000 in
theorem bX2_knownBy_0 {X : zX} {dep bc bs : Nat} {N : Nat} (o : Int) (t : Int) {h : zH} {Q : Nat → zH → List zV → Prop} (ho : zLedO o N) (hN : 0 ≤ h o 2 ∧ h o 2 ≤ 240 ∧ 6 * h o 2 ≤ N ∧ N ≤ 1440)
    (k1 : zW mX2_knownBy X dep bc bs 239 5 [(2, xI (h o 2)), (0, xR o), (1, xI t)] [] h Q) : zW mX2_knownBy X dep bc bs 239 0 [(0, xR o), (1, xI t)] [] h Q := by
  refine z_aload_n 0 dX2_knownBy_0 rfl ?_
  refine z_getI (k := 2) (kz := 2) pk2 dX2_knownBy_1 (by decide) zb_144 rfl ho.1 rfl ?_
  refine z_istore_n (lv' := [(2, xI (h o 2)), (0, xR o), (1, xI t)]) dX2_knownBy_4 (by decide) rfl ?_
  exact k1

theorem f_X2_knownBy {X : zX} {dep : Nat} {N : Nat} (o : Int) (t : Int) {h : zH} (ho : zLedO o N) (hN : 0 ≤ h o 2 ∧ h o 2 ≤ 240 ∧ 6 * h o 2 ≤ N ∧ N ≤ 1440) (hdep : 1 ≤ dep) : zW mX2_knownBy X dep 0 0 239 0 (zar 0 [xR o, xI t]) [] h (zF h [xI (zknown h o t)]) := by
  refine bX2_knownBy_0 o t ho hN ?_
  have := l_X2_knownBy (X := X) (dep := dep) o t ho hN hdep (h o 2).toNat (by omega)
  rw [show (((h o 2).toNat : Nat) : Int) = h o 2 by omega] at this
  exact this
