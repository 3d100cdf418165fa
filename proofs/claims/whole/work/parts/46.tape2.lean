/-! bits of picks -/
theorem zamt : ∀ p : Fin 64, (((Int32.ofInt ((p.val : Nat) : Int)).toInt64 &&& 63).toBitVec.smod 64) = BitVec.ofNat 64 p.val := by decide +kernel
theorem zamtI {p : Int} (h0 : 0 ≤ p) (h1 : p < 64) : (((Int32.ofInt p).toInt64 &&& 63).toBitVec.smod 64) = BitVec.ofNat 64 p.toNat := by
  have := zamt ⟨p.toNat, by omega⟩
  simp only [show ((p.toNat : Nat) : Int) = p by omega] at this
  exact this
def zbitv (s : Int) (b : Nat) : Bool := (Int64.ofInt s).toBitVec.getLsbD b
theorem zand1 (v : BitVec 64) : (v &&& 1#64).toInt = 1 ↔ v.getLsbD 0 = true := by
  rw [BitVec.and_one_eq_setWidth_ofBool_getLsbD]
  cases v.getLsbD 0 <;> decide
theorem zbit_iff {s b : Int} (h0 : 0 ≤ b) (h1 : b < 64) : zland (zlshr s b) 1 = 1 ↔ zbitv s b.toNat = true := by
  unfold zland zlshr zbitv
  rw [Int64.ofInt_toInt, ← Int64.toInt_toBitVec, Int64.toBitVec_and, Int64.toBitVec_shiftRight, zamtI h0 h1]
  rw [show (Int64.ofInt 1).toBitVec = 1#64 by decide, zand1]
  unfold BitVec.sshiftRight'
  rw [BitVec.getLsbD_sshiftRight]
  rw [show (BitVec.ofNat 64 b.toNat).toNat = b.toNat by rw [BitVec.toNat_ofNat]; omega]
  simp
  intro z
  omega
theorem zbit_or {s p : Int} (h0 : 0 ≤ p) (h1 : p < 64) (b : Nat) (hb : b < 64) : zbitv (zlor s (zlshl 1 p)) b = (zbitv s b || decide (b = p.toNat)) := by
  unfold zbitv zlor zlshl
  rw [Int64.ofInt_toInt, Int64.toBitVec_or, Int64.ofInt_toInt, Int64.toBitVec_shiftLeft, zamtI h0 h1, BitVec.getLsbD_or]
  congr 1
  rw [show (Int64.ofInt 1).toBitVec = 1#64 by decide]
  rw [BitVec.shiftLeft_eq', BitVec.getLsbD_shiftLeft]
  rw [show (BitVec.ofNat 64 p.toNat).toNat = p.toNat by rw [BitVec.toNat_ofNat]; omega, BitVec.getLsbD_one]
  by_cases e : b = p.toNat
  · simp [e]; omega
  · simp [e]; omega
theorem zbit_0 (b : Nat) : zbitv 0 b = false := by
  unfold zbitv
  rw [show (Int64.ofInt 0).toBitVec = 0#64 by decide]
  simp

set_option maxRecDepth 20000 in
theorem bX7_holdsPicks_0 {X : zX} {dep bc bs : Nat} (n : Int) {h : zH} {Q : Nat → zH → List zV → Prop} (ht : 0 ≤ h 1 1 ∧ h 1 1 ≤ 340) (hn : n = 52 ∨ n = 26)
    (k1 : (h 1 1) = n → zW mX7_holdsPicks X dep bc bs 239 15 [(0, xR 1), (1, xI n), (2, xL 0), (4, xI 0)] [] h Q)
    (k2 : ¬ ((h 1 1) = n) → Q 239 h [xI 0]) : zW mX7_holdsPicks X dep bc bs 239 0 [(0, xR 1), (1, xI n)] [] h Q := by
  refine z_aload_n 0 dX7_holdsPicks_0 rfl ?_
  refine z_getI (k := 1) (kz := 1) pk7 dX7_holdsPicks_1 (by decide) zb_123 rfl (zOb.lit (by decide +kernel)) rfl ?_
  refine z_iload_n 1 dX7_holdsPicks_4 rfl ?_
  refine z_icmp_eq (tgt := 10) dX7_holdsPicks_5 (by decide) (fun c1 => ?_) (fun c1 => ?_)
  ·
    refine z_lconst dX7_holdsPicks_10 ?_
    show zW mX7_holdsPicks X dep bc bs 239 11 [(0, xR 1), (1, xI n)] [xL 0] h Q
    refine z_lstore_n (lv' := [(2, xL 0), (0, xR 1), (1, xI n)]) dX7_holdsPicks_11 (by decide) rfl ?_
    refine z_iconst dX7_holdsPicks_12 (zi32_d rfl) ?_
    refine z_istore (lv' := [(4, xI 0), (2, xL 0), (0, xR 1), (1, xI n)]) dX7_holdsPicks_13 (by decide) rfl ?_
    refine zW.sub (lv' := [(0, xR 1), (1, xI n), (2, xL 0), (4, xI 0)]) [2, 3, 1, 0] rfl ?_
    exact k1 c1
  ·
    refine z_iconst dX7_holdsPicks_8 (zi32_d rfl) ?_
    exact z_zret dX7_holdsPicks_9 rfl (Or.inl rfl) (k2 c1)

set_option maxRecDepth 20000 in
theorem bX7_holdsPicks_15 {X : zX} {dep bc bs : Nat} (n : Int) (s : Int) (i : Int) {h : zH} {Q : Nat → zH → List zV → Prop} (ht : 0 ≤ h 1 1 ∧ h 1 1 ≤ 340) (hn : n = 52 ∨ n = 26) (hi : 0 ≤ i) (hdep : 1 ≤ dep)
    (k1 : n ≤ i → Q 239 h [xI 1])
    (k2 : ¬ (n ≤ i) → n ≤ (zat h i) → Q 239 h [xI 0])
    (k3 : ¬ (n ≤ i) → ¬ (n ≤ (zat h i)) → ¬ (zcmp (zland (zlshr s (zat h i)) 1) 1) = 0 → zW mX7_holdsPicks X dep bc bs 239 15 [(0, xR 1), (1, xI n), (2, xL (zlor s (zlshl 1 (zat h i)))), (4, xI (i + 1))] [] h Q)
    (k4 : ¬ (n ≤ i) → ¬ (n ≤ (zat h i)) → (zcmp (zland (zlshr s (zat h i)) 1) 1) = 0 → Q 239 h [xI 0]) : zW mX7_holdsPicks X dep bc bs 239 15 [(0, xR 1), (1, xI n), (2, xL s), (4, xI i)] [] h Q := by
  refine z_iload 3 dX7_holdsPicks_15 rfl ?_
  refine z_iload_n 1 dX7_holdsPicks_17 rfl ?_
  refine z_icmp_ge (tgt := 61) dX7_holdsPicks_18 (by decide) (fun c1 => ?_) (fun c1 => ?_)
  ·
    refine z_iconst dX7_holdsPicks_61 (zi32_d rfl) ?_
    exact z_zret dX7_holdsPicks_62 rfl (Or.inr rfl) (k1 c1)
  ·
    refine z_aload_n 0 dX7_holdsPicks_21 rfl ?_
    refine z_iload 3 dX7_holdsPicks_22 rfl ?_
    refine z_invF (ci := 7) (N := 2) (as := [xI i]) (st := []) (ra := [xI i]) (dep' := dep - 1) (rs := [xI (zat h i)]) (h' := h) (f_X7_at i (h := h) ht) dX7_holdsPicks_24 nX7_at zb_540 zb_541 zb_542 zb_83 (zOb.lit (by decide +kernel)) rfl (by omega) zne_I (Nat.le_of_ble_eq_true rfl) (Nat.le_of_ble_eq_true rfl) rfl ?_
    refine z_istore (lv' := [(5, xI (zat h i)), (0, xR 1), (1, xI n), (2, xL s), (4, xI i)]) dX7_holdsPicks_27 (by decide) rfl ?_
    refine z_iload 0 dX7_holdsPicks_29 rfl ?_
    refine z_iload_n 2 dX7_holdsPicks_31 rfl ?_
    refine z_icmp_ge (tgt := 46) dX7_holdsPicks_32 (by decide) (fun c2 => ?_) (fun c2 => ?_)
    ·
      refine z_iconst dX7_holdsPicks_46 (zi32_d rfl) ?_
      exact z_zret dX7_holdsPicks_47 rfl (Or.inl rfl) (k2 c1 c2)
    ·
      refine z_lload_n 3 dX7_holdsPicks_35 rfl ?_
      refine z_iload 0 dX7_holdsPicks_36 rfl ?_
      refine z_lshr dX7_holdsPicks_38 ?_
      refine z_lconst dX7_holdsPicks_39 ?_
      show zW mX7_holdsPicks X dep bc bs 239 40 [(5, xI (zat h i)), (0, xR 1), (1, xI n), (2, xL s), (4, xI i)] [xL 1, xL (zlshr s (zat h i))] h Q
      refine z_land dX7_holdsPicks_40 ?_
      refine z_lconst dX7_holdsPicks_41 ?_
      show zW mX7_holdsPicks X dep bc bs 239 42 [(5, xI (zat h i)), (0, xR 1), (1, xI n), (2, xL s), (4, xI i)] [xL 1, xL (zland (zlshr s (zat h i)) 1)] h Q
      refine z_lcmp dX7_holdsPicks_42 ?_
      refine z_if_ne (tgt := 48) dX7_holdsPicks_43 (by decide) (fun c3 => ?_) (fun c3 => ?_)
      ·
        refine z_lload_n 3 dX7_holdsPicks_48 rfl ?_
        refine z_lconst dX7_holdsPicks_49 ?_
        show zW mX7_holdsPicks X dep bc bs 239 50 [(5, xI (zat h i)), (0, xR 1), (1, xI n), (2, xL s), (4, xI i)] [xL 1, xL s] h Q
        refine z_iload 0 dX7_holdsPicks_50 rfl ?_
        refine z_lshl dX7_holdsPicks_52 ?_
        refine z_lor dX7_holdsPicks_53 ?_
        refine z_lstore_n (lv' := [(2, xL (zlor s (zlshl 1 (zat h i)))), (5, xI (zat h i)), (0, xR 1), (1, xI n), (4, xI i)]) dX7_holdsPicks_54 (by decide) rfl ?_
        refine z_iincN (lv' := [(4, xI (i + 1)), (2, xL (zlor s (zlshl 1 (zat h i)))), (5, xI (zat h i)), (0, xR 1), (1, xI n)]) 4 dX7_holdsPicks_55 rfl (by decide) rfl (show -2147483648 ≤ i + 1 ∧ i + 1 < 2147483648 from ⟨by omega, by omega⟩).1 (show -2147483648 ≤ i + 1 ∧ i + 1 < 2147483648 from ⟨by omega, by omega⟩).2 ?_
        refine z_goto (tgt := 15) dX7_holdsPicks_58 (by decide) ?_
        refine zW.sub (lv' := [(0, xR 1), (1, xI n), (2, xL (zlor s (zlshl 1 (zat h i)))), (4, xI (i + 1))]) [3, 4, 1, 0] rfl ?_
        exact k3 c1 c2 c3
      ·
        refine z_iconst dX7_holdsPicks_46 (zi32_d rfl) ?_
        exact z_zret dX7_holdsPicks_47 rfl (Or.inl rfl) (k4 c1 c2 c3)

set_option maxRecDepth 20000 in
theorem bX3_takePicks_0 {X : zX} {dep bc bs : Nat} (a : Int) {h : zH} {Q : Nat → zH → List zV → Prop}
    (k1 : zW mX3_takePicks X dep bc bs 239 2 [(0, xR 1), (1, xR a), (2, xI 0)] [] h Q) : zW mX3_takePicks X dep bc bs 239 0 [(0, xR 1), (1, xR a)] [] h Q := by
  refine z_iconst dX3_takePicks_0 (zi32_d rfl) ?_
  refine z_istore_n (lv' := [(2, xI 0), (0, xR 1), (1, xR a)]) dX3_takePicks_1 (by decide) rfl ?_
  refine zW.sub (lv' := [(0, xR 1), (1, xR a), (2, xI 0)]) [1, 2, 0] rfl ?_
  exact k1

set_option maxRecDepth 20000 in
theorem bX3_takePicks52 {X : zX} {dep bc bs : Nat} (a : Int) (i : Int) {h : zH} {Q : Nat → zH → List zV → Prop} (ht : 0 ≤ h 1 1 ∧ h 1 1 ≤ 340) (ha : zOb 239 a (1, 0, 52)) (hi : 0 ≤ i) (hdep : 1 ≤ dep)
    (k1 : 52 ≤ i → Q 239 h [])
    (k2 : ¬ (52 ≤ i) → (zat h i) < 0 → zW mX3_takePicks X dep bc bs 239 2 [(0, xR 1), (1, xR a), (2, xI (i + 1))] [] h Q)
    (k3 : ¬ (52 ≤ i) → ¬ ((zat h i) < 0) → 52 ≤ (zat h i) → zW mX3_takePicks X dep bc bs 239 2 [(0, xR 1), (1, xR a), (2, xI (i + 1))] [] h Q)
    (k4 : ¬ (52 ≤ i) → ¬ ((zat h i) < 0) → ¬ (52 ≤ (zat h i)) → zW mX3_takePicks X dep bc bs 239 2 [(0, xR 1), (1, xR a), (2, xI (i + 1))] [] (zst h a (zat h i) i) Q) : zW mX3_takePicks X dep bc bs 239 2 [(0, xR 1), (1, xR a), (2, xI i)] [] h Q := by
  refine z_iload_n 2 dX3_takePicks_2 rfl ?_
  refine z_aload_n 1 dX3_takePicks_3 rfl ?_
  refine z_alen (kd := 0) dX3_takePicks_4 ha (by decide) ?_
  show zW mX3_takePicks X dep bc bs 239 5 [(0, xR 1), (1, xR a), (2, xI i)] [xI 52, xI i] h Q
  refine z_icmp_ge (tgt := 34) dX3_takePicks_5 (by decide) (fun c1 => ?_) (fun c1 => ?_)
  ·
    exact z_ret dX3_takePicks_34 rfl (k1 c1)
  ·
    refine z_aload_n 0 dX3_takePicks_8 rfl ?_
    refine z_iload_n 2 dX3_takePicks_9 rfl ?_
    refine z_invF (ci := 7) (N := 2) (as := [xI i]) (st := []) (ra := [xI i]) (dep' := dep - 1) (rs := [xI (zat h i)]) (h' := h) (f_X7_at i (h := h) ht) dX3_takePicks_10 nX7_at zb_797 zb_541 zb_542 zb_83 (zOb.lit (by decide +kernel)) rfl (by omega) zne_I (Nat.le_of_ble_eq_true rfl) (Nat.le_of_ble_eq_true rfl) rfl ?_
    refine z_istore_n (lv' := [(3, xI (zat h i)), (0, xR 1), (1, xR a), (2, xI i)]) dX3_takePicks_13 (by decide) rfl ?_
    refine z_iload_n 0 dX3_takePicks_14 rfl ?_
    refine z_if_lt (tgt := 28) dX3_takePicks_15 (by decide) (fun c2 => ?_) (fun c2 => ?_)
    ·
      refine z_iincN (lv' := [(2, xI (i + 1)), (3, xI (zat h i)), (0, xR 1), (1, xR a)]) 3 dX3_takePicks_28 rfl (by decide) rfl (show -2147483648 ≤ i + 1 ∧ i + 1 < 2147483648 from ⟨by omega, by omega⟩).1 (show -2147483648 ≤ i + 1 ∧ i + 1 < 2147483648 from ⟨by omega, by omega⟩).2 ?_
      refine z_goto (tgt := 2) dX3_takePicks_31 (by decide) ?_
      refine zW.sub (lv' := [(0, xR 1), (1, xR a), (2, xI (i + 1))]) [2, 3, 0] rfl ?_
      exact k2 c1 c2
    ·
      refine z_iload_n 0 dX3_takePicks_18 rfl ?_
      refine z_aload_n 2 dX3_takePicks_19 rfl ?_
      refine z_alen (kd := 0) dX3_takePicks_20 ha (by decide) ?_
      show zW mX3_takePicks X dep bc bs 239 21 [(3, xI (zat h i)), (0, xR 1), (1, xR a), (2, xI i)] [xI 52, xI (zat h i)] h Q
      refine z_icmp_ge (tgt := 28) dX3_takePicks_21 (by decide) (fun c3 => ?_) (fun c3 => ?_)
      ·
        refine z_iincN (lv' := [(2, xI (i + 1)), (3, xI (zat h i)), (0, xR 1), (1, xR a)]) 3 dX3_takePicks_28 rfl (by decide) rfl (show -2147483648 ≤ i + 1 ∧ i + 1 < 2147483648 from ⟨by omega, by omega⟩).1 (show -2147483648 ≤ i + 1 ∧ i + 1 < 2147483648 from ⟨by omega, by omega⟩).2 ?_
        refine z_goto (tgt := 2) dX3_takePicks_31 (by decide) ?_
        refine zW.sub (lv' := [(0, xR 1), (1, xR a), (2, xI (i + 1))]) [2, 3, 0] rfl ?_
        exact k3 c1 c2 c3
      ·
        refine z_aload_n 2 dX3_takePicks_24 rfl ?_
        refine z_iload_n 0 dX3_takePicks_25 rfl ?_
        refine z_iload_n 3 dX3_takePicks_26 rfl ?_
        refine z_iast dX3_takePicks_27 ha (show 0 ≤ zat h i ∧ zat h i < 52 from ⟨by omega, by omega⟩).1 (show 0 ≤ zat h i ∧ zat h i < 52 from ⟨by omega, by omega⟩).2 ?_
        refine z_iincN (lv' := [(2, xI (i + 1)), (3, xI (zat h i)), (0, xR 1), (1, xR a)]) 3 dX3_takePicks_28 rfl (by decide) rfl (show -2147483648 ≤ i + 1 ∧ i + 1 < 2147483648 from ⟨by omega, by omega⟩).1 (show -2147483648 ≤ i + 1 ∧ i + 1 < 2147483648 from ⟨by omega, by omega⟩).2 ?_
        refine z_goto (tgt := 2) dX3_takePicks_31 (by decide) ?_
        refine zW.sub (lv' := [(0, xR 1), (1, xR a), (2, xI (i + 1))]) [2, 3, 0] rfl ?_
        exact k4 c1 c2 c3

set_option maxRecDepth 20000 in
theorem bX3_takePicks26 {X : zX} {dep bc bs : Nat} (a : Int) (i : Int) {h : zH} {Q : Nat → zH → List zV → Prop} (ht : 0 ≤ h 1 1 ∧ h 1 1 ≤ 340) (ha : zOb 239 a (1, 0, 26)) (hi : 0 ≤ i) (hdep : 1 ≤ dep)
    (k1 : 26 ≤ i → Q 239 h [])
    (k2 : ¬ (26 ≤ i) → (zat h i) < 0 → zW mX3_takePicks X dep bc bs 239 2 [(0, xR 1), (1, xR a), (2, xI (i + 1))] [] h Q)
    (k3 : ¬ (26 ≤ i) → ¬ ((zat h i) < 0) → 26 ≤ (zat h i) → zW mX3_takePicks X dep bc bs 239 2 [(0, xR 1), (1, xR a), (2, xI (i + 1))] [] h Q)
    (k4 : ¬ (26 ≤ i) → ¬ ((zat h i) < 0) → ¬ (26 ≤ (zat h i)) → zW mX3_takePicks X dep bc bs 239 2 [(0, xR 1), (1, xR a), (2, xI (i + 1))] [] (zst h a (zat h i) i) Q) : zW mX3_takePicks X dep bc bs 239 2 [(0, xR 1), (1, xR a), (2, xI i)] [] h Q := by
  refine z_iload_n 2 dX3_takePicks_2 rfl ?_
  refine z_aload_n 1 dX3_takePicks_3 rfl ?_
  refine z_alen (kd := 0) dX3_takePicks_4 ha (by decide) ?_
  show zW mX3_takePicks X dep bc bs 239 5 [(0, xR 1), (1, xR a), (2, xI i)] [xI 26, xI i] h Q
  refine z_icmp_ge (tgt := 34) dX3_takePicks_5 (by decide) (fun c1 => ?_) (fun c1 => ?_)
  ·
    exact z_ret dX3_takePicks_34 rfl (k1 c1)
  ·
    refine z_aload_n 0 dX3_takePicks_8 rfl ?_
    refine z_iload_n 2 dX3_takePicks_9 rfl ?_
    refine z_invF (ci := 7) (N := 2) (as := [xI i]) (st := []) (ra := [xI i]) (dep' := dep - 1) (rs := [xI (zat h i)]) (h' := h) (f_X7_at i (h := h) ht) dX3_takePicks_10 nX7_at zb_797 zb_541 zb_542 zb_83 (zOb.lit (by decide +kernel)) rfl (by omega) zne_I (Nat.le_of_ble_eq_true rfl) (Nat.le_of_ble_eq_true rfl) rfl ?_
    refine z_istore_n (lv' := [(3, xI (zat h i)), (0, xR 1), (1, xR a), (2, xI i)]) dX3_takePicks_13 (by decide) rfl ?_
    refine z_iload_n 0 dX3_takePicks_14 rfl ?_
    refine z_if_lt (tgt := 28) dX3_takePicks_15 (by decide) (fun c2 => ?_) (fun c2 => ?_)
    ·
      refine z_iincN (lv' := [(2, xI (i + 1)), (3, xI (zat h i)), (0, xR 1), (1, xR a)]) 3 dX3_takePicks_28 rfl (by decide) rfl (show -2147483648 ≤ i + 1 ∧ i + 1 < 2147483648 from ⟨by omega, by omega⟩).1 (show -2147483648 ≤ i + 1 ∧ i + 1 < 2147483648 from ⟨by omega, by omega⟩).2 ?_
      refine z_goto (tgt := 2) dX3_takePicks_31 (by decide) ?_
      refine zW.sub (lv' := [(0, xR 1), (1, xR a), (2, xI (i + 1))]) [2, 3, 0] rfl ?_
      exact k2 c1 c2
    ·
      refine z_iload_n 0 dX3_takePicks_18 rfl ?_
      refine z_aload_n 2 dX3_takePicks_19 rfl ?_
      refine z_alen (kd := 0) dX3_takePicks_20 ha (by decide) ?_
      show zW mX3_takePicks X dep bc bs 239 21 [(3, xI (zat h i)), (0, xR 1), (1, xR a), (2, xI i)] [xI 26, xI (zat h i)] h Q
      refine z_icmp_ge (tgt := 28) dX3_takePicks_21 (by decide) (fun c3 => ?_) (fun c3 => ?_)
      ·
        refine z_iincN (lv' := [(2, xI (i + 1)), (3, xI (zat h i)), (0, xR 1), (1, xR a)]) 3 dX3_takePicks_28 rfl (by decide) rfl (show -2147483648 ≤ i + 1 ∧ i + 1 < 2147483648 from ⟨by omega, by omega⟩).1 (show -2147483648 ≤ i + 1 ∧ i + 1 < 2147483648 from ⟨by omega, by omega⟩).2 ?_
        refine z_goto (tgt := 2) dX3_takePicks_31 (by decide) ?_
        refine zW.sub (lv' := [(0, xR 1), (1, xR a), (2, xI (i + 1))]) [2, 3, 0] rfl ?_
        exact k3 c1 c2 c3
      ·
        refine z_aload_n 2 dX3_takePicks_24 rfl ?_
        refine z_iload_n 0 dX3_takePicks_25 rfl ?_
        refine z_iload_n 3 dX3_takePicks_26 rfl ?_
        refine z_iast dX3_takePicks_27 ha (show 0 ≤ zat h i ∧ zat h i < 26 from ⟨by omega, by omega⟩).1 (show 0 ≤ zat h i ∧ zat h i < 26 from ⟨by omega, by omega⟩).2 ?_
        refine z_iincN (lv' := [(2, xI (i + 1)), (3, xI (zat h i)), (0, xR 1), (1, xR a)]) 3 dX3_takePicks_28 rfl (by decide) rfl (show -2147483648 ≤ i + 1 ∧ i + 1 < 2147483648 from ⟨by omega, by omega⟩).1 (show -2147483648 ≤ i + 1 ∧ i + 1 < 2147483648 from ⟨by omega, by omega⟩).2 ?_
        refine z_goto (tgt := 2) dX3_takePicks_31 (by decide) ?_
        refine zW.sub (lv' := [(0, xR 1), (1, xR a), (2, xI (i + 1))]) [2, 3, 0] rfl ?_
        exact k4 c1 c2 c3

set_option maxRecDepth 20000 in
theorem bX7_holdsName_0 {X : zX} {dep bc bs : Nat} {h : zH} {Q : Nat → zH → List zV → Prop} (ht : 0 ≤ h 1 1 ∧ h 1 1 ≤ 340)
    (k1 : (h 1 1) < 1 → Q 239 h [xI 0])
    (k2 : ¬ ((h 1 1) < 1) → (h 1 1) ≤ 8 → zW mX7_holdsName X dep bc bs 239 21 [(0, xR 1), (1, xI 0)] [] h Q)
    (k3 : ¬ ((h 1 1) < 1) → ¬ ((h 1 1) ≤ 8) → Q 239 h [xI 0]) : zW mX7_holdsName X dep bc bs 239 0 [(0, xR 1)] [] h Q := by
  refine z_aload_n 0 dX7_holdsName_0 rfl ?_
  refine z_getI (k := 1) (kz := 1) pk7 dX7_holdsName_1 (by decide) zb_123 rfl (zOb.lit (by decide +kernel)) rfl ?_
  refine z_iconst dX7_holdsName_4 (zi32_d rfl) ?_
  refine z_icmp_lt (tgt := 17) dX7_holdsName_5 (by decide) (fun c1 => ?_) (fun c1 => ?_)
  ·
    refine z_iconst dX7_holdsName_17 (zi32_d rfl) ?_
    exact z_zret dX7_holdsName_18 rfl (Or.inl rfl) (k1 c1)
  ·
    refine z_aload_n 0 dX7_holdsName_8 rfl ?_
    refine z_getI (k := 1) (kz := 1) pk7 dX7_holdsName_9 (by decide) zb_123 rfl (zOb.lit (by decide +kernel)) rfl ?_
    refine z_bipush dX7_holdsName_12 (zi32_d rfl) (by decide) ?_
    refine z_icmp_le (tgt := 19) dX7_holdsName_14 (by decide) (fun c2 => ?_) (fun c2 => ?_)
    ·
      refine z_iconst dX7_holdsName_19 (zi32_d rfl) ?_
      refine z_istore_n (lv' := [(1, xI 0), (0, xR 1)]) dX7_holdsName_20 (by decide) rfl ?_
      refine zW.sub (lv' := [(0, xR 1), (1, xI 0)]) [1, 0] rfl ?_
      exact k2 c1 c2
    ·
      refine z_iconst dX7_holdsName_17 (zi32_d rfl) ?_
      exact z_zret dX7_holdsName_18 rfl (Or.inl rfl) (k3 c1 c2)

set_option maxRecDepth 20000 in
theorem bX7_holdsName_21 {X : zX} {dep bc bs : Nat} (i : Int) {h : zH} {Q : Nat → zH → List zV → Prop} (ht : 0 ≤ h 1 1 ∧ h 1 1 ≤ 340) (hi : 0 ≤ i) (hdep : 2 ≤ dep)
    (k1 : (h 1 1) ≤ i → Q 239 h [xI 1])
    (k2 : ¬ ((h 1 1) ≤ i) → 97 ≤ zat h i ∧ zat h i ≤ 122 → zW mX7_holdsName X dep bc bs 239 21 [(0, xR 1), (1, xI (i + 1))] [] h Q)
    (k3 : ¬ ((h 1 1) ≤ i) → ¬ (97 ≤ zat h i ∧ zat h i ≤ 122) → Q 239 h [xI 0]) : zW mX7_holdsName X dep bc bs 239 21 [(0, xR 1), (1, xI i)] [] h Q := by
  refine z_iload_n 1 dX7_holdsName_21 rfl ?_
  refine z_aload_n 0 dX7_holdsName_22 rfl ?_
  refine z_getI (k := 1) (kz := 1) pk7 dX7_holdsName_23 (by decide) zb_123 rfl (zOb.lit (by decide +kernel)) rfl ?_
  refine z_icmp_ge (tgt := 45) dX7_holdsName_26 (by decide) (fun c1 => ?_) (fun c1 => ?_)
  ·
    refine z_iconst dX7_holdsName_45 (zi32_d rfl) ?_
    exact z_zret dX7_holdsName_46 rfl (Or.inr rfl) (k1 c1)
  ·
    refine z_aload_n 0 dX7_holdsName_29 rfl ?_
    refine z_iload_n 1 dX7_holdsName_30 rfl ?_
    refine z_invF (ci := 7) (N := 2) (as := [xI i]) (st := []) (ra := [xI i]) (dep' := dep - 1) (rs := [xI (zb (97 ≤ zat h i ∧ zat h i ≤ 122))]) (h' := h) (f_X7_isLetter i (h := h) ht (by omega)) dX7_holdsName_31 nX7_isLetter zb_536 zb_537 zb_538 zb_83 (zOb.lit (by decide +kernel)) rfl (by omega) zne_I (Nat.le_of_ble_eq_true rfl) (Nat.le_of_ble_eq_true rfl) rfl ?_
    refine z_ifB_ne (C := 97 ≤ zat h i ∧ zat h i ≤ 122) (tgt := 39) dX7_holdsName_34 (by decide) (fun c2 => ?_) (fun c2 => ?_)
    ·
      refine z_iincN (lv' := [(1, xI (i + 1)), (0, xR 1)]) 1 dX7_holdsName_39 rfl (by decide) rfl (show -2147483648 ≤ i + 1 ∧ i + 1 < 2147483648 from ⟨by omega, by omega⟩).1 (show -2147483648 ≤ i + 1 ∧ i + 1 < 2147483648 from ⟨by omega, by omega⟩).2 ?_
      refine z_goto (tgt := 21) dX7_holdsName_42 (by decide) ?_
      refine zW.sub (lv' := [(0, xR 1), (1, xI (i + 1))]) [1, 0] rfl ?_
      exact k2 c1 c2
    ·
      refine z_iconst dX7_holdsName_37 (zi32_d rfl) ?_
      exact z_zret dX7_holdsName_38 rfl (Or.inl rfl) (k3 c1 c2)

set_option maxRecDepth 20000 in
theorem bX0_holdsTold_0 {X : zX} {dep bc bs : Nat} {h : zH} {Q : Nat → zH → List zV → Prop} (ht : 0 ≤ h 1 1 ∧ h 1 1 ≤ 340)
    (k1 : (h 1 1) = 12 → zW mX0_holdsTold X dep bc bs 239 13 [(0, xR 1), (1, xI 1)] [] h Q)
    (k2 : ¬ ((h 1 1) = 12) → Q 239 h [xI 0]) : zW mX0_holdsTold X dep bc bs 239 0 [(0, xR 1)] [] h Q := by
  refine z_aload_n 0 dX0_holdsTold_0 rfl ?_
  refine z_getI (k := 1) (kz := 1) pk7 dX0_holdsTold_1 (by decide) zb_121 rfl (zOb.lit (by decide +kernel)) rfl ?_
  refine z_bipush dX0_holdsTold_4 (zi32_d rfl) (by decide) ?_
  refine z_icmp_eq (tgt := 11) dX0_holdsTold_6 (by decide) (fun c1 => ?_) (fun c1 => ?_)
  ·
    refine z_iconst dX0_holdsTold_11 (zi32_d rfl) ?_
    refine z_istore_n (lv' := [(1, xI 1), (0, xR 1)]) dX0_holdsTold_12 (by decide) rfl ?_
    refine zW.sub (lv' := [(0, xR 1), (1, xI 1)]) [1, 0] rfl ?_
    exact k1 c1
  ·
    refine z_iconst dX0_holdsTold_9 (zi32_d rfl) ?_
    exact z_zret dX0_holdsTold_10 rfl (Or.inl rfl) (k2 c1)

set_option maxRecDepth 20000 in
theorem bX0_holdsTold_13 {X : zX} {dep bc bs : Nat} (i : Int) {h : zH} {Q : Nat → zH → List zV → Prop} (ht : 0 ≤ h 1 1 ∧ h 1 1 ≤ 340) (hi : 1 ≤ i) (hdep : 1 ≤ dep)
    (k1 : 12 ≤ i → Q 239 h [xI 1])
    (k2 : ¬ (12 ≤ i) → (zat h (i - 1)) ≤ (zat h i) → zW mX0_holdsTold X dep bc bs 239 13 [(0, xR 1), (1, xI (i + 1))] [] h Q)
    (k3 : ¬ (12 ≤ i) → ¬ ((zat h (i - 1)) ≤ (zat h i)) → Q 239 h [xI 0]) : zW mX0_holdsTold X dep bc bs 239 13 [(0, xR 1), (1, xI i)] [] h Q := by
  refine z_iload_n 1 dX0_holdsTold_13 rfl ?_
  refine z_bipush dX0_holdsTold_14 (zi32_d rfl) (by decide) ?_
  refine z_icmp_ge (tgt := 42) dX0_holdsTold_16 (by decide) (fun c1 => ?_) (fun c1 => ?_)
  ·
    refine z_iconst dX0_holdsTold_42 (zi32_d rfl) ?_
    exact z_zret dX0_holdsTold_43 rfl (Or.inr rfl) (k1 c1)
  ·
    refine z_aload_n 0 dX0_holdsTold_19 rfl ?_
    refine z_iload_n 1 dX0_holdsTold_20 rfl ?_
    refine z_invF (ci := 7) (N := 2) (as := [xI i]) (st := []) (ra := [xI i]) (dep' := dep - 1) (rs := [xI (zat h i)]) (h' := h) (f_X7_at i (h := h) ht) dX0_holdsTold_21 nX7_at zb_1007 zb_541 zb_542 zb_83 (zOb.lit (by decide +kernel)) rfl (by omega) zne_I (Nat.le_of_ble_eq_true rfl) (Nat.le_of_ble_eq_true rfl) rfl ?_
    refine z_aload_n 0 dX0_holdsTold_24 rfl ?_
    refine z_iload_n 1 dX0_holdsTold_25 rfl ?_
    refine z_iconst dX0_holdsTold_26 (zi32_d rfl) ?_
    refine z_isubN dX0_holdsTold_27 (show -2147483648 ≤ i - 1 ∧ i - 1 < 2147483648 from ⟨by omega, by omega⟩).1 (show -2147483648 ≤ i - 1 ∧ i - 1 < 2147483648 from ⟨by omega, by omega⟩).2 ?_
    refine z_invF (ci := 7) (N := 2) (as := [xI (i - 1)]) (st := [xI (zat h i)]) (ra := [xI (i - 1)]) (dep' := dep - 1) (rs := [xI (zat h (i - 1))]) (h' := h) (f_X7_at (i - 1) (h := h) ht) dX0_holdsTold_28 nX7_at zb_1007 zb_541 zb_542 zb_83 (zOb.lit (by decide +kernel)) rfl (by omega) zne_I (Nat.le_of_ble_eq_true rfl) (Nat.le_of_ble_eq_true rfl) rfl ?_
    refine z_icmp_ge (tgt := 36) dX0_holdsTold_31 (by decide) (fun c2 => ?_) (fun c2 => ?_)
    ·
      refine z_iincN (lv' := [(1, xI (i + 1)), (0, xR 1)]) 1 dX0_holdsTold_36 rfl (by decide) rfl (show -2147483648 ≤ i + 1 ∧ i + 1 < 2147483648 from ⟨by omega, by omega⟩).1 (show -2147483648 ≤ i + 1 ∧ i + 1 < 2147483648 from ⟨by omega, by omega⟩).2 ?_
      refine z_goto (tgt := 13) dX0_holdsTold_39 (by decide) ?_
      refine zW.sub (lv' := [(0, xR 1), (1, xI (i + 1))]) [1, 0] rfl ?_
      exact k2 c1 c2
    ·
      refine z_iconst dX0_holdsTold_34 (zi32_d rfl) ?_
      exact z_zret dX0_holdsTold_35 rfl (Or.inl rfl) (k3 c1 c2)

set_option maxRecDepth 20000 in
theorem bX3_pickedAhead_0 {X : zX} {dep bc bs : Nat} (o : Int) (k : Int) (a : Int) (b : Int) {h : zH} {Q : Nat → zH → List zV → Prop}
    (k1 : zW mX3_pickedAhead X dep bc bs 239 6 [(0, xR o), (1, xI k), (3, xI b), (4, xI 0), (5, xI a)] [] h Q) : zW mX3_pickedAhead X dep bc bs 239 0 [(0, xR o), (1, xI k), (2, xI a), (3, xI b)] [] h Q := by
  refine z_iconst dX3_pickedAhead_0 (zi32_d rfl) ?_
  refine z_istore (lv' := [(4, xI 0), (0, xR o), (1, xI k), (2, xI a), (3, xI b)]) dX3_pickedAhead_1 (by decide) rfl ?_
  refine z_iload_n 3 dX3_pickedAhead_3 rfl ?_
  refine z_istore (lv' := [(5, xI a), (4, xI 0), (0, xR o), (1, xI k), (2, xI a), (3, xI b)]) dX3_pickedAhead_4 (by decide) rfl ?_
  refine zW.sub (lv' := [(0, xR o), (1, xI k), (3, xI b), (4, xI 0), (5, xI a)]) [2, 3, 5, 1, 0] rfl ?_
  exact k1

set_option maxRecDepth 20000 in
theorem bX3_pickedAhead_6 {X : zX} {dep bc bs : Nat} (o : Int) (k : Int) (b : Int) (n : Int) (w : Int) {h : zH} {Q : Nat → zH → List zV → Prop} (ho : zLotO o) (hw : 0 ≤ w) (hb : b < 52) (hn : 0 ≤ n ∧ n ≤ w)
    (k1 : b < w → Q 239 h [xI n])
    (k2 : ¬ (b < w) → zW mX3_pickedAhead X dep bc bs 239 6 [(0, xR o), (1, xI k), (3, xI b), (4, xI (n + (if k ≤ (h (o + 1) w) then 0 else 1 : Int))), (5, xI (w + 1))] [] h Q) : zW mX3_pickedAhead X dep bc bs 239 6 [(0, xR o), (1, xI k), (3, xI b), (4, xI n), (5, xI w)] [] h Q := by
  refine z_iload 4 dX3_pickedAhead_6 rfl ?_
  refine z_iload_n 2 dX3_pickedAhead_8 rfl ?_
  refine z_icmp_gt (tgt := 39) dX3_pickedAhead_9 (by decide) (fun c1 => ?_) (fun c1 => ?_)
  ·
    refine z_iload 3 dX3_pickedAhead_39 rfl ?_
    exact z_iret dX3_pickedAhead_41 rfl (k1 c1)
  ·
    refine z_iload 3 dX3_pickedAhead_12 rfl ?_
    refine z_aload_n 0 dX3_pickedAhead_14 rfl ?_
    refine z_getS (v := (o + 1)) (k := 4) (kz := 4) pk3 dX3_pickedAhead_15 (by decide) zb_393 rfl ho.1 rfl ho.2.2.2.1 ?_
    refine z_iload 4 dX3_pickedAhead_18 rfl ?_
    refine z_iald dX3_pickedAhead_20 ho.2.1 (show 0 ≤ w ∧ w < 52 from ⟨by omega, by omega⟩).1 (show 0 ≤ w ∧ w < 52 from ⟨by omega, by omega⟩).2 ?_
    refine z_iload_n 1 dX3_pickedAhead_21 rfl ?_
    suffices KJ : zW mX3_pickedAhead X dep bc bs 239 30 [(0, xR o), (1, xI k), (3, xI b), (4, xI n), (5, xI w)] [xI (if k ≤ (h (o + 1) w) then 0 else 1 : Int), xI n] h Q by
      refine z_icmp_ge (tgt := 29) dX3_pickedAhead_22 (by decide) (fun j1 => ?_) (fun j1 => ?_)
      ·
        refine z_iconst dX3_pickedAhead_29 (zi32_d rfl) ?_
        rw [if_pos j1] at KJ
        exact KJ
      ·
        refine z_iconst dX3_pickedAhead_25 (zi32_d rfl) ?_
        refine z_goto (tgt := 30) dX3_pickedAhead_26 (by decide) ?_
        rw [if_neg j1] at KJ
        exact KJ
    refine z_iaddN dX3_pickedAhead_30 (show -2147483648 ≤ n + (if k ≤ (h (o + 1) w) then 0 else 1 : Int) ∧ n + (if k ≤ (h (o + 1) w) then 0 else 1 : Int) < 2147483648 from ⟨by omega, by omega⟩).1 (show -2147483648 ≤ n + (if k ≤ (h (o + 1) w) then 0 else 1 : Int) ∧ n + (if k ≤ (h (o + 1) w) then 0 else 1 : Int) < 2147483648 from ⟨by omega, by omega⟩).2 ?_
    refine z_istore (lv' := [(4, xI (n + (if k ≤ (h (o + 1) w) then 0 else 1 : Int))), (0, xR o), (1, xI k), (3, xI b), (5, xI w)]) dX3_pickedAhead_31 (by decide) rfl ?_
    refine z_iincN (lv' := [(5, xI (w + 1)), (4, xI (n + (if k ≤ (h (o + 1) w) then 0 else 1 : Int))), (0, xR o), (1, xI k), (3, xI b)]) 4 dX3_pickedAhead_33 rfl (by decide) rfl (show -2147483648 ≤ w + 1 ∧ w + 1 < 2147483648 from ⟨by omega, by omega⟩).1 (show -2147483648 ≤ w + 1 ∧ w + 1 < 2147483648 from ⟨by omega, by omega⟩).2 ?_
    refine z_goto (tgt := 6) dX3_pickedAhead_36 (by decide) ?_
    refine zW.sub (lv' := [(0, xR o), (1, xI k), (3, xI b), (4, xI (n + (if k ≤ (h (o + 1) w) then 0 else 1 : Int))), (5, xI (w + 1))]) [2, 3, 4, 1, 0] rfl ?_
    exact k2 c1

set_option maxRecDepth 20000 in
theorem bX0_mostHands_0 {X : zX} {dep bc bs : Nat} (p : Int) (w : Int) {h : zH} {Q : Nat → zH → List zV → Prop}
    (k1 : zW mX0_mostHands X dep bc bs 239 5 [(0, xR 44), (1, xI p), (3, xI 0), (4, xI w)] [] h Q) : zW mX0_mostHands X dep bc bs 239 0 [(0, xR 44), (1, xI p), (2, xI w)] [] h Q := by
  refine z_iconst dX0_mostHands_0 (zi32_d rfl) ?_
  refine z_istore_n (lv' := [(3, xI 0), (0, xR 44), (1, xI p), (2, xI w)]) dX0_mostHands_1 (by decide) rfl ?_
  refine z_iload_n 3 dX0_mostHands_2 rfl ?_
  refine z_istore (lv' := [(4, xI w), (3, xI 0), (0, xR 44), (1, xI p), (2, xI w)]) dX0_mostHands_3 (by decide) rfl ?_
  refine zW.sub (lv' := [(0, xR 44), (1, xI p), (3, xI 0), (4, xI w)]) [2, 3, 1, 0] rfl ?_
  exact k1

set_option maxRecDepth 20000 in
theorem bX0_mostHands_5 {X : zX} {dep bc bs : Nat} (p : Int) (x : Int) (w : Int) {h : zH} {Q : Nat → zH → List zV → Prop} (hp : 0 ≤ p ∧ p < 8) (hw : 0 ≤ w) (hdep : 1 ≤ dep)
    (k1 : 12 ≤ w → Q 239 h [xI x])
    (k2 : ¬ (12 ≤ w) → zW mX0_mostHands X dep bc bs 239 5 [(0, xR 44), (1, xI p), (3, xI (max x (h (46 + p) w))), (4, xI (w + 1))] [] h Q) : zW mX0_mostHands X dep bc bs 239 5 [(0, xR 44), (1, xI p), (3, xI x), (4, xI w)] [] h Q := by
  refine z_iload 3 dX0_mostHands_5 rfl ?_
  refine z_bipush dX0_mostHands_7 (zi32_d rfl) (by decide) ?_
  refine z_icmp_ge (tgt := 32) dX0_mostHands_9 (by decide) (fun c1 => ?_) (fun c1 => ?_)
  ·
    refine z_iload_n 2 dX0_mostHands_32 rfl ?_
    exact z_iret dX0_mostHands_33 rfl (k1 c1)
  ·
    refine z_iload_n 2 dX0_mostHands_12 rfl ?_
    refine z_aload_n 0 dX0_mostHands_13 rfl ?_
    refine z_getS (v := 45) (k := 0) (kz := 0) pk0 dX0_mostHands_14 (by decide) zb_363 rfl (zOb.lit (by decide +kernel)) rfl (by decide +kernel) ?_
    refine z_iload_n 1 dX0_mostHands_17 rfl ?_
    refine z_aaldSA (v := (46 + p)) dX0_mostHands_18 (zOb.lit (by decide +kernel)) hp.1 hp.2 (zRF_hands hp.1 hp.2) ?_
    refine z_iload 3 dX0_mostHands_19 rfl ?_
    refine z_iald dX0_mostHands_21 (zOb_hands hp.1 hp.2) (show 0 ≤ w ∧ w < 12 from ⟨by omega, by omega⟩).1 (show 0 ≤ w ∧ w < 12 from ⟨by omega, by omega⟩).2 ?_
    refine z_invSF (as := [xI x, xI (h (46 + p) w)]) (st := []) (ra := [xI (h (46 + p) w), xI x]) (dep' := dep - 1) (rs := [xI (max x (h (46 + p) w))]) (h' := h) (f_J9_max_7cf53 x (h (46 + p) w) (h := h) ) dX0_mostHands_22 nJ9_max_7cf53 zb_1016 zb_836 zb_93 (by omega) zne_I (Nat.le_of_ble_eq_true rfl) (Nat.le_of_ble_eq_true rfl) rfl ?_
    refine z_istore_n (lv' := [(3, xI (max x (h (46 + p) w))), (0, xR 44), (1, xI p), (4, xI w)]) dX0_mostHands_25 (by decide) rfl ?_
    refine z_iincN (lv' := [(4, xI (w + 1)), (3, xI (max x (h (46 + p) w))), (0, xR 44), (1, xI p)]) 3 dX0_mostHands_26 rfl (by decide) rfl (show -2147483648 ≤ w + 1 ∧ w + 1 < 2147483648 from ⟨by omega, by omega⟩).1 (show -2147483648 ≤ w + 1 ∧ w + 1 < 2147483648 from ⟨by omega, by omega⟩).2 ?_
    refine z_goto (tgt := 5) dX0_mostHands_29 (by decide) ?_
    refine zW.sub (lv' := [(0, xR 44), (1, xI p), (3, xI (max x (h (46 + p) w))), (4, xI (w + 1))]) [2, 3, 1, 0] rfl ?_
    exact k2 c1

theorem zat_in {h : zH} {i : Int} (h0 : 0 ≤ i) (h1 : i < h 1 1) : 0 ≤ zat h i ∧ zat h i ≤ 255 := by
  unfold zat
  rw [if_pos ⟨h0, h1⟩]
  exact zand_le _ (by omega) (by omega)
theorem zcmp_0 {a b : Int} : zcmp a b = 0 ↔ a = b := by
  unfold zcmp
  (repeat' split) <;> omega
/-- picks: each number below n once -/
def zPre (h : zH) (n j : Int) : Prop := ∀ i : Int, 0 ≤ i → i < j → zat h i < n ∧ ∀ k : Int, 0 ≤ k → k < i → zat h k ≠ zat h i
def zPicks (h : zH) (n : Int) : Prop := h 1 1 = n ∧ zPre h n n
theorem l_X7_holdsPicks {X : zX} {dep : Nat} (n : Int) {h : zH} (ht : 0 ≤ h 1 1 ∧ h 1 1 ≤ 340) (hn : n = 52 ∨ n = 26) (hl : h 1 1 = n) (hdep : 1 ≤ dep) :
    ∀ (k j : Nat) (s : Int), (j : Int) + k = n → zPre h n j → (∀ b : Nat, b < 64 → (zbitv s b = true ↔ ∃ i : Int, 0 ≤ i ∧ i < j ∧ zat h i = b)) →
      zW mX7_holdsPicks X dep 0 0 239 15 [(0, xR 1), (1, xI n), (2, xL s), (4, xI j)] [] h (zF h [xI (zb (zPicks h n))]) := by
  intro k
  induction k with
  | zero =>
    intro j s hk hp hs
    refine bX7_holdsPicks_15 n s j ht hn (by omega) hdep ?_ ?_ ?_ ?_
    · intro c
      rw [zb_t ⟨hl, by rw [show n = (j : Int) by omega] at hp ⊢; exact hp⟩]
      exact ⟨rfl, rfl, rfl⟩
    all_goals intros; exfalso; omega
  | succ k ih =>
    intro j s hk hp hs
    have za := zat_in (h := h) (i := j) (by omega) (by omega)
    refine bX7_holdsPicks_15 n s j ht hn (by omega) hdep ?_ ?_ ?_ ?_
    · intros; exfalso; omega
    · intro c c1
      rw [zb_f (fun z => by have := (z.2 j (by omega) (by omega)).1; omega)]
      exact ⟨rfl, rfl, rfl⟩
    · intro c c1 c2
      have nb : ¬ ∃ i : Int, 0 ≤ i ∧ i < j ∧ zat h i = (zat h j).toNat := fun z => c2 (zcmp_0.mpr ((zbit_iff za.1 (by omega)).mpr ((hs _ (by omega)).mpr z)))
      have ih1 := ih (j + 1) (zlor s (zlshl 1 (zat h j))) (by omega) (fun i i0 i1 => by
        by_cases e : i = j
        · rw [e]
          refine ⟨by omega, fun q q0 q1 qe => nb ⟨q, q0, q1, by omega⟩⟩
        · exact hp i i0 (by omega)) (fun b hb => by
        rw [zbit_or za.1 (by omega) b hb]
        have := hs b hb
        rw [Bool.or_eq_true, this, decide_eq_true_iff]
        constructor
        · rintro (⟨i, i0, i1, i2⟩ | e)
          · exact ⟨i, i0, by omega, i2⟩
          · exact ⟨j, by omega, by omega, by omega⟩
        · rintro ⟨i, i0, i1, i2⟩
          by_cases e : i = j
          · right
            rw [e] at i2
            omega
          · exact Or.inl ⟨i, i0, by omega, i2⟩)
      rw [show ((j + 1 : Nat) : Int) = (j : Int) + 1 by omega] at ih1
      exact ih1
    · intro c c1 c2
      obtain ⟨i, i0, i1, i2⟩ := (hs _ (by omega)).mp ((zbit_iff za.1 (by omega)).mp (zcmp_0.mp c2))
      rw [zb_f (fun z => (z.2 j (by omega) (by omega)).2 i i0 i1 (by omega))]
      exact ⟨rfl, rfl, rfl⟩
theorem f_X7_holdsPicks {X : zX} {dep : Nat} (n : Int) {h : zH} (ht : 0 ≤ h 1 1 ∧ h 1 1 ≤ 340) (hn : n = 52 ∨ n = 26) (hdep : 1 ≤ dep) : zW mX7_holdsPicks X dep 0 0 239 0 (zar 0 [xR 1, xI n]) [] h (zF h [xI (zb (zPicks h n))]) := by
  refine bX7_holdsPicks_0 n ht hn ?_ ?_
  · intro c
    exact l_X7_holdsPicks n ht hn c hdep n.toNat 0 0 (by omega) (fun i i0 i1 => by omega) (fun b hb => by
      rw [zbit_0]
      exact ⟨fun z => (by cases z), fun ⟨i, i0, i1, _⟩ => (by omega)⟩)
  · intro c
    rw [zb_f (fun z => c z.1)]
    exact ⟨rfl, rfl, rfl⟩
/-- where each number was picked -/
def ztk (h : zH) (b : Int → Int) : Nat → Int → Int
  | 0, v => b v
  | j + 1, v => if zat h j = v then (j : Int) else ztk h b j v
theorem zat_ap {S : Int → Prop} {h g : zH} (a : zap S h g) (h1 : ¬ S 1) (h2 : ¬ S 2) (i : Int) : zat g i = zat h i := by
  unfold zat
  rw [a 1 _ h1, a 2 _ h2]
theorem ztk_out {h : zH} {b : Int → Int} {v : Int} : ∀ {n : Nat}, (∀ i : Int, 0 ≤ i → i < n → zat h i ≠ v) → ztk h b n v = b v
  | 0, _ => rfl
  | j + 1, hh => by
    unfold ztk
    rw [if_neg (hh j (by omega) (by omega))]
    exact ztk_out (fun i i0 i1 => hh i i0 (by omega))
theorem l_X3_takePicks52 {X : zX} {dep : Nat} (a : Int) {h : zH} (ht : h 1 1 = 52) (hq : zPre h 52 52) (ha : zOb 239 a (1, 0, 52)) (hb : 2 < a) (hdep : 1 ≤ dep) :
    ∀ (k j : Nat) (g : zH), j + k = 52 → zap (fun q => q = a) h g → (∀ v : Int, 0 ≤ v → v < 52 → g a v = ztk h (h a) j v) → (∀ v : Int, v < 0 ∨ 52 ≤ v → g a v = h a v) → zW mX3_takePicks X dep 0 0 239 2 [(0, xR 1), (1, xR a), (2, xI j)] [] g (zQ0 (fun g => zap (fun q => q = a) h g ∧ (∀ v : Int, 0 ≤ v → v < 52 → g a v = ztk h (h a) 52 v) ∧ ∀ v : Int, v < 0 ∨ 52 ≤ v → g a v = h a v)) := by
  intro k
  induction k with
  | zero =>
    intro j g hk p1 p2 p3
    obtain rfl : j = 52 := by omega
    have e1 := p1 1 1 (by omega)
    refine bX3_takePicks52 a _ (by omega) ha (by omega) hdep ?_ ?_ ?_ ?_
    · intro c
      exact ⟨rfl, rfl, p1, p2, p3⟩
    all_goals intros; exfalso; omega
  | succ k ih =>
    intro j g hk p1 p2 p3
    have e1 := p1 1 1 (by omega)
    have ez := zat_ap p1 (by omega) (by omega) (j : Int)
    have za := zat_in (h := h) (i := j) (by omega) (by omega)
    have zb := (hq j (by omega) (by omega)).1
    refine bX3_takePicks52 a _ (by omega) ha (by omega) hdep ?_ ?_ ?_ ?_
    · intros; exfalso; omega
    · intros; exfalso; omega
    · intros; exfalso; omega
    · intro c c1 c2
      rw [ez]
      have ih1 := ih (j + 1) (zst g a (zat h j) j) (by omega) (p1.st rfl _ _) (fun v v0 v1 => by
        unfold ztk
        by_cases e : zat h j = v
        · rw [if_pos e, ← e, zst_self]
        · rw [if_neg e, zst_ne (Or.inr (fun z => e z.symm))]
          exact p2 v v0 v1) (fun v hv => by
        rw [zst_ne (Or.inr (by omega))]
        exact p3 v hv)
      rw [show ((j + 1 : Nat) : Int) = (j : Int) + 1 by omega] at ih1
      exact ih1
theorem f_X3_takePicks52 {X : zX} {dep : Nat} (a : Int) {h : zH} (ht : h 1 1 = 52) (hq : zPre h 52 52) (ha : zOb 239 a (1, 0, 52)) (hb : 2 < a) (hdep : 1 ≤ dep) : zW mX3_takePicks X dep 0 0 239 0 (zar 0 [xR 1, xR a]) [] h (zQ0 (fun g => zap (fun q => q = a) h g ∧ (∀ v : Int, 0 ≤ v → v < 52 → g a v = ztk h (h a) 52 v) ∧ ∀ v : Int, v < 0 ∨ 52 ≤ v → g a v = h a v)) := by
  refine bX3_takePicks_0 a ?_
  exact l_X3_takePicks52 a ht hq ha hb hdep 52 0 h (by omega) (zap.rf _ h) (fun v _ _ => rfl) (fun v _ => rfl)
theorem l_X3_takePicks26 {X : zX} {dep : Nat} (a : Int) {h : zH} (ht : h 1 1 = 26) (hq : zPre h 26 26) (ha : zOb 239 a (1, 0, 26)) (hb : 2 < a) (hdep : 1 ≤ dep) :
    ∀ (k j : Nat) (g : zH), j + k = 26 → zap (fun q => q = a) h g → (∀ v : Int, 0 ≤ v → v < 26 → g a v = ztk h (h a) j v) → (∀ v : Int, v < 0 ∨ 26 ≤ v → g a v = h a v) → zW mX3_takePicks X dep 0 0 239 2 [(0, xR 1), (1, xR a), (2, xI j)] [] g (zQ0 (fun g => zap (fun q => q = a) h g ∧ (∀ v : Int, 0 ≤ v → v < 26 → g a v = ztk h (h a) 26 v) ∧ ∀ v : Int, v < 0 ∨ 26 ≤ v → g a v = h a v)) := by
  intro k
  induction k with
  | zero =>
    intro j g hk p1 p2 p3
    obtain rfl : j = 26 := by omega
    have e1 := p1 1 1 (by omega)
    refine bX3_takePicks26 a _ (by omega) ha (by omega) hdep ?_ ?_ ?_ ?_
    · intro c
      exact ⟨rfl, rfl, p1, p2, p3⟩
    all_goals intros; exfalso; omega
  | succ k ih =>
    intro j g hk p1 p2 p3
    have e1 := p1 1 1 (by omega)
    have ez := zat_ap p1 (by omega) (by omega) (j : Int)
    have za := zat_in (h := h) (i := j) (by omega) (by omega)
    have zb := (hq j (by omega) (by omega)).1
    refine bX3_takePicks26 a _ (by omega) ha (by omega) hdep ?_ ?_ ?_ ?_
    · intros; exfalso; omega
    · intros; exfalso; omega
    · intros; exfalso; omega
    · intro c c1 c2
      rw [ez]
      have ih1 := ih (j + 1) (zst g a (zat h j) j) (by omega) (p1.st rfl _ _) (fun v v0 v1 => by
        unfold ztk
        by_cases e : zat h j = v
        · rw [if_pos e, ← e, zst_self]
        · rw [if_neg e, zst_ne (Or.inr (fun z => e z.symm))]
          exact p2 v v0 v1) (fun v hv => by
        rw [zst_ne (Or.inr (by omega))]
        exact p3 v hv)
      rw [show ((j + 1 : Nat) : Int) = (j : Int) + 1 by omega] at ih1
      exact ih1
theorem f_X3_takePicks26 {X : zX} {dep : Nat} (a : Int) {h : zH} (ht : h 1 1 = 26) (hq : zPre h 26 26) (ha : zOb 239 a (1, 0, 26)) (hb : 2 < a) (hdep : 1 ≤ dep) : zW mX3_takePicks X dep 0 0 239 0 (zar 0 [xR 1, xR a]) [] h (zQ0 (fun g => zap (fun q => q = a) h g ∧ (∀ v : Int, 0 ≤ v → v < 26 → g a v = ztk h (h a) 26 v) ∧ ∀ v : Int, v < 0 ∨ 26 ≤ v → g a v = h a v)) := by
  refine bX3_takePicks_0 a ?_
  exact l_X3_takePicks26 a ht hq ha hb hdep 26 0 h (by omega) (zap.rf _ h) (fun v _ _ => rfl) (fun v _ => rfl)
/-- a name: one to eight letters -/
def zName (h : zH) : Prop := (1 ≤ h 1 1 ∧ h 1 1 ≤ 8) ∧ ∀ i : Int, 0 ≤ i → i < h 1 1 → 97 ≤ zat h i ∧ zat h i ≤ 122
theorem l_X7_holdsName {X : zX} {dep : Nat} {h : zH} (ht : 0 ≤ h 1 1 ∧ h 1 1 ≤ 340) (hl : 1 ≤ h 1 1 ∧ h 1 1 ≤ 8) (hdep : 2 ≤ dep) :
    ∀ (k j : Nat), (j : Int) + k = h 1 1 → (∀ i : Int, 0 ≤ i → i < j → 97 ≤ zat h i ∧ zat h i ≤ 122) → zW mX7_holdsName X dep 0 0 239 21 [(0, xR 1), (1, xI j)] [] h (zF h [xI (zb (zName h))]) := by
  intro k
  induction k with
  | zero =>
    intro j hk hp
    refine bX7_holdsName_21 j ht (by omega) hdep ?_ ?_ ?_
    · intro c
      rw [zb_t ⟨hl, by rw [show h 1 1 = (j : Int) by omega]; exact hp⟩]
      exact ⟨rfl, rfl, rfl⟩
    all_goals intros; exfalso; omega
  | succ k ih =>
    intro j hk hp
    refine bX7_holdsName_21 j ht (by omega) hdep ?_ ?_ ?_
    · intros; exfalso; omega
    · intro c c1
      have ih1 := ih (j + 1) (by omega) (fun i i0 i1 => by
        by_cases e : i = j
        · rw [e]; exact c1
        · exact hp i i0 (by omega))
      rw [show ((j + 1 : Nat) : Int) = (j : Int) + 1 by omega] at ih1
      exact ih1
    · intro c c1
      rw [zb_f (fun z => c1 (z.2 j (by omega) (by omega)))]
      exact ⟨rfl, rfl, rfl⟩
theorem f_X7_holdsName {X : zX} {dep : Nat} {h : zH} (ht : 0 ≤ h 1 1 ∧ h 1 1 ≤ 340) (hdep : 2 ≤ dep) : zW mX7_holdsName X dep 0 0 239 0 (zar 0 [xR 1]) [] h (zF h [xI (zb (zName h))]) := by
  refine bX7_holdsName_0 ht ?_ ?_ ?_
  · intro c
    rw [zb_f (fun z => by have := z.1; omega)]
    exact ⟨rfl, rfl, rfl⟩
  · intro c c1
    exact l_X7_holdsName ht (by omega) hdep (h 1 1).toNat 0 (by omega) (fun i i0 i1 => by omega)
  · intro c c1
    rw [zb_f (fun z => by have := z.1; omega)]
    exact ⟨rfl, rfl, rfl⟩
/-- what was told of leaving, never falling -/
def zTold (h : zH) : Prop := h 1 1 = 12 ∧ ∀ i : Int, 1 ≤ i → i < 12 → zat h (i - 1) ≤ zat h i
theorem l_X0_holdsTold {X : zX} {dep : Nat} {h : zH} (hl : h 1 1 = 12) (hdep : 1 ≤ dep) :
    ∀ (k j : Nat), j + k = 12 → 1 ≤ j → (∀ i : Int, 1 ≤ i → i < j → zat h (i - 1) ≤ zat h i) → zW mX0_holdsTold X dep 0 0 239 13 [(0, xR 1), (1, xI j)] [] h (zF h [xI (zb (zTold h))]) := by
  intro k
  induction k with
  | zero =>
    intro j hk h1 hp
    obtain rfl : j = 12 := by omega
    refine bX0_holdsTold_13 _ (by omega) (by omega) hdep ?_ ?_ ?_
    · intro c
      rw [zb_t ⟨hl, hp⟩]
      exact ⟨rfl, rfl, rfl⟩
    all_goals intros; exfalso; omega
  | succ k ih =>
    intro j hk h1 hp
    refine bX0_holdsTold_13 _ (by omega) (by omega) hdep ?_ ?_ ?_
    · intros; exfalso; omega
    · intro c c1
      have ih1 := ih (j + 1) (by omega) (by omega) (fun i i0 i1 => by
        by_cases e : i = j
        · rw [e]; exact c1
        · exact hp i i0 (by omega))
      rw [show ((j + 1 : Nat) : Int) = (j : Int) + 1 by omega] at ih1
      exact ih1
    · intro c c1
      rw [zb_f (fun z => c1 (z.2 j (by omega) (by omega)))]
      exact ⟨rfl, rfl, rfl⟩
theorem f_X0_holdsTold {X : zX} {dep : Nat} {h : zH} (ht : 0 ≤ h 1 1 ∧ h 1 1 ≤ 340) (hdep : 1 ≤ dep) : zW mX0_holdsTold X dep 0 0 239 0 (zar 0 [xR 1]) [] h (zF h [xI (zb (zTold h))]) := by
  refine bX0_holdsTold_0 ht ?_ ?_
  · intro c
    exact l_X0_holdsTold c hdep 11 1 (by omega) (by omega) (fun i i0 i1 => by omega)
  · intro c
    rw [zb_f (fun z => c z.1)]
    exact ⟨rfl, rfl, rfl⟩
/-- how many weeks from a on, n of them, were picked ahead of k -/
def zpa (h : zH) (o k a : Int) : Nat → Int
  | 0 => 0
  | j + 1 => zpa h o k a j + (if k ≤ h (o + 1) (a + j) then 0 else 1)
theorem zpa_in (h : zH) (o k a : Int) : ∀ n : Nat, 0 ≤ zpa h o k a n ∧ zpa h o k a n ≤ n
  | 0 => ⟨Int.le_refl _, Int.le_refl _⟩
  | j + 1 => by
    have := zpa_in h o k a j
    unfold zpa
    split <;> omega
theorem l_X3_pickedAhead {X : zX} {dep : Nat} (o k a b : Int) {h : zH} (ho : zLotO o) (ha : 0 ≤ a) (hb : b < 52) :
    ∀ (n j : Nat), a + (j : Int) + n = b + 1 → zW mX3_pickedAhead X dep 0 0 239 6 [(0, xR o), (1, xI k), (3, xI b), (4, xI (zpa h o k a j)), (5, xI (a + j))] [] h (zF h [xI (zpa h o k a (b + 1 - a).toNat)]) := by
  intro n
  induction n with
  | zero =>
    intro j hk
    have := zpa_in h o k a j
    refine bX3_pickedAhead_6 o k b _ _ ho (by omega) hb (by omega) ?_ ?_
    · intro c
      rw [show (b + 1 - a).toNat = j by omega]
      exact ⟨rfl, rfl, rfl⟩
    · intros; exfalso; omega
  | succ n ih =>
    intro j hk
    have := zpa_in h o k a j
    refine bX3_pickedAhead_6 o k b _ _ ho (by omega) hb (by omega) ?_ ?_
    · intros; exfalso; omega
    · intro c
      have ih1 := ih (j + 1) (by omega)
      rw [show a + ((j + 1 : Nat) : Int) = a + (j : Int) + 1 by omega] at ih1
      exact ih1
theorem f_X3_pickedAhead {X : zX} {dep : Nat} (o k a b : Int) {h : zH} (ho : zLotO o) (ha : 0 ≤ a) (hb : b < 52) (hab : a ≤ b) : zW mX3_pickedAhead X dep 0 0 239 0 (zar 0 [xR o, xI k, xI a, xI b]) [] h (zF h [xI (zpa h o k a (b + 1 - a).toNat)]) := by
  refine bX3_pickedAhead_0 o k a b ?_
  have go := l_X3_pickedAhead (X := X) (dep := dep) o k a b (h := h) ho ha hb (b + 1 - a).toNat 0 (by omega)
  rw [show a + ((0 : Nat) : Int) = a by omega] at go
  exact go
/-- the most hands of the last n weeks -/
def zmh (h : zH) (p w : Int) : Nat → Int
  | 0 => 0
  | j + 1 => max (zmh h p w j) (h (46 + p) (w + j))
theorem l_X0_mostHands {X : zX} {dep : Nat} (p w : Int) {h : zH} (hp : 0 ≤ p ∧ p < 8) (hw : 0 ≤ w ∧ w ≤ 12) (hdep : 1 ≤ dep) :
    ∀ (n j : Nat), w + (j : Int) + n = 12 → zW mX0_mostHands X dep 0 0 239 5 [(0, xR 44), (1, xI p), (3, xI (zmh h p w j)), (4, xI (w + j))] [] h (zF h [xI (zmh h p w (12 - w).toNat)]) := by
  intro n
  induction n with
  | zero =>
    intro j hk
    refine bX0_mostHands_5 p _ _ hp (by omega) hdep ?_ ?_
    · intro c
      rw [show (12 - w).toNat = j by omega]
      exact ⟨rfl, rfl, rfl⟩
    · intros; exfalso; omega
  | succ n ih =>
    intro j hk
    refine bX0_mostHands_5 p _ _ hp (by omega) hdep ?_ ?_
    · intros; exfalso; omega
    · intro c
      have ih1 := ih (j + 1) (by omega)
      rw [show w + ((j + 1 : Nat) : Int) = w + (j : Int) + 1 by omega] at ih1
      exact ih1
theorem f_X0_mostHands {X : zX} {dep : Nat} (p w : Int) {h : zH} (hp : 0 ≤ p ∧ p < 8) (hw : 0 ≤ w ∧ w ≤ 12) (hdep : 1 ≤ dep) : zW mX0_mostHands X dep 0 0 239 0 (zar 0 [xR 44, xI p, xI w]) [] h (zF h [xI (zmh h p w (12 - w).toNat)]) := by
  refine bX0_mostHands_0 p w ?_
  have go := l_X0_mostHands (X := X) (dep := dep) p w (h := h) hp hw hdep (12 - w).toNat 0 (by omega)
  rw [show w + ((0 : Nat) : Int) = w by omega] at go
  exact go
