/-! a COND: the class's number of waiting bits is the model's pile -/
theorem zb64 (a : Nat) : (Int64.ofInt (a : Int)).toBitVec = BitVec.ofNat 64 a := BitVec.ofInt_natCast 64 a
theorem zi64_eq {x : Int64} {n : Nat} (h : n < 9223372036854775808) (e : x.toBitVec = BitVec.ofNat 64 n) : x.toInt = (n : Int) := by
  have : x = Int64.ofInt (n : Int) := by
    rw [← Int64.toBitVec_inj, zb64]
    exact e
  rw [this, Int64.toInt_ofInt_of_le (by omega) (by omega)]
theorem zlxorN {a b : Nat} (ha : a < 9223372036854775808) (hb : b < 9223372036854775808) : zlxor (a : Int) (b : Int) = ((a ^^^ b : Nat) : Int) := by
  have lt : a ^^^ b < 2 ^ 63 := Nat.xor_lt_two_pow (by omega) (by omega)
  refine zi64_eq (by omega) ?_
  rw [Int64.toBitVec_xor, zb64, zb64]
  apply BitVec.eq_of_toNat_eq
  rw [BitVec.toNat_xor, BitVec.toNat_ofNat, BitVec.toNat_ofNat, BitVec.toNat_ofNat, Nat.mod_eq_of_lt (a := a) (by omega), Nat.mod_eq_of_lt (a := b) (by omega), Nat.mod_eq_of_lt (by omega)]
theorem zlandN {a b : Nat} (ha : a < 9223372036854775808) (hb : b < 9223372036854775808) : zland (a : Int) (b : Int) = ((a &&& b : Nat) : Int) := by
  have le : a &&& b ≤ a := Nat.and_le_left
  refine zi64_eq (by omega) ?_
  rw [Int64.toBitVec_and, zb64, zb64]
  apply BitVec.eq_of_toNat_eq
  rw [BitVec.toNat_and, BitVec.toNat_ofNat, BitVec.toNat_ofNat, BitVec.toNat_ofNat, Nat.mod_eq_of_lt (a := a) (by omega), Nat.mod_eq_of_lt (a := b) (by omega), Nat.mod_eq_of_lt (by omega)]
theorem zlorN {a b : Nat} (ha : a < 9223372036854775808) (hb : b < 9223372036854775808) : zlor (a : Int) (b : Int) = ((a ||| b : Nat) : Int) := by
  have lt : a ||| b < 2 ^ 63 := Nat.or_lt_two_pow (by omega) (by omega)
  refine zi64_eq (by omega) ?_
  rw [Int64.toBitVec_or, zb64, zb64]
  apply BitVec.eq_of_toNat_eq
  rw [BitVec.toNat_or, BitVec.toNat_ofNat, BitVec.toNat_ofNat, BitVec.toNat_ofNat, Nat.mod_eq_of_lt (a := a) (by omega), Nat.mod_eq_of_lt (a := b) (by omega), Nat.mod_eq_of_lt (by omega)]
theorem zlshl1 {a : Nat} (ha : a < 4611686018427387904) : zlshl (a : Int) 1 = ((2 * a : Nat) : Int) := by
  refine zi64_eq (by omega) ?_
  rw [show (Int32.ofInt 1).toInt64 &&& 63 = (1 : Int64) by decide, Int64.toBitVec_shiftLeft, zb64]
  rw [show ((1 : Int64).toBitVec.smod 64) = (1#64) by decide]
  apply BitVec.eq_of_toNat_eq
  rw [BitVec.shiftLeft_eq', BitVec.toNat_shiftLeft, show (1#64).toNat = 1 from rfl, BitVec.toNat_ofNat, BitVec.toNat_ofNat, Nat.mod_eq_of_lt (a := a) (by omega), Nat.shiftLeft_eq]
  omega
theorem zlshr1 {a : Nat} (ha : a < 9223372036854775808) : zlshr (a : Int) 1 = ((a / 2 : Nat) : Int) := by
  refine zi64_eq (by omega) ?_
  rw [show (Int32.ofInt 1).toInt64 &&& 63 = (1 : Int64) by decide, Int64.toBitVec_shiftRight, zb64]
  rw [show ((1 : Int64).toBitVec.smod 64) = (1#64) by decide]
  have ms : (BitVec.ofNat 64 a).msb = false := by
    rw [BitVec.msb_eq_false_iff_two_mul_lt, BitVec.toNat_ofNat, Nat.mod_eq_of_lt (by omega)]
    omega
  apply BitVec.eq_of_toNat_eq
  rw [BitVec.sshiftRight_eq', BitVec.sshiftRight_eq_of_msb_false ms, BitVec.toNat_ushiftRight, show (1#64).toNat = 1 from rfl, BitVec.toNat_ofNat, BitVec.toNat_ofNat, Nat.mod_eq_of_lt (a := a) (by omega), Nat.shiftRight_eq_div_pow, Nat.mod_eq_of_lt (by omega)]
/-- all bits but the last -/
theorem zlandM {a : Nat} (ha : a < 9223372036854775808) : zland (a : Int) (-1) = (a : Int) ∧ zland (a : Int) (-2) = ((2 * (a / 2) : Nat) : Int) := by
  constructor
  · refine zi64_eq (by omega) ?_
    rw [Int64.toBitVec_and, zb64, show (Int64.ofInt (-1)).toBitVec = BitVec.allOnes 64 by decide, BitVec.and_allOnes]
  · refine zi64_eq (by omega) ?_
    rw [Int64.toBitVec_and, zb64]
    apply BitVec.eq_of_toNat_eq
    rw [BitVec.toNat_and, BitVec.toNat_ofNat, BitVec.toNat_ofNat, Nat.mod_eq_of_lt (a := a) (by omega), Nat.mod_eq_of_lt (a := 2 * (a / 2)) (by omega)]
    rw [show (Int64.ofInt (-2)).toBitVec.toNat = 18446744073709551614 by decide]
    have d : (a &&& 18446744073709551614) / 2 = a / 2 := by
      rw [Nat.and_div_two, show (18446744073709551614 : Nat) / 2 = 2 ^ 63 - 1 by decide, Nat.and_two_pow_sub_one_eq_mod, Nat.mod_eq_of_lt (by omega)]
    have m : ¬ (a &&& 18446744073709551614) % 2 = 1 := fun z => by
      have := (Nat.and_mod_two_eq_one.mp z).2
      omega
    omega
theorem zv_or {a b : Nat} (hb : b ≤ 1) : 2 * a ||| b = 2 * a + b := by
  have d : (2 * a ||| b) / 2 = a := by
    rw [Nat.or_div_two, show b / 2 = 0 by omega, show 2 * a / 2 = a by omega, Nat.or_zero]
  have m : (2 * a ||| b) % 2 = 1 ↔ 2 * a % 2 = 1 ∨ b % 2 = 1 := Nat.or_mod_two_eq_one
  omega
theorem zv_or1 {a y b : Nat} (hy : y ≤ 1) (hb : b ≤ 1) : (2 * a + y) ||| b = 2 * a + (if y = 0 ∧ b = 0 then 0 else 1) := by
  have d : ((2 * a + y) ||| b) / 2 = a := by
    rw [Nat.or_div_two, show b / 2 = 0 by omega, show (2 * a + y) / 2 = a by omega, Nat.or_zero]
  have m : ((2 * a + y) ||| b) % 2 = 1 ↔ (2 * a + y) % 2 = 1 ∨ b % 2 = 1 := Nat.or_mod_two_eq_one
  by_cases c : y = 0 ∧ b = 0
  · rw [if_pos c]; omega
  · rw [if_neg c]; omega
theorem zv_xor {a x : Nat} (hx : x ≤ 1) : (2 * a + x) ^^^ 1 = 2 * a + (1 - x) := by
  have d : ((2 * a + x) ^^^ 1) / 2 = a := by
    rw [Nat.xor_div_two, show 1 / 2 = 0 by decide, show (2 * a + x) / 2 = a by omega, Nat.xor_zero]
  have m : ((2 * a + x) ^^^ 1) % 2 ^ 1 = (2 * a + x) % 2 ^ 1 ^^^ 1 % 2 ^ 1 := Nat.xor_mod_two_pow
  have p : ∀ x : Nat, x ≤ 1 → x ^^^ 1 = 1 - x := by decide
  rw [show (2 * a + x) % 2 ^ 1 = x by omega, show 1 % 2 ^ 1 = 1 by decide, p x hx] at m
  omega
/-- the answers that wait, the last one first, as one number -/
def zvl1 : List Nat → Nat
  | [] => 0
  | x :: s => 2 * zvl1 s + x
theorem zvl1_lt : ∀ s : List Nat, (∀ x ∈ s, x ≤ 1) → zvl1 s < 2 ^ s.length
  | [], _ => by decide
  | x :: s, h => by
    have i := zvl1_lt s (fun y hy => h y (List.mem_cons_of_mem _ hy))
    have hx := h x List.mem_cons_self
    show 2 * zvl1 s + x < 2 ^ (s.length + 1)
    rw [Nat.pow_succ]
    omega
theorem zwrun_s (h : zH) (o a p : Int) : ∀ (k : Nat) (i w : Int), zwrun h o a p (k + 1) i w = zwst h a p (h (o + 5) (i + k)) (zwrun h o a p k i w)
  | 0, i, w => by
    show zwst h a p (h (o + 5) i) w = zwst h a p (h (o + 5) (i + ((0 : Nat) : Int))) w
    rw [show i + ((0 : Nat) : Int) = i by omega]
  | k + 1, i, w => by
    have z := zwrun_s h o a p k (i + 1) (zwst h a p (h (o + 5) i) w)
    show zwrun h o a p (k + 1) (i + 1) (zwst h a p (h (o + 5) i) w) = zwst h a p (h (o + 5) (i + ((k + 1 : Nat) : Int))) (zwrun h o a p k (i + 1) (zwst h a p (h (o + 5) i) w))
    rw [z, show i + 1 + (k : Int) = i + ((k + 1 : Nat) : Int) by omega]
/-- after j steps -/
def vSt (c m : zH) (o a p i0 mm l aa : Int) (j : Nat) (st : List Nat) : Prop := (∀ x ∈ st, x ≤ 1) ∧ mdp m aa j = st.length ∧ zwrun c o a p j i0 0 = (zvl1 st : Nat) ∧ ∀ i : Nat, i < st.length → mstk m mm l aa j ((st.length : Int) - 1 - i) = (st.getD i 0 : Nat)
theorem v_cond {c m : zH} {o a p i0 mm l aa : Int} {S : List Int} (hl : S.length ≤ 120) (hS : zXr S) (hc : ∀ k : Nat, k < S.length → c (o + 5) (i0 + k) = S.getD k 0) (hm : ∀ k : Nat, k < S.length → mStq (m 201 (aa + k)) (m 202 (aa + k)) (m 203 (aa + k)) (S.getD k 0)) (ha : ∀ k : Nat, k < S.length → 0 ≤ S.getD k 0 → zans c a (S.getD k 0) p = mat m (aa + k) mm l) : ∀ j : Nat, j ≤ S.length → ∃ st : List Nat, vSt c m o a p i0 mm l aa j st := by
  have gd := mGood_rpn hl hS hm
  have at60 : 2 * zat1 S ≤ 121 := by
    have := zfi_ge S 0
    have := (hS 0 (Int.le_refl _)).2
    omega
  intro j
  induction j with
  | zero =>
    intro _
    refine ⟨[], fun x hx => ?_, rfl, rfl, fun i hi => absurd hi (Nat.not_lt_zero i)⟩
    cases hx
  | succ j ih =>
    intro hj
    obtain ⟨st, s1, s2, s3, s4⟩ := ih (by omega)
    have kd := (hm j (by omega)).kd
    have g := gd j (by omega)
    have d60 : mdp m aa j ≤ 60 := by
      rw [mdp_zfi hm j (by omega)]
      have le := zfi_le (S.take j) 0
      have a1 : zat1 S = zat1 (S.take j) + zat1 (S.drop j) := by rw [← zat1_app, List.take_append_drop]
      have a2 := zat1_in (S.drop j)
      omega
    have lt := zvl1_lt st s1
    have pw : ∀ n : Nat, n ≤ 60 → 2 ^ n ≤ 1152921504606846976 := by decide +kernel
    have p60 := pw st.length (by omega)
    have w := zwrun_s c o a p j i0 0
    rw [hc j (by omega), s3] at w
    have es : ∀ q : Int, mstk m mm l aa (j + 1) q = (if m 201 (aa + j) = 20 then (if q = mdp m aa j - 1 then (if mstk m mm l aa j (mdp m aa j - 1) = 0 then 1 else 0) else mstk m mm l aa j q)
      else if m 201 (aa + j) = 21 then (if q = mdp m aa j - 2 then (if mstk m mm l aa j (mdp m aa j - 2) = 0 then 0 else if mstk m mm l aa j (mdp m aa j - 1) = 0 then 0 else 1) else mstk m mm l aa j q)
      else if m 201 (aa + j) = 22 then (if q = mdp m aa j - 2 then (if mstk m mm l aa j (mdp m aa j - 2) = 0 then if mstk m mm l aa j (mdp m aa j - 1) = 0 then 0 else 1 else 1) else mstk m mm l aa j q)
      else if q = mdp m aa j then mat m (aa + j) mm l else mstk m mm l aa j q) := fun q => rfl
    have ed : mdp m aa (j + 1) = mdp m aa j + (if m 201 (aa + j) = 20 then 0 else if m 201 (aa + j) = 21 ∨ m 201 (aa + j) = 22 then -1 else 1) := rfl
    rw [s2] at g es ed
    generalize hx : S.getD j 0 = x at kd w
    rcases kd with ⟨k1, k2⟩ | ⟨k1, k2⟩ | ⟨k1, k2⟩ | ⟨k1, k2⟩
    · -- NOT
      cases st with
      | nil => exfalso; rw [List.length_nil] at g; omega
      | cons y t =>
        have hy := s1 y List.mem_cons_self
        refine ⟨(1 - y) :: t, fun z hz => ?_, ?_, ?_, fun i hi => ?_⟩
        · rcases List.mem_cons.mp hz with q | q
          · omega
          · exact s1 z (List.mem_cons_of_mem _ q)
        · rw [ed, if_pos k1]
          show ((t.length + 1 : Nat) : Int) + 0 = ((t.length + 1 : Nat) : Int)
          omega
        · rw [w]
          have e : zwst c a p x (zvl1 (y :: t) : Nat) = zlxor (zvl1 (y :: t) : Nat) 1 := by
            unfold zwst; rw [if_pos k2]
          rw [e, show (1 : Int) = ((1 : Nat) : Int) from rfl, zlxorN (by omega) (by decide)]
          show (((2 * zvl1 t + y) ^^^ 1 : Nat) : Int) = ((2 * zvl1 t + (1 - y) : Nat) : Int)
          rw [zv_xor hy]
        · rw [es, if_pos k1]
          show (if ((t.length + 1 : Nat) : Int) - 1 - i = ((t.length + 1 : Nat) : Int) - 1 then _ else _) = _
          have z0 := s4 0 (by rw [List.length_cons]; omega)
          rw [List.length_cons] at z0 hi
          cases i with
          | zero =>
            rw [if_pos (by omega)]
            rw [show ((t.length + 1 : Nat) : Int) - 1 - ((0 : Nat) : Int) = ((t.length + 1 : Nat) : Int) - 1 by omega] at z0
            have z0' : mstk m mm l aa j (((t.length + 1 : Nat) : Int) - 1) = (y : Int) := z0
            show (if mstk m mm l aa j (((t.length + 1 : Nat) : Int) - 1) = 0 then (1 : Int) else 0) = ((1 - y : Nat) : Int)
            rw [z0']
            by_cases c0 : y = 0
            · rw [if_pos (by omega)]; omega
            · rw [if_neg (by omega)]; omega
          | succ i =>
            rw [if_neg (by omega)]
            have z := s4 (i + 1) (by rw [List.length_cons]; omega)
            rw [List.length_cons] at z
            exact z
    · -- AND
      cases st with
      | nil => exfalso; rw [List.length_nil] at g; omega
      | cons y t => cases t with
        | nil => exfalso; rw [List.length_cons, List.length_nil] at g; omega
        | cons z t =>
          have hy := s1 y List.mem_cons_self
          have hz := s1 z (List.mem_cons_of_mem _ List.mem_cons_self)
          have v0 : zvl1 (y :: z :: t) = 2 * (2 * zvl1 t + z) + y := rfl
          refine ⟨(z * y) :: t, fun q hq => ?_, ?_, ?_, fun i hi => ?_⟩
          · rcases List.mem_cons.mp hq with e | e
            · rw [e]
              have : z * y ≤ 1 * 1 := Nat.mul_le_mul hz hy
              omega
            · exact s1 q (List.mem_cons_of_mem _ (List.mem_cons_of_mem _ e))
          · rw [ed, if_neg (by omega), if_pos (Or.inl k1)]
            show ((t.length + 1 + 1 : Nat) : Int) + -1 = ((t.length + 1 : Nat) : Int)
            omega
          · rw [w]
            have e : zwst c a p x (zvl1 (y :: z :: t) : Nat) = zland (zlshr (zvl1 (y :: z :: t) : Nat) 1) (zlor (zland (zvl1 (y :: z :: t) : Nat) 1) (-2)) := by
              unfold zwst; rw [if_neg (by omega), if_pos k2]
            rw [e, zlshr1 (by omega), show (1 : Int) = ((1 : Nat) : Int) from rfl, zlandN (b := 1) (by omega) (by decide), Nat.and_one_is_mod]
            rw [v0, show (2 * (2 * zvl1 t + z) + y) % 2 = y by omega, show (2 * (2 * zvl1 t + z) + y) / 2 = 2 * zvl1 t + z by omega]
            show _ = ((2 * zvl1 t + z * y : Nat) : Int)
            rw [v0] at lt
            rcases (show y = 0 ∨ y = 1 by omega) with c0 | c0
            · rw [c0, show zlor ((0 : Nat) : Int) (-2) = -2 by decide, (zlandM (by omega)).2]
              rw [show 2 * ((2 * zvl1 t + z) / 2) = 2 * zvl1 t + z * 0 by omega]
            · rw [c0, show zlor ((1 : Nat) : Int) (-2) = -1 by decide, (zlandM (by omega)).1, Nat.mul_one]
          · rw [es, if_neg (by omega), if_pos k1]
            have z0 := s4 0 (by rw [List.length_cons]; omega)
            have z1 := s4 1 (by rw [List.length_cons, List.length_cons]; omega)
            have hi' : i < t.length + 1 := hi
            have z0' : mstk m mm l aa j (((t.length + 1 + 1 : Nat) : Int) - 1 - ((0 : Nat) : Int)) = (y : Int) := z0
            have z1' : mstk m mm l aa j (((t.length + 1 + 1 : Nat) : Int) - 1 - ((1 : Nat) : Int)) = (z : Int) := z1
            show (if ((t.length + 1 : Nat) : Int) - 1 - i = ((t.length + 1 + 1 : Nat) : Int) - 2 then (if mstk m mm l aa j (((t.length + 1 + 1 : Nat) : Int) - 2) = 0 then (0 : Int) else if mstk m mm l aa j (((t.length + 1 + 1 : Nat) : Int) - 1) = 0 then 0 else 1) else mstk m mm l aa j (((t.length + 1 : Nat) : Int) - 1 - i)) = _
            rw [show ((t.length + 1 + 1 : Nat) : Int) - 1 - ((0 : Nat) : Int) = ((t.length + 1 + 1 : Nat) : Int) - 1 by omega] at z0'
            rw [show ((t.length + 1 + 1 : Nat) : Int) - 1 - ((1 : Nat) : Int) = ((t.length + 1 + 1 : Nat) : Int) - 2 by omega] at z1'
            cases i with
            | zero =>
              rw [if_pos (by omega), z0', z1']
              show _ = ((z * y : Nat) : Int)
              rcases (show z = 0 ∨ z = 1 by omega) with c1 | c1
              · rw [c1, if_pos (by omega), Nat.zero_mul]; rfl
              · rw [c1, if_neg (by omega), Nat.one_mul]
                rcases (show y = 0 ∨ y = 1 by omega) with c2 | c2
                · rw [c2, if_pos (by omega)]; rfl
                · rw [c2, if_neg (by omega)]; rfl
            | succ i =>
              rw [if_neg (by omega)]
              have q := s4 (i + 2) (by rw [List.length_cons, List.length_cons]; omega)
              rw [List.length_cons, List.length_cons, show ((t.length + 1 + 1 : Nat) : Int) - 1 - ((i + 2 : Nat) : Int) = ((t.length + 1 : Nat) : Int) - 1 - ((i + 1 : Nat) : Int) by omega] at q
              exact q
    · -- OR
      cases st with
      | nil => exfalso; rw [List.length_nil] at g; omega
      | cons y t => cases t with
        | nil => exfalso; rw [List.length_cons, List.length_nil] at g; omega
        | cons z t =>
          have hy := s1 y List.mem_cons_self
          have hz := s1 z (List.mem_cons_of_mem _ List.mem_cons_self)
          have v0 : zvl1 (y :: z :: t) = 2 * (2 * zvl1 t + z) + y := rfl
          refine ⟨(if z = 0 ∧ y = 0 then 0 else 1) :: t, fun q hq => ?_, ?_, ?_, fun i hi => ?_⟩
          · rcases List.mem_cons.mp hq with e | e
            · rw [e]; split <;> omega
            · exact s1 q (List.mem_cons_of_mem _ (List.mem_cons_of_mem _ e))
          · rw [ed, if_neg (by omega), if_pos (Or.inr k1)]
            show ((t.length + 1 + 1 : Nat) : Int) + -1 = ((t.length + 1 : Nat) : Int)
            omega
          · rw [w]
            have e : zwst c a p x (zvl1 (y :: z :: t) : Nat) = zlor (zlshr (zvl1 (y :: z :: t) : Nat) 1) (zland (zvl1 (y :: z :: t) : Nat) 1) := by
              unfold zwst; rw [if_neg (by omega), if_neg (by omega), if_pos k2]
            rw [e, zlshr1 (by omega), show (1 : Int) = ((1 : Nat) : Int) from rfl, zlandN (b := 1) (by omega) (by decide), Nat.and_one_is_mod]
            rw [v0, show (2 * (2 * zvl1 t + z) + y) % 2 = y by omega, show (2 * (2 * zvl1 t + z) + y) / 2 = 2 * zvl1 t + z by omega]
            rw [v0] at lt
            rw [zlorN (by omega) (by omega), zv_or1 hz hy]
            rfl
          · rw [es, if_neg (by omega), if_neg (by omega), if_pos k1]
            have z0 := s4 0 (by rw [List.length_cons]; omega)
            have z1 := s4 1 (by rw [List.length_cons, List.length_cons]; omega)
            have hi' : i < t.length + 1 := hi
            have z0' : mstk m mm l aa j (((t.length + 1 + 1 : Nat) : Int) - 1 - ((0 : Nat) : Int)) = (y : Int) := z0
            have z1' : mstk m mm l aa j (((t.length + 1 + 1 : Nat) : Int) - 1 - ((1 : Nat) : Int)) = (z : Int) := z1
            show (if ((t.length + 1 : Nat) : Int) - 1 - i = ((t.length + 1 + 1 : Nat) : Int) - 2 then (if mstk m mm l aa j (((t.length + 1 + 1 : Nat) : Int) - 2) = 0 then if mstk m mm l aa j (((t.length + 1 + 1 : Nat) : Int) - 1) = 0 then (0 : Int) else 1 else 1) else mstk m mm l aa j (((t.length + 1 : Nat) : Int) - 1 - i)) = _
            rw [show ((t.length + 1 + 1 : Nat) : Int) - 1 - ((0 : Nat) : Int) = ((t.length + 1 + 1 : Nat) : Int) - 1 by omega] at z0'
            rw [show ((t.length + 1 + 1 : Nat) : Int) - 1 - ((1 : Nat) : Int) = ((t.length + 1 + 1 : Nat) : Int) - 2 by omega] at z1'
            cases i with
            | zero =>
              rw [if_pos (by omega), z0', z1']
              show _ = (((if z = 0 ∧ y = 0 then 0 else 1) : Nat) : Int)
              rcases (show z = 0 ∨ z = 1 by omega) with c1 | c1
              · rw [c1, if_pos (by omega)]
                rcases (show y = 0 ∨ y = 1 by omega) with c2 | c2
                · rw [c2, if_pos (by omega), if_pos ⟨rfl, rfl⟩]; rfl
                · rw [c2, if_neg (by omega), if_neg (by omega)]; rfl
              · rw [c1, if_neg (by omega), if_neg (by omega)]; rfl
            | succ i =>
              rw [if_neg (by omega)]
              have q := s4 (i + 2) (by rw [List.length_cons, List.length_cons]; omega)
              rw [List.length_cons, List.length_cons, show ((t.length + 1 + 1 : Nat) : Int) - 1 - ((i + 2 : Nat) : Int) = ((t.length + 1 : Nat) : Int) - 1 - ((i + 1 : Nat) : Int) by omega] at q
              exact q
    · -- a question
      have q := ha j (by omega) (by rw [hx]; exact k2)
      rw [hx] at q
      have z01 : zans c a x p = 0 ∨ zans c a x p = 1 := zb01 _
      refine ⟨(zans c a x p).toNat :: st, fun r hr => ?_, ?_, ?_, fun i hi => ?_⟩
      · rcases List.mem_cons.mp hr with e | e
        · omega
        · exact s1 r e
      · rw [ed, if_neg (by omega), if_neg (by omega), List.length_cons]
        omega
      · rw [w]
        have e : zwst c a p x (zvl1 st : Nat) = zlor (zlshl (zvl1 st : Nat) 1) (zans c a x p) := by
          unfold zwst; rw [if_neg (by omega), if_neg (by omega), if_neg (by omega)]
        rw [e, zlshl1 (by omega), show zans c a x p = (((zans c a x p).toNat : Nat) : Int) by omega, zlorN (by omega) (by omega), zv_or (by omega)]
        rfl
      · rw [es, if_neg (by omega), if_neg (by omega), if_neg (by omega)]
        have hi' : i < st.length + 1 := hi
        show (if ((st.length + 1 : Nat) : Int) - 1 - i = st.length then _ else _) = _
        cases i with
        | zero =>
          rw [if_pos (by omega), ← q]
          show zans c a x p = (((zans c a x p).toNat : Nat) : Int)
          omega
        | succ i =>
          rw [if_neg (by omega)]
          have r := s4 i (by omega)
          rw [show (st.length : Int) - 1 - (i : Int) = ((st.length + 1 : Nat) : Int) - 1 - ((i + 1 : Nat) : Int) by omega] at r
          exact r
/-- a COND holds for the class where it holds for the model -/
theorem v_hold {c m : zH} {o a p i0 mm l aa : Int} {S : List Int} (hl : S.length ≤ 120) (hS : zXr S) (hc : ∀ k : Nat, k < S.length → c (o + 5) (i0 + k) = S.getD k 0) (hm : ∀ k : Nat, k < S.length → mStq (m 201 (aa + k)) (m 202 (aa + k)) (m 203 (aa + k)) (S.getD k 0)) (ha : ∀ k : Nat, k < S.length → 0 ≤ S.getD k 0 → zans c a (S.getD k 0) p = mat m (aa + k) mm l) : mdp m aa S.length = 1 ∧ (zland (zwrun c o a p S.length i0 0) 1 = 1 ↔ mstk m mm l aa S.length 0 ≠ 0) := by
  obtain ⟨st, s1, s2, s3, s4⟩ := v_cond hl hS hc hm ha S.length (Nat.le_refl _)
  have d1 : mdp m aa S.length = 1 := by
    rw [mdp_zfi hm _ (Nat.le_refl _), List.take_length, (hS 0 (Int.le_refl _)).2]; rfl
  refine ⟨d1, ?_⟩
  have l1 : st.length = 1 := by omega
  match st, l1 with
  | [y], _ =>
    have hy := s1 y List.mem_cons_self
    have z := s4 0 (show 0 < 1 from Nat.one_pos)
    have z' : mstk m mm l aa S.length 0 = (y : Int) := z
    have v : zvl1 [y] = y := by show 2 * 0 + y = y; omega
    rw [s3, v, z', show (1 : Int) = ((1 : Nat) : Int) from rfl, zlandN (by omega) (by decide), Nat.and_one_is_mod]
    omega
