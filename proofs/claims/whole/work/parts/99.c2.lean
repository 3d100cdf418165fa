/-! mixed and doubt: the same numbers on both sides -/
theorem zsm_one {f : Int → Int} : ∀ n : Nat, (∀ p : Int, 0 ≤ p → p < n → 1 ≤ f p) → (n : Int) ≤ zsm f n ∧ (zsm f n = n → ∀ p : Int, 0 ≤ p → p < n → f p = 1)
  | 0, _ => ⟨Int.le_refl _, fun _ p p0 p1 => absurd p1 (by omega)⟩
  | n + 1, hf => by
    obtain ⟨i1, i2⟩ := zsm_one n (fun p p0 p1 => hf p p0 (by omega))
    have fn := hf n (by omega) (by omega)
    rw [zsm_s]
    refine ⟨by omega, fun e p p0 p1 => ?_⟩
    by_cases y : p = n
    · rw [y]; omega
    · exact i2 (by omega) p p0 (by omega)
/-- picks and places are each other's inverse -/
theorem zinv {f g : Int → Int} {N : Nat} (hf : ∀ k : Int, 0 ≤ k → k < N → (0 ≤ f k ∧ f k < N) ∧ g (f k) = k) (hg : ∀ k : Int, 0 ≤ k → k < N → 0 ≤ g k ∧ g k < N) : ∀ w : Int, 0 ≤ w → w < N → f (g w) = w := by
  have all : zcnt (fun _ => True) N = N := by
    have : ∀ n : Nat, zcnt (fun _ => True) n = n := fun n => by
      induction n with
      | zero => rfl
      | succ n ih => rw [zcnt_s, ih, zb_t trivial]; omega
    exact this N
  have s := zcnt_by (fun _ => True) g N N (fun k k0 k1 => hg k k0 k1)
  have one : ∀ p : Int, 0 ≤ p → p < N → 1 ≤ zcnt (fun k => True ∧ g k = p) N := fun p p0 p1 => by
    have q := hf p p0 p1
    have b := (zcnt_but (P := fun k => True ∧ g k = p) (m := f p) ⟨trivial, q.2⟩ N).1 q.1.2
    have i := zcnt_in (fun k => f p ≠ k ∧ (True ∧ g k = p)) N
    rw [if_pos q.1.1] at b
    omega
  have eq := (zsm_one N one).2 (by rw [← s]; exact all)
  intro w w0 w1
  have gw := hg w w0 w1
  have q := hf (g w) gw.1 gw.2
  have e := eq (g w) gw.1 gw.2
  have b := (zcnt_but (P := fun k => True ∧ g k = g w) (m := f (g w)) ⟨trivial, q.2⟩ N).1 q.1.2
  rw [if_pos q.1.1] at b
  refine Classical.byContradiction fun z => ?_
  have c := (zcnt_but (P := fun k => f (g w) ≠ k ∧ (True ∧ g k = g w)) (m := w) ⟨z, trivial, rfl⟩ N).1 w1
  rw [if_pos w0] at c
  have i := zcnt_in (fun k => w ≠ k ∧ (f (g w) ≠ k ∧ (True ∧ g k = g w))) N
  omega
section
variable {h : zH}
theorem v_mixN (I : vI h) {l c a b : Int} (l0 : 0 ≤ l ∧ l < h 0 12) (hc : 0 ≤ c ∧ c ≤ 52) (ha : 0 ≤ a) (hab : a ≤ b) (hb : b < 52) : zpa h (113 + 14 * l + 1) c a (b + 1 - a).toNat = mMxN h l c a b := by
  have lt := (I.2.2.2.2.2.2.2.2.2.1.2.2.1 l l0.1 l0.2).2.2.2.2.1
  have P : ∀ k : Int, 0 ≤ k → k < 52 → h (113 + 14 * l + 1 + 1) k = h 208 (52 * l + k) := fun k k0 k1 => by
    rw [(lt k k0 k1).1.1, show 113 + 14 * l + 1 + 1 = 115 + 14 * l by omega]
  have inv := zinv (f := fun k => h 207 (52 * l + k)) (g := fun k => h 208 (52 * l + k)) (N := 52) (fun k k0 k1 => (lt k k0 (by omega)).2) (fun k k0 k1 => by
    have := (lt k k0 (by omega)).1
    show 0 ≤ h 208 (52 * l + k) ∧ h 208 (52 * l + k) < 52
    omega)
  have step : ∀ (k : Int), 0 ≤ k → k < 52 → ∀ n : Nat, a + n ≤ 52 → zpa h (113 + 14 * l + 1) (k + 1) a n = zpa h (113 + 14 * l + 1) k a n + if a ≤ h 207 (52 * l + k) ∧ h 207 (52 * l + k) < a + n then 1 else 0 := fun k k0 k1 n => by
    induction n with
    | zero =>
      intro _
      rw [if_neg (by omega)]; rfl
    | succ n ih =>
      intro hn
      have s : ∀ c : Int, zpa h (113 + 14 * l + 1) c a (n + 1) = zpa h (113 + 14 * l + 1) c a n + (if c ≤ h (113 + 14 * l + 1 + 1) (a + n) then 0 else 1) := fun _ => rfl
      rw [s, s, ih (by omega), P (a + n) (by omega) (by omega)]
      have i1 : h 207 (52 * l + h 208 (52 * l + (a + n))) = a + n := inv (a + n) (by omega) (by omega)
      have i2 := (lt k k0 k1).2.2
      by_cases y : h 208 (52 * l + (a + n)) = k
      · rw [y] at i1
        rw [y, i1, if_neg (show ¬ (a ≤ a + (n : Int) ∧ a + (n : Int) < a + n) by omega), if_neg (show ¬ k + 1 ≤ k by omega), if_pos (Int.le_refl k), if_pos (by omega)]
      · have ne : h 207 (52 * l + k) ≠ a + n := fun z => y (by rw [← z]; exact i2)
        have e1 : (k + 1 ≤ h 208 (52 * l + (a + n))) ↔ (k ≤ h 208 (52 * l + (a + n))) := by omega
        have e2 : (a ≤ h 207 (52 * l + k) ∧ h 207 (52 * l + k) < a + ((n + 1 : Nat) : Int)) ↔ (a ≤ h 207 (52 * l + k) ∧ h 207 (52 * l + k) < a + (n : Int)) := by omega
        by_cases y1 : k ≤ h 208 (52 * l + (a + n))
        · rw [if_pos (e1.mpr y1), if_pos y1]
          by_cases y2 : a ≤ h 207 (52 * l + k) ∧ h 207 (52 * l + k) < a + (n : Int)
          · rw [if_pos y2, if_pos (e2.mpr y2)]; omega
          · rw [if_neg y2, if_neg (fun z => y2 (e2.mp z))]
        · rw [if_neg (fun z => y1 (e1.mp z)), if_neg y1]
          by_cases y2 : a ≤ h 207 (52 * l + k) ∧ h 207 (52 * l + k) < a + (n : Int)
          · rw [if_pos y2, if_pos (e2.mpr y2)]
          · rw [if_neg y2, if_neg (fun z => y2 (e2.mp z))]; omega
  have zero : ∀ n : Nat, a + n ≤ 52 → zpa h (113 + 14 * l + 1) 0 a n = 0 := fun n => by
    induction n with
    | zero => exact fun _ => rfl
    | succ n ih =>
      intro hn
      have s : zpa h (113 + 14 * l + 1) 0 a (n + 1) = zpa h (113 + 14 * l + 1) 0 a n + (if 0 ≤ h (113 + 14 * l + 1 + 1) (a + n) then 0 else 1) := rfl
      have g := (lt (a + n) (by omega) (by omega)).1
      rw [s, ih (by omega), P (a + n) (by omega) (by omega), if_pos (by omega)]; rfl
  have key : ∀ k : Nat, (k : Int) ≤ 52 → zpa h (113 + 14 * l + 1) k a (b + 1 - a).toNat = zcnt (fun i => a ≤ h 207 (52 * l + i) ∧ h 207 (52 * l + i) ≤ b) k := fun k => by
    induction k with
    | zero => exact fun _ => zero _ (by omega)
    | succ k ih =>
      intro hk
      rw [zcnt_s, ← ih (by omega), show ((k + 1 : Nat) : Int) = (k : Int) + 1 by omega, step k (by omega) (by omega) _ (by omega)]
      by_cases y : a ≤ h 207 (52 * l + k) ∧ h 207 (52 * l + k) ≤ b
      · rw [zb_t y, if_pos (by omega)]
      · rw [zb_f y, if_neg (by omega)]
  unfold mMxN
  have := key c.toNat (by omega)
  rw [Int.toNat_of_nonneg hc.1] at this
  exact this
end
