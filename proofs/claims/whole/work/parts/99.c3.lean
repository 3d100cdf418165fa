/-- the first rows are those that are known -/
theorem zcnt_pre {C R : Int → Prop} {K : Int} (k0 : 0 ≤ K) : ∀ n : Nat, (∀ r : Int, 0 ≤ r → r < n → (C r ↔ r < K)) → zcnt (fun r => C r ∧ R r) n = zcnt R (min K n).toNat
  | 0, _ => by rw [show (min K ((0 : Nat) : Int)).toNat = 0 by omega]; rfl
  | n + 1, hc => by
    have ih := zcnt_pre (R := R) k0 n (fun r r0 r1 => hc r r0 (by omega))
    have c := hc n (by omega) (by omega)
    rw [zcnt_s, ih]
    by_cases y : (n : Int) < K
    · have e1 : (min K ((n + 1 : Nat) : Int)).toNat = n + 1 := by omega
      have e2 : (min K (n : Int)).toNat = n := by omega
      have z : zb (C n ∧ R n) = zb (R n) := zb_iff ⟨fun z => z.2, fun z => ⟨c.mpr y, z⟩⟩
      rw [e1, e2, zcnt_s, z]
    · have e1 : (min K ((n + 1 : Nat) : Int)).toNat = (min K (n : Int)).toNat := by omega
      have z : zb (C n ∧ R n) = 0 := zb_f (fun z => y (c.mp z.1))
      rw [e1, z]; omega
section
variable {h : zH}
theorem v_doubtV (I : vI h) (d t w : Int) : mDoV h d t w = zDoV h d t w := by
  have ex := I.2.2.2.2.2.1
  have kn := ex.1.known t
  have s9 := ex.1.2.2.1
  have s0 := ex.1.1
  have row : ∀ r : Int, 0 ≤ r → r < h 11 2 → h 184 r = zget h 11 r 2 ∧ h 185 r = zget h 11 r 3 ∧ (h 186 r ≤ t ↔ r < zknown h 11 t) := fun r r0 r1 => by
    rw [zget_in r0 r1 (by decide) (by decide), zget_in r0 r1 (by decide) (by decide)]
    have d0 := ex.1.get r0 r1 (c := 0) (q := 186) (by decide)
    rw [Int.add_zero] at d0
    exact ⟨ex.1.get r0 r1 (by decide), ex.1.get r0 r1 (by decide), by rw [d0]; exact kn.2 r r0 r1⟩
  have mn : (min (zknown h 11 t) ((h 11 2).toNat : Int)).toNat = (zknown h 11 t).toNat := by omega
  have pre : ∀ R : Int → Prop, zcnt (fun r => h 186 r ≤ t ∧ R r) (h 11 2).toNat = zcnt R (zknown h 11 t).toNat := fun R => by
    rw [zcnt_pre (C := fun r => h 186 r ≤ t) (R := R) kn.1.1 (h 11 2).toNat (fun r r0 r1 => (row r r0 (by omega)).2.2), mn]
  have cg : ∀ {R S : Int → Prop}, (∀ r : Int, 0 ≤ r → r < h 11 2 → (R r ↔ S r)) → zcnt R (zknown h 11 t).toNat = zcnt S (zknown h 11 t).toNat := fun e => zcnt_congr (fun r r0 r1 => e r r0 (by omega))
  have a4 : zcnt (mD4 h t d) (h 11 2).toNat = zcnt (fun r => 4 < zget h 11 r 3 ∧ zget h 11 r 2 = d) (zknown h 11 t).toNat := by
    rw [pre (fun e => h 184 e = d ∧ 4 < h 185 e)]
    exact cg (fun r r0 r1 => by rw [(row r r0 r1).1, (row r r0 r1).2.1]; exact ⟨fun z => ⟨z.2, z.1⟩, fun z => ⟨z.2, z.1⟩⟩)
  have a3 : zcnt (mD3 h t d) (h 11 2).toNat = zcnt (fun r => zget h 11 r 2 = d) (zknown h 11 t).toNat := by
    rw [pre (fun e => h 184 e = d)]
    exact cg (fun r r0 r1 => by rw [(row r r0 r1).1])
  have a2 : zcnt (mD2 h t) (h 11 2).toNat = zcnt (fun r => 4 < zget h 11 r 3) (zknown h 11 t).toNat := by
    rw [pre (fun e => 4 < h 185 e)]
    exact cg (fun r r0 r1 => by rw [(row r r0 r1).2.1])
  have a1 : zcnt (mD1 h t) (h 11 2).toNat = zknown h 11 t := by
    have p := pre (fun _ => True)
    have q : zcnt (mD1 h t) (h 11 2).toNat = zcnt (fun r => h 186 r ≤ t ∧ True) (h 11 2).toNat := zcnt_congr (fun r _ _ => ⟨fun z => ⟨z, trivial⟩, fun z => z.1⟩)
    have all : ∀ n : Nat, zcnt (fun _ => True) n = n := fun n => by
      induction n with
      | zero => rfl
      | succ n ih => rw [zcnt_s, ih, zb_t trivial]; omega
    rw [q, p, all]; omega
  unfold mDoV zDoV
  rw [s9, a4, a3, a2, a1]
end
