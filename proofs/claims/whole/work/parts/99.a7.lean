/-! what is held of a man: both sides -/
section
variable {h : zH}
theorem v_held (I : vI h) (t d : Int) {m c : Int} (hc : 0 ≤ c ∧ c < 6) : zlw (fun r => h 182 r ≤ t ∧ h 180 r ≤ d ∧ d ≤ h 181 r) (fun r => 6 * h 177 r + h 178 r) (h 179) (fun _ => 0) (h 169 27).toNat (6 * m + c) = zfa h d (zknown h 9 t).toNat m c 0 := by
  have fa := I.2.2.2.2.1
  have kn := fa.1.known t
  have s9 := fa.1.2.2.1
  have row : ∀ r : Int, 0 ≤ r → r < h 9 2 → (h 177 r = zget h 9 r 1 ∧ h 178 r = zget h 9 r 2 ∧ h 179 r = zget h 9 r 3 ∧ h 180 r = zget h 9 r 4 ∧ h 181 r = zget h 9 r 5) ∧ (h 182 r ≤ t ↔ r < zknown h 9 t) ∧ 0 ≤ h 178 r ∧ h 178 r < 6 := fun r r0 r1 => by
    rw [zget_in r0 r1 (by decide) (by decide), zget_in r0 r1 (by decide) (by decide), zget_in r0 r1 (by decide) (by decide), zget_in r0 r1 (by decide) (by decide), zget_in r0 r1 (by decide) (by decide)]
    have d0 := fa.1.get r0 r1 (c := 0) (q := 182) (by decide)
    have d2 := fa.1.get r0 r1 (c := 2) (q := 178) (by decide)
    rw [Int.add_zero] at d0
    exact ⟨⟨fa.1.get r0 r1 (by decide), d2, fa.1.get r0 r1 (by decide), fa.1.get r0 r1 (by decide), fa.1.get r0 r1 (by decide)⟩, by rw [d0]; exact kn.2 r r0 r1, by rw [d2]; exact (fa.2 r r0 r1).2⟩
  have low : ∀ n : Nat, (n : Int) ≤ zknown h 9 t → zlw (fun r => h 182 r ≤ t ∧ h 180 r ≤ d ∧ d ≤ h 181 r) (fun r => 6 * h 177 r + h 178 r) (h 179) (fun _ => 0) n (6 * m + c) = zfa h d n m c 0 := by
    intro n
    induction n with
    | zero => exact fun _ => rfl
    | succ n ih =>
      intro hn
      obtain ⟨⟨r1, r2, r3, r4, r5⟩, r6, r7⟩ := row n (by omega) (by omega)
      have i := ih (by omega)
      have st : zfa h d (n + 1) m c 0 = if (zget h 9 n 4 ≤ d ∧ d ≤ zget h 9 n 5) ∧ zget h 9 n 1 = m ∧ zget h 9 n 2 = c then zget h 9 n 3 else zfa h d n m c 0 := rfl
      rw [st, ← r1, ← r2, ← r3, ← r4, ← r5]
      by_cases y : (h 180 n ≤ d ∧ d ≤ h 181 n)
      · have c' : (fun r => h 182 r ≤ t ∧ h 180 r ≤ d ∧ d ≤ h 181 r) (n : Int) := ⟨r6.mpr (by omega), y⟩
        rw [zlw_t c', i]
        by_cases e : h 177 n = m ∧ h 178 n = c
        · rw [if_pos (by rw [e.1, e.2]), if_pos ⟨y, e⟩]
        · rw [if_neg (show ¬ 6 * m + c = 6 * h 177 n + h 178 n by omega), if_neg (fun z => e z.2)]
      · have c' : ¬ (fun r => h 182 r ≤ t ∧ h 180 r ≤ d ∧ d ≤ h 181 r) (n : Int) := fun z => y z.2
        rw [zlw_f c', i, if_neg (fun z => y z.1)]
  have high : ∀ n : Nat, zknown h 9 t ≤ n → (n : Int) ≤ h 9 2 → zlw (fun r => h 182 r ≤ t ∧ h 180 r ≤ d ∧ d ≤ h 181 r) (fun r => 6 * h 177 r + h 178 r) (h 179) (fun _ => 0) n (6 * m + c) = zlw (fun r => h 182 r ≤ t ∧ h 180 r ≤ d ∧ d ≤ h 181 r) (fun r => 6 * h 177 r + h 178 r) (h 179) (fun _ => 0) (zknown h 9 t).toNat (6 * m + c) := by
    intro n
    induction n with
    | zero => intro a _; rw [show (zknown h 9 t).toNat = 0 by omega]
    | succ n ih =>
      intro a a2
      by_cases e : zknown h 9 t = ((n + 1 : Nat) : Int)
      · rw [show (zknown h 9 t).toNat = n + 1 by omega]
      · have c' : ¬ (fun r => h 182 r ≤ t ∧ h 180 r ≤ d ∧ d ≤ h 181 r) (n : Int) := fun z => by
          have := (row n (by omega) (by omega)).2.1.mp z.1
          omega
        rw [zlw_f c']
        exact ih (by omega) (by omega)
  rw [s9, high (h 9 2).toNat (by omega) (by omega)]
  exact low _ (by omega)
theorem v_graded (I : vI h) (t d : Int) (m : Int) : zlw (fun r => h 186 r ≤ t ∧ h 186 r ≤ d) (h 183) (h 185) (fun _ => 0) (h 169 28).toNat m = zgr h (zknown h 11 (min t d)).toNat m 0 := by
  have ex := I.2.2.2.2.2.1
  have kn := ex.1.known (min t d)
  have s9 := ex.1.2.2.1
  have row : ∀ r : Int, 0 ≤ r → r < h 11 2 → h 183 r = zget h 11 r 1 ∧ h 185 r = zget h 11 r 3 ∧ (h 186 r ≤ t ∧ h 186 r ≤ d ↔ r < zknown h 11 (min t d)) := fun r r0 r1 => by
    rw [zget_in r0 r1 (by decide) (by decide), zget_in r0 r1 (by decide) (by decide)]
    have d0 := ex.1.get r0 r1 (c := 0) (q := 186) (by decide)
    rw [Int.add_zero] at d0
    refine ⟨ex.1.get r0 r1 (by decide), ex.1.get r0 r1 (by decide), ?_⟩
    rw [d0, ← kn.2 r r0 r1]
    omega
  have low : ∀ n : Nat, (n : Int) ≤ zknown h 11 (min t d) → zlw (fun r => h 186 r ≤ t ∧ h 186 r ≤ d) (h 183) (h 185) (fun _ => 0) n m = zgr h n m 0 := by
    intro n
    induction n with
    | zero => exact fun _ => rfl
    | succ n ih =>
      intro hn
      obtain ⟨r1, r2, r3⟩ := row n (by omega) (by omega)
      have c' : (fun r => h 186 r ≤ t ∧ h 186 r ≤ d) (n : Int) := r3.mpr (by omega)
      have st : zgr h (n + 1) m 0 = if zget h 11 n 1 = m then zget h 11 n 3 else zgr h n m 0 := rfl
      rw [zlw_t c', ih (by omega), st, ← r1, ← r2]
      by_cases e : m = h 183 n
      · rw [if_pos e, if_pos e.symm]
      · rw [if_neg e, if_neg (fun z => e z.symm)]
  have high : ∀ n : Nat, zknown h 11 (min t d) ≤ n → (n : Int) ≤ h 11 2 → zlw (fun r => h 186 r ≤ t ∧ h 186 r ≤ d) (h 183) (h 185) (fun _ => 0) n m = zlw (fun r => h 186 r ≤ t ∧ h 186 r ≤ d) (h 183) (h 185) (fun _ => 0) (zknown h 11 (min t d)).toNat m := by
    intro n
    induction n with
    | zero => intro a _; rw [show (zknown h 11 (min t d)).toNat = 0 by omega]
    | succ n ih =>
      intro a a2
      by_cases e : zknown h 11 (min t d) = ((n + 1 : Nat) : Int)
      · rw [show (zknown h 11 (min t d)).toNat = n + 1 by omega]
      · have c' : ¬ (fun r => h 186 r ≤ t ∧ h 186 r ≤ d) (n : Int) := fun z => by
          have := (row n (by omega) (by omega)).2.2.mp z
          omega
        rw [zlw_f c']
        exact ih (by omega) (by omega)
  rw [s9, high (h 11 2).toNat (by omega) (by omega)]
  exact low _ (by omega)
end
