/-! THE LAW for a lot: both sides -/
section
variable {h : zH}
theorem v_best (I : vI h) {l : Int} (l0 : 0 ≤ l ∧ l < h 0 12) (t : Int) : ∀ k : Nat, (k : Int) ≤ h 0 11 → (mbest h (h 205 l) t k = -1 ∧ zbest h l t k = 36) ∨ ∃ i : Int, (0 ≤ i ∧ i < k) ∧ mbest h (h 205 l) t k = i ∧ zbest h l t k = 65 + 6 * i
  | 0, _ => Or.inl ⟨rfl, rfl⟩
  | k + 1, hk => by
    have lw := I.2.2.2.2.2.2.2.2.1
    have lt := (I.2.2.2.2.2.2.2.2.2.1.2.2.1 l l0.1 l0.2).1.1
    have ih := v_best I l0 t k (by omega)
    obtain ⟨⟨-, -, w1, w2⟩, -, f0, -⟩ := lw.2.2.1 k (by omega) (by omega)
    have n36 := lw.2.2.2.2.2
    rw [zbest_s]
    have sm : mbest h (h 205 l) t (k + 1) = if h 191 k ≤ t ∧ h 190 k ≤ h 205 l ∧ (mbest h (h 205 l) t k < 0 ∨ h 190 (mbest h (h 205 l) t k) ≤ h 190 k) then (k : Int) else mbest h (h 205 l) t k := rfl
    rw [sm, w1, w2, lt, show 113 + 14 * l + 1 = 114 + 14 * l by omega]
    rcases ih with ⟨a, b⟩ | ⟨i, i0, a, b⟩
    · rw [lt] at a
      rw [a, b, n36]
      by_cases y : h (65 + 6 * (k : Int)) 0 ≤ t ∧ h (65 + 6 * (k : Int)) 1 ≤ h (114 + 14 * l) 0
      · rw [if_pos ⟨y.1, y.2, Or.inl (by decide)⟩, if_pos ⟨y.1, y.2, by omega⟩]
        exact Or.inr ⟨k, by omega, rfl, rfl⟩
      · rw [if_neg (fun z => y ⟨z.1, z.2.1⟩), if_neg (fun z => y ⟨z.1, z.2.1⟩)]
        exact Or.inl ⟨rfl, rfl⟩
    · obtain ⟨⟨-, -, -, v2⟩, -⟩ := lw.2.2.1 i i0.1 (by omega)
      rw [lt] at a
      rw [a, b, v2]
      by_cases y : h (65 + 6 * (k : Int)) 0 ≤ t ∧ h (65 + 6 * (k : Int)) 1 ≤ h (114 + 14 * l) 0 ∧ h (65 + 6 * i) 1 ≤ h (65 + 6 * (k : Int)) 1
      · rw [if_pos ⟨y.1, y.2.1, Or.inr y.2.2⟩, if_pos y]
        exact Or.inr ⟨k, by omega, rfl, rfl⟩
      · rw [if_neg (fun z => y ⟨z.1, z.2.1, by rcases z.2.2 with q | q; omega; exact q⟩), if_neg y]
        exact Or.inr ⟨i, by omega, rfl, rfl⟩
/-- the law that the class takes for a lot is the one that the model takes -/
theorem v_lawFor (I : vI h) {l : Int} (l0 : 0 ≤ l ∧ l < h 0 12) (t : Int) : vLr h h (zbest h l t (h 0 11).toNat) (mlaw h (h 205 l) t) := by
  have lw := I.2.2.2.2.2.2.2.2.1
  have b := v_best I l0 t (h 0 11).toNat (by have := lw.1; omega)
  unfold mlaw
  rw [lw.2.1]
  rcases b with ⟨a, b⟩ | ⟨i, i0, a, b⟩
  · rw [a, b]
    exact Or.inl ⟨by decide, lw.2.2.2.1⟩
  · rw [a, b]
    obtain ⟨⟨V, -⟩, -⟩ := lw.2.2.1 i i0.1 (by omega)
    exact Or.inr ⟨i0.1, V⟩
end
