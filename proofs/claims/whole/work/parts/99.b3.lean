/-! ROLLS: both sides -/
section
variable {h : zH}
/-- all that the faces read of lot l's roll -/
def vRd (h : zH) (l t : Int) (g e : zH) : Prop :=
  vJ h t g e ∧ vRow h l g e ∧ vRs h l t g e
theorem v_rolled (I : vI h) {l t : Int} {H g e : zH} (l0 : 0 ≤ l ∧ l < h 0 12) (a : zRolled h l t g) (b : mRolled H l t e) (hh : ∀ o : Int, 169 < o → o ≠ 214 → (o < 213 ∨ 223 < o ∧ o < 229) → H o = h o) (h9 : ∀ k : Int, 5 ≤ k → H 169 k = h 169 k) : vRd h l t g e := by
  obtain ⟨zb, kept, g0, ⟨lk1, lk2⟩, R⟩ := a
  obtain ⟨p, mp, M⟩ := b
  have lt := I.2.2.2.2.2.2.2.2.2.1
  have lt4 := lt.1
  have mp0 := mp.1
  have pf : ∀ o : Int, (o < 213 ∨ 216 < o) → p o = H o := fun o ho => funext fun k => mp0 o k (fun z => by
    simp only [mSp, List.mem_cons, List.not_mem_nil, or_false] at z
    omega)
  have pp := zPeo_of I.zb lk1 lk2
  have ef : ∀ o k : Int, o ≠ 3 → (o < 17 ∨ 23 < o) → g0 o k = h o k := fun o k o3 o7 => by
    rw [lk1 o k (fun z => by
      simp only [List.mem_cons, List.not_mem_nil, or_false] at z
      omega), zst_ne (Or.inl o3)]
  have hp : ∀ o : Int, 169 < o → (o < 213 ∨ 223 < o ∧ o < 229) → p o = h o := fun o o0 o1 => by
    rw [pf o (by omega)]; exact hh o o0 (by omega) o1
  have vk : vLk h t g0 p := v_look I lk2 mp h9 hh
  have J0 : vJ h t g0 p := by
    refine ⟨pp.2, ⟨hp, fun k hk => by rw [pf 169 (by decide)]; exact h9 k hk⟩, vk, ?_, pp.1, fun q q0 q1 z => ?_⟩
    · rw [lk1 3 9 (by decide), zst_self]
    · rw [(lk2.2.1 q q0 (by omega)).2] at z
      rw [(lk2.1 q q0 q1).2.1]
      exact Classical.byContradiction fun y => z (zb_f (fun w => y w.1))
  by_cases sv : h (zbest h l t (h 0 11).toNat) 5 = 0
  · rw [if_pos sv, show (l + 1 - l).toNat = 1 by omega] at R
    obtain ⟨c, rc, dr⟩ := R
    have ec : c = g0 := rc
    rw [ec, show ((0 : Nat) : Int) = 0 from rfl, Int.add_zero] at dr
    rw [show (l + 1).toNat = l.toNat + 1 by omega] at M
    obtain ⟨f, e1, M1, M2, M3⟩ := M
    have Jf : vJ h t g0 f := J0.mo (mRolls_ag M1)
    rw [show ((l.toNat : Nat) : Int) = l by omega] at M2 M3
    have S := v_step I Jf l0 dr M2 M3 (fun z => absurd sv z)
    exact ⟨S.1, S.2.1, S.2.2.1⟩
  · rw [if_neg sv, show (l + 1 - 0).toNat = l.toNat + 1 by omega] at R
    rw [show (l + 1).toNat = l.toNat + 1 by omega] at M
    have key : ∀ (n : Nat), (n : Int) ≤ l + 1 → ∀ c f : zH, zRolls (fun j => zbest h j t (h 0 11).toNat) g0 0 n c → mRolls p t n f → vJ h t c f ∧ (∀ k : Int, 0 ≤ k → k < h 3 0 → (c 23 k ≠ 0 ↔ mSer f n k)) ∧ ∀ j : Int, j + 1 = n → 0 ≤ j → vRow h j c f ∧ vRs h j t c f := by
      intro n
      induction n with
      | zero =>
        intro _ c f rc rm
        have ec : c = g0 := rc
        have em : f = p := rm
        rw [ec, em]
        refine ⟨J0, fun k k0 k1 => ?_, fun j j0 j1 => absurd j0 (by omega)⟩
        rw [(lk2.2.1 k k0 (by omega)).1]
        exact ⟨fun z => absurd rfl z, fun ⟨x, x0, _⟩ => absurd x0.2 (by omega)⟩
      | succ n ih =>
        intro hn c f rc rm
        obtain ⟨c1, rc1, dr⟩ := rc
        obtain ⟨f1, e1, M1, M2, M3⟩ := rm
        obtain ⟨J, S, -⟩ := ih (by omega) c1 f1 rc1 M1
        rw [Int.zero_add] at dr
        have T := v_step I J ⟨by omega, by omega⟩ dr M2 M3 (fun _ => S)
        refine ⟨T.1, fun k k0 k1 => ?_, fun j j0 j1 => ?_⟩
        · rw [show ((n + 1 : Nat) : Int) = (n : Int) + 1 by omega]
          exact T.2.2.2 S k k0 k1
        · rw [show j = (n : Int) by omega]
          exact ⟨T.2.1, T.2.2.1⟩
    have K := key (l.toNat + 1) (by omega) g e R M
    exact ⟨K.1, K.2.2 l (by omega) l0.1⟩
end
