/-! sharing, and who is ahead: both sides -/
theorem v_share {c m : zH} {o l : Int} (n : c 3 0 = m 169 25) (hw : c (o + 1) 1 = m 206 l) (n0 : 0 ≤ c 3 0) (li : ∀ q : Int, 0 ≤ q → q < c 3 0 → (zli c o q ↔ mli m l q)) (pa : ∀ q : Int, 0 ≤ q → q < c 3 0 → c 4 q = m 172 q) : zcl c o = mcl m l ∧ ∀ p : Int, zquo c o p = mquo m l p := by
  have la : zla c o (c 3 0).toNat = mla m l (m 169 25).toNat := by
    unfold zla mla
    rw [← n]
    exact zcnt_congr (fun k k0 k1 => li k k0 (by omega))
  have lp : ∀ p : Int, zlp c o p (c 3 0).toNat = mlp m l p (m 169 25).toNat := fun p => by
    unfold zlp mlp
    rw [← n]
    exact zcnt_congr (fun k k0 k1 => by rw [li k k0 (by omega), pa k k0 (by omega)])
  have cl : zcl c o = mcl m l := by
    unfold zcl mcl
    rw [la, hw]
  have q0 : zq0 c o = mq0 m l := funext fun p => by
    unfold zq0 mq0
    rw [la, lp p, cl]
  have r0 : zr0 c o = mr0 m l := funext fun p => by
    unfold zr0 mr0
    rw [la, lp p, cl]
  refine ⟨cl, fun p => ?_⟩
  unfold zquo mquo zleft mleft
  rw [q0, r0, cl]
/-- one number tells the order -/
theorem v_lex {a b d e a' b' d' e' : Int} (hb : 0 ≤ b ∧ b < 52) (hd : 0 ≤ d ∧ d < 26) (he : 0 ≤ e ∧ e < 60) (hb' : 0 ≤ b' ∧ b' < 52) (hd' : 0 ≤ d' ∧ d' < 26) (he' : 0 ≤ e' ∧ e' < 60) : ((a * 52 + b) * 26 + d) * 60 + e < ((a' * 52 + b') * 26 + d') * 60 + e' ↔ a < a' ∨ a = a' ∧ (b < b' ∨ b = b' ∧ (d < d' ∨ d = d' ∧ e < e')) := by
  have one : ∀ x y u v n : Int, 0 ≤ u → u < n → 0 ≤ v → v < n → 0 < n → (x * n + u < y * n + v ↔ x < y ∨ x = y ∧ u < v) := fun x y u v n u0 u1 v0 v1 n0 => by
    rcases Int.lt_trichotomy x y with z | z | z
    · have : (x + 1) * n ≤ y * n := Int.mul_le_mul_of_nonneg_right (by omega) (by omega)
      rw [Int.add_mul, Int.one_mul] at this
      exact ⟨fun _ => Or.inl z, fun _ => by omega⟩
    · subst z
      exact ⟨fun q => Or.inr ⟨rfl, by omega⟩, fun q => by rcases q with q | q <;> omega⟩
    · have : (y + 1) * n ≤ x * n := Int.mul_le_mul_of_nonneg_right (by omega) (by omega)
      rw [Int.add_mul, Int.one_mul] at this
      exact ⟨fun q => absurd q (by omega), fun q => by rcases q with q | q <;> omega⟩
  rw [one _ _ e e' 60 he.1 he.2 he'.1 he'.2 (by decide), one _ _ d d' 26 hd.1 hd.2 hd'.1 hd'.2 (by decide), one _ _ b b' 52 hb.1 hb.2 hb'.1 hb'.2 (by decide)]
  omega
/-- who is ahead of a man -/
theorem v_ahead {c m : zH} {o l : Int} {p : Int} (n : c 3 0 = m 169 25) (n60 : 0 ≤ c 3 0 ∧ c 3 0 ≤ 60) (hp : 0 ≤ p ∧ p < c 3 0) (lip : zli c o p) (li : ∀ q : Int, 0 ≤ q → q < c 3 0 → (zli c o q ↔ mli m l q)) (pa : ∀ q : Int, 0 ≤ q → q < c 3 0 → c 4 q = m 172 q) (or_ : ∀ q : Int, 0 ≤ q → q < c 3 0 → zli c o q → c (o + 7) q = ((m 221 (60 * l + q) * 52 + m 208 (52 * l + m 214 q % 52)) * 26 + m 209 (26 * l + m 171 q)) * 60 + q) (key : ∀ q : Int, 0 ≤ q → q < c 3 0 → zli c o q → mKey m l q) : zcnt (zahead c o p) (c 3 0).toNat = zcnt (mah m l p) (m 169 25).toNat := by
  rw [← n]
  refine zcnt_congr (fun q q0 q1 => ?_)
  have q1' : q < c 3 0 := by omega
  unfold zahead mah
  rw [pa q q0 q1', pa p hp.1 hp.2]
  by_cases z : zli c o q
  · have kq := key q q0 q1' z
    have kp := key p hp.1 hp.2 lip
    rw [or_ q q0 q1' z, or_ p hp.1 hp.2 lip, v_lex kq.2.2.2.1 kq.2.2.2.2 (by omega) kp.2.2.2.1 kp.2.2.2.2 (by omega)]
    have lq := (li q q0 q1').mp z
    constructor
    · rintro ⟨_, a, b⟩
      refine ⟨fun e => ?_, lq, a, b⟩
      subst e
      omega
    · rintro ⟨_, _, a, b⟩
      exact ⟨z, a, b⟩
  · exact ⟨fun y => absurd y.1 z, fun y => absurd ((li q q0 q1').mpr y.2.1) z⟩
