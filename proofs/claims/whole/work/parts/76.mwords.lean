/-! the model's words against the class's tokens -/
theorem mpk_nn {b : Int → Int} {q : Int} : ∀ n : Nat, (∀ i : Int, 0 ≤ i → i < n → 1 ≤ b (q + i) ∧ b (q + i) ≤ 255) → 0 ≤ mpk b q n
  | 0, _ => Int.le_refl _
  | n + 1, hh => by
    have i1 := mpk_nn n (fun i i0 i1 => hh i i0 (by omega))
    have i2 := hh n (by omega) (by omega)
    show 0 ≤ mpk b q n * 256 + b (q + n)
    omega
theorem mpk_inj {b b' : Int → Int} {q q' : Int} : ∀ n m : Nat, (∀ i : Int, 0 ≤ i → i < n → 1 ≤ b (q + i) ∧ b (q + i) ≤ 255) → (∀ i : Int, 0 ≤ i → i < m → 1 ≤ b' (q' + i) ∧ b' (q' + i) ≤ 255) → mpk b q n = mpk b' q' m → n = m ∧ ∀ i : Int, 0 ≤ i → i < n → b (q + i) = b' (q' + i)
  | 0, 0, _, _, _ => ⟨rfl, fun i i0 i1 => absurd i1 (by omega)⟩
  | 0, m + 1, _, h2, e => by
    exfalso
    have p := mpk_nn m (fun i i0 i1 => h2 i i0 (by omega))
    have a := h2 m (by omega) (by omega)
    have e' : (0 : Int) = mpk b' q' m * 256 + b' (q' + m) := e
    omega
  | n + 1, 0, h1, _, e => by
    exfalso
    have p := mpk_nn n (fun i i0 i1 => h1 i i0 (by omega))
    have a := h1 n (by omega) (by omega)
    have e' : mpk b q n * 256 + b (q + n) = 0 := e
    omega
  | n + 1, m + 1, h1, h2, e => by
    have a := h1 n (by omega) (by omega)
    have c := h2 m (by omega) (by omega)
    have e' : mpk b q n * 256 + b (q + n) = mpk b' q' m * 256 + b' (q' + m) := e
    have i := mpk_inj n m (fun i i0 i1 => h1 i i0 (by omega)) (fun i i0 i1 => h2 i i0 (by omega)) (by omega)
    obtain ⟨rfl, i2⟩ := i
    refine ⟨rfl, fun i i0 i1 => ?_⟩
    by_cases z : i = n
    · subst z; omega
    · exact i2 i i0 (by omega)
theorem mpk_cg {b b' : Int → Int} {q q' : Int} : ∀ n : Nat, (∀ i : Int, 0 ≤ i → i < n → b (q + i) = b' (q' + i)) → mpk b q n = mpk b' q' n
  | 0, _ => rfl
  | n + 1, hh => by
    show mpk b q n * 256 + b (q + n) = mpk b' q' n * 256 + b' (q' + n)
    rw [mpk_cg n (fun i i0 i1 => hh i i0 (by omega)), hh n (by omega) (by omega)]
theorem mvl_0 {b : Int → Int} {q : Int} : ∀ n : Nat, (zvl b q n).1 = 0 → ∀ i : Int, 0 ≤ i → i < n → zsm1 (b (q + i))
  | 0, _ => fun i i0 i1 => absurd i1 (by omega)
  | n + 1, hz => fun i i0 i1 => by
    have le := zvl_le b q n
    by_cases c : zsm1 (b (q + n))
    · rw [zvl_s c] at hz
      by_cases e : i = n
      · rw [e]; exact c
      · exact mvl_0 n hz i i0 (by omega)
    · rw [zvl_d c] at hz
      have hz2 : (zvl b q n).1 + 1 = 0 := hz
      omega
/-- the number that word i makes -/
def mWc (i : Nat) : Int := mpk (fun k => zTb i k) 0 (zTlen.getD i 0)
theorem mTb_in0 : ∀ i : Nat, i < 22 → ∀ k : Nat, k < zTlen.getD i 0 → 97 ≤ zTb i k ∧ zTb i k ≤ 122 := by decide +kernel
theorem mTl_in0 : ∀ i : Nat, i < 22 → 2 ≤ zTlen.getD i 0 ∧ zTlen.getD i 0 ≤ 8 := by decide +kernel
theorem mWc_inj : ∀ i : Nat, i < 22 → ∀ k : Nat, k < 22 → mWc i = mWc k → i = k := by decide +kernel
theorem mkd_1 {b : Int → Int} {q : Int} (h : zkd b q = 1) : zrc (b q) ∧ zrn b q ≤ 8 ∧ (zvl b q (zrn b q)).1 = 0 := by
  unfold zkd at h
  by_cases c : zrc (b q)
  · rw [if_pos c] at h
    by_cases c2 : (zvl b q (zrn b q)).1 = 0 ∧ zrn b q ≤ 8
    · exact ⟨c, c2.2, c2.1⟩
    · rw [if_neg c2] at h
      split at h <;> omega
  · rw [if_neg c] at h
    by_cases s : zsg (b q)
    · rw [if_pos s] at h
      simp only [zsg] at s
      omega
    · rw [if_neg s] at h
      omega
theorem mkd_2 {b : Int → Int} {q : Int} (h : zkd b q = 2) : zrc (b q) := by
  unfold zkd at h
  by_cases c : zrc (b q)
  · exact c
  · rw [if_neg c] at h
    by_cases s : zsg (b q)
    · rw [if_pos s] at h
      simp only [zsg] at s
      omega
    · rw [if_neg s] at h
      omega
theorem mkd_in (b : Int → Int) (q : Int) : zkd b q = 1 ∨ zkd b q = 2 ∨ zkd b q = 3 ∨ zsg (zkd b q) := by
  unfold zkd
  split
  · split
    · exact Or.inl rfl
    · split
      · exact Or.inr (Or.inl rfl)
      · exact Or.inr (Or.inr (Or.inl rfl))
  · split
    · exact Or.inr (Or.inr (Or.inr (by assumption)))
    · exact Or.inr (Or.inr (Or.inl rfl))
theorem mhw_mpk {b : Int → Int} {q : Int} (h : zkd b q = 1) {i : Nat} (hi : i < 22) : zhw b i q (zre b 400 q) ↔ mpk b q (zrn b q) = mWc i := by
  obtain ⟨-, -, z0⟩ := mkd_1 h
  have sm := mvl_0 _ z0
  have ri := zre_in (b := b) 400 q
  have rn : (zrn b q : Int) = zre b 400 q - q := by unfold zrn; omega
  have tl : zTl i = (zTlen.getD i 0 : Nat) := rfl
  have bt : ∀ k : Int, 0 ≤ k → k < (zTlen.getD i 0 : Nat) → 97 ≤ zTb i k ∧ zTb i k ≤ 122 := fun k k0 k1 => by
    have := mTb_in0 i hi k.toNat (by omega)
    rw [Int.toNat_of_nonneg k0] at this
    exact this
  constructor
  · rintro ⟨e1, e2⟩
    have e3 : zrn b q = zTlen.getD i 0 := by omega
    rw [e3]
    exact mpk_cg _ (fun k k0 k1 => by rw [e2 k k0 (by omega), Int.zero_add])
  · intro e
    have i2 := mpk_inj _ _ (fun k k0 k1 => by have := sm k k0 k1; simp only [zsm1] at this; omega) (fun k k0 k1 => by rw [Int.zero_add]; have := bt k k0 k1; show 1 ≤ zTb i k ∧ zTb i k ≤ 255; omega) e
    refine ⟨by omega, fun k k0 k1 => ?_⟩
    have := i2.2 k k0 (by omega)
    rw [Int.zero_add] at this
    exact this
theorem mfw_iff {b : Int → Int} {p e : Int} (hu : ∀ i k : Nat, i < 22 → k < 22 → zhw b i p e → zhw b k p e → i = k) (i : Nat) : ∀ (k s : Nat), s + k = 22 → (zfw b p e k s = 1000000 + i ↔ s ≤ i ∧ i < 22 ∧ zhw b i p e)
  | 0, s, hs => by
    constructor
    · intro z
      have z' : (-1 : Int) = 1000000 + i := z
      omega
    · intro z; omega
  | k + 1, s, hs => by
    by_cases c : zhw b s p e
    · have e1 : zfw b p e (k + 1) s = 1000000 + s := if_pos c
      rw [e1]
      constructor
      · intro z
        have : s = i := by omega
        subst this
        exact ⟨Nat.le_refl _, by omega, c⟩
      · rintro ⟨z1, z2, z3⟩
        rw [hu s i (by omega) z2 c z3]
    · have e1 : zfw b p e (k + 1) s = zfw b p e k (s + 1 : Nat) := by
        refine (if_neg c).trans ?_
        rw [show ((s + 1 : Nat) : Int) = s + 1 by omega]
      rw [e1, mfw_iff hu i k (s + 1) (by omega)]
      constructor
      · rintro ⟨z1, z2, z3⟩
        exact ⟨by omega, z2, z3⟩
      · rintro ⟨z1, z2, z3⟩
        refine ⟨?_, z2, z3⟩
        by_cases z : s = i
        · subst z; exact absurd z3 c
        · omega
theorem mhw_un {b : Int → Int} {q : Int} (h : zkd b q = 1) : ∀ i k : Nat, i < 22 → k < 22 → zhw b i q (zre b 400 q) → zhw b k q (zre b 400 q) → i = k := fun i k hi hk h1 h2 =>
  mWc_inj i hi k hk (((mhw_mpk h hi).mp h1).symm.trans ((mhw_mpk h hk).mp h2))
theorem mww_iff {b : Int → Int} {q : Int} {i : Nat} (hi : i < 22) : zww b q = 1000000 + i ↔ zkd b q = 1 ∧ mpk b q (zrn b q) = mWc i := by
  unfold zww
  by_cases c : zrc (b q) ∧ zkd b q = 1
  · rw [if_pos c]
    have z := mfw_iff (mhw_un c.2) i 22 0 rfl
    rw [show ((0 : Nat) : Int) = 0 from rfl] at z
    rw [z, ← mhw_mpk c.2 hi]
    exact ⟨fun z => ⟨c.2, z.2.2⟩, fun z => ⟨by omega, hi, z.2⟩⟩
  · rw [if_neg c]
    constructor
    · intro z; omega
    · intro z; exact absurd ⟨(mkd_1 z.1).1, z.1⟩ c
theorem mfw_in {b : Int → Int} {p e : Int} : ∀ (k s : Nat), s + k = 22 → zfw b p e k s = -1 ∨ ∃ i : Nat, i < 22 ∧ zfw b p e k s = 1000000 + i
  | 0, s, hs => Or.inl rfl
  | k + 1, s, hs => by
    by_cases c : zhw b s p e
    · exact Or.inr ⟨s, by omega, if_pos c⟩
    · have e1 : zfw b p e (k + 1) s = zfw b p e k (s + 1 : Nat) := by
        refine (if_neg c).trans ?_
        rw [show ((s + 1 : Nat) : Int) = s + 1 by omega]
      rw [e1]
      exact mfw_in k (s + 1) (by omega)
theorem mTW_in (b : Int → Int) (x j : Int) : zTW b x j = -1 ∨ ∃ i : Nat, i < 22 ∧ zTW b x j = 1000000 + i := by
  unfold zTW
  by_cases c : zps b j.toNat < x
  · rw [if_pos c]
    unfold zww
    by_cases c2 : zrc (b (zps b j.toNat)) ∧ zkd b (zps b j.toNat) = 1
    · rw [if_pos c2]
      have z := mfw_in (b := b) (p := zps b j.toNat) (e := zre b 400 (zps b j.toNat)) 22 0 rfl
      exact z
    · rw [if_neg c2]; exact Or.inl rfl
  · rw [if_neg c]; exact Or.inl rfl
theorem mTW_k1 {b : Int → Int} {x j : Int} (h : zTW b x j ≠ -1) : zTK b x j = 1 := by
  unfold zTW at h
  unfold zTK
  by_cases c : zps b j.toNat < x
  · rw [if_pos c] at h ⊢
    unfold zww at h
    by_cases c2 : zrc (b (zps b j.toNat)) ∧ zkd b (zps b j.toNat) = 1
    · exact c2.2
    · rw [if_neg c2] at h; exact absurd rfl h
  · rw [if_neg c] at h; exact absurd rfl h
/-! the places of the tokens -/
theorem msk_le {b : Int → Int} {sz : Int} (hb : ∀ q : Int, sz ≤ q → b q = -1) : ∀ (k : Nat) (p : Int), p ≤ sz → zsk b k p ≤ sz
  | 0, p, h => h
  | k + 1, p, h => by
    unfold zsk
    by_cases c : b p = 32 ∨ b p = 10
    · rw [if_pos c]
      refine msk_le hb k (p + 1) ?_
      by_cases e : p = sz
      · have := hb p (by omega)
        omega
      · omega
    · rw [if_neg c]; exact h
theorem mre_le {b : Int → Int} {sz : Int} (hb : ∀ q : Int, sz ≤ q → b q = -1) : ∀ (k : Nat) (p : Int), p ≤ sz → zre b k p ≤ sz
  | 0, p, h => h
  | k + 1, p, h => by
    unfold zre
    by_cases c : zrc (b p)
    · rw [if_pos c]
      refine mre_le hb k (p + 1) ?_
      by_cases e : p = sz
      · have := hb p (by omega)
        rw [this] at c
        simp only [zrc, zsm1, zdg1] at c
        omega
      · omega
    · rw [if_neg c]; exact h
theorem mnx_le {b : Int → Int} {sz : Int} (hb : ∀ q : Int, sz ≤ q → b q = -1) {p : Int} (h : p < sz) : p ≤ znx b p ∧ znx b p ≤ sz := by
  unfold znx
  split
  · exact ⟨zre_in 400 p, mre_le hb 400 p (by omega)⟩
  · omega
theorem mps_in (b : Int → Int) : ∀ j : Nat, 0 ≤ zps b j
  | 0 => zsk_in 400 0
  | j + 1 => by
    have i := mps_in b j
    have k := zsk_in (b := b) 400 (znx b (zps b j))
    have : zps b j ≤ znx b (zps b j) := by
      unfold znx
      split
      · exact zre_in 400 _
      · omega
    show 0 ≤ zsk b 400 (znx b (zps b j))
    omega
def mAt (b : Int → Int) (sz j : Int) (g : zH) : Prop := 0 ≤ j ∧ zps b j.toNat ≤ sz ∧ mLex b sz (zps b j.toNat) g
section
variable {b : Int → Int} {sz j : Int} {g : zH}
theorem mAt.kd (a : mAt b sz j g) : (g 169 49 = 1 ↔ zTK b (min sz 300) j = 1) ∧ (g 169 49 = 2 ↔ zTK b (min sz 300) j = 2) ∧ (g 169 49 = 0 ↔ zTK b (min sz 300) j = 0 ∧ sz ≤ 300) ∧ (zTK b (min sz 300) j = 2 → g 169 52 = zTV b (min sz 300) j) ∧ (∀ c : Int, zsg c → ((g 169 49 = 3 ∧ g 169 52 = c) ↔ zTK b (min sz 300) j = c)) ∧ g 169 50 = zTS b (min sz 300) j ∧ (zTK b (min sz 300) j ≠ 0 → 0 ≤ g 169 4 ∧ g 169 4 = znx b (zps b j.toNat) ∧ zps b j.toNat < sz) := by
  obtain ⟨j0, le, a1, a2⟩ := a
  have p0 := mps_in b j.toNat
  unfold zTK zTS zTV
  generalize hq : zps b j.toNat = q at *
  by_cases c : q < min sz 300
  · rw [if_pos c, if_pos c, if_pos c]
    obtain ⟨b1, b2, b3, b4, b5, b6⟩ := a2 (by omega)
    have z := mkd_in b q
    have n0 : zkd b q ≠ 0 := by
      rcases z with z | z | z | z
      · omega
      · omega
      · omega
      · simp only [zsg] at z; omega
    have nb : q ≤ znx b q := by
      unfold znx
      split
      · exact zre_in 400 _
      · omega
    have vv : zkd b q = 2 → zvv b q = (zvl b q (zrn b q)).2 := fun z => by
      unfold zvv
      rw [if_pos ⟨mkd_2 z, z⟩]
    refine ⟨?_, ?_, ?_, fun z => by rw [(b4 z).2, vv z], fun c hc => ?_, b1, fun _ => ⟨by omega, b2, by omega⟩⟩
    all_goals simp only [zsg] at *
    all_goals rcases z with z | z | z | z
    all_goals first
      | (have t := b3 z; omega)
      | (have t := b4 z; omega)
      | (have t := b5 z; omega)
      | (have t := b6 (by omega) (by omega) (by omega); omega)
  · rw [if_neg c, if_neg c, if_neg c]
    obtain ⟨b1, b2⟩ := a1 (by omega)
    refine ⟨?_, ?_, ?_, fun z => absurd z (by decide), fun c hc => ?_, ?_, fun z => absurd rfl z⟩
    · split at b2 <;> omega
    · split at b2 <;> omega
    · split at b2 <;> omega
    · simp only [zsg] at hc
      split at b2 <;> omega
    · split at b1 <;> omega
theorem mAt.wd (a : mAt b sz j g) (i : Nat) (hi : i < 22) {c : Int} (hc : mWc i = c) : (g 169 49 = 1 ∧ g 169 56 = c) ↔ zTW b (min sz 300) j = 1000000 + i := by
  have k1 := a.kd.1
  obtain ⟨j0, le, a1, a2⟩ := a
  unfold zTK at k1
  unfold zTW
  by_cases c1 : zps b j.toNat < min sz 300
  · rw [if_pos c1] at k1 ⊢
    obtain ⟨b1, b2, b3, -⟩ := a2 (by omega)
    rw [mww_iff hi, hc]
    constructor
    · rintro ⟨z1, z2⟩
      have k := k1.mp z1
      exact ⟨k, (b3 k).2.symm.trans z2⟩
    · rintro ⟨z1, z2⟩
      exact ⟨k1.mpr z1, (b3 z1).2.trans z2⟩
  · rw [if_neg c1] at k1 ⊢
    constructor
    · intro z
      have := k1.mp z.1
      omega
    · intro z; omega
end
