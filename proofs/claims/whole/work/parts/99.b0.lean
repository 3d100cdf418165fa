/-! counting: ranks, and quotas that add up -/
theorem zcnt_nil {P : Int → Prop} (n : Nat) (hh : ∀ k : Int, 0 ≤ k → k < n → ¬ P k) : zcnt P n = 0 := by
  induction n with
  | zero => rfl
  | succ n ih =>
    rw [zcnt_s, ih (fun k k0 k1 => hh k k0 (by omega)), zb_f (hh n (by omega) (by omega))]
    rfl
theorem zcnt_ex {P : Int → Prop} : ∀ n : Nat, zcnt P n ≠ 0 → ∃ k : Int, (0 ≤ k ∧ k < n) ∧ P k := fun n hn =>
  Classical.byContradiction fun z => hn (zcnt_nil n (fun k k0 k1 hp => z ⟨k, ⟨k0, k1⟩, hp⟩))
/-- there is a greatest -/
theorem zmax_ex {P : Int → Prop} (ord : Int → Int) : ∀ n : Nat, (∃ k : Int, (0 ≤ k ∧ k < n) ∧ P k) → ∃ m : Int, (0 ≤ m ∧ m < n) ∧ P m ∧ ∀ k : Int, 0 ≤ k → k < n → P k → ord k ≤ ord m
  | 0, ⟨k, k0, _⟩ => absurd k0 (by omega)
  | n + 1, ⟨k, k0, hk⟩ => by
    by_cases e : ∃ k : Int, (0 ≤ k ∧ k < n) ∧ P k
    · obtain ⟨m, m0, m1, m2⟩ := zmax_ex ord n e
      by_cases c : P n ∧ ord m < ord n
      · refine ⟨n, by omega, c.1, fun j j0 j1 hj => ?_⟩
        by_cases y : j = n
        · rw [y]; exact Int.le_refl _
        · have := m2 j j0 (by omega) hj; omega
      · refine ⟨m, by omega, m1, fun j j0 j1 hj => ?_⟩
        by_cases y : j = n
        · rw [y] at hj ⊢
          exact Int.not_lt.mp (fun w => c ⟨hj, w⟩)
        · exact m2 j j0 (by omega) hj
    · have kn : k = n := Classical.byContradiction fun y => e ⟨k, by omega, hk⟩
      refine ⟨n, by omega, kn ▸ hk, fun j j0 j1 hj => ?_⟩
      have : j = n := Classical.byContradiction fun y => e ⟨j, by omega, hj⟩
      rw [this]; exact Int.le_refl _
/-- how many rank below q -/
theorem zrank (ord : Int → Int) (n : Nat) (q : Int) (hq : 0 ≤ q) : ∀ (c : Nat) (A : Int → Prop), (∀ a b : Int, 0 ≤ a → a < n → 0 ≤ b → b < n → A a → A b → ord a = ord b → a = b) → zcnt A n = c → zcnt (fun m => A m ∧ zcnt (fun k => A k ∧ ord k < ord m) n < q) n = min q (zcnt A n)
  | 0, A, inj, e => by
    have z : zcnt (fun m => A m ∧ zcnt (fun k => A k ∧ ord k < ord m) n < q) n = 0 := zcnt_nil n (fun k k0 k1 hk => by
      have := (zcnt_but (P := A) (m := k) hk.1 n).1 k1
      have b := zcnt_in (fun j => k ≠ j ∧ A j) n
      rw [if_pos k0] at this
      omega)
    rw [z, e]
    omega
  | c + 1, A, inj, e => by
    obtain ⟨m, m0, m1, m2⟩ := zmax_ex (P := A) ord n (zcnt_ex n (by omega))
    have B := (zcnt_but (P := A) (m := m) m1 n).1 m0.2
    rw [if_pos m0.1] at B
    have ih := zrank ord n q hq c (fun k => m ≠ k ∧ A k) (fun a b a0 a1 b0 b1 ha hb => inj a b a0 a1 b0 b1 ha.2 hb.2) (by omega)
    have rm : zcnt (fun k => A k ∧ ord k < ord m) n = zcnt (fun k => m ≠ k ∧ A k) n := zcnt_congr (fun k k0 k1 => by
      constructor
      · rintro ⟨x, y⟩
        exact ⟨fun z => by rw [z] at y; exact absurd y (Int.lt_irrefl _), x⟩
      · rintro ⟨x, y⟩
        refine ⟨y, ?_⟩
        have l := m2 k k0 k1 y
        by_cases z : ord k = ord m
        · exact absurd (inj m k m0.1 m0.2 k0 k1 m1 y z.symm) x
        · omega)
    have rk : ∀ k : Int, 0 ≤ k → k < n → A k → zcnt (fun j => A j ∧ ord j < ord k) n = zcnt (fun j => (m ≠ j ∧ A j) ∧ ord j < ord k) n := fun k k0 k1 hk => zcnt_congr (fun j j0 j1 => by
      constructor
      · rintro ⟨x, y⟩
        refine ⟨⟨fun z => ?_, x⟩, y⟩
        rw [← z] at y
        have := m2 k k0 k1 hk
        omega
      · rintro ⟨⟨-, x⟩, y⟩
        exact ⟨x, y⟩)
    have sub : zcnt (fun k => m ≠ k ∧ (A k ∧ zcnt (fun j => A j ∧ ord j < ord k) n < q)) n = zcnt (fun k => (m ≠ k ∧ A k) ∧ zcnt (fun j => (m ≠ j ∧ A j) ∧ ord j < ord k) n < q) n := zcnt_congr (fun k k0 k1 => by
      constructor
      · rintro ⟨x, y, z⟩
        exact ⟨⟨x, y⟩, by rw [← rk k k0 k1 y]; exact z⟩
      · rintro ⟨⟨x, y⟩, z⟩
        exact ⟨x, y, by rw [rk k k0 k1 y]; exact z⟩)
    by_cases r : zcnt (fun k => A k ∧ ord k < ord m) n < q
    · have C := (zcnt_but (P := fun m => A m ∧ zcnt (fun k => A k ∧ ord k < ord m) n < q) (m := m) ⟨m1, r⟩ n).1 m0.2
      rw [if_pos m0.1] at C
      rw [C, sub, ih, B]
      omega
    · have D : zcnt (fun m => A m ∧ zcnt (fun k => A k ∧ ord k < ord m) n < q) n = zcnt (fun k => m ≠ k ∧ (A k ∧ zcnt (fun j => A j ∧ ord j < ord k) n < q)) n := zcnt_congr (fun k k0 k1 => by
        constructor
        · intro z
          exact ⟨fun w => r (by rw [w]; exact z.2), z⟩
        · exact fun z => z.2)
      rw [D, sub, ih, B]
      omega
theorem zsm_0 {f : Int → Int} : ∀ n : Nat, (∀ p : Int, 0 ≤ p → p < n → f p = 0) → zsm f n = 0
  | 0, _ => rfl
  | n + 1, hf => by rw [zsm_s, zsm_0 n (fun p p0 p1 => hf p p0 (by omega)), hf n (by omega) (by omega)]; rfl
theorem zsm_up {f g : Int → Int} {i d : Int} (hi : g i = f i + d) (hn : ∀ p : Int, p ≠ i → g p = f p) : ∀ n : Nat, zsm g n = zsm f n + if 0 ≤ i ∧ i < n then d else 0
  | 0 => by rw [if_neg (by omega)]; rfl
  | n + 1 => by
    have ih := zsm_up hi hn n
    rw [zsm_s, zsm_s, ih]
    by_cases e : (n : Int) = i
    · rw [e, hi, if_neg (by omega), if_pos (by omega)]; omega
    · rw [hn n e]
      by_cases z : 0 ≤ i ∧ i < n
      · rw [if_pos z, if_pos (by omega)]; omega
      · rw [if_neg z, if_neg (by omega)]; omega
theorem zsm_ad (f g : Int → Int) : ∀ n : Nat, zsm (fun p => f p + g p) n = zsm f n + zsm g n
  | 0 => rfl
  | n + 1 => by rw [zsm_s, zsm_s, zsm_s, zsm_ad f g n]; omega
theorem zsm_cg {f g : Int → Int} : ∀ n : Nat, (∀ p : Int, 0 ≤ p → p < n → f p = g p) → zsm f n = zsm g n
  | 0, _ => rfl
  | n + 1, hf => by rw [zsm_s, zsm_s, zsm_cg n (fun p p0 p1 => hf p p0 (by omega)), hf n (by omega) (by omega)]
theorem zsm_mul (c : Int) (f : Int → Int) : ∀ n : Nat, zsm (fun p => c * f p) n = c * zsm f n
  | 0 => (Int.mul_zero c).symm
  | n + 1 => by rw [zsm_s, zsm_s, zsm_mul c f n, Int.mul_add]
/-- counted class by class -/
theorem zcnt_by (P : Int → Prop) (par : Int → Int) (N : Nat) : ∀ n : Nat, (∀ k : Int, 0 ≤ k → k < n → 0 ≤ par k ∧ par k < N) → zcnt P n = zsm (fun p => zcnt (fun k => P k ∧ par k = p) n) N
  | 0, _ => (zsm_0 N (fun _ _ _ => rfl)).symm
  | n + 1, hp => by
    have ih := zcnt_by P par N n (fun k k0 k1 => hp k k0 (by omega))
    have s : zsm (fun p => zcnt (fun k => P k ∧ par k = p) (n + 1)) N = zsm (fun p => zcnt (fun k => P k ∧ par k = p) n) N + zsm (fun p => zb (P n ∧ par n = p)) N := zsm_ad _ _ N
    have u := zsm_up (f := fun _ => (0 : Int)) (g := fun p => zb (P n ∧ par n = p)) (i := par n) (d := zb (P n)) (by
      rw [Int.zero_add]
      exact zb_iff ⟨fun z => z.1, fun z => ⟨z, rfl⟩⟩) (fun p hp => zb_f (fun z => hp z.2.symm)) N
    have b := hp n (by omega) (by omega)
    rw [if_pos (by omega), zsm_0 N (fun _ _ _ => rfl)] at u
    rw [zcnt_s, s, u, ih]
    omega
theorem zgm_ge (f : Int → Int) : ∀ k : Nat, ∀ i : Int, 0 ≤ i → i ≤ k → f i ≤ f (zgm f k)
  | 0, i, i0, i1 => by
    rw [show i = 0 by omega]; exact Int.le_refl _
  | k + 1, i, i0, i1 => by
    have ih := zgm_ge f k
    have st : zgm f (k + 1) = if f ((k : Int) + 1) ≤ f (zgm f k) then zgm f k else (k : Int) + 1 := rfl
    rw [st]
    by_cases c : f ((k : Int) + 1) ≤ f (zgm f k)
    · rw [if_pos c]
      by_cases e : i = (k : Int) + 1
      · rw [e]; exact c
      · exact ih i i0 (by omega)
    · rw [if_neg c]
      by_cases e : i = (k : Int) + 1
      · rw [e]; exact Int.le_refl _
      · have := ih i i0 (by omega); omega
/-- what is left goes out, one to a parish, where there was a rest -/
theorem zqr_is (q r : Int → Int) (N : Int) (hN : 0 < N) (hr : ∀ p : Int, 0 ≤ r p ∧ r p < N) (left : Nat) (hs : zsm r 8 = left * N) : ∀ n : Nat, n ≤ left → (∀ p : Int, (zqr q r n).1 p = q p ∧ (zqr q r n).2 p = r p ∨ (zqr q r n).1 p = q p + 1 ∧ (zqr q r n).2 p = -1 ∧ 0 < r p) ∧ zsm (zqr q r n).1 8 = zsm q 8 + n ∧ (left : Int) * N - n * (N - 1) ≤ zsm (fun p => if (zqr q r n).2 p = -1 then 0 else (zqr q r n).2 p) 8
  | 0, _ => by
    refine ⟨fun p => Or.inl ⟨rfl, rfl⟩, by show zsm q 8 = _; omega, ?_⟩
    have : zsm (fun p => if r p = -1 then 0 else r p) 8 = zsm r 8 := zsm_cg 8 (fun p _ _ => by
      have := (hr p).1
      exact if_neg (by omega))
    show _ ≤ zsm (fun p => if r p = -1 then 0 else r p) 8
    rw [this, hs]
    have : ((0 : Nat) : Int) * (N - 1) = 0 := Int.zero_mul _
    omega
  | n + 1, hn => by
    obtain ⟨i1, i2, i3⟩ := zqr_is q r N hN hr left hs n (by omega)
    have st : zqr q r (n + 1) = (fun p => if p = zgm (zqr q r n).2 7 then (zqr q r n).1 p + 1 else (zqr q r n).1 p, fun p => if p = zgm (zqr q r n).2 7 then -1 else (zqr q r n).2 p) := rfl
    rw [st]
    generalize (zqr q r n).1 = qn at *
    generalize (zqr q r n).2 = rn at *
    have g8 := zgm_in rn 7
    have ge := zgm_ge rn 7
    generalize zgm rn 7 = i at *
    -- the greatest rest is above 0
    have pos : 0 < rn i := Classical.byContradiction fun z => by
      have le : ∀ p : Int, 0 ≤ p → p < 8 → (if rn p = -1 then 0 else rn p) = 0 := fun p p0 p1 => by
        have a := ge p p0 (by omega)
        have b := (hr p).1
        by_cases c : rn p = -1
        · exact if_pos c
        · rw [if_neg c]
          rcases i1 p with y | y <;> omega
      rw [zsm_0 8 le] at i3
      have h1 : (left : Int) * N - n * (N - 1) = (left - n) * N + n := by
        rw [Int.mul_sub, Int.sub_mul, Int.mul_one]; omega
      have h2 : 1 * N ≤ ((left : Int) - n) * N := Int.mul_le_mul_of_nonneg_right (by omega) (by omega)
      rw [Int.one_mul] at h2
      omega
    have own : qn i = q i ∧ rn i = r i := by
      rcases i1 i with y | y
      · exact y
      · omega
    refine ⟨fun p => ?_, ?_, ?_⟩
    · show (if p = i then qn p + 1 else qn p) = q p ∧ (if p = i then -1 else rn p) = r p ∨ (if p = i then qn p + 1 else qn p) = q p + 1 ∧ (if p = i then -1 else rn p) = -1 ∧ 0 < r p
      by_cases e : p = i
      · rw [if_pos e, if_pos e, e, own.1]
        exact Or.inr ⟨rfl, rfl, by rw [← own.2]; exact pos⟩
      · rw [if_neg e, if_neg e]
        exact i1 p
    · have u := zsm_up (f := qn) (g := fun p => if p = i then qn p + 1 else qn p) (i := i) (d := 1) (if_pos rfl) (fun p hp => if_neg hp) 8
      rw [if_pos (by omega)] at u
      show zsm (fun p => if p = i then qn p + 1 else qn p) 8 = _
      rw [u, i2]
      omega
    · have u := zsm_up (f := fun p => if rn p = -1 then 0 else rn p) (g := fun p => if (if p = i then -1 else rn p) = -1 then 0 else (if p = i then -1 else rn p)) (i := i) (d := - rn i) (by
        show (if (if i = i then -1 else rn i) = -1 then 0 else (if i = i then -1 else rn i)) = (if rn i = -1 then 0 else rn i) + - rn i
        rw [if_pos rfl, if_pos rfl, if_neg (by omega)]; omega) (fun p hp => by
        show (if (if p = i then -1 else rn p) = -1 then 0 else (if p = i then -1 else rn p)) = if rn p = -1 then 0 else rn p
        rw [if_neg hp]) 8
      rw [if_pos (by omega)] at u
      show _ ≤ zsm (fun p => if (if p = i then -1 else rn p) = -1 then 0 else (if p = i then -1 else rn p)) 8
      rw [u]
      have b := (hr i).2
      have h1 : ((n + 1 : Nat) : Int) * (N - 1) = n * (N - 1) + (N - 1) := by
        rw [Int.natCast_succ, Int.add_mul, Int.one_mul]
      omega
/-- quotas: none above those listed, and they add up -/
theorem zquo_is {g : zH} {o : Int} (h3 : 0 ≤ g 3 0 ∧ g 3 0 ≤ 60) (hw : 0 ≤ g (o + 1) 1) (hp : ∀ k : Int, 0 ≤ k → k < g 3 0 → 0 ≤ g 4 k ∧ g 4 k < 8) : (∀ p : Int, 0 ≤ zquo g o p ∧ zquo g o p ≤ zlp g o p (g 3 0).toNat) ∧ zsm (zquo g o) 8 = zcl g o := by
  have la := zcnt_in (zli g o) (g 3 0).toNat
  have lp : ∀ p : Int, 0 ≤ zlp g o p (g 3 0).toNat ∧ zlp g o p (g 3 0).toNat ≤ (g 3 0).toNat := fun p => zcnt_in _ _
  have by8 : zla g o (g 3 0).toNat = zsm (fun p => zlp g o p (g 3 0).toNat) 8 := zcnt_by (zli g o) (g 4) 8 (g 3 0).toNat (fun k k0 k1 => hp k k0 (by omega))
  have cl0 : 0 ≤ zcl g o ∧ zcl g o ≤ zla g o (g 3 0).toNat := by unfold zcl zla; omega
  by_cases z : zla g o (g 3 0).toNat = 0
  · have q0 : ∀ p : Int, zq0 g o p = 0 := fun p => by unfold zq0; rw [if_pos z]
    have lf : zleft g o = 0 := by
      unfold zleft
      rw [zsm_0 8 (fun p _ _ => q0 p)]; omega
    have qq : ∀ p : Int, zquo g o p = 0 := fun p => by
      unfold zquo
      rw [lf]; exact q0 p
    exact ⟨fun p => by rw [qq]; exact ⟨Int.le_refl _, (lp p).1⟩, by rw [zsm_0 8 (fun p _ _ => qq p)]; omega⟩
  · have la2 : zla g o (g 3 0).toNat ≤ 60 := by unfold zla; omega
    have N0 : 0 < zla g o (g 3 0).toNat := by unfold zla at z ⊢; omega
    have dv : ∀ p : Int, zq0 g o p * zla g o (g 3 0).toNat + zr0 g o p = zcl g o * zlp g o p (g 3 0).toNat ∧ 0 ≤ zr0 g o p ∧ zr0 g o p < zla g o (g 3 0).toNat ∧ 0 ≤ zq0 g o p := fun p => by
      have m1 : 0 ≤ zcl g o * zlp g o p (g 3 0).toNat := Int.mul_nonneg cl0.1 (lp p).1
      have m2 : zcl g o * zlp g o p (g 3 0).toNat ≤ 60 * 60 := Int.mul_le_mul (by omega) (by have := (lp p).2; omega) (lp p).1 (by decide)
      unfold zq0 zr0
      rw [if_neg z, if_neg z, zdiv_eq m1 (by omega) N0 (by omega), zrem_eq m1 (by omega) N0 (by omega)]
      generalize zcl g o * zlp g o p (g 3 0).toNat = a at *
      generalize zla g o (g 3 0).toNat = N at *
      refine ⟨?_, Int.emod_nonneg _ (by omega), Int.emod_lt_of_pos _ N0, Int.ediv_nonneg m1 (by omega)⟩
      have := Int.mul_ediv_add_emod a N
      rw [Int.mul_comm]; exact this
    have sums : zsm (zq0 g o) 8 * zla g o (g 3 0).toNat + zsm (zr0 g o) 8 = zcl g o * zla g o (g 3 0).toNat := by
      have s1 : zsm (fun p => zla g o (g 3 0).toNat * zq0 g o p + zr0 g o p) 8 = zsm (fun p => zcl g o * zlp g o p (g 3 0).toNat) 8 := zsm_cg 8 (fun p _ _ => by
        rw [← (dv p).1, Int.mul_comm])
      rw [zsm_ad (fun p => zla g o (g 3 0).toNat * zq0 g o p) (zr0 g o), zsm_mul, zsm_mul, ← by8] at s1
      rw [Int.mul_comm]; exact s1
    have r8 : 0 ≤ zsm (zr0 g o) 8 := by
      have s : zsm (zr0 g o) 8 = zr0 g o 0 + zr0 g o 1 + zr0 g o 2 + zr0 g o 3 + zr0 g o 4 + zr0 g o 5 + zr0 g o 6 + zr0 g o 7 := by
        show 0 + zr0 g o 0 + zr0 g o 1 + zr0 g o 2 + zr0 g o 3 + zr0 g o 4 + zr0 g o 5 + zr0 g o 6 + zr0 g o 7 = _
        rw [Int.zero_add]
      rw [s]
      have := (dv 0).2.1; have := (dv 1).2.1; have := (dv 2).2.1; have := (dv 3).2.1; have := (dv 4).2.1; have := (dv 5).2.1; have := (dv 6).2.1; have := (dv 7).2.1
      omega
    have lf : zleft g o * zla g o (g 3 0).toNat = zsm (zr0 g o) 8 := by
      unfold zleft
      rw [Int.sub_mul]; omega
    have lf0 : 0 ≤ zleft g o := Classical.byContradiction fun y => by
      have : zleft g o * zla g o (g 3 0).toNat ≤ -1 * zla g o (g 3 0).toNat := Int.mul_le_mul_of_nonneg_right (by omega) (by omega)
      omega
    have Z := zqr_is (zq0 g o) (zr0 g o) (zla g o (g 3 0).toNat) N0 (fun p => ⟨(dv p).2.1, (dv p).2.2.1⟩) (zleft g o).toNat (by rw [Int.toNat_of_nonneg lf0]; exact lf.symm) (zleft g o).toNat (Nat.le_refl _)
    refine ⟨fun p => ?_, ?_⟩
    · have d := dv p
      have mm : zcl g o * zlp g o p (g 3 0).toNat ≤ zla g o (g 3 0).toNat * zlp g o p (g 3 0).toNat := Int.mul_le_mul_of_nonneg_right cl0.2 (lp p).1
      rcases Z.1 p with ⟨y, -⟩ | ⟨y, -, y2⟩
      · show 0 ≤ (zqr (zq0 g o) (zr0 g o) (zleft g o).toNat).1 p ∧ (zqr (zq0 g o) (zr0 g o) (zleft g o).toNat).1 p ≤ _
        rw [y]
        refine ⟨d.2.2.2, Int.le_of_mul_le_mul_right (a := zla g o (g 3 0).toNat) ?_ N0⟩
        rw [Int.mul_comm (zlp g o p (g 3 0).toNat)]; omega
      · show 0 ≤ (zqr (zq0 g o) (zr0 g o) (zleft g o).toNat).1 p ∧ (zqr (zq0 g o) (zr0 g o) (zleft g o).toNat).1 p ≤ _
        rw [y]
        have : zq0 g o p < zlp g o p (g 3 0).toNat := Int.lt_of_mul_lt_mul_right (a := zla g o (g 3 0).toNat) (by
          rw [Int.mul_comm (zlp g o p (g 3 0).toNat)]; omega) (by omega)
        omega
    · show zsm (zqr (zq0 g o) (zr0 g o) (zleft g o).toNat).1 8 = _
      rw [Z.2.1, Int.toNat_of_nonneg lf0]
      unfold zleft; omega
/-- as many are called as are to be -/
theorem zcall_is {g : zH} {o : Int} (h3 : 0 ≤ g 3 0 ∧ g 3 0 ≤ 60) (hw : 0 ≤ g (o + 1) 1) (hp : ∀ k : Int, 0 ≤ k → k < g 3 0 → 0 ≤ g 4 k ∧ g 4 k < 8) (inj : ∀ a b : Int, 0 ≤ a → a < g 3 0 → 0 ≤ b → b < g 3 0 → zli g o a → zli g o b → g (o + 7) a = g (o + 7) b → a = b) (hc : ∀ m : Int, 0 ≤ m → m < g 3 0 → (g (o + 5) m = 5 ↔ zli g o m ∧ zcnt (zahead g o m) (g 3 0).toNat < zquo g o (g 4 m))) : (∀ p : Int, zcnt (fun m => g (o + 5) m = 5 ∧ g 4 m = p) (g 3 0).toNat = zquo g o p) ∧ zcnt (fun m => g (o + 5) m = 5) (g 3 0).toNat = zcl g o := by
  have Q := zquo_is h3 hw hp
  have one : ∀ p : Int, zcnt (fun k => g (o + 5) k = 5 ∧ g 4 k = p) (g 3 0).toNat = zquo g o p := fun p => by
    have q := Q.1 p
    have pos := zcnt_in (fun k => zli g o k ∧ g 4 k = p) (g 3 0).toNat
    have R := zrank (g (o + 7)) (g 3 0).toNat (zquo g o p) q.1 (zlp g o p (g 3 0).toNat).toNat (fun k => zli g o k ∧ g 4 k = p) (fun a b a0 a1 b0 b1 ha hb => inj a b a0 (by omega) b0 (by omega) ha.1 hb.1) (by unfold zlp; omega)
    have C : zcnt (fun k => g (o + 5) k = 5 ∧ g 4 k = p) (g 3 0).toNat = zcnt (fun m => (zli g o m ∧ g 4 m = p) ∧ zcnt (fun k => (zli g o k ∧ g 4 k = p) ∧ g (o + 7) k < g (o + 7) m) (g 3 0).toNat < zquo g o p) (g 3 0).toNat := zcnt_congr (fun m m0 m1 => by
      rw [hc m m0 (by omega)]
      have e : g 4 m = p → zcnt (zahead g o m) (g 3 0).toNat = zcnt (fun k => (zli g o k ∧ g 4 k = p) ∧ g (o + 7) k < g (o + 7) m) (g 3 0).toNat := fun e4 => zcnt_congr (fun k _ _ => by
        unfold zahead
        rw [e4]
        exact ⟨fun z => ⟨⟨z.1, z.2.1⟩, z.2.2⟩, fun z => ⟨z.1.1, z.1.2, z.2⟩⟩)
      constructor
      · rintro ⟨⟨x, y⟩, z⟩
        exact ⟨⟨x, z⟩, by rw [← e z, ← z]; exact y⟩
      · rintro ⟨⟨x, z⟩, y⟩
        exact ⟨⟨x, by rw [e z, z]; exact y⟩, z⟩)
    rw [C, R]
    show min _ (zlp g o p (g 3 0).toNat) = _
    omega
  refine ⟨one, ?_⟩
  rw [zcnt_by (fun m => g (o + 5) m = 5) (g 4) 8 (g 3 0).toNat (fun k k0 k1 => hp k k0 (by omega)), ← Q.2]
  exact zsm_cg 8 (fun p _ _ => one p)
