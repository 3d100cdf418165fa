/-! sendings, chains, serving: both sides -/
section
variable {h : zH}
theorem vI.rowE (I : vI h) {r : Int} (r0 : 0 ≤ r) (r1 : r < h 15 2) : h 224 r = zget h 15 r 1 ∧ h 225 r = zget h 15 r 2 ∧ h 226 r = zget h 15 r 3 ∧ h 227 r = h 16 (r * 6) := by
  have se := I.2.2.2.2.2.2.2.1
  rw [zget_in r0 r1 (by decide) (by decide), zget_in r0 r1 (by decide) (by decide), zget_in r0 r1 (by decide) (by decide)]
  have d := se.1.get r0 r1 (c := 0) (q := 227) (by decide)
  rw [Int.add_zero] at d
  exact ⟨se.1.get r0 r1 (by decide), se.1.get r0 r1 (by decide), se.1.get r0 r1 (by decide), d⟩
/-- one row a man and a lot -/
theorem vI.rowU (I : vI h) {r s : Int} (r0 : 0 ≤ r) (r1 : r < h 15 2) (s0 : 0 ≤ s) (s1 : s < h 15 2) (e : h 224 r = h 224 s) (e' : h 225 r = h 225 s) : r = s := by
  have se := I.2.2.2.2.2.2.2.1
  have a := I.rowE r0 r1
  have b := I.rowE s0 s1
  rw [a.1, b.1, zget_in r0 r1 (by decide) (by decide), zget_in s0 s1 (by decide) (by decide)] at e
  rw [a.2.1, b.2.1, zget_in r0 r1 (by decide) (by decide), zget_in s0 s1 (by decide) (by decide)] at e'
  rcases Int.lt_trichotomy r s with z | z | z
  · exact absurd e' (((se.2 s s0 s1).2 r r0 (by omega) e).2 z)
  · exact z
  · exact absurd e'.symm (((se.2 r r0 r1).2 s s0 (by omega) e.symm).2 z)
theorem v_sent (I : vI h) (l t m : Int) : zse h l (zknown h 15 t).toNat m = msent h l m t := by
  have se := I.2.2.2.2.2.2.2.1
  have kn := se.1.known t
  have s9 := se.1.2.2.1
  have low : ∀ n : Nat, (n : Int) ≤ h 15 2 → (zse h l n m = -1 ∧ ∀ k : Int, 0 ≤ k → k < n → ¬ (h 224 k = l ∧ h 225 k = m)) ∨ ∃ k : Int, (0 ≤ k ∧ k < n) ∧ (h 224 k = l ∧ h 225 k = m) ∧ zse h l n m = h 226 k := by
    intro n
    induction n with
    | zero => exact fun _ => Or.inl ⟨rfl, fun k k0 k1 => absurd k1 (by omega)⟩
    | succ n ih =>
      intro hn
      obtain ⟨r1, r2, r3, -⟩ := I.rowE (r := n) (by omega) (by omega)
      have st : zse h l (n + 1) m = if zget h 15 n 1 = l ∧ zget h 15 n 2 = m then zget h 15 n 3 else zse h l n m := rfl
      rw [st, ← r1, ← r2, ← r3]
      by_cases y : h 224 n = l ∧ h 225 n = m
      · rw [if_pos y]
        exact Or.inr ⟨n, by omega, y, rfl⟩
      · rw [if_neg y]
        rcases ih (by omega) with ⟨z1, z2⟩ | ⟨k, k1, k2, k3⟩
        · refine Or.inl ⟨z1, fun k k0 k1 => ?_⟩
          by_cases e : k = n
          · rw [e]; exact y
          · exact z2 k k0 (by omega)
        · exact Or.inr ⟨k, by omega, k2, k3⟩
  have high : ∀ (n : Nat) (k0 : Int), 0 ≤ k0 → k0 + n = h 15 2 → (msb h l m t n k0 = -1 ∧ ∀ k : Int, k0 ≤ k → k < h 15 2 → ¬ (h 224 k = l ∧ h 225 k = m ∧ h 227 k ≤ t)) ∨ ∃ k : Int, (k0 ≤ k ∧ k < h 15 2) ∧ (h 224 k = l ∧ h 225 k = m ∧ h 227 k ≤ t) ∧ msb h l m t n k0 = h 226 k := by
    intro n
    induction n with
    | zero => exact fun k0 _ e => Or.inl ⟨rfl, fun k q1 q2 => absurd q2 (by omega)⟩
    | succ n ih =>
      intro k0 k00 e
      have st : msb h l m t (n + 1) k0 = if h 224 k0 = l ∧ h 225 k0 = m ∧ h 227 k0 ≤ t then h 226 k0 else msb h l m t n (k0 + 1) := rfl
      rw [st]
      by_cases y : h 224 k0 = l ∧ h 225 k0 = m ∧ h 227 k0 ≤ t
      · rw [if_pos y]
        exact Or.inr ⟨k0, by omega, y, rfl⟩
      · rw [if_neg y]
        rcases ih (k0 + 1) (by omega) (by omega) with ⟨z1, z2⟩ | ⟨k, k1, k2, k3⟩
        · refine Or.inl ⟨z1, fun k q0 q1 => ?_⟩
          by_cases e : k = k0
          · rw [e]; exact y
          · exact z2 k (by omega) q1
        · exact Or.inr ⟨k, by omega, k2, k3⟩
  have A := low (zknown h 15 t).toNat (by omega)
  have B := high (h 15 2).toNat 0 (by omega) (by omega)
  unfold msent
  rw [s9]
  have kk : ∀ k : Int, 0 ≤ k → k < h 15 2 → (h 227 k ≤ t ↔ k < zknown h 15 t) := fun k k0 k1 => by
    rw [(I.rowE k0 k1).2.2.2]
    exact kn.2 k k0 k1
  rcases A with ⟨a1, a2⟩ | ⟨k, a1, a2, a3⟩
  · rcases B with ⟨b1, b2⟩ | ⟨j, b1, b2, b3⟩
    · rw [a1, b1]
    · exact absurd ⟨b2.1, b2.2.1⟩ (a2 j b1.1 (by have := (kk j b1.1 b1.2).mp b2.2.2; omega))
  · rcases B with ⟨b1, b2⟩ | ⟨j, b1, b2, b3⟩
    · exact absurd ⟨a2.1, a2.2, (kk k a1.1 (by omega)).mpr (by omega)⟩ (b2 k a1.1 (by omega))
    · rw [a3, b3, I.rowU a1.1 (by omega) b1.1 b1.2 (by rw [a2.1, b2.1]) (by rw [a2.2, b2.2.1])]
theorem v_sentIn (I : vI h) (l t m : Int) : msent h l m t = -1 ∨ 0 ≤ msent h l m t ∧ msent h l m t < h 3 0 := by
  have se := I.2.2.2.2.2.2.2.1
  have s9 := se.1.2.2.1
  have high : ∀ (n : Nat) (k0 : Int), 0 ≤ k0 → k0 + n = h 15 2 → msb h l m t n k0 = -1 ∨ 0 ≤ msb h l m t n k0 ∧ msb h l m t n k0 < h 3 0 := by
    intro n
    induction n with
    | zero => exact fun k0 _ e => Or.inl rfl
    | succ n ih =>
      intro k0 k00 e
      have st : msb h l m t (n + 1) k0 = if h 224 k0 = l ∧ h 225 k0 = m ∧ h 227 k0 ≤ t then h 226 k0 else msb h l m t n (k0 + 1) := rfl
      rw [st]
      by_cases y : h 224 k0 = l ∧ h 225 k0 = m ∧ h 227 k0 ≤ t
      · rw [if_pos y, (I.rowE k00 (by omega)).2.2.1, zget_in k00 (by omega) (by decide) (by decide)]
        exact Or.inr (se.2 k0 k00 (by omega)).1.2
      · rw [if_neg y]
        exact ih (k0 + 1) (by omega) (by omega)
  have e15 := se.1.1
  unfold msent
  rw [s9]
  exact high _ 0 (Int.le_refl _) (by omega)
/-- the tables are the same, so are the sendings -/
theorem msent_cg {f : zH} (e : ∀ o : Int, 224 ≤ o → o ≤ 227 → f o = h o) (e9 : f 169 85 = h 169 85) (l m t : Int) : msent f l m t = msent h l m t := by
  have s : ∀ (n : Nat) (k : Int), msb f l m t n k = msb h l m t n k := fun n => by
    induction n with
    | zero => exact fun _ => rfl
    | succ n ih =>
      intro k
      have st : ∀ x : zH, msb x l m t (n + 1) k = if x 224 k = l ∧ x 225 k = m ∧ x 227 k ≤ t then x 226 k else msb x l m t n (k + 1) := fun _ => rfl
      rw [st, st, ih, e 224 (by decide) (by decide), e 225 (by decide) (by decide), e 226 (by decide) (by decide), e 227 (by decide) (by decide)]
  unfold msent
  rw [e9, s]
theorem v_chain (I : vI h) {l t s : Int} {g e : zH} (es : ∀ m : Int, 0 ≤ m → m < h 3 0 → g s m = msent h l m t) (ee : ∀ m : Int, msent e l m t = msent h l m t) : ∀ (n : Nat) (m : Int), 0 ≤ m → m < h 3 0 → zchain g s n m = mch e l t n m ∧ 0 ≤ mch e l t n m ∧ mch e l t n m < h 3 0
  | 0, m, m0, m1 => ⟨rfl, m0, m1⟩
  | n + 1, m, m0, m1 => by
    have s1 : mch e l t (n + 1) m = if msent e l m t < 0 then m else mch e l t n (msent e l m t) := rfl
    have s2 : zchain g s (n + 1) m = if g s m = -1 then m else zchain g s n (g s m) := rfl
    rw [s1, s2, ee, es m m0 m1]
    rcases v_sentIn I l t m with z | z
    · rw [z, if_pos (show (-1 : Int) = -1 from rfl), if_pos (show (-1 : Int) < 0 by decide)]
      exact ⟨rfl, m0, m1⟩
    · rw [if_neg (by omega), if_neg (by omega)]
      exact v_chain I es ee n _ z.1 z.2
/-- who serves, when the last lot is drawn -/
theorem zsv_is (g : zH) (o : Int) (b : Int → Int) : ∀ (n : Nat) (k : Int), zsv g o b n k ≠ 0 ↔ (∃ j : Int, (0 ≤ j ∧ j < n) ∧ g (o + 5) j = 5 ∧ zchain g (o + 12) 60 j = k) ∨ b k ≠ 0
  | 0, k => ⟨fun z => Or.inr z, fun z => by
      rcases z with ⟨j, j0, -⟩ | z
      · exact absurd j0.2 (by omega)
      · exact z⟩
  | n + 1, k => by
    have st : zsv g o b (n + 1) k = if g (o + 5) n = 5 ∧ zchain g (o + 12) 60 n = k then 1 else zsv g o b n k := rfl
    have ih := zsv_is g o b n k
    rw [st]
    by_cases y : g (o + 5) n = 5 ∧ zchain g (o + 12) 60 n = k
    · rw [if_pos y]
      exact ⟨fun _ => Or.inl ⟨n, by omega, y⟩, fun _ => by decide⟩
    · rw [if_neg y, ih]
      constructor
      · rintro (⟨j, j0, j1⟩ | z)
        · exact Or.inl ⟨j, by omega, j1⟩
        · exact Or.inr z
      · rintro (⟨j, j0, j1⟩ | z)
        · refine Or.inl ⟨j, ⟨j0.1, ?_⟩, j1⟩
          by_cases e : j = n
          · rw [e] at j1; exact absurd j1 y
          · omega
        · exact Or.inr z
/-- what else the faces read of lot l's roll -/
def vRs (h : zH) (l t : Int) (g e : zH) : Prop :=
  (∀ m : Int, 0 ≤ m → m < h 3 0 → g (113 + 14 * l + 12) m = msent h l m t ∧ g (113 + 14 * l + 13) m = zwse h l (zknown h 15 t).toNat m) ∧ (∀ m : Int, 0 ≤ m → m < h 3 0 → e 229 (60 * l + m) = if g (113 + 14 * l + 5) m = 5 then zchain g (113 + 14 * l + 12) 60 m else -1) ∧ (∀ m : Int, 0 ≤ m → m < h 3 0 → g 20 m ≠ 0 → vAq g e (113 + 14 * l) m l ∧ (h (zbest h l t (h 0 11).toNat) 5 ≠ 0 → vAs g e (113 + 14 * l) m l)) ∧ mHv h (h 205 l) t e ∧ ∀ m : Int, 0 ≤ m → m < h 3 0 → g (113 + 14 * l + 5) m ≠ 0 → g 20 m ≠ 0
/-- one lot drawn on each side -/
theorem v_step (I : vI h) {t l : Int} {c f e1 e g : zH} (J : vJ h t c f) (l0 : 0 ≤ l ∧ l < h 0 12) (a : zDrawn c (113 + 14 * l) (zbest h l t (h 0 11).toNat) g) (b : mDrawn f l t e1) (b2 : mChn e1 l t e) (sv : h (zbest h l t (h 0 11).toNat) 5 ≠ 0 → ∀ k : Int, 0 ≤ k → k < h 3 0 → (c 23 k ≠ 0 ↔ mSer f l k)) :
    vJ h t g e ∧ vRow h l g e ∧ vRs h l t g e ∧ ((∀ k : Int, 0 ≤ k → k < h 3 0 → (c 23 k ≠ 0 ↔ mSer f l k)) → ∀ k : Int, 0 ≤ k → k < h 3 0 → (g 23 k ≠ 0 ↔ mSer e (l + 1) k)) := by
  have lt4 := I.2.2.2.2.2.2.2.2.2.1.1
  have num := (I.2.2.2.2.2.2.2.2.2.1.2.2.2.2.2 l 0 l0.1 (by omega) (by decide) (by decide)).2
  have lw8 := I.2.2.2.2.2.2.2.2.1.1
  have m3 := I.2.2.1.1
  have m25 := I.2.2.1.2.1
  have hL : zbest h l t (h 0 11).toNat = 36 ∨ ∃ i : Int, (0 ≤ i ∧ i < 8) ∧ zbest h l t (h 0 11).toNat = 65 + 6 * i := by
    rcases zbest_is h l t (h 0 11).toNat with z | ⟨i, i0, i1, i2⟩
    · exact Or.inl z
    · exact Or.inr ⟨i, by omega, i2⟩
  have okL : zLawOK h (zbest h l t (h 0 11).toNat) ∧ zClsOK h (zbest h l t (h 0 11).toNat) := by
    have zb := I.zb
    rcases zbest_is h l t (h 0 11).toNat with z | ⟨i, i0, i1, i2⟩
    · rw [z]; exact zb.2.2.2.2.2.1
    · rw [i2]; exact zb.2.2.2.2.1 i i0 (by omega)
  have s1 : mSer e1 = mSer f := mSer_ag b.1 (by decide)
  have R := v_drawn I J l0 hL (v_lawFor I l0 t) okL a b (fun z k k0 k1 => by rw [s1]; exact sv z k k0 k1)
  have Jg : vJ h t g f := J.co (by omega) a
  have J1 : vJ h t g e1 := Jg.mo (b.1.mono (by decide))
  have Je : vJ h t g e := J1.mo (b2.1.mono (by decide))
  have ef : ∀ o : Int, o ≠ 229 → o ≠ 230 → e o = e1 o := fun o h1 h2 => funext fun k => b2.1 o k (fun z => by
    simp only [mCS, List.mem_cons, List.not_mem_nil, or_false] at z
    omega)
  have Re : vRow h l g e := by
    unfold vRow
    rw [ef 219 (by decide) (by decide), ef 220 (by decide) (by decide), ef 222 (by decide) (by decide), ef 223 (by decide) (by decide)]
    exact R
  have kc := J.1
  have c3 : c 3 0 = h 3 0 := kc.2.1 0 (by decide)
  have sn2 : ∀ m : Int, 0 ≤ m → m < h 3 0 → g (113 + 14 * l + 12) m = msent h l m t ∧ g (113 + 14 * l + 13) m = zwse h l (zknown h 15 t).toNat m := fun m m0 m1 => by
    rw [(a.2.2.2.2.2.1 m m0 (by omega)).1, (a.2.2.2.2.2.1 m m0 (by omega)).2, kc.2.2 l 0 l0.1 (by omega) (by decide), num, J.2.2.2.1, zknown_ap kc.1 (by simp only [zKS]; omega) (by simp only [zKS]; omega), zse_ap kc.1 (by simp only [zKS]; omega) (by simp only [zKS]; omega), zwse_ap kc.1 (by simp only [zKS]; omega) (by simp only [zKS]; omega)]
    exact ⟨v_sent I l t m, rfl⟩
  have sn : ∀ m : Int, 0 ≤ m → m < h 3 0 → g (113 + 14 * l + 12) m = msent h l m t := fun m m0 m1 => (sn2 m m0 m1).1
  have ee : ∀ m : Int, msent e1 l m t = msent h l m t := fun m => msent_cg (fun o o0 o1 => J1.2.1.1 o (by omega) (by omega)) (J1.2.1.2 85 (by decide)) l m t
  have e25 : e1 169 25 = h 3 0 := (J1.2.1.2 25 (by decide)).trans m25
  have ch := v_chain I sn ee 60
  have Q := b2
  unfold mChn mChj at Q
  rw [e25] at Q
  refine ⟨Je, Re, ⟨sn2, fun m m0 m1 => ?_, fun m m0 m1 th => ⟨?_, fun z5 => ?_⟩, ?_, fun m m0 m1 z th => ?_⟩, fun S k k0 k1 => ?_⟩
  · rw [Q.2.2.1 m m0 (by omega), (R.1 m m0 m1).1]
    by_cases y : g (113 + 14 * l + 5) m = 5
    · rw [if_pos ⟨m1, y⟩, if_pos y, (ch m m0 m1).1]
    · rw [if_neg (fun z => y z.2), if_neg y]
  · have c20 : g 20 m = c 20 m := a.1.1 20 m (by simp only [zDS]; omega)
    have q := v_asked I J b.1 l0 a.2.1 b.2.1 ⟨m0, m1⟩ (by rw [← c20]; exact th)
    unfold vAq at q ⊢
    rw [ef 217 (by decide) (by decide), ef 218 (by decide) (by decide), ef 214 (by decide) (by decide), ef 205 (by decide) (by decide), ef 172 (by decide) (by decide), ef 169 (by decide) (by decide), mBro_ag b2.1 (by decide) (by decide)]
    exact q
  · have cL5 : c (zbest h l t (h 0 11).toNat) 5 = h (zbest h l t (h 0 11).toNat) 5 := kc.1 _ 5 (by simp only [zKS]; rcases hL with z | ⟨i, i0, z⟩ <;> omega)
    have q := v_asked9 I J b.1 l0 a.2.1 (fun k k0 k1 => by rw [s1]; exact sv z5 k k0 k1) (by rw [cL5]; exact z5) ⟨m0, m1⟩
    unfold vAs at q ⊢
    rw [q, ef 169 (by decide) (by decide), mBro_ag b2.1 (by decide) (by decide)]
    refine zcnt_congr (fun k k0 k1 => ?_)
    have e' : mSer e l k ↔ mSer e1 l k := by
      unfold mSer
      constructor
      · rintro ⟨j, j0, j1⟩
        exact ⟨j, j0, by rw [(Q.2.1 (60 * j + k) (by omega)).2] at j1; exact j1⟩
      · rintro ⟨j, j0, j1⟩
        exact ⟨j, j0, by rw [(Q.2.1 (60 * j + k) (by omega)).2]; exact j1⟩
    rw [e']
  · have q := J.hv b.2.1
    unfold mHv at q ⊢
    rw [ef 217 (by decide) (by decide), ef 218 (by decide) (by decide)]
    exact q
  · have y := (a.2.2.1 m m0 (by omega)).2.2.2.1
    have s0 : zjs g (113 + 14 * l) (zbest h l t (h 0 11).toNat) m = 0 := by
      unfold zjs
      rw [if_pos th]
    rw [s0, if_neg (by decide)] at y
    exact z y
  · rw [a.2.2.2.2.2.2.2 k, zsv_is, S k k0 k1, c3]
    have q := Q.2.2.2 k k0 (by omega)
    constructor
    · rintro (⟨j, j0, j1, j2⟩ | ⟨j, j0, j1⟩)
      · refine ⟨l, by omega, q.mpr ⟨j, by omega, ?_, ?_⟩⟩
        · rw [(R.1 j j0.1 (by omega)).1]; exact j1
        · rw [← (ch j j0.1 (by omega)).1]; exact j2
      · refine ⟨j, by omega, ?_⟩
        rw [(Q.2.1 (60 * j + k) (by omega)).2, b.1 230 _ (by decide)]
        exact j1
    · rintro ⟨j, j0, j1⟩
      by_cases y : j = l
      · rw [y] at j1
        obtain ⟨i, i0, i1, i2⟩ := q.mp j1
        refine Or.inl ⟨i, by omega, ?_, ?_⟩
        · rw [← (R.1 i i0.1 i0.2).1]; exact i1
        · rw [(ch i i0.1 i0.2).1]; exact i2
      · refine Or.inr ⟨j, by omega, ?_⟩
        rw [(Q.2.1 (60 * j + k) (by omega)).2, b.1 230 _ (by decide)] at j1
        exact j1
end
