/-! a lot drawn: states, LINES, places, quotas, both sides -/
section
variable {h : zH}
theorem vLr.to {c m : zH} {L w : Int} (r : vLr h h L w) (w8 : w < 8) (eL : ∀ o : Int, L ≤ o → o ≤ L + 5 → c o = h o) (em : ∀ o : Int, 190 ≤ o → o ≤ 203 → m o = h o) : vLr c m L w := by
  have e0 := eL L (Int.le_refl _) (by omega)
  rcases r with ⟨w0, z⟩ | ⟨w0, V, z, mv, v3, v4, v5⟩
  · exact Or.inl ⟨w0, z.ap (fun k _ => by rw [e0]) (fun q k q0 q1 => by rw [eL q (by omega) (by omega)])⟩
  · exact Or.inr ⟨w0, V, z.ap (fun k _ => by rw [e0]) (fun q k q0 q1 => by rw [eL q (by omega) (by omega)]), mv.cg ⟨w0, w8⟩ ⟨v3, v4⟩ (fun o k o0 o1 _ => by rw [em o o0 o1]), v3, v4, v5⟩
/-- lot l's roll, the same on both sides -/
def vRow (h : zH) (l : Int) (g e : zH) : Prop :=
  (∀ m : Int, 0 ≤ m → m < h 3 0 → e 219 (60 * l + m) = g (113 + 14 * l + 5) m ∧ e 220 (60 * l + m) = g (113 + 14 * l + 6) m ∧ e 222 m = (if zli g (113 + 14 * l) m then g (113 + 14 * l + 8) m else -1)) ∧ (∀ p : Int, 0 ≤ p → p < 8 → e 223 (8 * l + p) = g (113 + 14 * l + 10) p) ∧ (∀ p : Int, 0 ≤ p → p < 8 → zcnt (fun m => g (113 + 14 * l + 5) m = 5 ∧ g 4 m = p) (h 3 0).toNat = g (113 + 14 * l + 10) p) ∧ zcnt (fun m => g (113 + 14 * l + 5) m = 5) (h 3 0).toNat = g (113 + 14 * l) 10
theorem vJ.law {t : Int} {c f : zH} (J : vJ h t c f) (l : Int) : mlaw f (f 205 l) t = mlaw h (h 205 l) t := by
  have F := J.2.1
  unfold mlaw
  have best : ∀ n : Nat, mbest f (f 205 l) t n = mbest h (h 205 l) t n := fun n => by
    induction n with
    | zero => rfl
    | succ n ih =>
      have s : ∀ x : zH, ∀ d : Int, mbest x d t (n + 1) = if x 191 n ≤ t ∧ x 190 n ≤ d ∧ (mbest x d t n < 0 ∨ x 190 (mbest x d t n) ≤ x 190 n) then (n : Int) else mbest x d t n := fun _ _ => rfl
      rw [s, s, ih, F.1 191 (by decide) (by decide), F.1 190 (by decide) (by decide), F.1 205 (by decide) (by decide)]
  rw [best, F.2 45 (by decide)]
theorem vI.law8 (I : vI h) (d t : Int) : mlaw h d t < 8 := by
  have lw := I.2.2.2.2.2.2.2.2.1
  have q : ∀ n : Nat, mbest h d t n < n := fun n => by
    induction n with
    | zero => exact (show (-1 : Int) < ((0 : Nat) : Int) by decide)
    | succ n ih =>
      have s : mbest h d t (n + 1) = if h 191 n ≤ t ∧ h 190 n ≤ d ∧ (mbest h d t n < 0 ∨ h 190 (mbest h d t n) ≤ h 190 n) then (n : Int) else mbest h d t n := rfl
      rw [s]
      split <;> omega
  have := q (h 169 45).toNat
  have e45 := lw.2.1
  have e45' := lw.1
  unfold mlaw
  omega
theorem v_drawn (I : vI h) {t l L : Int} {c f e g : zH} (J : vJ h t c f) (l0 : 0 ≤ l ∧ l < h 0 12) (hL : L = 36 ∨ ∃ i : Int, (0 ≤ i ∧ i < 8) ∧ L = 65 + 6 * i) (r : vLr h h L (mlaw h (h 205 l) t)) (okL : zLawOK h L ∧ zClsOK h L) (a : zDrawn c (113 + 14 * l) L g) (b : mDrawn f l t e) (sv : h L 5 ≠ 0 → ∀ k : Int, 0 ≤ k → k < h 3 0 → (c 23 k ≠ 0 ↔ mSer e l k)) : vRow h l g e := by
  have lt4 := I.2.2.2.2.2.2.2.2.2.1.1
  have lt1 := I.2.2.2.2.2.2.2.2.2.1.2.2.1 l l0.1 l0.2
  have m3 := I.2.2.1.1
  have m25 := I.2.2.1.2.1
  have men := I.2.2.1.2.2
  have Jg : vJ h t g f := J.co (by omega) a
  have Je : vJ h t g e := Jg.mo (b.1.mono (by decide))
  obtain ⟨a1, a2, a3, a4, a5, -⟩ := a
  obtain ⟨b1, b2, b3, b4⟩ := b
  have kc := J.1
  obtain ⟨j1, -, -, j5, j6, j7⟩ := Jg
  have J3 := J.2.2.1
  obtain ⟨-, ⟨k2, k3⟩, k4, -, -, -⟩ := Je
  have hg : ∀ o k : Int, ¬ zKS o → g o k = h o k := j1.1
  have gL : ∀ o : Int, L ≤ o → o ≤ L + 5 → g o = h o := fun o o0 o1 => funext fun k => hg o k (by simp only [zKS]; rcases hL with z | ⟨i, i0, z⟩ <;> omega)
  have cL5 : c L 5 = h L 5 := kc.1 L 5 (by simp only [zKS]; rcases hL with z | ⟨i, i0, z⟩ <;> omega)
  have c20 : g 20 = c 20 := funext fun k => a1.1 20 k (by simp only [zDS]; omega)
  have g3 : g 3 0 = h 3 0 := j1.2.1 0 (by decide)
  have c3 : c 3 0 = h 3 0 := kc.2.1 0 (by decide)
  have g4 : ∀ k : Int, g 4 k = h 4 k := fun k => hg 4 k (by simp only [zKS]; omega)
  have g6 : ∀ k : Int, g 6 k = h 6 k := fun k => hg 6 k (by simp only [zKS]; omega)
  have fm : mlaw f (f 205 l) t = mlaw h (h 205 l) t := J.law l
  rw [fm] at b3
  have w8 : mlaw h (h 205 l) t < 8 := I.law8 _ _
  generalize mlaw h (h 205 l) t = w at r b3 w8
  have r' : vLr g e L w := r.to w8 gL (fun o o0 o1 => k2 o (by omega) (by omega))
  have ju : ∀ mm : Int, 0 ≤ mm → mm < h 3 0 → mjs e l w mm = zjs g (113 + 14 * l) L mm ∧ mjt e l w mm = zjl g (113 + 14 * l) L mm ∧ (zjs g (113 + 14 * l) L mm = 4 → mjc e l w mm = zjc g (113 + 14 * l) L mm) := fun mm m0 m1 => by
    by_cases th : c 20 mm = 0
    · have s1 : zjs g (113 + 14 * l) L mm = 0 := by
        unfold zjs
        rw [if_pos (by rw [c20]; exact th)]
      have s2 : mjs e l w mm = 0 := by
        unfold mjs
        rw [if_pos (by rw [k4.th mm m0 m1, c20]; exact th)]
      unfold mjt zjl
      rw [s1, s2]
      exact ⟨rfl, rfl, fun z => absurd z (by decide)⟩
    · exact v_judge (by omega) r' (v_asked I J b1 l0 a2 b2 ⟨m0, m1⟩ th) (fun z => by
        rw [gL L (Int.le_refl _) (by omega)] at z
        exact v_asked9 I J b1 l0 a2 (sv z) (by rw [cL5]; exact z) ⟨m0, m1⟩) (k4.th mm m0 m1)
  have F25 : f 169 25 = h 3 0 := (J.2.1.2 25 (by decide)).trans m25
  have e25 : e 169 25 = h 3 0 := (k3 25 (by decide)).trans m25
  have li : ∀ q : Int, 0 ≤ q → q < g 3 0 → (zli g (113 + 14 * l) q ↔ mli e l q) := fun q q0 q1 => by
    have z1 := (a3 q q0 (by omega)).1
    have z2 := (b3 q q0 (by omega)).1
    rw [z1, z2, (ju q q0 (by omega)).1]
  have pa : ∀ q : Int, 0 ≤ q → q < g 3 0 → g 4 q = e 172 q := fun q q0 q1 => by
    rw [g4, k2 172 (by decide) (by decide), (men q q0 (by omega)).1.1]
  have S := v_share (c := g) (m := e) (o := 113 + 14 * l) (l := l) (by omega) (by rw [hg _ _ (by simp only [zKS]; omega), k2 206 (by decide) (by decide), lt1.2.1.1, show 113 + 14 * l + 1 = 114 + 14 * l by omega]) (by omega) li pa
  have okg : (0 : Int) ≤ 0 ∧ ∀ q : Int, 0 ≤ zjc g (113 + 14 * l) L q ∧ zjc g (113 + 14 * l) L q ≤ 9 := ⟨Int.le_refl _, fun q => zjc_in (by
      unfold zLawOK
      rw [gL L (by omega) (by omega), gL (L + 3) (by omega) (by omega), gL (L + 4) (by omega) (by omega)]
      exact okL.1) (by
      unfold zClsOK
      rw [gL L (by omega) (by omega), gL (L + 1) (by omega) (by omega), gL (L + 2) (by omega) (by omega)]
      exact okL.2)⟩
  have lis : ∀ q : Int, 0 ≤ q → q < h 3 0 → zli g (113 + 14 * l) q → e 221 (60 * l + q) = zjc g (113 + 14 * l) L q ∧ e 214 q = g 19 q ∧ g (113 + 14 * l + 7) q = zjo g (113 + 14 * l) L q := fun q q0 q1 z => by
    have z1 := a3 q q0 (by omega)
    have z2 := b3 q q0 (by omega)
    have j := ju q q0 q1
    have s4 := z1.1.mp z
    have th : g 20 q ≠ 0 := fun y => by
      have : zjs g (113 + 14 * l) L q = 0 := by unfold zjs; rw [if_pos y]
      omega
    exact ⟨by rw [z2.2.2.1]; exact j.2.2 s4, k4.bw q q0 q1 (j7 q q0 q1 th), z1.2.2.1 s4⟩
  have pk : ∀ q : Int, 0 ≤ q → q < h 3 0 → zli g (113 + 14 * l) q → (0 ≤ e 214 q % 52 ∧ e 214 q % 52 < 52) ∧ e 208 (52 * l + e 214 q % 52) = g (113 + 14 * l + 2) (e 214 q % 52) ∧ (0 ≤ g (113 + 14 * l + 2) (e 214 q % 52) ∧ g (113 + 14 * l + 2) (e 214 q % 52) < 52) ∧ e 209 (26 * l + e 171 q) = g (113 + 14 * l + 3) (h 6 q) ∧ (0 ≤ g (113 + 14 * l + 3) (h 6 q) ∧ g (113 + 14 * l + 3) (h 6 q) < 26) := fun q q0 q1 z => by
    have mq := men q q0 q1
    have x1 := lt1.2.2.2.2.1 (e 214 q % 52) (by omega) (by omega)
    have x2 := lt1.2.2.2.2.2 (h 6 q) mq.2.2.2.1 mq.2.2.2.2
    rw [k2 208 (by decide) (by decide), k2 209 (by decide) (by decide), k2 171 (by decide) (by decide), mq.1.2.2, hg (113 + 14 * l + 2) _ (by simp only [zKS]; omega), hg (113 + 14 * l + 3) _ (by simp only [zKS]; omega), show 113 + 14 * l + 2 = 115 + 14 * l by omega, show 113 + 14 * l + 3 = 116 + 14 * l by omega]
    exact ⟨by omega, x1.1.1, x1.1.2, x2.1, x2.2⟩
  have A : ∀ q : Int, 0 ≤ q → q < h 3 0 → zli g (113 + 14 * l) q → zcnt (zahead g (113 + 14 * l) q) (g 3 0).toNat = zcnt (mah e l q) (e 169 25).toNat := fun q q0 q1 z =>
    v_ahead (by omega) (by omega) ⟨q0, by omega⟩ z li pa (fun k k0 k1 zk => by
      have L1 := lis k k0 (by omega) zk
      have P1 := pk k k0 (by omega) zk
      rw [L1.2.2, P1.2.1, P1.2.2.2.1, L1.1, L1.2.1]
      unfold zjo
      rw [g6]) (fun k k0 k1 zk => by
      have L1 := lis k k0 (by omega) zk
      have P1 := pk k k0 (by omega) zk
      have mk := men k k0 (by omega)
      have pe := (j6.2 k k0 k1).1
      refine ⟨by rw [L1.2.1]; exact pe, by rw [k2 171 (by decide) (by decide), mk.1.2.2]; exact mk.2.2.2, by rw [L1.1]; exact okg.2 k, by rw [P1.2.1]; exact P1.2.2.1, by rw [P1.2.2.2.1]; exact P1.2.2.2.2⟩)
  refine ⟨fun q q0 q1 => ?_, fun p p0 p1 => ?_, ?_⟩
  · have z1 := a3 q q0 (by omega)
    have z2 := b3 q q0 (by omega)
    have j := ju q q0 q1
    have mq := men q q0 q1
    have e172 : e 172 q = g 4 q := (pa q q0 (by omega)).symm
    have g10 : g (113 + 14 * l + 10) (g 4 q) = zquo g (113 + 14 * l) (g 4 q) := a5 _ (by rw [g4]; omega) (by rw [g4]; omega)
    obtain ⟨y1, y2, y3, y4, y5⟩ := z1
    obtain ⟨x1, x2, x3, x4, x5⟩ := z2
    refine ⟨?_, by rw [x2, y2]; exact j.2.1, ?_⟩
    · rw [x4, y4, j.1, e172, ← S.2, g10]
      by_cases s : zjs g (113 + 14 * l) L q = 4
      · rw [if_pos s, if_pos s, A q q0 q1 (y1.mpr s)]
      · rw [if_neg s, if_neg s]
    · rw [x5, j.1]
      by_cases s : zjs g (113 + 14 * l) L q = 4
      · rw [if_pos s, if_pos (y1.mpr s), y5, if_pos s, A q q0 q1 (y1.mpr s)]
      · rw [if_neg s, if_neg (fun z => s (y1.mp z))]
  · rw [b4 p p0 p1, a5 p p0 p1]
    exact (S.2 p).symm
  · suffices CC : (∀ p : Int, zcnt (fun m => g (113 + 14 * l + 5) m = 5 ∧ g 4 m = p) (g 3 0).toNat = zquo g (113 + 14 * l) p) ∧ zcnt (fun m => g (113 + 14 * l + 5) m = 5) (g 3 0).toNat = zcl g (113 + 14 * l) by
      rw [a4, ← g3]
      exact ⟨fun p p0 p1 => by rw [CC.1 p, a5 p p0 p1], CC.2⟩
    refine zcall_is (by omega) ?_ (fun k k0 k1 => by rw [g4]; exact (men k k0 (by omega)).2.2.1) (fun p q p0 p1 q0 q1 zp zq e2 => ?_) (fun m m0 m1 => ?_)
    · rw [hg _ _ (by simp only [zKS]; omega), show 113 + 14 * l + 1 = 114 + 14 * l by omega, ← lt1.2.1.1]
      exact lt1.2.1.2.1
    · have A1 := (lis p p0 (by omega) zp).2.2
      have A2 := (lis q q0 (by omega) zq).2.2
      rw [A1, A2] at e2
      unfold zjo at e2
      omega
    · obtain ⟨y1, -, -, y4, -⟩ := a3 m m0 (by omega)
      have mq := men m m0 (by omega)
      have g10 : g (113 + 14 * l + 10) (g 4 m) = zquo g (113 + 14 * l) (g 4 m) := a5 _ (by rw [g4]; omega) (by rw [g4]; omega)
      rw [g10] at y4
      by_cases s : zjs g (113 + 14 * l) L m = 4
      · rw [if_pos s] at y4
        by_cases y : zquo g (113 + 14 * l) (g 4 m) ≤ zcnt (zahead g (113 + 14 * l) m) (g 3 0).toNat
        · rw [if_pos y] at y4
          exact ⟨fun z => by omega, fun z => by omega⟩
        · rw [if_neg y] at y4
          exact ⟨fun _ => ⟨y1.mpr s, by omega⟩, fun _ => y4⟩
      · rw [if_neg s] at y4
        exact ⟨fun z => absurd (y1.mp (Or.inr z)) s, fun z => absurd (y1.mp z.1) s⟩
end
