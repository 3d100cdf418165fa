/-! who is who, born when, brothers: the class's answers are the model's -/
theorem zkn_pre {h : zH} {o t : Int} : ∀ (k : Nat), (∀ r s : Nat, r ≤ s → s < k → h (o + 1) ((r : Int) * 6) ≤ h (o + 1) ((s : Int) * 6)) → (0 ≤ zkn h o t k ∧ zkn h o t k ≤ k) ∧ ∀ r : Nat, r < k → (h (o + 1) ((r : Int) * 6) ≤ t ↔ (r : Int) < zkn h o t k)
  | 0, _ => ⟨⟨Int.le_refl _, Int.le_refl _⟩, fun r hr => absurd hr (Nat.not_lt_zero r)⟩
  | k + 1, mo => by
    have i := zkn_pre (h := h) (o := o) (t := t) k (fun r s rs s1 => mo r s rs (by omega))
    unfold zkn
    by_cases c : h (o + 1) ((k : Int) * 6) ≤ t
    · rw [if_pos c]
      refine ⟨by omega, fun r hr => ⟨fun _ => by omega, fun _ => ?_⟩⟩
      have := mo r k (by omega) (by omega)
      omega
    · rw [if_neg c]
      refine ⟨by omega, fun r hr => ?_⟩
      by_cases e : r = k
      · rw [e]
        constructor
        · intro z; exact absurd z c
        · intro z; omega
      · exact i.2 r (by omega)
theorem vLg.known {h : zH} {o most n : Int} {ar : List (Int × Int)} (I : vLg h o most n ar) (t : Int) : (0 ≤ zknown h o t ∧ zknown h o t ≤ h o 2) ∧ ∀ r : Int, 0 ≤ r → r < h o 2 → (h (o + 1) (r * 6) ≤ t ↔ r < zknown h o t) := by
  have z := zkn_pre (h := h) (o := o) (t := t) (h o 2).toNat (fun r s rs s1 => I.2.2.2.2.1 r s (by omega) (by omega) (by omega))
  have s0 := I.1
  refine ⟨by unfold zknown; omega, fun r r0 r1 => ?_⟩
  have y := z.2 r.toNat (by omega)
  rw [Int.toNat_of_nonneg r0] at y
  exact y
section
variable {h : zH}
/-- the class's labels after r rows: least, the same for those told to be the same, and no more than that -/
theorem zwho_mw (hs : zSameOK h) : ∀ r : Nat, (r : Int) ≤ h 13 2 → (∀ m : Int, 0 ≤ m → m < h 3 0 → 0 ≤ zwho h r m ∧ zwho h r m ≤ m) ∧ (∀ k : Int, 0 ≤ k → k < r → zwho h r (zget h 13 k 1) = zwho h r (zget h 13 k 2)) ∧ ∀ f : Int → Int, (∀ k : Int, 0 ≤ k → k < r → f (zget h 13 k 1) = f (zget h 13 k 2)) → ∀ m : Int, f (zwho h r m) = f m
  | 0, _ => ⟨fun m h0 _ => ⟨h0, Int.le_refl _⟩, fun k k0 k1 => absurd k1 (by omega), fun f _ m => rfl⟩
  | r + 1, hr => by
    obtain ⟨i1, i2, i3⟩ := zwho_mw hs r (by omega)
    have rr := hs.2 r (by omega) (by omega)
    have ix := i1 _ rr.1.1 rr.1.2
    have iy := i1 _ rr.2.1 rr.2.2
    have st : ∀ m : Int, zwho h (r + 1) m = if zwho h r m = max (zwho h r (zget h 13 r 1)) (zwho h r (zget h 13 r 2)) then min (zwho h r (zget h 13 r 1)) (zwho h r (zget h 13 r 2)) else zwho h r m := fun m => rfl
    refine ⟨fun m h0 h1 => ?_, fun k k0 k1 => ?_, fun f hf m => ?_⟩
    · have im := i1 m h0 h1
      rw [st]
      by_cases c : zwho h r m = max (zwho h r (zget h 13 r 1)) (zwho h r (zget h 13 r 2))
      · rw [if_pos c]; omega
      · rw [if_neg c]; exact im
    · rw [st, st]
      by_cases e : k = r
      · rw [e]
        generalize zwho h r (zget h 13 r 1) = x
        generalize zwho h r (zget h 13 r 2) = y
        by_cases c : x = max x y
        · rw [if_pos c]
          by_cases c2 : y = max x y
          · rw [if_pos c2]
          · rw [if_neg c2]; omega
        · rw [if_neg c]
          by_cases c2 : y = max x y
          · rw [if_pos c2]; omega
          · omega
      · rw [i2 k k0 (by omega)]
    · have f1 := i3 f (fun k k0 k1 => hf k k0 (by omega))
      have fr := hf r (by omega) (by omega)
      rw [st]
      by_cases c : zwho h r m = max (zwho h r (zget h 13 r 1)) (zwho h r (zget h 13 r 2))
      · rw [if_pos c]
        have fx := f1 (zget h 13 r 1)
        have fy := f1 (zget h 13 r 2)
        have fm := f1 m
        rw [c] at fm
        generalize zwho h r (zget h 13 r 1) = x at *
        generalize zwho h r (zget h 13 r 2) = y at *
        by_cases l : x ≤ y
        · rw [Int.min_eq_left l]
          rw [Int.max_eq_right l] at fm
          rw [fx, fr, ← fy]; exact fm
        · rw [Int.min_eq_right (by omega)]
          rw [Int.max_eq_left (by omega)] at fm
          rw [fy, ← fr, ← fx]; exact fm
      · rw [if_neg c]; exact f1 m
theorem vI.rowS (I : vI h) {k : Int} (k0 : 0 ≤ k) (k1 : k < h 13 2) : h 187 k = zget h 13 k 1 ∧ h 188 k = zget h 13 k 2 ∧ h 189 k = h 14 (k * 6) := by
  have sa := I.2.2.2.2.2.2.1
  rw [zget_in k0 k1 (by decide) (by decide), zget_in k0 k1 (by decide) (by decide)]
  have d := sa.1.get k0 k1 (c := 0) (q := 189) (by decide)
  rw [Int.add_zero] at d
  exact ⟨sa.1.get k0 k1 (by decide), sa.1.get k0 k1 (by decide), d⟩
theorem vI.mw (I : vI h) (t : Int) : mWho h t (zwho h (zknown h 13 t).toNat) := by
  have zb := I.zb
  have sa := I.2.2.2.2.2.2.1
  have kn := sa.1.known t
  have w := zwho_mw zb.2.1 (zknown h 13 t).toNat (by omega)
  have m25 := I.2.2.1.2.1
  have s9 := sa.1.2.2.1
  refine ⟨fun m h0 h1 => ?_, fun k k0 k1 kt => ?_⟩
  · rw [m25] at h1
    refine ⟨w.1 m h0 h1, fun f hf => w.2.2 f (fun k k0 k1 => ?_) m⟩
    have r := I.rowS k0 (show k < h 13 2 by omega)
    have q := hf k k0 (by rw [s9]; omega) (by rw [r.2.2]; exact (kn.2 k k0 (by omega)).mpr (by omega))
    rw [r.1, r.2.1] at q
    exact q
  · rw [s9] at k1
    have r := I.rowS k0 k1
    rw [r.2.2] at kt
    rw [r.1, r.2.1]
    exact w.2.1 k k0 (by have := (kn.2 k k0 k1).mp kt; omega)
/-- there is one such labelling -/
theorem mWho_un {t : Int} {H H' : Int → Int} (a : mWho h t H) (a' : mWho h t H') {m : Int} (h0 : 0 ≤ m) (h1 : m < h 169 25) : H m = H' m := by
  obtain ⟨l, i⟩ := a
  obtain ⟨l', i'⟩ := a'
  have lm := l m h0 h1
  have lm' := l' m h0 h1
  have e1 := lm.2 H' i'
  have e2 := lm'.2 H i
  have b1 := (l' (H m) lm.1.1 (by omega)).1
  have b2 := (l (H' m) lm'.1.1 (by omega)).1
  omega
theorem vI.bir (I : vI h) (t : Int) (m : Int) (b : Int → Int) : zlw (fun r => h 176 r ≤ t) (h 174) (fun _ => 1) (fun _ => 0) (h 169 26).toNat m = zbn h (zknown h 7 t).toNat m ∧ (zbn h (zknown h 7 t).toNat m ≠ 0 → zlw (fun r => h 176 r ≤ t) (h 174) (h 175) b (h 169 26).toNat m = zbw h (zknown h 7 t).toNat m) := by
  have bi := I.2.2.2.1
  have kn := bi.1.known t
  have s9 := bi.1.2.2.1
  have row : ∀ r : Int, 0 ≤ r → r < h 7 2 → h 174 r = zget h 7 r 1 ∧ h 175 r = zget h 7 r 2 ∧ (h 176 r ≤ t ↔ r < zknown h 7 t) := fun r r0 r1 => by
    rw [zget_in r0 r1 (by decide) (by decide), zget_in r0 r1 (by decide) (by decide)]
    have d := bi.1.get r0 r1 (c := 0) (q := 176) (by decide)
    rw [Int.add_zero] at d
    exact ⟨bi.1.get r0 r1 (by decide), bi.1.get r0 r1 (by decide), by rw [d]; exact kn.2 r r0 r1⟩
  have low : ∀ n : Nat, (n : Int) ≤ zknown h 7 t → zlw (fun r => h 176 r ≤ t) (h 174) (fun _ => 1) (fun _ => 0) n m = zbn h n m ∧ (zbn h n m ≠ 0 → zlw (fun r => h 176 r ≤ t) (h 174) (h 175) b n m = zbw h n m) := by
    intro n
    induction n with
    | zero => exact fun _ => ⟨rfl, fun z => absurd rfl z⟩
    | succ n ih =>
      intro hn
      obtain ⟨j1, j2⟩ := ih (by omega)
      obtain ⟨r1, r2, r3⟩ := row n (by omega) (by omega)
      have c : h 176 n ≤ t := r3.mpr (by omega)
      have c' : (fun r => h 176 r ≤ t) (n : Int) := c
      rw [zlw_t c', zlw_t c', r1, r2, j1]
      have s1 : zbn h (n + 1) m = if zget h 7 n 1 = m then 1 else zbn h n m := rfl
      have s2 : zbw h (n + 1) m = if zget h 7 n 1 = m then zget h 7 n 2 else zbw h n m := rfl
      rw [s1, s2]
      by_cases e : m = zget h 7 n 1
      · rw [if_pos e, if_pos e.symm, if_pos e, if_pos e.symm]
        exact ⟨rfl, fun _ => rfl⟩
      · rw [if_neg e, if_neg (fun z => e z.symm), if_neg e, if_neg (fun z => e z.symm)]
        exact ⟨rfl, j2⟩
  have high : ∀ n : Nat, zknown h 7 t ≤ n → (n : Int) ≤ h 7 2 → ∀ V f : Int → Int, zlw (fun r => h 176 r ≤ t) (h 174) V f n m = zlw (fun r => h 176 r ≤ t) (h 174) V f (zknown h 7 t).toNat m := by
    intro n
    induction n with
    | zero => intro a _ V f; rw [show (zknown h 7 t).toNat = 0 by omega]
    | succ n ih =>
      intro a a2 V f
      by_cases e : zknown h 7 t = ((n + 1 : Nat) : Int)
      · rw [show (zknown h 7 t).toNat = n + 1 by omega]
      · have c : ¬ (fun r => h 176 r ≤ t) (n : Int) := fun z => by
          have := (row n (by omega) (by omega)).2.2.mp z
          omega
        rw [zlw_f c]
        exact ih (by omega) (by omega) V f
  have l := low (zknown h 7 t).toNat (by omega)
  rw [s9, high (h 7 2).toNat (by omega) (by omega), high (h 7 2).toNat (by omega) (by omega)]
  exact l
/-- looking, on both sides -/
def vLk (h : zH) (t : Int) (c m : zH) : Prop := (∀ p : Int, 0 ≤ p → p < h 3 0 → m 213 p = c 17 p) ∧ (∀ p : Int, 0 ≤ p → p < h 3 0 → m 216 p = c 18 p) ∧ (∀ p : Int, 0 ≤ p → p < h 3 0 → c 18 p ≠ 0 → m 214 p = c 19 p) ∧ (∀ p : Int, 0 ≤ p → p < h 3 0 → m 215 p = c 20 p) ∧ (∀ p : Int, 0 ≤ p → p < 60 → c 21 p = zcnt (fun q => m 215 q ≠ 0 ∧ h 173 q = p) (h 3 0).toNat) ∧ (∀ p : Int, 0 ≤ p → p < 8 → c 22 p = zcnt (fun q => m 215 q ≠ 0 ∧ h 172 q = p) (h 3 0).toNat)
theorem vLk.who {t : Int} {c m : zH} (L : vLk h t c m) : ∀ p : Int, 0 ≤ p → p < h 3 0 → m 213 p = c 17 p := L.1
theorem vLk.bn {t : Int} {c m : zH} (L : vLk h t c m) : ∀ p : Int, 0 ≤ p → p < h 3 0 → m 216 p = c 18 p := L.2.1
theorem vLk.bw {t : Int} {c m : zH} (L : vLk h t c m) : ∀ p : Int, 0 ≤ p → p < h 3 0 → c 18 p ≠ 0 → m 214 p = c 19 p := L.2.2.1
theorem vLk.th {t : Int} {c m : zH} (L : vLk h t c m) : ∀ p : Int, 0 ≤ p → p < h 3 0 → m 215 p = c 20 p := L.2.2.2.1
theorem vLk.so {t : Int} {c m : zH} (L : vLk h t c m) : ∀ p : Int, 0 ≤ p → p < 60 → c 21 p = zcnt (fun q => m 215 q ≠ 0 ∧ h 173 q = p) (h 3 0).toNat := L.2.2.2.2.1
theorem vLk.pa {t : Int} {c m : zH} (L : vLk h t c m) : ∀ p : Int, 0 ≤ p → p < 8 → c 22 p = zcnt (fun q => m 215 q ≠ 0 ∧ h 172 q = p) (h 3 0).toNat := L.2.2.2.2.2
theorem v_look (I : vI h) {t : Int} {g h' f : zH} (a : zLook h g (zknown h 13 t).toNat (zknown h 7 t).toNat (h 3 0).toNat) (b : mPeo h' t f) (e9 : ∀ k : Int, 5 ≤ k → h' 169 k = h 169 k) (eo : ∀ o : Int, 169 < o → o ≠ 214 → (o < 213 ∨ 223 < o ∧ o < 229) → h' o = h o) : vLk h t g f := by
  have m25 := I.2.2.1.2.1
  have m3 := I.2.2.1.1
  have men := I.2.2.1.2.2
  obtain ⟨b1, b2, b3⟩ := b
  rw [e9 25 (by decide), m25] at b3
  rw [e9 26 (by decide), eo 176 (by decide) (by decide) (by decide), eo 174 (by decide) (by decide) (by decide), eo 175 (by decide) (by decide) (by decide)] at b3
  have w2 : mWho h t (f 213) := by
    have q := b2
    unfold mWho mLow mInv at q ⊢
    rw [e9 25 (by decide), e9 29 (by decide), eo 187 (by decide) (by decide) (by decide), eo 188 (by decide) (by decide) (by decide), eo 189 (by decide) (by decide) (by decide)] at q
    exact q
  obtain ⟨a1, a2, a3, a4⟩ := a
  have who : ∀ p : Int, 0 ≤ p → p < h 3 0 → f 213 p = g 17 p := fun p p0 p1 => by
    rw [(a1 p p0 p1).1]
    exact mWho_un w2 (I.mw t) p0 (by omega)
  have bn : ∀ p : Int, 0 ≤ p → p < h 3 0 → f 216 p = g 18 p := fun p p0 p1 => by
    rw [(b3 p p0 p1).1, (a1 p p0 p1).2.1]
    exact (I.bir t p (fun _ => 0)).1
  have th : ∀ p : Int, 0 ≤ p → p < h 3 0 → f 215 p = zb (zthere h (zknown h 13 t).toNat (zknown h 7 t).toNat p) := fun p p0 p1 => by
    rw [(b3 p p0 p1).2.2, who p p0 p1, bn p p0 p1, (a1 p p0 p1).1, (a1 p p0 p1).2.1]
    refine zb_iff ?_
    unfold zthere
    exact ⟨fun z => ⟨z.2, z.1⟩, fun z => ⟨z.2, z.1⟩⟩
  have tn : ∀ p : Int, 0 ≤ p → p < h 3 0 → (f 215 p ≠ 0 ↔ zthere h (zknown h 13 t).toNat (zknown h 7 t).toNat p) := fun p p0 p1 => by
    rw [th p p0 p1]
    constructor
    · intro z; exact Classical.byContradiction fun y => z (zb_f y)
    · intro z; rw [zb_t z]; decide
  refine ⟨who, bn, fun p p0 p1 c => ?_, fun p p0 p1 => ?_, fun p p0 p1 => ?_, fun p p0 p1 => ?_⟩
  · rw [(b3 p p0 p1).2.1, (a1 p p0 p1).2.2]
    rw [(a1 p p0 p1).2.1] at c
    exact (I.bir t p (h' 214)).2 c
  · rw [th p p0 p1]
    exact ((a2 p p0 (by omega)).2).symm
  · rw [a3 p p0 p1]
    refine zcnt_congr (fun k k0 k1 => ?_)
    rw [tn k k0 (by omega), (men k k0 (by omega)).1.2.1]
  · rw [a4 p p0 p1]
    refine zcnt_congr (fun k k0 k1 => ?_)
    rw [tn k k0 (by omega), (men k k0 (by omega)).1.1]
/-- a man counted, and the others -/
theorem zcnt_but {P : Int → Prop} {m : Int} (hp : P m) : ∀ n : Nat, (m < n → zcnt P n = zcnt (fun k => m ≠ k ∧ P k) n + if 0 ≤ m then 1 else 0) ∧ ((n : Int) ≤ m → zcnt P n = zcnt (fun k => m ≠ k ∧ P k) n)
  | 0 => ⟨fun c => by rw [if_neg (by omega)]; rfl, fun _ => rfl⟩
  | n + 1 => by
    obtain ⟨i1, i2⟩ := zcnt_but hp n
    refine ⟨fun c => ?_, fun c => ?_⟩
    · rw [zcnt_s, zcnt_s]
      by_cases e : m = n
      · rw [i2 (by omega), ← e, zb_t hp, zb_f (fun z => z.1 rfl), if_pos (by omega)]; omega
      · rw [i1 (by omega)]
        have q : zb (P n) = zb (m ≠ n ∧ P n) := zb_iff ⟨fun z => ⟨e, z⟩, fun z => z.2⟩
        rw [q]; omega
    · rw [zcnt_s, zcnt_s, i2 (by omega)]
      have q : zb (P n) = zb (m ≠ n ∧ P n) := zb_iff ⟨fun z => ⟨by omega, z⟩, fun z => z.2⟩
      rw [q]
end
