/-! leaves -/
theorem zls_cg {cap cap' b b' : Int → Int} {t s : Int} (e : ∀ p : Int, 0 ≤ p → p < 8 → cap p = cap' p ∧ b p = b' p) : ∀ n : Nat, n ≤ 8 → zls cap b t s n = zls cap' b' t s n
  | 0, _ => rfl
  | n + 1, hn => by
    have q := e n (by omega) (by omega)
    unfold zls
    rw [zls_cg e n (by omega), q.1, q.2]
theorem zlv_cg {cap cap' : Int → Int → Int} {told told' : Int → Int} (ec : ∀ w p : Int, 0 ≤ w → w < 12 → 0 ≤ p → p < 8 → cap w p = cap' w p) (et : ∀ w : Int, 0 ≤ w → w < 12 → told w = told' w) : ∀ n : Nat, n ≤ 12 → (∀ p : Int, 0 ≤ p → p < 8 → (zlv cap told n).1 p = (zlv cap' told' n).1 p) ∧ (zlv cap told n).2 = (zlv cap' told' n).2
  | 0, _ => ⟨fun _ _ _ => rfl, rfl⟩
  | n + 1, hn => by
    obtain ⟨i1, i2⟩ := zlv_cg ec et n (by omega)
    have s : ∀ (c : Int → Int → Int) (d : Int → Int), zlv c d (n + 1) = (fun p => (zlv c d n).1 p + min (c n p - (zlv c d n).1 p) (d n - zls (c n) (zlv c d n).1 (d n) (zlv c d n).2.1 p.toNat), zls (c n) (zlv c d n).1 (d n) (zlv c d n).2.1 8, if (zlv c d n).2.2 = 0 then 0 else if zls (c n) (zlv c d n).1 (d n) (zlv c d n).2.1 8 = d n then 1 else 0) := fun _ _ => rfl
    have t := et n (by omega) (by omega)
    have z : ∀ k : Nat, k ≤ 8 → zls (cap n) (zlv cap told n).1 (told n) (zlv cap told n).2.1 k = zls (cap' n) (zlv cap' told' n).1 (told' n) (zlv cap' told' n).2.1 k := fun k hk => by
      rw [← t, ← i2]
      exact zls_cg (fun p p0 p1 => ⟨ec n p (by omega) (by omega) p0 p1, i1 p p0 p1⟩) k hk
    rw [s, s]
    refine ⟨fun p p0 p1 => ?_, ?_⟩
    · show (zlv cap told n).1 p + min (cap n p - (zlv cap told n).1 p) (told n - zls (cap n) (zlv cap told n).1 (told n) (zlv cap told n).2.1 p.toNat) = (zlv cap' told' n).1 p + min (cap' n p - (zlv cap' told' n).1 p) (told' n - zls (cap' n) (zlv cap' told' n).1 (told' n) (zlv cap' told' n).2.1 p.toNat)
      rw [z p.toNat (by omega), i1 p p0 p1, ec n p (by omega) (by omega) p0 p1, t]
    · show (zls (cap n) (zlv cap told n).1 (told n) (zlv cap told n).2.1 8, if (zlv cap told n).2.2 = 0 then (0 : Int) else if zls (cap n) (zlv cap told n).1 (told n) (zlv cap told n).2.1 8 = told n then 1 else 0) = (zls (cap' n) (zlv cap' told' n).1 (told' n) (zlv cap' told' n).2.1 8, if (zlv cap' told' n).2.2 = 0 then (0 : Int) else if zls (cap' n) (zlv cap' told' n).1 (told' n) (zlv cap' told' n).2.1 8 = told' n then 1 else 0)
      rw [z 8 (Nat.le_refl _), i2, t]
section
variable {h : zH}
theorem vI.lvs {f : zH} (I : vI h) (tp : vTp f) (fl : vFl f) (eo : ∀ o : Int, ¬ vScr o → o ≠ 1 → o ≠ 44 → (o < 55 ∨ 62 < o) → o < 235 → f o = h o) (e3 : ∀ k : Int, k ≠ 9 → f 3 k = h 3 k) (e9 : ∀ k : Int, k ≠ 0 → k ≠ 2 → k ≠ 3 → k ≠ 4 → k ≠ 96 → f 169 k = h 169 k) (eq : ∀ l q : Int, 0 ≤ l → l < 4 → 0 ≤ q → q < 60 → (-1 ≤ f (125 + 14 * l) q ∧ f (125 + 14 * l) q < 60) ∧ f (113 + 14 * l) 0 = l) : vI f := by
  obtain ⟨-, nm, me, bi, fa, ex, sa, se, lw, lt, -, md, bl⟩ := I
  have er : ∀ o : Int, (o < 1 ∨ 1 < o ∧ o < 3 ∨ 3 < o ∧ o < 17 ∨ 23 < o ∧ o < 44 ∨ 44 < o ∧ o < 55 ∨ 63 < o ∧ o < 113 ∨ 169 < o ∧ o < 212 ∨ 223 < o ∧ o < 229) → f o = h o := fun o ho => eo o (by unfold vScr; omega) (by omega) (by omega) (by omega) (by omega)
  have x3 : h 3 0 ≤ f 3 0 := by rw [e3 0 (by decide)]; exact Int.le_refl _
  have x10 : h 0 10 ≤ f 0 10 := by rw [er 0 (by decide)]; exact Int.le_refl _
  exact ⟨tp, nm.tr (fun k _ _ => by rw [er 0 (by decide)]) (fun k hk => e9 k (by omega) (by omega) (by omega) (by omega) (by omega)), me.tr (e3 0 (by decide)) (e9 25 (by decide) (by decide) (by decide) (by decide) (by decide)) (fun o ho => er o (by omega)), bi.tr (er 7 (by decide)) (er 8 (by decide)) x3 (e9 26 (by decide) (by decide) (by decide) (by decide) (by decide)) (fun o _ _ => er o (by omega)) x10, fa.tr (er 9 (by decide)) (er 10 (by decide)) x3 (e9 27 (by decide) (by decide) (by decide) (by decide) (by decide)) (fun o _ _ => er o (by omega)) x10, ex.tr (er 11 (by decide)) (er 12 (by decide)) x3 (e9 28 (by decide) (by decide) (by decide) (by decide) (by decide)) (fun o _ _ => er o (by omega)) x10, sa.tr (er 13 (by decide)) (er 14 (by decide)) x3 (e9 29 (by decide) (by decide) (by decide) (by decide) (by decide)) (fun o _ _ => er o (by omega)) x10, se.tr (er 15 (by decide)) (er 16 (by decide)) x3 (e9 85 (by decide) (by decide) (by decide) (by decide) (by decide)) (fun o _ _ => er o (by omega)) x10, lw.tr (by rw [er 0 (by decide)]) x10 (e9 45 (by decide) (by decide) (by decide) (by decide) (by decide)) (fun o ho => er o (by omega)) (fun o q _ _ _ => by rw [er o (by omega)]), lt.tr (by rw [er 0 (by decide)]) (e9 65 (by decide) (by decide) (by decide) (by decide) (by decide)) (fun o l _ _ ho => by
    rcases ho with ho | ho
    · exact eo o (by unfold vScr; omega) (by omega) (by omega) (by omega) (by omega)
    · exact er o (by omega)) eq, fl, md.tr (by rw [er 0 (by decide)]) (e9 89 (by decide) (by decide) (by decide) (by decide) (by decide)) (er 64 (by decide)) (er 228 (by decide)), fun k k0 k1 => by rw [er 200 (by decide)]; exact bl k k0 k1⟩
end
section
variable {X : zX} {dep : Nat} {h : zH}
theorem v_leaves (l t : Int) (I : vI h) (hdep : 7 ≤ dep) : vP1 X dep mX10_leaves mX11_leaves [xI l, xI t] h := by
  have m25 := I.2.2.1.2.1
  have m3 := I.2.2.1.1
  have men := I.2.2.1.2.2
  have lt := I.2.2.2.2.2.2.2.2.2.1
  have m65 := lt.2.1
  have tp := I.1
  have fl := I.2.2.2.2.2.2.2.2.2.2.1
  -- what the tape tells, on both sides
  have zat_m : ∀ i : Int, 0 ≤ i → i < h 1 1 → zat h i = zand (h 170 i) 255 := fun i i0 i1 => by
    unfold zat
    rw [if_pos ⟨i0, i1⟩, (tp.2.2 i i0 i1).1]
  have told : mTold h ↔ zTold h := by
    unfold mTold zTold
    rw [tp.2.1]
    constructor
    · rintro ⟨a, b⟩
      exact ⟨a, fun i i0 i1 => by rw [zat_m _ (by omega) (by omega), zat_m _ (by omega) (by omega)]; exact b i i0 i1⟩
    · rintro ⟨a, b⟩
      refine ⟨a, fun i i0 i1 => ?_⟩
      have := b i i0 i1
      rw [zat_m _ (by omega) (by omega), zat_m _ (by omega) (by omega)] at this
      exact this
  have toldc : ∀ g : zH, (∀ o : Int, 169 ≤ o → g o = h o) → (mTold g ↔ mTold h) := fun g ge => by
    unfold mTold mby
    rw [ge 169 (by decide), ge 170 (by decide)]
  have ne : ∀ g : zH, (∀ o : Int, 169 ≤ o → g o = h o) → mNe g := fun g ge p w p0 p1 w0 w1 => by
    have q := fl.2 p w p0 p1 w0 w1
    rw [ge 235 (by decide), q.1]
    exact q.2.2.1
  refine vP1.mk (f_X10_leaves l t I.zb tp.1 (fun p w p0 p1 w0 w1 => (fl.2 p w p0 p1 w0 w1).2.2.1) (by omega)) (fun v g P => ?_)
  rcases P with ⟨⟨l0, td⟩, e, f1, z, lv, rfl, rfl⟩ | ⟨c, rfl, rfl⟩
  · have l4 : l < 4 := by have := lt.1; omega
    have far := z.far
    have f1e : ∀ o : Int, o ≠ 44 → (o < 55 ∨ 62 < o) → f1 o = e o := fun o p1 p2 => funext fun k => lv.1 o k (by omega)
    have gt : ∀ o : Int, 169 ≤ o → zst f1 1 1 0 o = h o := fun o ho => by rw [zfn (by omega), f1e o (by omega) (by omega), far.1 o (by simp only [zKS]; omega)]
    generalize hg : zst f1 1 1 0 = g at gt
    have go : ∀ o : Int, o ≠ 1 → g o = f1 o := fun o ho => by rw [← hg, zfn ho]
    have g11 : g 1 1 = 0 := by rw [← hg]; exact zst_self _ _ _ _
    have bm := f_X11_leaves (X := X) (dep := dep) l t (h := g) (I.mb2 gt) (by rw [gt 169 (by decide), tp.2.1]; exact tp.1) (ne g gt) hdep
    refine ⟨_, bm, fun w F Q => ?_⟩
    rcases Q with ⟨-, x1, x, f, q1, q2, q3, q4, q5, rfl⟩ | ⟨c', -, -⟩
    · have x1o : ∀ o : Int, o ≠ 237 → o ≠ 169 → x1 o = g o := fun o p1 p2 => by
        have : x1 o = mTk g o := funext fun k => q1 o k (fun z => by
          simp only [List.mem_cons, List.not_mem_nil, or_false] at z
          omega)
        rw [this]
        unfold mTk
        rw [zfn p2, zfn p2, zfn p2, zfn p2]
      have x19 : ∀ k : Int, k ≠ 0 → k ≠ 2 → k ≠ 3 → k ≠ 4 → x1 169 k = h 169 k := fun k p0 p2 p3 p4 => by
        rw [q1 169 k (by decide), mTk_ne 169 k (Or.inr ⟨p0, p2, p3, p4⟩), gt 169 (by decide)]
      have R := v_rolled I l0 z q3 (fun o o0 _ o2 => by rw [x1o o (by omega) (by omega), gt o (by omega)]) (fun k hk => x19 k (by omega) (by omega) (by omega) (by omega))
      obtain ⟨J, Row, Rs⟩ := R
      have J2 := J.2.1
      have x25 : x 169 25 = h 3 0 := (J2.2 25 (by decide)).trans m25
      have e4 : ∀ k : Int, e 4 k = h 4 k := fun k => by rw [far.1 4 (by simp only [zKS]; omega)]
      have cal : ∀ p : Int, 0 ≤ p → p < 8 → mcal x l p (x 169 25).toNat = e (113 + 14 * l + 10) p := fun p p0 p1 => by
        unfold mcal
        rw [x25, ← Row.2.2.1 p p0 p1]
        refine zcnt_congr (fun m q0 q1 => ?_)
        rw [(Row.1 m q0 (by omega)).1, J2.1 172 (by decide) (by decide), (men m q0 (by omega)).1.1, e4]
      have her : ∀ p : Int, 0 ≤ p → p < 8 → mher x p (x 169 25).toNat = e 22 p := fun p p0 p1 => by
        unfold mher
        rw [x25, J.2.2.1.pa p p0 p1, J2.1 172 (by decide) (by decide)]
      have x235 : x 235 = h 235 := by rw [q3.far 235 (by decide), x1o 235 (by decide) (by decide), gt 235 (by decide)]
      have mh : ∀ p w : Int, 0 ≤ p → p < 8 → 0 ≤ w → ∀ n : Nat, w + n ≤ 12 → mmh x p w n = zmh e p w n := fun p w p0 p1 w0 n => by
        induction n with
        | zero => exact fun _ => rfl
        | succ n ih =>
          intro hn
          have s1 : mmh x p w (n + 1) = max (mmh x p w n) (x 235 (12 * p + (w + n))) := rfl
          have s2 : zmh e p w (n + 1) = max (zmh e p w n) (e (46 + p) (w + n)) := rfl
          rw [s1, s2, ih (by omega), x235, (fl.2 p (w + n) p0 p1 (by omega) (by omega)).1, far.1 (46 + p) (by simp only [zKS]; omega)]
      have ec : ∀ w p : Int, 0 ≤ w → w < 12 → 0 ≤ p → p < 8 → mcap x l w p = zcap e (113 + 14 * l) w p := fun w p w0 w1 p0 p1 => by
        unfold mcap zcap
        rw [cal p p0 p1, her p p0 p1, mh p w p0 p1 w0 (12 - w).toNat (by omega)]
        have := Row.2.2.1 p p0 p1
        have := zcnt_in (fun m => e (113 + 14 * l + 5) m = 5 ∧ e 4 m = p) (h 3 0).toNat
        omega
      have ez : ∀ i : Int, zat e i = zat h i := fun i => by
        unfold zat
        rw [far.1 1 (by simp only [zKS]; omega), far.1 2 (by simp only [zKS]; omega)]
      have et : ∀ w : Int, 0 ≤ w → w < 12 → mtw x w = zto e w := fun w w0 w1 => by
        unfold mtw zto
        rw [if_pos w1, if_pos w1, q3.far 237 (by decide), q2 w w0 w1, ez, zat_m w w0 (by rw [td.1]; exact w1)]
        unfold mby
        rw [gt 170 (by decide)]
      have Z := zlv_cg ec et
      have ok : zLvOK e (113 + 14 * l) := by
        refine ⟨by rw [far.1 1 (by simp only [zKS]; omega)]; exact tp.1, ?_, fun p p0 p1 => ⟨?_, ?_⟩, fun p w p0 p1 w0 w1 => ?_⟩
        · unfold zTold
          rw [far.1 1 (by simp only [zKS]; omega)]
          exact ⟨td.1, fun i i0 i1 => by rw [ez, ez]; exact td.2 i i0 i1⟩
        · rw [J.2.2.1.pa p p0 p1]
          have := zcnt_in (fun q => x 215 q ≠ 0 ∧ h 172 q = p) (h 3 0).toNat
          omega
        · rw [← Row.2.2.1 p p0 p1]
          exact (zcnt_in _ _).1
        · rw [far.1 (46 + p) (by simp only [zKS]; omega)]
          exact (fl.2 p w p0 p1 w0 w1).2.2.1
      refine ⟨by rw [q5, (Z 12 (Nat.le_refl _)).2], ?_⟩
      have fx : ∀ o : Int, o ≠ 236 → f o = x o := fun o ho => funext fun k => q4.1 o k (fun z => by
        simp only [List.mem_cons, List.not_mem_nil, or_false] at z
        omega)
      have Fo : ∀ o : Int, o ≠ 169 → (o < 213 ∨ 223 < o ∧ o < 229 ∨ 232 < o ∧ o < 236) → zst f 169 96 1 o = g o := fun o p1 p2 => by
        rw [zfn p1, fx o (by omega), q3.far o (by omega), x1o o (by omega) p1]
      have F9 : ∀ k : Int, k ≠ 0 → k ≠ 96 → zst f 169 96 1 169 k = x1 169 k := fun k p0 p1 => by
        rw [zst_ne (Or.inr p1), fx 169 (by decide), q3.far 169 (by decide)]
      have F96 : zst f 169 96 1 169 96 = 1 := zst_self _ _ _ _
      have F236 : ∀ q w : Int, 0 ≤ q → q < 8 → 0 ≤ w → w < 12 → zst f 169 96 1 236 (12 * q + w) = (zlv (zcap e (113 + 14 * l)) (zto e) (w.toNat + 1)).1 q := fun q w p0 p1 w0 w1 => by
        rw [zst_ne (Or.inl (by decide)), q4.2.1 q w p0 p1 w0 w1]
        exact (Z (w.toNat + 1) (by omega)).1 q p0 p1
      generalize zst f 169 96 1 = F at *
      have F1 : F 1 1 = 0 := by rw [Fo 1 (by decide) (by decide)]; exact g11
      refine I.lvs ⟨by rw [F1]; decide, ?_, fun i i0 i1 => by rw [F1] at i1; omega⟩ ⟨?_, fun q w p0 p1 w0 w1 => ⟨?_, ?_, ?_, ?_⟩⟩ (fun o ho p1 p2 p3 p4 => ?_) (fun k hk => ?_) (fun k p0 p2 p3 p4 p5 => by rw [F9 k p0 p5]; exact x19 k p0 p2 p3 p4) (fun j q j0 j1 q0 q1' => ?_)
      · rw [F1, F9 2 (by decide) (by decide), q1 169 2 (by decide)]
        show zst (zst _ 169 2 0) 169 4 0 169 2 = 0
        rw [zst_ne (Or.inr (by decide)), zst_self]
      · rw [F96, Fo 44 (by decide) (by decide), go 44 (by decide), lv.2.2.1]
      · rw [Fo 235 (by decide) (by decide), gt 235 (by decide), (fl.2 q w p0 p1 w0 w1).1, Fo (46 + q) (by omega) (by omega), go (46 + q) (by omega), f1e (46 + q) (by omega) (by omega), far.1 (46 + q) (by simp only [zKS]; omega)]
      · rw [F236 q w p0 p1 w0 w1, Fo (55 + q) (by omega) (by omega), go (55 + q) (by omega), lv.2.2.2.1 q w p0 p1 w0 (Or.inl w1)]
      · rw [Fo (46 + q) (by omega) (by omega), go (46 + q) (by omega), f1e (46 + q) (by omega) (by omega), far.1 (46 + q) (by simp only [zKS]; omega)]
        exact (fl.2 q w p0 p1 w0 w1).2.2.1
      · rw [Fo (55 + q) (by omega) (by omega), go (55 + q) (by omega), lv.2.2.2.1 q w p0 p1 w0 (Or.inl w1)]
        have a := (zlv_ok ok (w.toNat + 1) (by omega)).2 q p0 p1
        have b := zcap_0 ok ((w.toNat + 1 : Nat) : Int) q p0 p1 (by omega) (by omega)
        omega
      · have ho' := ho
        unfold vScr at ho'
        rw [Fo o (by omega) (by omega), go o p1, f1e o p2 p3, far.1 o (by simp only [zKS]; omega)]
      · rw [Fo 3 (by decide) (by decide), go 3 (by decide), f1e 3 (by decide) (by decide)]
        exact far.2 k hk
      · rw [Fo (125 + 14 * j) (by omega) (by omega), Fo (113 + 14 * j) (by omega) (by omega), go (125 + 14 * j) (by omega), go (113 + 14 * j) (by omega), f1e (125 + 14 * j) (by omega) (by omega), f1e (113 + 14 * j) (by omega) (by omega)]
        exact z.ro I j q j0 j1 q0 q1'
    · exact absurd ⟨⟨l0.1, by rw [gt 169 (by decide), m65]; exact l0.2⟩, (toldc g gt).mpr (told.mpr td)⟩ c'
  · have gt : ∀ o : Int, 169 ≤ o → zst h 1 1 0 o = h o := fun o ho => zfn (by omega)
    have bm := f_X11_leaves (X := X) (dep := dep) l t (h := zst h 1 1 0) (I.mb2 gt) (by rw [gt 169 (by decide), tp.2.1]; exact tp.1) (ne _ gt) hdep
    refine ⟨_, bm, fun w F Q => ?_⟩
    rcases Q with ⟨c', -⟩ | ⟨-, rfl, q⟩
    · exact absurd ⟨⟨c'.1.1, by have := c'.1.2; rw [gt 169 (by decide), m65] at this; exact this⟩, told.mp ((toldc _ gt).mp c'.2)⟩ c
    · refine ⟨rfl, ?_⟩
      have Fo : ∀ o : Int, o ≠ 237 → o ≠ 169 → o ≠ 1 → F o = h o := fun o p1 p2 p3 => by
        have : F o = mTk (zst h 1 1 0) o := funext fun k => q o k (fun z => by
          simp only [List.mem_cons, List.not_mem_nil, or_false] at z
          omega)
        rw [this]
        unfold mTk
        rw [zfn p2, zfn p2, zfn p2, zfn p2, zfn p3]
      have F9 : ∀ k : Int, F 169 k = mTk (zst h 1 1 0) 169 k := fun k => q 169 k (by decide)
      have F11 : F 1 1 = 0 := by
        rw [q 1 1 (by decide), mTk_ne 1 1 (Or.inl (by decide))]
        exact zst_self _ _ _ _
      refine I.lvs ⟨by rw [F11]; decide, ?_, fun i i0 i1 => by rw [F11] at i1; omega⟩ (fl.tr (by rw [Fo 44 (by decide) (by decide) (by decide)]) (by rw [F9, mTk_ne 169 96 (Or.inr (by decide))]; exact zst_ne (Or.inl (by decide))) (fun o ho => Fo o (by omega) (by omega) (by omega))) (fun o ho p1 _ _ p2 => Fo o (by omega) (by unfold vScr at ho; omega) p1) (fun k _ => by rw [Fo 3 (by decide) (by decide) (by decide)]) (fun k p0 p2 p3 p4 _ => by rw [F9, mTk_ne 169 k (Or.inr ⟨p0, p2, p3, p4⟩)]; exact zst_ne (Or.inl (by decide))) (fun j q j0 j1 q0 q1 => ?_)
      · rw [F11, F9]
        show zst (zst _ 169 2 0) 169 4 0 169 2 = 0
        rw [zst_ne (Or.inr (by decide)), zst_self]
      · rw [Fo (125 + 14 * j) (by omega) (by omega) (by omega), Fo (113 + 14 * j) (by omega) (by omega) (by omega)]
        exact lt.2.2.2.2.2 j q j0 j1 q0 q1
end
