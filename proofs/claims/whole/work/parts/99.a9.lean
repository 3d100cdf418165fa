/-! a lot drawn: what is asked of a man, both sides -/
section
variable {h : zH}
/-- the class looked at (c) and the model looked at (m), as of t, some lots drawn -/
def vJ (h : zH) (t : Int) (c m : zH) : Prop :=
  zKept h c ∧ ((∀ o : Int, 169 < o → (o < 213 ∨ 223 < o ∧ o < 229) → m o = h o) ∧ ∀ k : Int, 5 ≤ k → m 169 k = h 169 k) ∧ vLk h t c m ∧ c 3 9 = t ∧ zPeo c ∧ ∀ p : Int, 0 ≤ p → p < h 3 0 → c 20 p ≠ 0 → c 18 p ≠ 0
theorem vJ.mo {t : Int} {c m e : zH} (J : vJ h t c m) (a : zag mRo m e) : vJ h t c e := by
  obtain ⟨j1, ⟨j2, j3⟩, j4, j5⟩ := J
  have ef : ∀ o : Int, (o < 217 ∨ 223 < o ∧ o < 229 ∨ 232 < o) → e o = m o := fun o ho => funext fun k => a o k (fun z => by
    simp only [mRo, List.mem_cons, List.not_mem_nil, or_false] at z
    omega)
  refine ⟨j1, ⟨fun o o1 o2 => by rw [ef o (by omega)]; exact j2 o o1 o2, fun k hk => by rw [ef 169 (by decide)]; exact j3 k hk⟩, ?_, j5⟩
  unfold vLk at j4 ⊢
  rw [ef 213 (by decide), ef 214 (by decide), ef 215 (by decide), ef 216 (by decide)]
  exact j4
theorem vJ.co {t : Int} {c m g : zH} {l L : Int} (hl : 0 ≤ l ∧ l < 4) (J : vJ h t c m) (a : zDrawn c (113 + 14 * l) L g) : vJ h t g m := by
  obtain ⟨j1, j2, j4, j5, j6, j7⟩ := J
  have eg : ∀ o : Int, o < 23 → g o = c o := fun o ho => funext fun k => a.1.1 o k (by simp only [zDS]; omega)
  refine ⟨j1.tr (a.kept hl), j2, ?_, by rw [eg 3 (by decide)]; exact j5, a.peo hl j6, by rw [eg 20 (by decide), eg 18 (by decide)]; exact j7⟩
  unfold vLk at j4 ⊢
  rw [eg 17 (by decide), eg 18 (by decide), eg 19 (by decide), eg 20 (by decide), eg 21 (by decide), eg 22 (by decide)]
  exact j4
theorem vJ.hv {t l : Int} {c f e : zH} (J : vJ h t c f) (hv : mHv f (f 205 l) t e) : mHv h (h 205 l) t e := by
  obtain ⟨-, ⟨j2, j3⟩, -⟩ := J
  have fd : f 205 l = h 205 l := by rw [j2 205 (by decide) (by decide)]
  unfold mHv at hv ⊢
  rw [fd, j2 182 (by decide) (by decide), j2 180 (by decide) (by decide), j2 181 (by decide) (by decide), j2 177 (by decide) (by decide), j2 178 (by decide) (by decide), j2 179 (by decide) (by decide), j3 27 (by decide), j2 186 (by decide) (by decide), j2 183 (by decide) (by decide), j2 185 (by decide) (by decide), j3 28 (by decide)] at hv
  exact hv
theorem v_asked (I : vI h) {t l L : Int} {c f e g : zH} (J : vJ h t c f) (a : zag mDS f e) (l0 : 0 ≤ l ∧ l < h 0 12)
    (hk : ∀ m q : Int, 0 ≤ m → m < 60 → 0 ≤ q → q < 11 → g (113 + 14 * l + 4) (m * 11 + q) = zask c (113 + 14 * l) L m q)
    (hv : mHv f (f 205 l) t e) {mm : Int} (hm : 0 ≤ mm ∧ mm < h 3 0) (th : c 20 mm ≠ 0) : vAq g e (113 + 14 * l) mm l := by
  have Jk := J
  have Je : vJ h t c e := J.mo (a.mono (by decide))
  have m3 := I.2.2.1.1
  have lt4 := I.2.2.2.2.2.2.2.2.2.1.1
  have day := (I.2.2.2.2.2.2.2.2.2.1.2.2.1 l l0.1 l0.2).1.1
  obtain ⟨j1, ⟨j2, j3⟩, j4, j5, j6, j7⟩ := J
  obtain ⟨-, ⟨k2, k3⟩, k4, -, -, -⟩ := Je
  have hc : ∀ o k : Int, ¬ zKS o → c o k = h o k := j1.1
  have c3 : c 3 0 = h 3 0 := j1.2.1 0 (by decide)
  have cd : c (113 + 14 * l + 1) 0 = h 205 l := by
    rw [hc _ _ (by simp only [zKS]; omega), day, show 113 + 14 * l + 1 = 114 + 14 * l by omega]
  have kn : ∀ o s : Int, o = 9 ∨ o = 11 → zknown c o s = zknown h o s := fun o s ho => zknown_ap j1.1 (by simp only [zKS]; omega) (by simp only [zKS]; omega)
  have hF : zFactOK c := by
    have zb := I.zb.2.2.2.1.1
    unfold zFactOK
    rw [hc 9 2 (by simp only [zKS]; omega), c3]
    refine ⟨zb.1, fun r r0 r1 => ?_⟩
    rw [zget_ap j1.1 (by simp only [zKS]; omega) (by simp only [zKS]; omega), zget_ap j1.1 (by simp only [zKS]; omega) (by simp only [zKS]; omega)]
    exact zb.2 r r0 r1
  have kl : ((zknown c 9 t).toNat : Int) ≤ c 9 2 := by
    have := zknown_le (h := c) (o := 9) (t := t) hF.1.1
    omega
  have H := Jk.hv hv
  obtain ⟨H1, H2⟩ := H
  have low : ∀ q : Int, 0 ≤ q → q < 6 → g (113 + 14 * l + 4) (mm * 11 + q) = e 217 (6 * mm + q) := fun q q0 q1 => by
    rw [hk mm q hm.1 (by omega) q0 (by omega), H1 _ (by omega) (by omega), v_held I t (h 205 l) ⟨q0, q1⟩]
    unfold zask
    rw [if_neg (by omega), j5, cd, kn 9 t (Or.inl rfl), zfa_ap j1.1 (by simp only [zKS]; omega) (by simp only [zKS]; omega)]
    have z0 : (if mm < c 3 0 then zask0 c (113 + 14 * l) L mm q else 0) = 0 := by
      unfold zask0
      rw [if_neg (show ¬ q = 6 by omega), if_neg (show ¬ q = 8 by omega), if_neg (show ¬ q = 10 by omega), if_neg (show ¬ q = 9 by omega), ite_self]
    rw [z0]
  have high : ∀ q : Int, 6 ≤ q → q < 11 → q ≠ 7 → g (113 + 14 * l + 4) (mm * 11 + q) = zask0 c (113 + 14 * l) L mm q := fun q q0 q1 q7 => by
    rw [hk mm q hm.1 (by omega) (by omega) q1]
    unfold zask
    rw [if_neg q7, j5, zfa_7 hF _ _ kl _ _ _ q0, if_pos (by omega)]
  have men := I.2.2.1.2.2 mm hm.1 hm.2
  refine ⟨?_, low 1 (by decide) (by decide), low 2 (by decide) (by decide), low 3 (by decide) (by decide), low 4 (by decide) (by decide), low 5 (by decide) (by decide), ?_, ?_, ?_, ?_⟩
  · have := low 0 (by decide) (by decide)
    rw [Int.add_zero, Int.add_zero] at this
    exact this
  · rw [high 6 (by decide) (by decide) (by decide)]
    unfold zask0
    rw [if_pos rfl, cd, k4.bw mm hm.1 hm.2 (j7 mm hm.1 hm.2 th), k2 205 (by decide) (by decide)]
  · rw [hk mm 7 hm.1 (by omega) (by decide) (by decide), H2 mm hm.1 (by omega), v_graded I t (h 205 l) mm]
    unfold zask
    rw [if_pos rfl, j5, cd, kn 11 _ (Or.inr rfl), zgr_ap j1.1 (by simp only [zKS]; omega) (by simp only [zKS]; omega)]
  · rw [high 8 (by decide) (by decide) (by decide), k3 25 (by decide), I.2.2.1.2.1, k4.bro hm.1 hm.2 (by rw [men.1.2.1]; exact men.2.1) (k2 173 (by decide) (by decide)) (by rw [k4.th mm hm.1 hm.2]; exact th)]
    unfold zask0
    rw [if_neg (by decide), if_pos rfl, men.1.2.1, hc 5 _ (by simp only [zKS]; omega)]
  · rw [high 10 (by decide) (by decide) (by decide), k2 172 (by decide) (by decide)]
    unfold zask0
    rw [if_neg (by decide), if_neg (by decide), if_pos rfl, men.1.1, hc 4 _ (by simp only [zKS]; omega)]
theorem v_asked9 (I : vI h) {t l L : Int} {c f e g : zH} (J : vJ h t c f) (a : zag mDS f e) (l0 : 0 ≤ l ∧ l < h 0 12)
    (hk : ∀ m q : Int, 0 ≤ m → m < 60 → 0 ≤ q → q < 11 → g (113 + 14 * l + 4) (m * 11 + q) = zask c (113 + 14 * l) L m q)
    (sv : ∀ b : Int, 0 ≤ b → b < h 3 0 → (c 23 b ≠ 0 ↔ mSer e l b)) (h5 : c L 5 ≠ 0) {mm : Int} (hm : 0 ≤ mm ∧ mm < h 3 0) : vAs g e (113 + 14 * l) mm l := by
  have Je : vJ h t c e := J.mo (a.mono (by decide))
  have m3 := I.2.2.1.1
  have lt4 := I.2.2.2.2.2.2.2.2.2.1.1
  obtain ⟨j1, -, -, j5, -⟩ := J
  obtain ⟨-, ⟨k2, k3⟩, k4, -, -, -⟩ := Je
  have hc : ∀ o k : Int, ¬ zKS o → c o k = h o k := j1.1
  have c3 : c 3 0 = h 3 0 := j1.2.1 0 (by decide)
  have hF : zFactOK c := by
    have zb := I.zb.2.2.2.1.1
    unfold zFactOK
    rw [hc 9 2 (by simp only [zKS]; omega), c3]
    refine ⟨zb.1, fun r r0 r1 => ?_⟩
    rw [zget_ap j1.1 (by simp only [zKS]; omega) (by simp only [zKS]; omega), zget_ap j1.1 (by simp only [zKS]; omega) (by simp only [zKS]; omega)]
    exact zb.2 r r0 r1
  have kl : ((zknown c 9 t).toNat : Int) ≤ c 9 2 := by
    have := zknown_le (h := c) (o := 9) (t := t) hF.1.1
    omega
  have e5 : ∀ k : Int, c 5 k = h 5 k := fun k => hc 5 k (by simp only [zKS]; omega)
  unfold vAs
  rw [hk mm 9 hm.1 (by omega) (by decide) (by decide)]
  unfold zask
  rw [if_neg (by decide), j5, zfa_7 hF _ _ kl _ _ _ (by decide), if_pos (by omega)]
  unfold zask0
  rw [if_neg (by decide), if_neg (by decide), if_neg (by decide), if_pos rfl, if_neg h5, c3, k3 25 (by decide), I.2.2.1.2.1]
  refine zcnt_congr (fun b b0 b1 => ?_)
  have b1' : b < h 3 0 := by omega
  have mm' := (I.2.2.1.2.2 mm hm.1 hm.2).1.2.1
  have mb' := (I.2.2.1.2.2 b b0 b1').1.2.1
  unfold zsbP mBro
  rw [e5, e5, k2 173 (by decide) (by decide), mm', mb', k4.th b b0 b1', sv b b0 b1']
  constructor
  · rintro ⟨x1, x2, x3, x4⟩
    exact ⟨x3, fun z => x1 z.symm, x2, x4.symm⟩
  · rintro ⟨x3, x1, x2, x4⟩
    exact ⟨fun z => x1 z.symm, x2, x3, x4.symm⟩
end
