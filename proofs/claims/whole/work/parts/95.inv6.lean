/-! lots: told, their weeks, their letters -/
section
variable {h f : zH} {l : Int}
theorem vLt1.cg (I : vLt1 h l) (e5 : f 205 l = h 205 l) (e6 : f 206 l = h 206 l) (e10 : f 210 l = h 210 l) (e11 : f 211 l = h 211 l) (e7 : ∀ k : Int, 0 ≤ k → k < 52 → f 207 (52 * l + k) = h 207 (52 * l + k) ∧ f 208 (52 * l + k) = h 208 (52 * l + k)) (e9 : ∀ k : Int, 0 ≤ k → k < 26 → f 209 (26 * l + k) = h 209 (26 * l + k)) (ec : ∀ o : Int, 114 + 14 * l ≤ o → o ≤ 116 + 14 * l → f o = h o) : vLt1 f l := by
  obtain ⟨a1, a2, a3, a4, a5, a6⟩ := I
  unfold vLt1
  rw [e5, e6, e10, e11, ec (114 + 14 * l) (by omega) (by omega), ec (115 + 14 * l) (by omega) (by omega), ec (116 + 14 * l) (by omega) (by omega)]
  refine ⟨a1, a2, a3, a4, fun k k0 k1 => ?_, fun k k0 k1 => by rw [e9 k k0 k1]; exact a6 k k0 k1⟩
  obtain ⟨b1, b2, b3⟩ := a5 k k0 k1
  rw [(e7 k k0 k1).1, (e7 k k0 k1).2, (e7 _ b2.1 b2.2).2]
  exact ⟨b1, b2, b3⟩
theorem vLt0.cg (I : vLt0 h l) (e5 : f 205 l = h 205 l) (e6 : f 206 l = h 206 l) (e10 : f 210 l = h 210 l) (e11 : f 211 l = h 211 l) (e8 : ∀ k : Int, 0 ≤ k → k < 52 → f 208 (52 * l + k) = h 208 (52 * l + k)) (e9 : ∀ k : Int, 0 ≤ k → k < 26 → f 209 (26 * l + k) = h 209 (26 * l + k)) (ec : ∀ o : Int, 114 + 14 * l ≤ o → o ≤ 116 + 14 * l → f o = h o) : vLt0 f l := by
  obtain ⟨a1, a2, a3, a4, a5, a6, a7, a8⟩ := I
  unfold vLt0
  rw [e5, e6, e10, e11, ec (114 + 14 * l) (by omega) (by omega), ec (115 + 14 * l) (by omega) (by omega), ec (116 + 14 * l) (by omega) (by omega)]
  exact ⟨a1, a2, a3, a4, a5, a6, fun k k0 k1 => by rw [e8 k k0 k1]; exact a7 k k0 k1, fun k k0 k1 => by rw [e9 k k0 k1]; exact a8 k k0 k1⟩
theorem vNm.tr0 (I : vNm h) (e0 : ∀ k : Int, k ≠ 12 → f 0 k = h 0 k) (e9 : ∀ k : Int, k = 5 ∨ k = 53 ∨ k = 87 ∨ k = 90 ∨ k = 91 → f 169 k = h 169 k) : vNm f := by
  unfold vNm
  rw [e0 10 (by decide), e0 13 (by decide), e0 14 (by decide), e0 15 (by decide), e0 16 (by decide), e9 5 (by decide), e9 53 (by decide), e9 87 (by decide), e9 90 (by decide), e9 91 (by decide)]
  exact I
/-- a scratch object of the model's -/
theorem vI.s212 (I : vI h) (a : zag [212] h f) : vI f := by
  have e : ∀ o : Int, o ≠ 212 → f o = h o := fun o ho => funext fun k => a o k (fun z => ho (List.mem_singleton.mp z))
  exact I.to (I.1.tr (by rw [e 1 (by decide)]) (by rw [e 169 (by decide)]) (e 170 (by decide)) (e 2 (by decide))) (I.2.1.tr (fun k _ _ => by rw [e 0 (by decide)]) (fun k _ => by rw [e 169 (by decide)])) (I.2.2.1.tr (by rw [e 3 (by decide)]) (by rw [e 169 (by decide)]) (fun o ho => e o (by omega))) (by rw [e 3 (by decide)]) (by rw [e 0 (by decide)]) (by rw [e 0 (by decide)]; exact ⟨rfl, rfl, rfl⟩) (fun o ho => e o (by omega)) (fun o l l0 l1 o0 o1 => e o (by omega)) (fun l q l0 l1 q0 q1 => by rw [e (125 + 14 * l) (by omega), e (113 + 14 * l) (by omega)]; exact I.2.2.2.2.2.2.2.2.2.1.2.2.2.2.2 l q l0 l1 q0 q1) (fun o ho => e o (by omega)) (fun k _ => by rw [e 169 (by decide)])
theorem v_picks (I : vI h) {n : Int} (hn : n ≤ 128) : zPicks h n ↔ h 1 1 = n ∧ ∀ i : Int, 0 ≤ i → i < n → (0 ≤ h 170 i ∧ h 170 i < n) ∧ ∀ k : Int, 0 ≤ k → k < i → h 170 k ≠ h 170 i := by
  have tp := I.1
  unfold zPicks zPre
  refine and_congr_right fun l => ?_
  have z : ∀ i : Int, 0 ≤ i → i < n → zat h i = if 0 ≤ h 170 i then h 170 i else h 170 i + 256 := fun i i0 i1 => by
    obtain ⟨b1, b2⟩ := tp.2.2 i i0 (by omega)
    have z : zat h i = zand (h 2 i) 255 := if_pos ⟨i0, by omega⟩
    rw [z, zby b2, b1]
  have rg : ∀ i : Int, 0 ≤ i → i < n → -128 ≤ h 170 i ∧ h 170 i ≤ 127 := fun i i0 i1 => by
    obtain ⟨b1, b2⟩ := tp.2.2 i i0 (by omega)
    rw [b1]; exact b2
  constructor
  · intro a i i0 i1
    obtain ⟨a1, a2⟩ := a i i0 i1
    have zi := z i i0 i1
    have ri := rg i i0 i1
    have p0 : 0 ≤ h 170 i := Classical.byContradiction fun c => by
      rw [if_neg c] at zi
      omega
    rw [if_pos p0] at zi
    refine ⟨by omega, fun k k0 k1 e => a2 k k0 k1 ?_⟩
    rw [z k k0 (by omega), if_pos (by omega), e, zi]
  · intro a i i0 i1
    obtain ⟨⟨a0, a1⟩, a2⟩ := a i i0 i1
    rw [z i i0 i1, if_pos a0]
    refine ⟨a1, fun k k0 k1 e => a2 k k0 k1 ?_⟩
    obtain ⟨⟨b0, b1⟩, -⟩ := a k k0 (by omega)
    rw [z k k0 (by omega), if_pos b0] at e
    exact e
/-- the places of the picks -/
theorem v_tk {a c : Int → Int} : ∀ (n : Nat) (v : Int), (∀ i : Int, 0 ≤ i → i < n → zat h i = a i) → ztk h c n v = mtk a c n v
  | 0, v, _ => rfl
  | n + 1, v, e => by
    unfold ztk mtk
    rw [e n (by omega) (by omega), v_tk n v (fun i i0 i1 => e i i0 (by omega))]
theorem mtk_at {a c : Int → Int} : ∀ (n : Nat), (∀ i k : Int, 0 ≤ k → k < i → i < n → a k ≠ a i) → ∀ i : Int, 0 ≤ i → i < n → mtk a c n (a i) = i
  | 0, _, i, i0, i1 => absurd i1 (by omega)
  | n + 1, d, i, i0, i1 => by
    unfold mtk
    by_cases c : i = n
    · rw [c, if_pos rfl]
    · rw [if_neg (fun z => d n i i0 (by omega) (by omega) z.symm)]
      exact mtk_at n (fun i k k0 k1 i1 => d i k k0 k1 (by omega)) i i0 (by omega)
theorem mtk_in {a c : Int → Int} {v : Int} (hc : 0 ≤ c v ∧ c v < 52) : ∀ n : Nat, n ≤ 52 → 0 ≤ mtk a c n v ∧ mtk a c n v < 52
  | 0, _ => hc
  | n + 1, hn => by
    unfold mtk
    by_cases z : a n = v
    · rw [if_pos z]; omega
    · rw [if_neg z]; exact mtk_in hc n (by omega)
theorem mtk_26 {a c : Int → Int} {v : Int} (hc : 0 ≤ c v ∧ c v < 26) : ∀ n : Nat, n ≤ 26 → 0 ≤ mtk a c n v ∧ mtk a c n v < 26
  | 0, _ => hc
  | n + 1, hn => by
    unfold mtk
    by_cases z : a n = v
    · rw [if_pos z]; omega
    · rw [if_neg z]; exact mtk_26 hc n (by omega)
theorem mtk_cg {a a' c c' : Int → Int} {v : Int} (hc : c v = c' v) (ha : ∀ i : Int, 0 ≤ i → a i = a' i) : ∀ n : Nat, mtk a c n v = mtk a' c' n v
  | 0 => hc
  | n + 1 => by
    unfold mtk
    rw [ha n (by omega), mtk_cg hc ha n]
end
section
variable {X : zX} {dep : Nat} {h : zH}
theorem v_lot (d w : Int) (I : vI h) (hdep : 1 ≤ dep) : vP1 X dep mX10_lot mX11_lot [xI d, xI w] h := by
  have J := I
  obtain ⟨tp, nm, me, bi, fa, ex, sa, se, lw, lt, fl, md, bl⟩ := J
  have n0 := lt.1
  have e65 := lt.2.1
  have d10 := nm.1
  have prev : 0 < h 0 12 → h 205 (h 0 12 - 1) = h (113 + 14 * (h 0 12 - 1) + 1) 0 := fun c => by
    have z := (lt.2.2.1 (h 0 12 - 1) (by omega) (by omega)).1.1
    rw [z]
    congr 1
    omega
  have a := f_X10_lot (X := X) (dep := dep) d w (h := h) n0 hdep
  by_cases c : h 0 12 < 4 ∧ (0 ≤ d ∧ d ≤ 3639) ∧ h 0 10 ≤ d ∧ (0 ≤ w ∧ w ≤ 60) ∧ (h 0 12 ≤ 0 ∨ h (113 + 14 * (h 0 12 - 1) + 1) 0 ≤ d)
  · rw [if_pos c, if_pos c] at a
    refine vP1.mk (zfI a) (fun v g p => ?_)
    obtain ⟨rfl, hg⟩ := p
    have eo1 : (113 + 14 * h 0 12) + 1 = 114 + 14 * h 0 12 := by omega
    rw [eo1] at hg
    have go : ∀ o : Int, o ≠ 0 → o ≠ 114 + 14 * h 0 12 → g o = h o := fun o h1 h2 => by rw [← hg, zfn h1, zfn h2, zfn h2]
    have g0 : ∀ k : Int, k ≠ 12 → g 0 k = h 0 k := fun k hk => by rw [← hg, zst_ne (Or.inr hk), zst_ne (Or.inl (by omega)), zst_ne (Or.inl (by omega))]
    have g12 : g 0 12 = h 0 12 + 1 := by rw [← hg, zst_self]
    have gL : ∀ k : Int, g (114 + 14 * h 0 12) k = if k = 1 then w else if k = 0 then d else h (114 + 14 * h 0 12) k := fun k => by
      rw [← hg, zst_ne (Or.inl (by omega))]
      by_cases k1 : k = 1
      · rw [if_pos k1, k1, zst_self]
      · rw [if_neg k1, zst_ne (Or.inr k1)]
        by_cases k0 : k = 0
        · rw [if_pos k0, k0, zst_self]
        · rw [if_neg k0, zst_ne (Or.inr k0)]
    clear hg a
    have g65 : g 169 65 = h 0 12 := by rw [go 169 (by decide) (by omega)]; exact e65
    have g5 : g 169 5 = h 0 10 := by rw [go 169 (by decide) (by omega)]; exact d10.1
    refine ⟨_, f_X11_lot d w (by rw [g65]; exact n0) hdep, fun v f q => ?_⟩
    have cm : mLC g d w := by
      refine ⟨by rw [g65]; omega, by rw [g5]; omega, ?_, by omega⟩
      rw [g65, go 205 (by decide) (by omega)]
      rcases c.2.2.2.2 with z | z
      · exact Or.inl z
      · by_cases y : h 0 12 ≤ 0
        · exact Or.inl y
        · rw [← prev (by omega)] at z
          exact Or.inr z
    rcases q with ⟨-, rfl, q⟩ | ⟨q, -, -⟩
    · refine ⟨g65, ?_⟩
      obtain ⟨q1, q2, q3, q4, q5, q6, q7, q8, q9⟩ := q
      have s9 : ∀ k : Int, k ≠ 0 → zst g 169 0 0 169 k = g 169 k := fun k hk => zst_ne (Or.inr hk)
      have so : ∀ o : Int, o ≠ 169 → zst g 169 0 0 o = g o := fun o ho => zfn ho
      rw [s9 65 (by decide), g65] at q3 q4 q5 q6 q7 q8 q9
      rw [so 205 (by decide), go 205 (by decide) (by omega)] at q4
      rw [so 206 (by decide), go 206 (by decide) (by omega)] at q5
      rw [so 207 (by decide), go 207 (by decide) (by omega), so 208 (by decide), go 208 (by decide) (by omega)] at q7
      rw [so 209 (by decide), go 209 (by decide) (by omega)] at q9
      have fo : ∀ o : Int, o ≠ 169 → (o < 205 ∨ 209 < o) → f o = g o := fun o h1 h2 => funext fun k => by
        rw [q1 o k (fun z => by
          simp only [List.mem_cons, List.not_mem_nil, or_false] at z
          omega), so o h1]
      have eo : ∀ o : Int, o ≠ 0 ∧ o ≠ 169 ∧ o ≠ 114 + 14 * h 0 12 ∧ (o < 205 ∨ 209 < o) → f o = h o := fun o ho => (fo o (by omega) (by omega)).trans (go o (by omega) (by omega))
      have f0 : ∀ k : Int, k ≠ 12 → f 0 k = h 0 k := fun k hk => by rw [fo 0 (by decide) (by decide)]; exact g0 k hk
      have f12 : f 0 12 = h 0 12 + 1 := by rw [fo 0 (by decide) (by decide)]; exact g12
      have fL : ∀ k : Int, f (114 + 14 * h 0 12) k = if k = 1 then w else if k = 0 then d else h (114 + 14 * h 0 12) k := fun k => by rw [fo _ (by omega) (by omega)]; exact gL k
      have e9 : ∀ k : Int, k ≠ 0 ∧ k ≠ 65 → f 169 k = h 169 k := fun k hk => by
        rw [q2 k hk.2, s9 k hk.1, go 169 (by decide) (by omega)]
      have e3 : h 3 0 ≤ f 3 0 := by rw [eo 3 (by omega)]; exact Int.le_refl _
      have e10 : h 0 10 ≤ f 0 10 := by rw [f0 10 (by decide)]; exact Int.le_refl _
      have old := lt.2.2.2.1 (h 0 12) (Int.le_refl _) c.1
      obtain ⟨o1, o2, o3, o4, o5, o6, o7, o8⟩ := old
      refine ⟨tp.tr (by rw [eo 1 (by omega)]) (e9 2 (by omega)) (eo 170 (by omega)) (eo 2 (by omega)), vNm.tr0 nm f0 (fun k hk => e9 k (by omega)), me.tr (by rw [eo 3 (by omega)]) (e9 25 (by omega)) (fun o ho => eo o (by omega)), bi.tr (eo 7 (by omega)) (eo 8 (by omega)) e3 (e9 26 (by omega)) (fun o _ _ => eo o (by omega)) e10, fa.tr (eo 9 (by omega)) (eo 10 (by omega)) e3 (e9 27 (by omega)) (fun o _ _ => eo o (by omega)) e10, ex.tr (eo 11 (by omega)) (eo 12 (by omega)) e3 (e9 28 (by omega)) (fun o _ _ => eo o (by omega)) e10, sa.tr (eo 13 (by omega)) (eo 14 (by omega)) e3 (e9 29 (by omega)) (fun o _ _ => eo o (by omega)) e10, se.tr (eo 15 (by omega)) (eo 16 (by omega)) e3 (e9 85 (by omega)) (fun o _ _ => eo o (by omega)) e10, lw.tr (f0 11 (by decide)) e10 (e9 45 (by omega)) (fun o ho => eo o (by omega)) (fun o k _ _ _ => by rw [eo o (by omega)]), ⟨by rw [f12]; omega, by rw [f12]; exact q3, fun l l0 l1 => ?_, fun l l0 l1 => ?_, fun l k l0 lk k1 => ?_, fun l q l0 l1 p0 p1 => by rw [eo (125 + 14 * l) (by omega), eo (113 + 14 * l) (by omega)]; exact lt.2.2.2.2.2 l q l0 l1 p0 p1⟩, fl.tr (by rw [eo 44 (by omega)]) (e9 96 (by omega)) (fun o ho => eo o (by omega)), md.tr (f0 9 (by decide)) (e9 89 (by omega)) (eo 64 (by omega)) (eo 228 (by omega)), fun k k0 k1 => by rw [eo 200 (by omega)]; exact bl k k0 k1⟩
      · rw [f12] at l1
        by_cases y : l = h 0 12
        · subst y
          refine ⟨⟨?_, ?_⟩, ⟨?_, ?_⟩, ?_, ?_, fun k k0 k1 => ?_, fun k k0 k1 => ?_⟩
          · rw [q4, if_pos rfl, fL, if_neg (by decide), if_pos rfl]
          · rw [q4, if_pos rfl]; omega
          · rw [q5, if_pos rfl, fL, if_pos rfl]
          · rw [q5, if_pos rfl]; omega
          · rw [eo 210 (by omega), fL, if_neg (by decide), if_neg (by decide), o5.1, o5.2]
          · rw [eo 211 (by omega), fL, if_neg (by decide), if_neg (by decide), o6.1, o6.2]
          · rw [(q6 k k0 k1).1, (q6 k k0 k1).2, eo (115 + 14 * h 0 12) (by omega), (o7 k k0 k1).1]
            exact ⟨⟨rfl, k0, k1⟩, ⟨k0, k1⟩, rfl⟩
          · rw [q8 k k0 k1, eo (116 + 14 * h 0 12) (by omega), (o8 k k0 k1).1]
            exact ⟨rfl, k0, k1⟩
        · refine (lt.2.2.1 l l0 (by omega)).cg (by rw [q4, if_neg y]) (by rw [q5, if_neg y]) (by rw [eo 210 (by omega)]) (by rw [eo 211 (by omega)]) (fun k k0 k1 => q7 _ (by omega)) (fun k k0 k1 => q9 _ (by omega)) (fun o o0 o1 => eo o (by omega))
      · rw [f12] at l0
        exact (lt.2.2.2.1 l (by omega) l1).cg (by rw [q4, if_neg (by omega)]) (by rw [q5, if_neg (by omega)]) (by rw [eo 210 (by omega)]) (by rw [eo 211 (by omega)]) (fun k k0 k1 => (q7 _ (by omega)).2) (fun k k0 k1 => q9 _ (by omega)) (fun o o0 o1 => eo o (by omega))
      · rw [f12] at k1
        rw [q4, q4]
        by_cases y : k = h 0 12
        · rw [if_pos y]
          by_cases y' : l = h 0 12
          · rw [if_pos y']; exact Int.le_refl _
          · rw [if_neg y']
            have mo := lt.2.2.2.2.1 l (h 0 12 - 1) l0 (by omega) (by omega)
            have pv := prev (by omega)
            rcases c.2.2.2.2 with z | z
            · omega
            · rw [← pv] at z; omega
        · rw [if_neg y, if_neg (by omega)]
          exact lt.2.2.2.2.1 l k l0 lk (by omega)
    · exact absurd cm q
  · rw [if_neg c, if_neg c] at a
    refine vP1.mk (zfI a) (fun v g p => ?_)
    obtain ⟨rfl, rfl⟩ := p
    refine ⟨_, f_X11_lot d w (by rw [e65]; exact n0) hdep, fun v f q => ?_⟩
    rcases q with ⟨cm, -, -⟩ | ⟨-, rfl, rfl⟩
    · exfalso
      obtain ⟨c1, c2, c3, c4⟩ := cm
      rw [e65] at c1 c3
      rw [d10.1] at c2
      refine c ⟨by omega, by omega, c2.1, c4, ?_⟩
      by_cases y : h 0 12 ≤ 0
      · exact Or.inl y
      · rw [← prev (by omega)]
        exact c3
    · exact ⟨rfl, I.th⟩
end
