/-! law() -/
theorem mLwr.cg2 {h f : zH} {i : Int} {V : zLV} (a : mLwr h i V) (hV : V.1.length ≤ 20 ∧ V.2.1.length ≤ 120) (e1 : ∀ o : Int, 190 ≤ o → o ≤ 195 → f o i = h o i) (e2 : ∀ o k : Int, 196 ≤ o → o ≤ 200 → 0 ≤ k → k < 20 → f o (20 * i + k) = h o (20 * i + k)) (e3 : ∀ o k : Int, 201 ≤ o → o ≤ 203 → 0 ≤ k → k < 130 → f o (130 * i + k) = h o (130 * i + k)) : mLwr f i V := by
  unfold mLwr
  rw [e1 195 (by decide) (by decide), e1 192 (by decide) (by decide), e1 193 (by decide) (by decide), e1 194 (by decide) (by decide)]
  refine ⟨a.1, a.2.1, a.2.2.1, a.2.2.2.1, fun k hk => ?_, fun k hk => ?_⟩
  · unfold mRoW
    rw [e2 196 k (by decide) (by decide) (by omega) (by omega), e2 197 k (by decide) (by decide) (by omega) (by omega), e2 198 k (by decide) (by decide) (by omega) (by omega), e2 199 k (by decide) (by decide) (by omega) (by omega), e2 200 k (by decide) (by decide) (by omega) (by omega)]
    exact a.2.2.2.2.1 k hk
  · rw [e3 201 k (by decide) (by decide) (by omega) (by omega), e3 202 k (by decide) (by decide) (by omega) (by omega), e3 203 k (by decide) (by decide) (by omega) (by omega)]
    exact a.2.2.2.2.2 k hk
theorem vLw1.cg {h f : zH} {i : Int} (I : vLw1 h i) (ec : ∀ o : Int, 65 + 6 * i ≤ o → o ≤ 70 + 6 * i → f o = h o) (e1 : ∀ o : Int, 190 ≤ o → o ≤ 195 → f o i = h o i) (e2 : ∀ o k : Int, 196 ≤ o → o ≤ 200 → 0 ≤ k → k < 20 → f o (20 * i + k) = h o (20 * i + k)) (e3 : ∀ o k : Int, 201 ≤ o → o ≤ 203 → 0 ≤ k → k < 130 → f o (130 * i + k) = h o (130 * i + k)) : vLw1 f i := by
  obtain ⟨⟨V, v1, v2, v3, v4, v5⟩, w1, w2, w3⟩ := I
  have eL : f (65 + 6 * i) = h (65 + 6 * i) := ec _ (by omega) (by omega)
  refine ⟨⟨V, v1.ap (fun k _ => by rw [eL]) (fun q k q0 q1 => by rw [ec q (by omega) (by omega)]), v2.cg2 ⟨v3, v4⟩ e1 e2 e3, v3, v4, v5⟩, mLOK_cg w1 e1 e2 (fun k k0 k1 => e3 201 k (by decide) (by decide) k0 k1), ?_, ?_⟩
  · rw [e1 191 (by decide) (by decide), eL]; exact w2
  · rw [e1 190 (by decide) (by decide), eL]; exact w3
section
variable {X : zX} {dep : Nat} {h : zH}
theorem v_law (d : Int) (I : vI h) (hdep : 44 ≤ dep) : vP1 X dep mX10_law mX11_law [xI d] h := by
  have J := I
  obtain ⟨tp, nm, me, bi, fa, ex, sa, se, lw, lt, fl, md, bl⟩ := J
  have n0 := lw.1
  have e45 := lw.2.1
  have d10 := nm.1
  refine vP1.mk (f_X10_law d n0 tp.1 hdep) (fun v g P => ?_)
  rcases P with ⟨c, u, r, rd, hg⟩ | ⟨c, rfl, rfl⟩
  · obtain ⟨ra, rm⟩ := rd
    have ro : ∀ o : Int, (o < 24 ∨ 29 < o) → (o < 65 + 6 * h 0 11 ∨ 70 + 6 * h 0 11 < o) → r o = h o := fun o h1 h2 => funext fun k => ra o k (by simp only [zRS]; omega)
    have r0 : r 0 = h 0 := ro 0 (by decide) (by omega)
    -- what both kinds of g leave
    have go : ∀ o : Int, o ≠ 0 → o ≠ 1 → (o < 24 ∨ 29 < o) → (o < 65 + 6 * h 0 11 ∨ 70 + 6 * h 0 11 < o) → g o = h o := fun o h0 h1 h2 h3 => by
      rcases hg with ⟨-, -, hg⟩ | ⟨-, -, hg⟩
      · rw [hg, zfn h0, zfn (by omega), zfn (by omega), zfn h0, zfn h1]; exact ro o h2 h3
      · rw [hg, zfn h0, zfn h1]; exact ro o h2 h3
    have g9 : g 169 = h 169 := go 169 (by decide) (by decide) (by decide) (by omega)
    have g170 : g 170 = h 170 := go 170 (by decide) (by decide) (by decide) (by omega)
    have g11 : g 1 1 = 0 := by
      rcases hg with ⟨-, -, hg⟩ | ⟨-, -, hg⟩
      · rw [hg, zst_ne (Or.inl (by decide)), zst_ne (Or.inl (by omega)), zst_ne (Or.inl (by omega)), zst_ne (Or.inl (by decide)), zst_self]
      · rw [hg, zst_ne (Or.inl (by decide)), zst_self]
    have g13 : g 0 13 = r 24 2 := by
      rcases hg with ⟨-, -, hg⟩ | ⟨-, -, hg⟩
      · rw [hg, zst_ne (Or.inr (by decide)), zst_ne (Or.inl (by omega)), zst_ne (Or.inl (by omega)), zst_self]
      · rw [hg, zst_self]
    have g0 : ∀ k : Int, k ≠ 13 → k ≠ 11 → g 0 k = h 0 k := fun k h13 h11 => by
      rcases hg with ⟨-, -, hg⟩ | ⟨-, -, hg⟩
      · rw [hg, zst_ne (Or.inr h11), zst_ne (Or.inl (by omega)), zst_ne (Or.inl (by omega)), zst_ne (Or.inr h13), zst_ne (Or.inl (by decide)), r0]
      · rw [hg, zst_ne (Or.inr h13), zst_ne (Or.inl (by decide)), r0]
    have eb : mbt (mTk0 g) = zat h := funext fun i => by
      have t3 : mTk0 g 169 3 = h 1 1 := by
        show zst (zst (zst _ 169 3 _) 169 2 0) 169 4 0 169 3 = _
        rw [zst_ne (Or.inr (by decide)), zst_ne (Or.inr (by decide)), zst_self, g9]
        exact tp.2.1
      have t170 : mTk0 g 170 i = h 170 i := by
        show zst (zst (zst (zst _ 169 0 0) 169 3 _) 169 2 0) 169 4 0 170 i = _
        rw [zst_ne (Or.inl (by decide)), zst_ne (Or.inl (by decide)), zst_ne (Or.inl (by decide)), zst_ne (Or.inl (by decide)), g170]
      unfold mbt zat
      rw [t3, t170]
      by_cases y : 0 ≤ i ∧ i < h 1 1
      · rw [if_pos y, if_pos y, (tp.2.2 i y.1 y.2).1]
      · rw [if_neg y, if_neg y]
    have g2 : g 169 2 = h 1 1 := by rw [g9]; exact tp.2.1
    have g45 : g 169 45 = h 0 11 := by rw [g9]; exact e45
    have g5 : g 169 5 = h 0 10 := by rw [g9]; exact d10.1
    have gB : ∀ k : Int, 160 ≤ k → k < 180 → 0 ≤ g 200 k ∧ g 200 k ≤ 1 := by rw [go 200 (by decide) (by decide) (by decide) (by omega)]; exact bl
    refine ⟨_, f_X11_law d (by rw [g2]; exact tp.1) (by rw [g45]; exact n0) gB (by omega), fun w f Q => ?_⟩
    rw [eb, g2, g45, g5] at Q
    rcases Q with ⟨z, -, -⟩ | ⟨-, Q⟩
    · exfalso; omega
    · have eR : mRdM (zat h) (h 1 1) = zRdL h := rfl
      rw [eR] at Q
      have t9 : ∀ k : Int, k ≠ 0 ∧ k ≠ 2 ∧ k ≠ 3 ∧ k ≠ 4 ∧ k ≠ 53 → mTk1 g 169 k = h 169 k := fun k hk => by
        show zst (zst (zst (zst (zst _ 169 0 0) 169 3 _) 169 2 0) 169 4 0) 169 53 0 169 k = _
        rw [zst_ne (Or.inr (by omega)), zst_ne (Or.inr (by omega)), zst_ne (Or.inr (by omega)), zst_ne (Or.inr (by omega)), zst_ne (Or.inr (by omega)), g9]
      have to : ∀ o : Int, o ≠ 169 → mTk1 g o = g o := fun o ho => by
        show zst (zst (zst (zst (zst _ 169 0 0) 169 3 _) 169 2 0) 169 4 0) 169 53 0 o = _
        rw [zfn ho, zfn ho, zfn ho, zfn ho, zfn ho]
      have t92 : mTk1 g 169 2 = 0 := by
        show zst (zst (zst _ 169 2 0) 169 4 0) 169 53 0 169 2 = _
        rw [zst_ne (Or.inr (by decide)), zst_ne (Or.inr (by decide)), zst_self]
      have t53 : mTk1 g 169 53 = 0 := zst_self _ _ _ _
      have t45 : mTk1 g 169 45 = h 0 11 := (t9 45 (by decide)).trans e45
      have tB : ∀ k : Int, 160 ≤ k → k < 180 → 0 ≤ mTk1 g 200 k ∧ mTk1 g 200 k ≤ 1 := by rw [to 200 (by decide)]; exact gB
      generalize mTk1 g = g1 at *
      cases hr : zRdL h with
      | inl e =>
        rw [hr] at rm Q
        obtain ⟨rfl, m2, m3, -⟩ := rm
        obtain ⟨rfl, fy, f53⟩ := Q
        rcases hg with ⟨z, -, -⟩ | ⟨-, rfl, hg⟩
        · exact absurd z (by decide)
        · refine ⟨by rw [m3], ?_⟩
          have fo : ∀ o : Int, (o < 190 ∨ 204 < o) ∧ o ≠ 169 → f o = g o := fun o ho => funext fun k => by rw [fy.1 o k ho.2 (by omega) (by unfold mScr; omega), to o ho.2]
          have e9 : ∀ k : Int, (k ≠ 0 ∧ k ≠ 2 ∧ k ≠ 3 ∧ k ≠ 4) ∧ (k < 46 ∨ 56 < k) → f 169 k = h 169 k := fun k hk => by
            rw [fy.2.1 k (fun z => by
              simp only [List.mem_cons, List.not_mem_nil, or_false] at z
              omega), t9 k (by omega)]
          have eo : ∀ o : Int, o ≠ 0 ∧ o ≠ 1 ∧ (o < 24 ∨ 29 < o) ∧ (o < 65 + 6 * h 0 11 ∨ 70 + 6 * h 0 11 < o) ∧ (o < 190 ∨ 204 < o) ∧ o ≠ 169 → f o = h o := fun o ho => (fo o (by omega)).trans (go o (by omega) (by omega) (by omega) (by omega))
          have f0 : f 0 = g 0 := fo 0 (by decide)
          have k11 : g 0 11 = h 0 11 := by rw [hg, zst_ne (Or.inr (by decide)), zst_ne (Or.inl (by decide)), r0]
          have f11 : f 1 1 = 0 := by rw [fo 1 (by decide)]; exact g11
          have f92 : f 169 2 = 0 := by rw [fy.2.1 2 (by decide)]; exact t92
          have e3 : h 3 0 ≤ f 3 0 := by rw [eo 3 (by omega)]; exact Int.le_refl _
          have e10 : h 0 10 ≤ f 0 10 := by rw [f0, g0 10 (by decide) (by decide)]; exact Int.le_refl _
          have em : ∀ o k : Int, 190 ≤ o → o ≤ 203 → ¬ mScr o k → f o k = h o k := fun o k o0 o1 hs => by
            rw [fy.1 o k (by omega) (by omega) hs, to o (by omega), go o (by omega) (by omega) (by omega) (by omega)]
          have fB := fy.bl tB
          clear hg
          refine ⟨⟨by rw [f11]; decide, by rw [f11, f92], fun i i0 i1 => by rw [f11] at i1; omega⟩, ⟨by rw [e9 5 (by omega), f0, g0 10 (by decide) (by decide)]; exact d10, by rw [f53, f0, g13]; exact m2.symm, by rw [e9 87 (by omega), f0, g0 14 (by decide) (by decide)]; exact nm.2.2.1, by rw [e9 90 (by omega), f0, g0 15 (by decide) (by decide)]; exact nm.2.2.2.1, by rw [e9 91 (by omega), f0, g0 16 (by decide) (by decide), g0 15 (by decide) (by decide)]; exact nm.2.2.2.2⟩, me.tr (by rw [eo 3 (by omega)]) (e9 25 (by omega)) (fun o ho => eo o (by omega)), bi.tr (eo 7 (by omega)) (eo 8 (by omega)) e3 (e9 26 (by omega)) (fun o _ _ => eo o (by omega)) e10, fa.tr (eo 9 (by omega)) (eo 10 (by omega)) e3 (e9 27 (by omega)) (fun o _ _ => eo o (by omega)) e10, ex.tr (eo 11 (by omega)) (eo 12 (by omega)) e3 (e9 28 (by omega)) (fun o _ _ => eo o (by omega)) e10, sa.tr (eo 13 (by omega)) (eo 14 (by omega)) e3 (e9 29 (by omega)) (fun o _ _ => eo o (by omega)) e10, se.tr (eo 15 (by omega)) (eo 16 (by omega)) e3 (e9 85 (by omega)) (fun o _ _ => eo o (by omega)) e10, ⟨by rw [f0, k11]; exact n0, by rw [f0, k11, e9 45 (by omega)]; exact e45, fun i i0 i1 => ?_, ?_⟩, lt.tr (by rw [f0]; exact g0 12 (by decide) (by decide)) (e9 65 (by omega)) (fun o l _ _ ho => eo o (by omega)) (fun l q l0 l1 q0 q1 => by rw [eo (125 + 14 * l) (by omega), eo (113 + 14 * l) (by omega)]; exact lt.2.2.2.2.2 l q l0 l1 q0 q1), fl.tr (by rw [eo 44 (by omega)]) (e9 96 (by omega)) (fun o ho => eo o (by omega)), md.tr (by rw [f0]; exact g0 9 (by decide) (by decide)) (e9 89 (by omega)) (eo 64 (by omega)) (eo 228 (by omega)), fB⟩
          · rw [f0, k11] at i1
            obtain ⟨l1, l2, l3⟩ := lw.2.2.1 i i0 i1
            have eL : f (65 + 6 * i) = h (65 + 6 * i) := eo _ (by omega)
            refine ⟨l1.cg (fun o o0 o1 => eo o (by omega)) (fun o o0 o1 => em o i o0 (by omega) (by unfold mScr; omega)) (fun o k o0 o1 k0 k1 => em o _ (by omega) (by omega) (by unfold mScr; omega)) (fun o k o0 o1 k0 k1 => em o _ (by omega) (by omega) (by unfold mScr; omega)), ?_, by rw [eL]; exact l3⟩
            rw [eL]
            omega
          · have e36 : f 36 = h 36 := eo 36 (by omega)
            rw [e36]
            exact ⟨lw.2.2.2.1.ap (fun k _ => by rw [e36]) (fun q k q0 q1 => by rw [eo q (by omega)]), lw.2.2.2.2⟩
      | inr V =>
        rw [hr] at rm Q
        obtain ⟨rfl, m2, m3, mz, ml, mt, mo⟩ := rm
        obtain ⟨rfl, fy, f9', fB, f45, f190, f191, fw⟩ := Q
        rw [t45] at fy f45 f190 f191 fw
        rw [t9 5 (by decide)] at f191
        rcases hg with ⟨-, rfl, hg⟩ | ⟨z, -, -⟩
        · refine ⟨mz.1.symm, ?_⟩
          have fo : ∀ o : Int, (o < 190 ∨ 204 < o) ∧ o ≠ 169 → f o = g o := fun o ho => funext fun k => by rw [fy o k ho.2 (by omega) (by unfold mScr; omega) (by unfold mKc; omega), to o ho.2]
          have e9 : ∀ k : Int, (k ≠ 0 ∧ k ≠ 2 ∧ k ≠ 3 ∧ k ≠ 4) ∧ (k < 45 ∨ 56 < k) → f 169 k = h 169 k := fun k hk => by
            rw [f9' k (fun z => by
              simp only [List.mem_cons, List.not_mem_nil, or_false] at z
              omega), t9 k (by omega)]
          have eo : ∀ o : Int, o ≠ 0 ∧ o ≠ 1 ∧ (o < 24 ∨ 29 < o) ∧ (o < 65 + 6 * h 0 11 ∨ 70 + 6 * h 0 11 < o) ∧ (o < 190 ∨ 204 < o) ∧ o ≠ 169 → f o = h o := fun o ho => (fo o (by omega)).trans (go o (by omega) (by omega) (by omega) (by omega))
          have f0 : f 0 = g 0 := fo 0 (by decide)
          have k11 : g 0 11 = h 0 11 + 1 := by rw [hg, zst_self, r0]
          have f11 : f 1 1 = 0 := by rw [fo 1 (by decide)]; exact g11
          have f92 : f 169 2 = 0 := by rw [f9' 2 (by decide)]; exact t92
          have f53 : f 169 53 = 0 := by rw [f9' 53 (by decide)]; exact t53
          have e3 : h 3 0 ≤ f 3 0 := by rw [eo 3 (by omega)]; exact Int.le_refl _
          have e10 : h 0 10 ≤ f 0 10 := by rw [f0, g0 10 (by decide) (by decide)]; exact Int.le_refl _
          have em : ∀ o k : Int, 190 ≤ o → o ≤ 203 → ¬ mScr o k → ¬ mKc (h 0 11) o k → f o k = h o k := fun o k o0 o1 hs hc => by
            rw [fy o k (by omega) (by omega) hs hc, to o (by omega), go o (by omega) (by omega) (by omega) (by omega)]
          have gL0 : g (65 + 6 * h 0 11) 0 = h 0 10 := by rw [hg, zst_ne (Or.inl (by omega)), zst_ne (Or.inr (by decide)), zst_self, r0]
          have gL1 : g (65 + 6 * h 0 11) 1 = d := by rw [hg, zst_ne (Or.inl (by omega)), zst_self]
          have gLk : ∀ k : Int, k ≠ 0 → k ≠ 1 → g (65 + 6 * h 0 11) k = r (65 + 6 * h 0 11) k := fun k h0 h1 => by rw [hg, zst_ne (Or.inl (by omega)), zst_ne (Or.inr h1), zst_ne (Or.inr h0), zst_ne (Or.inl (by omega)), zst_ne (Or.inl (by omega))]
          have gLq : ∀ q : Int, 65 + 6 * h 0 11 + 1 ≤ q → q ≤ 65 + 6 * h 0 11 + 5 → g q = r q := fun q q0 q1 => by rw [hg, zfn (by omega), zfn (by omega), zfn (by omega), zfn (by omega), zfn (by omega)]
          have rp : zVrp V := zLl_rpn mQn_rpn _ 21 ([], [], 20, 25, 30) 0 0 V (fun x hx => by cases hx) hr
          clear hg
          refine ⟨⟨by rw [f11]; decide, by rw [f11, f92], fun i i0 i1 => by rw [f11] at i1; omega⟩, ⟨by rw [e9 5 (by omega), f0, g0 10 (by decide) (by decide)]; exact d10, by rw [f53, f0, g13]; exact m2.symm, by rw [e9 87 (by omega), f0, g0 14 (by decide) (by decide)]; exact nm.2.2.1, by rw [e9 90 (by omega), f0, g0 15 (by decide) (by decide)]; exact nm.2.2.2.1, by rw [e9 91 (by omega), f0, g0 16 (by decide) (by decide), g0 15 (by decide) (by decide)]; exact nm.2.2.2.2⟩, me.tr (by rw [eo 3 (by omega)]) (e9 25 (by omega)) (fun o ho => eo o (by omega)), bi.tr (eo 7 (by omega)) (eo 8 (by omega)) e3 (e9 26 (by omega)) (fun o _ _ => eo o (by omega)) e10, fa.tr (eo 9 (by omega)) (eo 10 (by omega)) e3 (e9 27 (by omega)) (fun o _ _ => eo o (by omega)) e10, ex.tr (eo 11 (by omega)) (eo 12 (by omega)) e3 (e9 28 (by omega)) (fun o _ _ => eo o (by omega)) e10, sa.tr (eo 13 (by omega)) (eo 14 (by omega)) e3 (e9 29 (by omega)) (fun o _ _ => eo o (by omega)) e10, se.tr (eo 15 (by omega)) (eo 16 (by omega)) e3 (e9 85 (by omega)) (fun o _ _ => eo o (by omega)) e10, ⟨by rw [f0, k11]; omega, by rw [f0, k11]; exact f45, fun i i0 i1 => ?_, ?_⟩, lt.tr (by rw [f0]; exact g0 12 (by decide) (by decide)) (e9 65 (by omega)) (fun o l _ _ ho => eo o (by omega)) (fun l q l0 l1 q0 q1 => by rw [eo (125 + 14 * l) (by omega), eo (113 + 14 * l) (by omega)]; exact lt.2.2.2.2.2 l q l0 l1 q0 q1), fl.tr (by rw [eo 44 (by omega)]) (e9 96 (by omega)) (fun o ho => eo o (by omega)), md.tr (by rw [f0]; exact g0 9 (by decide) (by decide)) (e9 89 (by omega)) (eo 64 (by omega)) (eo 228 (by omega)), fB⟩
          · rw [f0, k11] at i1
            rw [f0, g0 10 (by decide) (by decide)]
            by_cases y : i = h 0 11
            · rw [y]
              have eL : f (65 + 6 * h 0 11) = g (65 + 6 * h 0 11) := fo _ (by omega)
              refine ⟨⟨⟨V, mz.ap (fun k hk => by rw [eL]; exact gLk k (by omega) (by omega)) (fun q k q0 q1 => by rw [fo q (by omega), gLq q q0 q1]), fw, ml, mt, mo, rp⟩, mLOK_of fw ml mt mo rp, ?_, ?_⟩, ?_, ?_⟩
              · rw [f191, eL, gL0]; exact d10.1
              · rw [f190, eL, gL1]
              · rw [eL, gL0]; omega
              · rw [eL, gL1]; omega
            · obtain ⟨l1, l2, l3⟩ := lw.2.2.1 i i0 (by omega)
              have eL : f (65 + 6 * i) = h (65 + 6 * i) := eo _ (by omega)
              refine ⟨l1.cg (fun o o0 o1 => eo o (by omega)) (fun o o0 o1 => em o i o0 (by omega) (by unfold mScr; omega) (by unfold mKc; omega)) (fun o k o0 o1 k0 k1 => em o _ (by omega) (by omega) (by unfold mScr; omega) (by unfold mKc; omega)) (fun o k o0 o1 k0 k1 => em o _ (by omega) (by omega) (by unfold mScr; omega) (by unfold mKc; omega)), ?_, by rw [eL]; exact l3⟩
              rw [eL]
              exact l2
          · have e36 : f 36 = h 36 := eo 36 (by omega)
            rw [e36]
            exact ⟨lw.2.2.2.1.ap (fun k _ => by rw [e36]) (fun q k q0 q1 => by rw [eo q (by omega)]), lw.2.2.2.2⟩
        · exact absurd z (by decide)
  · have g9 : zst h 1 1 0 169 = h 169 := zfn (by decide)
    have gB : ∀ k : Int, 160 ≤ k → k < 180 → 0 ≤ zst h 1 1 0 200 k ∧ zst h 1 1 0 200 k ≤ 1 := by rw [zfn (by decide)]; exact bl
    refine ⟨_, f_X11_law d (by rw [g9, tp.2.1]; exact tp.1) (by rw [g9, e45]; exact n0) gB (by omega), fun w f Q => ?_⟩
    rw [g9, e45, d10.1] at Q
    rcases Q with ⟨-, rfl, rfl⟩ | ⟨z, -⟩
    · exact ⟨rfl, I.tk⟩
    · exfalso; omega
end
