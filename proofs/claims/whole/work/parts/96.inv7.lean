/-! a lot's weeks and letters -/
section
variable {X : zX} {dep : Nat} {h : zH}
theorem v_weeks (l : Int) (I : vI h) (hdep : 3 ≤ dep) : vP1 X dep mX10_weeks mX11_weeks [xI l] h := by
  have J := I
  obtain ⟨tp, nm, me, bi, fa, ex, sa, se, lw, lt, fl, md, bl⟩ := J
  have e65 := lt.2.1
  have n0 := lt.1
  have eo1 : 113 + 14 * l + 1 = 114 + 14 * l := by omega
  have pk := v_picks I (n := 52) (by decide)
  have hP := f_X10_weeks (X := X) (dep := dep) l (h := h) lt.1 tp.1 hdep
  rw [eo1] at hP
  refine vP1.mk hP (fun v g P => ?_)
  rcases P with ⟨⟨c1, c2, c3⟩, rfl, e, tk, hg⟩ | ⟨c, rfl, rfl⟩
  · have P1 := pk.mp c3
    obtain ⟨k1, k2, k3, k4, -⟩ := tk
    have go : ∀ o : Int, o ≠ 1 → o ≠ 114 + 14 * l → o ≠ 115 + 14 * l → g o = h o := fun o h1 h2 h3 => by
      rw [hg, zfn h1]
      exact funext fun k => k1 o k (by omega)
    have g11 : g 1 1 = 0 := by rw [hg, zst_self]
    have gL : ∀ k : Int, g (114 + 14 * l) k = if k = 2 then 1 else h (114 + 14 * l) k := fun k => by
      rw [hg, zst_ne (Or.inl (by omega))]
      by_cases z : k = 2
      · rw [if_pos z, z]; exact k3
      · rw [if_neg z]; exact k2 k z
    have gA : ∀ v : Int, 0 ≤ v → v < 52 → g (115 + 14 * l) v = ztk h (h (115 + 14 * l)) 52 v := fun v v0 v1 => by
      rw [hg, zst_ne (Or.inl (by omega))]
      have z := k4 v v0 v1
      rw [show 114 + 14 * l + 1 = 115 + 14 * l by omega] at z
      exact z
    clear hg
    have g9 : g 169 = h 169 := go 169 (by decide) (by omega) (by omega)
    have g170 : g 170 = h 170 := go 170 (by decide) (by omega) (by omega)
    refine ⟨_, f_X11_weeks l (by rw [g9, e65]; exact lt.1) (by rw [g9, tp.2.1]; exact tp.1) (by omega), fun w f Q => ?_⟩
    have L1 := lt.2.2.1 l c1.1 c1.2
    have t3 : mTk g 169 3 = h 1 1 := by
      show zst (zst (zst _ 169 3 _) 169 2 0) 169 4 0 169 3 = _
      rw [zst_ne (Or.inr (by decide)), zst_ne (Or.inr (by decide)), zst_self, g9]
      exact tp.2.1
    have t170 : mTk g 170 = h 170 := by
      funext k
      rw [mTk_ne _ _ (Or.inl (by decide)), g170]
    have cm : mWC g l := by
      refine ⟨⟨c1.1, by rw [g9, e65]; exact c1.2⟩, by rw [go 210 (by decide) (by omega) (by omega), L1.2.2.1]; exact c2, ?_⟩
      unfold mOrd
      rw [t3, t170]
      exact P1
    rcases Q with ⟨-, rfl, Q⟩ | ⟨Q, -, -⟩
    · refine ⟨rfl, ?_⟩
      obtain ⟨q1, q2, q3, q4, q5⟩ := Q
      rw [g170] at q3 q4
      rw [go 210 (by decide) (by omega) (by omega)] at q2
      rw [go 207 (by decide) (by omega) (by omega), go 208 (by decide) (by omega) (by omega)] at q5
      rw [go 208 (by decide) (by omega) (by omega)] at q4
      have fo : ∀ o : Int, (o ≠ 207 ∧ o ≠ 208 ∧ o ≠ 210 ∧ o ≠ 212) → f o = mTk g o := fun o ho => funext fun k => q1 o k (fun z => by
        simp only [List.mem_cons, List.not_mem_nil, or_false] at z
        omega)
      have eo : ∀ o : Int, o ≠ 1 ∧ o ≠ 114 + 14 * l ∧ o ≠ 115 + 14 * l ∧ o ≠ 169 ∧ (o ≠ 207 ∧ o ≠ 208 ∧ o ≠ 210 ∧ o ≠ 212) → f o = h o := fun o ho => by
        rw [fo o (by omega)]
        funext k
        rw [mTk_ne _ _ (Or.inl (by omega)), go o (by omega) (by omega) (by omega)]
      have f9 : ∀ k : Int, (k ≠ 0 ∧ k ≠ 2 ∧ k ≠ 3 ∧ k ≠ 4) → f 169 k = h 169 k := fun k hk => by
        rw [fo 169 (by omega), mTk_ne _ _ (Or.inr hk), g9]
      have e9 : ∀ k : Int, (k ≠ 0 ∧ k ≠ 2 ∧ k ≠ 3 ∧ k ≠ 4) → f 169 k = h 169 k := f9
      have f11 : f 1 1 = 0 := by rw [fo 1 (by omega), mTk_ne _ _ (Or.inl (by decide)), g11]
      have f92 : f 169 2 = 0 := by
        rw [fo 169 (by omega)]
        show zst (zst _ 169 2 0) 169 4 0 169 2 = 0
        rw [zst_ne (Or.inr (by decide)), zst_self]
      have fL : ∀ k : Int, f (114 + 14 * l) k = if k = 2 then 1 else h (114 + 14 * l) k := fun k => by
        rw [fo _ (by omega), mTk_ne _ _ (Or.inl (by omega))]; exact gL k
      have fA : ∀ v : Int, 0 ≤ v → v < 52 → f (115 + 14 * l) v = mtk (h 170) (h (115 + 14 * l)) 52 v := fun v v0 v1 => by
        rw [fo _ (by omega), mTk_ne _ _ (Or.inl (by omega)), gA v v0 v1]
        refine v_tk _ v (fun i i0 i1 => ?_)
        have r := (P1.2 i i0 i1).1
        obtain ⟨b1, b2⟩ := tp.2.2 i i0 (by rw [P1.1]; exact i1)
        have z : zat h i = zand (h 2 i) 255 := if_pos ⟨i0, by rw [P1.1]; exact i1⟩
        rw [z, zby b2, b1, if_pos (by omega)]
      have e3 : h 3 0 ≤ f 3 0 := by rw [eo 3 (by omega)]; exact Int.le_refl _
      have e10 : h 0 10 ≤ f 0 10 := by rw [eo 0 (by omega)]; exact Int.le_refl _
      refine ⟨⟨by rw [f11]; decide, by rw [f11, f92], fun i i0 i1 => by rw [f11] at i1; omega⟩, nm.tr (fun k _ _ => by rw [eo 0 (by omega)]) (fun k hk => e9 k (by omega)), me.tr (by rw [eo 3 (by omega)]) (e9 25 (by omega)) (fun o ho => eo o (by omega)), bi.tr (eo 7 (by omega)) (eo 8 (by omega)) e3 (e9 26 (by omega)) (fun o _ _ => eo o (by omega)) e10, fa.tr (eo 9 (by omega)) (eo 10 (by omega)) e3 (e9 27 (by omega)) (fun o _ _ => eo o (by omega)) e10, ex.tr (eo 11 (by omega)) (eo 12 (by omega)) e3 (e9 28 (by omega)) (fun o _ _ => eo o (by omega)) e10, sa.tr (eo 13 (by omega)) (eo 14 (by omega)) e3 (e9 29 (by omega)) (fun o _ _ => eo o (by omega)) e10, se.tr (eo 15 (by omega)) (eo 16 (by omega)) e3 (e9 85 (by omega)) (fun o _ _ => eo o (by omega)) e10, lw.tr (by rw [eo 0 (by omega)]) e10 (e9 45 (by omega)) (fun o ho => eo o (by omega)) (fun o k _ _ _ => by rw [eo o (by omega)]), ⟨by rw [eo 0 (by omega)]; exact lt.1, by rw [eo 0 (by omega), e9 65 (by omega)]; exact e65, fun j j0 j1 => ?_, fun j j0 j1 => ?_, ?_, fun j q l0 l1 p0 p1 => by rw [eo (125 + 14 * j) (by omega), eo (113 + 14 * j) (by omega)]; exact lt.2.2.2.2.2 j q l0 l1 p0 p1⟩, fl.tr (by rw [eo 44 (by omega)]) (e9 96 (by omega)) (fun o ho => eo o (by omega)), md.tr (by rw [eo 0 (by omega)]) (e9 89 (by omega)) (eo 64 (by omega)) (eo 228 (by omega)), fun k k0 k1 => by rw [eo 200 (by omega)]; exact bl k k0 k1⟩
      · rw [eo 0 (by omega)] at j1
        by_cases y : j = l
        · subst y
          obtain ⟨a1, a2, a3, a4, a5, a6⟩ := L1
          have pl : ∀ k : Int, 0 ≤ k → k < 52 → mtk (h 170) (fun v => h 208 (52 * j + v)) 52 k = mtk (h 170) (h (115 + 14 * j)) 52 k := fun k k0 k1 => mtk_cg (a5 k k0 k1).1.1 (fun _ _ => rfl) 52
          refine ⟨?_, ?_, ?_, ?_, fun k k0 k1 => ?_, fun k k0 k1 => ?_⟩
          · rw [eo 205 (by omega), fL, if_neg (by decide)]; exact a1
          · rw [eo 206 (by omega), fL, if_neg (by decide)]; exact a2
          · rw [q2, if_pos rfl, fL, if_pos rfl]
          · rw [eo 211 (by omega), fL, if_neg (by decide)]; exact a4
          · have r := (P1.2 k k0 k1).1
            rw [q3 k k0 k1, q4 k k0 k1, q4 _ r.1 r.2, fA k k0 k1]
            refine ⟨⟨pl k k0 k1, mtk_in (a5 k k0 k1).1.2 52 (Nat.le_refl _)⟩, r, ?_⟩
            exact mtk_at 52 (fun i k k0 ki i1 => (P1.2 i (by omega) i1).2 k k0 ki) k k0 k1
          · rw [eo 209 (by omega), eo (116 + 14 * j) (by omega)]; exact a6 k k0 k1
        · refine (lt.2.2.1 j j0 j1).cg (by rw [eo 205 (by omega)]) (by rw [eo 206 (by omega)]) (by rw [q2, if_neg y]) (by rw [eo 211 (by omega)]) (fun k k0 k1 => q5 _ (by omega)) (fun k k0 k1 => by rw [eo 209 (by omega)]) (fun o o0 o1 => eo o (by omega))
      · rw [eo 0 (by omega)] at j0
        exact (lt.2.2.2.1 j j0 j1).cg (by rw [eo 205 (by omega)]) (by rw [eo 206 (by omega)]) (by rw [q2, if_neg (by omega)]) (by rw [eo 211 (by omega)]) (fun k k0 k1 => (q5 _ (by omega)).2) (fun k k0 k1 => by rw [eo 209 (by omega)]) (fun o o0 o1 => eo o (by omega))
      · rw [eo 0 (by omega), eo 205 (by omega)]
        exact lt.2.2.2.2.1
    · exact absurd cm Q
  · have g9 : zst h 1 1 0 169 = h 169 := zfn (by decide)
    refine ⟨_, f_X11_weeks l (by rw [g9, e65]; exact lt.1) (by rw [g9, tp.2.1]; exact tp.1) (by omega), fun w f Q => ?_⟩
    rcases Q with ⟨⟨d1, d2, d3⟩, -, -⟩ | ⟨-, rfl, Q⟩
    · exfalso
      have d1' : 0 ≤ l ∧ l < h 169 65 := by
        have := d1.2
        rw [g9] at this
        exact ⟨d1.1, this⟩
      rw [e65] at d1'
      have L1 := lt.2.2.1 l d1'.1 d1'.2
      refine c ⟨d1', ?_, pk.mpr ?_⟩
      · rw [← L1.2.2.1]
        rw [zfn (by decide)] at d2
        exact d2
      · unfold mOrd at d3
        have t3 : mTk (zst h 1 1 0) 169 3 = h 1 1 := by
          show zst (zst (zst _ 169 3 _) 169 2 0) 169 4 0 169 3 = _
          rw [zst_ne (Or.inr (by decide)), zst_ne (Or.inr (by decide)), zst_self, g9]
          exact tp.2.1
        have t170 : mTk (zst h 1 1 0) 170 = h 170 := by
          funext k
          rw [mTk_ne _ _ (Or.inl (by decide)), zfn (by decide)]
        rw [t3, t170] at d3
        exact d3
    · exact ⟨rfl, I.tk.s212 Q⟩
theorem v_letters (l : Int) (I : vI h) (hdep : 3 ≤ dep) : vP1 X dep mX10_letters mX11_letters [xI l] h := by
  have J := I
  obtain ⟨tp, nm, me, bi, fa, ex, sa, se, lw, lt, fl, md, bl⟩ := J
  have e65 := lt.2.1
  have n0 := lt.1
  have eo1 : 113 + 14 * l + 1 = 114 + 14 * l := by omega
  have pk := v_picks I (n := 26) (by decide)
  have hP := f_X10_letters (X := X) (dep := dep) l (h := h) lt.1 tp.1 hdep
  rw [eo1] at hP
  refine vP1.mk hP (fun v g P => ?_)
  rcases P with ⟨⟨c1, c2, c3⟩, rfl, e, tk, hg⟩ | ⟨c, rfl, rfl⟩
  · have P1 := pk.mp c3
    obtain ⟨k1, k2, k3, k4, -⟩ := tk
    have go : ∀ o : Int, o ≠ 1 → o ≠ 114 + 14 * l → o ≠ 116 + 14 * l → g o = h o := fun o h1 h2 h3 => by
      rw [hg, zfn h1]
      exact funext fun k => k1 o k (by omega)
    have g11 : g 1 1 = 0 := by rw [hg, zst_self]
    have gL : ∀ k : Int, g (114 + 14 * l) k = if k = 3 then 1 else h (114 + 14 * l) k := fun k => by
      rw [hg, zst_ne (Or.inl (by omega))]
      by_cases z : k = 3
      · rw [if_pos z, z]; exact k3
      · rw [if_neg z]; exact k2 k z
    have gA : ∀ v : Int, 0 ≤ v → v < 26 → g (116 + 14 * l) v = ztk h (h (116 + 14 * l)) 26 v := fun v v0 v1 => by
      rw [hg, zst_ne (Or.inl (by omega))]
      have z := k4 v v0 v1
      rw [show 114 + 14 * l + 2 = 116 + 14 * l by omega] at z
      exact z
    clear hg
    have g9 : g 169 = h 169 := go 169 (by decide) (by omega) (by omega)
    have g170 : g 170 = h 170 := go 170 (by decide) (by omega) (by omega)
    refine ⟨_, f_X11_letters l (by rw [g9, e65]; exact lt.1) (by rw [g9, tp.2.1]; exact tp.1) (by omega), fun w f Q => ?_⟩
    have L1 := lt.2.2.1 l c1.1 c1.2
    have t3 : mTk g 169 3 = h 1 1 := by
      show zst (zst (zst _ 169 3 _) 169 2 0) 169 4 0 169 3 = _
      rw [zst_ne (Or.inr (by decide)), zst_ne (Or.inr (by decide)), zst_self, g9]
      exact tp.2.1
    have t170 : mTk g 170 = h 170 := by
      funext k
      rw [mTk_ne _ _ (Or.inl (by decide)), g170]
    have cm : mTC g l := by
      refine ⟨⟨c1.1, by rw [g9, e65]; exact c1.2⟩, by rw [go 211 (by decide) (by omega) (by omega), L1.2.2.2.1]; exact c2, ?_⟩
      unfold mOrd
      rw [t3, t170]
      exact P1
    rcases Q with ⟨-, rfl, Q⟩ | ⟨Q, -, -⟩
    · refine ⟨rfl, ?_⟩
      obtain ⟨q1, q2, q4, q5⟩ := Q
      rw [g170] at q4
      rw [go 211 (by decide) (by omega) (by omega)] at q2
      rw [go 209 (by decide) (by omega) (by omega)] at q4 q5
      have fo : ∀ o : Int, (o ≠ 209 ∧ o ≠ 211 ∧ o ≠ 212) → f o = mTk g o := fun o ho => funext fun k => q1 o k (fun z => by
        simp only [List.mem_cons, List.not_mem_nil, or_false] at z
        omega)
      have eo : ∀ o : Int, o ≠ 1 ∧ o ≠ 114 + 14 * l ∧ o ≠ 116 + 14 * l ∧ o ≠ 169 ∧ (o ≠ 209 ∧ o ≠ 211 ∧ o ≠ 212) → f o = h o := fun o ho => by
        rw [fo o (by omega)]
        funext k
        rw [mTk_ne _ _ (Or.inl (by omega)), go o (by omega) (by omega) (by omega)]
      have f9 : ∀ k : Int, (k ≠ 0 ∧ k ≠ 2 ∧ k ≠ 3 ∧ k ≠ 4) → f 169 k = h 169 k := fun k hk => by
        rw [fo 169 (by omega), mTk_ne _ _ (Or.inr hk), g9]
      have e9 : ∀ k : Int, (k ≠ 0 ∧ k ≠ 2 ∧ k ≠ 3 ∧ k ≠ 4) → f 169 k = h 169 k := f9
      have f11 : f 1 1 = 0 := by rw [fo 1 (by omega), mTk_ne _ _ (Or.inl (by decide)), g11]
      have f92 : f 169 2 = 0 := by
        rw [fo 169 (by omega)]
        show zst (zst _ 169 2 0) 169 4 0 169 2 = 0
        rw [zst_ne (Or.inr (by decide)), zst_self]
      have fL : ∀ k : Int, f (114 + 14 * l) k = if k = 3 then 1 else h (114 + 14 * l) k := fun k => by
        rw [fo _ (by omega), mTk_ne _ _ (Or.inl (by omega))]; exact gL k
      have fA : ∀ v : Int, 0 ≤ v → v < 26 → f (116 + 14 * l) v = mtk (h 170) (h (116 + 14 * l)) 26 v := fun v v0 v1 => by
        rw [fo _ (by omega), mTk_ne _ _ (Or.inl (by omega)), gA v v0 v1]
        refine v_tk _ v (fun i i0 i1 => ?_)
        have r := (P1.2 i i0 i1).1
        obtain ⟨b1, b2⟩ := tp.2.2 i i0 (by rw [P1.1]; exact i1)
        have z : zat h i = zand (h 2 i) 255 := if_pos ⟨i0, by rw [P1.1]; exact i1⟩
        rw [z, zby b2, b1, if_pos (by omega)]
      have e3 : h 3 0 ≤ f 3 0 := by rw [eo 3 (by omega)]; exact Int.le_refl _
      have e10 : h 0 10 ≤ f 0 10 := by rw [eo 0 (by omega)]; exact Int.le_refl _
      refine ⟨⟨by rw [f11]; decide, by rw [f11, f92], fun i i0 i1 => by rw [f11] at i1; omega⟩, nm.tr (fun k _ _ => by rw [eo 0 (by omega)]) (fun k hk => e9 k (by omega)), me.tr (by rw [eo 3 (by omega)]) (e9 25 (by omega)) (fun o ho => eo o (by omega)), bi.tr (eo 7 (by omega)) (eo 8 (by omega)) e3 (e9 26 (by omega)) (fun o _ _ => eo o (by omega)) e10, fa.tr (eo 9 (by omega)) (eo 10 (by omega)) e3 (e9 27 (by omega)) (fun o _ _ => eo o (by omega)) e10, ex.tr (eo 11 (by omega)) (eo 12 (by omega)) e3 (e9 28 (by omega)) (fun o _ _ => eo o (by omega)) e10, sa.tr (eo 13 (by omega)) (eo 14 (by omega)) e3 (e9 29 (by omega)) (fun o _ _ => eo o (by omega)) e10, se.tr (eo 15 (by omega)) (eo 16 (by omega)) e3 (e9 85 (by omega)) (fun o _ _ => eo o (by omega)) e10, lw.tr (by rw [eo 0 (by omega)]) e10 (e9 45 (by omega)) (fun o ho => eo o (by omega)) (fun o k _ _ _ => by rw [eo o (by omega)]), ⟨by rw [eo 0 (by omega)]; exact lt.1, by rw [eo 0 (by omega), e9 65 (by omega)]; exact e65, fun j j0 j1 => ?_, fun j j0 j1 => ?_, ?_, fun j q l0 l1 p0 p1 => by rw [eo (125 + 14 * j) (by omega), eo (113 + 14 * j) (by omega)]; exact lt.2.2.2.2.2 j q l0 l1 p0 p1⟩, fl.tr (by rw [eo 44 (by omega)]) (e9 96 (by omega)) (fun o ho => eo o (by omega)), md.tr (by rw [eo 0 (by omega)]) (e9 89 (by omega)) (eo 64 (by omega)) (eo 228 (by omega)), fun k k0 k1 => by rw [eo 200 (by omega)]; exact bl k k0 k1⟩
      · rw [eo 0 (by omega)] at j1
        by_cases y : j = l
        · subst y
          obtain ⟨a1, a2, a3, a4, a5, a6⟩ := L1
          have pl : ∀ k : Int, 0 ≤ k → k < 26 → mtk (h 170) (fun v => h 209 (26 * j + v)) 26 k = mtk (h 170) (h (116 + 14 * j)) 26 k := fun k k0 k1 => mtk_cg (a6 k k0 k1).1 (fun _ _ => rfl) 26
          refine ⟨?_, ?_, ?_, ?_, fun k k0 k1 => ?_, fun k k0 k1 => ?_⟩
          · rw [eo 205 (by omega), fL, if_neg (by decide)]; exact a1
          · rw [eo 206 (by omega), fL, if_neg (by decide)]; exact a2
          · rw [eo 210 (by omega), fL, if_neg (by decide)]; exact a3
          · rw [q2, if_pos rfl, fL, if_pos rfl]
          · rw [eo 207 (by omega), eo 208 (by omega), eo (115 + 14 * j) (by omega)]; exact a5 k k0 k1
          · rw [q4 k k0 k1, fA k k0 k1]
            exact ⟨pl k k0 k1, mtk_26 (a6 k k0 k1).2 26 (Nat.le_refl _)⟩
        · refine (lt.2.2.1 j j0 j1).cg (by rw [eo 205 (by omega)]) (by rw [eo 206 (by omega)]) (by rw [eo 210 (by omega)]) (by rw [q2, if_neg y]) (fun k k0 k1 => by rw [eo 207 (by omega), eo 208 (by omega)]; exact ⟨rfl, rfl⟩) (fun k k0 k1 => q5 _ (by omega)) (fun o o0 o1 => eo o (by omega))
      · rw [eo 0 (by omega)] at j0
        exact (lt.2.2.2.1 j j0 j1).cg (by rw [eo 205 (by omega)]) (by rw [eo 206 (by omega)]) (by rw [eo 210 (by omega)]) (by rw [q2, if_neg (by omega)]) (fun k k0 k1 => by rw [eo 208 (by omega)]) (fun k k0 k1 => q5 _ (by omega)) (fun o o0 o1 => eo o (by omega))
      · rw [eo 0 (by omega), eo 205 (by omega)]
        exact lt.2.2.2.2.1
    · exact absurd cm Q
  · have g9 : zst h 1 1 0 169 = h 169 := zfn (by decide)
    refine ⟨_, f_X11_letters l (by rw [g9, e65]; exact lt.1) (by rw [g9, tp.2.1]; exact tp.1) (by omega), fun w f Q => ?_⟩
    rcases Q with ⟨⟨d1, d2, d3⟩, -, -⟩ | ⟨-, rfl, Q⟩
    · exfalso
      have d1' : 0 ≤ l ∧ l < h 169 65 := by
        have := d1.2
        rw [g9] at this
        exact ⟨d1.1, this⟩
      rw [e65] at d1'
      have L1 := lt.2.2.1 l d1'.1 d1'.2
      refine c ⟨d1', ?_, pk.mpr ?_⟩
      · rw [← L1.2.2.2.1]
        rw [zfn (by decide)] at d2
        exact d2
      · unfold mOrd at d3
        have t3 : mTk (zst h 1 1 0) 169 3 = h 1 1 := by
          show zst (zst (zst _ 169 3 _) 169 2 0) 169 4 0 169 3 = _
          rw [zst_ne (Or.inr (by decide)), zst_ne (Or.inr (by decide)), zst_self, g9]
          exact tp.2.1
        have t170 : mTk (zst h 1 1 0) 170 = h 170 := by
          funext k
          rw [mTk_ne _ _ (Or.inl (by decide)), zfn (by decide)]
        rw [t3, t170] at d3
        exact d3
    · exact ⟨rfl, I.tk.s212 Q⟩
end
