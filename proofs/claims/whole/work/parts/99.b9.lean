section
variable {h : zH}
theorem zcnt_at (C : Int → Prop) : ∀ (n : Nat) (k : Int), 0 ≤ k → k < zcnt C n → ∃ m : Int, (0 ≤ m ∧ m < n) ∧ C m ∧ zcnt C m.toNat = k
  | 0, k, k0, k1 => absurd k1 (by show ¬ k < 0; omega)
  | n + 1, k, k0, k1 => by
    rw [zcnt_s] at k1
    by_cases c : k < zcnt C n
    · obtain ⟨m, m0, m1⟩ := zcnt_at C n k k0 c
      exact ⟨m, by omega, m1⟩
    · by_cases y : C n
      · rw [zb_t y] at k1
        exact ⟨n, by omega, y, by rw [Int.toNat_natCast]; omega⟩
      · rw [zb_f y] at k1; omega
theorem vI.mdd {k f : zH} (K : vI k) (eo : ∀ o : Int, o ≠ 0 → o ≠ 64 → o ≠ 169 → o ≠ 228 → f o = k o) (e0 : ∀ q : Int, q ≠ 9 → f 0 q = k 0 q) (e9 : ∀ q : Int, q ≠ 0 → q ≠ 89 → f 169 q = k 169 q) (md : vMd f) : vI f := by
  obtain ⟨tp, nm, me, bi, fa, ex, sa, se, lw, lt, fl, -, bl⟩ := K
  have e3 : k 3 0 ≤ f 3 0 := by rw [eo 3 (by decide) (by decide) (by decide) (by decide)]; exact Int.le_refl _
  have e10 : k 0 10 ≤ f 0 10 := by rw [e0 10 (by decide)]; exact Int.le_refl _
  exact ⟨tp.tr (by rw [eo 1 (by decide) (by decide) (by decide) (by decide)]) (e9 2 (by decide) (by decide)) (eo 170 (by decide) (by decide) (by decide) (by decide)) (eo 2 (by decide) (by decide) (by decide) (by decide)), nm.tr (fun k _ _ => e0 k (by omega)) (fun k hk => e9 k (by omega) (by omega)), me.tr (by rw [eo 3 (by decide) (by decide) (by decide) (by decide)]) (e9 25 (by decide) (by decide)) (fun o ho => eo o (by omega) (by omega) (by omega) (by omega)), bi.tr (eo 7 (by decide) (by decide) (by decide) (by decide)) (eo 8 (by decide) (by decide) (by decide) (by decide)) e3 (e9 26 (by decide) (by decide)) (fun o _ _ => eo o (by omega) (by omega) (by omega) (by omega)) e10, fa.tr (eo 9 (by decide) (by decide) (by decide) (by decide)) (eo 10 (by decide) (by decide) (by decide) (by decide)) e3 (e9 27 (by decide) (by decide)) (fun o _ _ => eo o (by omega) (by omega) (by omega) (by omega)) e10, ex.tr (eo 11 (by decide) (by decide) (by decide) (by decide)) (eo 12 (by decide) (by decide) (by decide) (by decide)) e3 (e9 28 (by decide) (by decide)) (fun o _ _ => eo o (by omega) (by omega) (by omega) (by omega)) e10, sa.tr (eo 13 (by decide) (by decide) (by decide) (by decide)) (eo 14 (by decide) (by decide) (by decide) (by decide)) e3 (e9 29 (by decide) (by decide)) (fun o _ _ => eo o (by omega) (by omega) (by omega) (by omega)) e10, se.tr (eo 15 (by decide) (by decide) (by decide) (by decide)) (eo 16 (by decide) (by decide) (by decide) (by decide)) e3 (e9 85 (by decide) (by decide)) (fun o _ _ => eo o (by omega) (by omega) (by omega) (by omega)) e10, lw.tr (e0 11 (by decide)) e10 (e9 45 (by decide) (by decide)) (fun o ho => eo o (by omega) (by omega) (by omega) (by omega)) (fun o q _ _ _ => by rw [eo o (by omega) (by omega) (by omega) (by omega)]), lt.tr (e0 12 (by decide)) (e9 65 (by decide) (by decide)) (fun o l _ _ ho => eo o (by omega) (by omega) (by omega) (by omega)) (fun l q l0 l1 q0 q1 => by rw [eo (125 + 14 * l) (by omega) (by omega) (by omega) (by omega), eo (113 + 14 * l) (by omega) (by omega) (by omega) (by omega)]; exact lt.2.2.2.2.2 l q l0 l1 q0 q1), fl.tr (by rw [eo 44 (by decide) (by decide) (by decide) (by decide)]) (e9 96 (by decide) (by decide)) (fun o ho => eo o (by omega) (by omega) (by omega) (by omega)), md, fun k k0 k1 => by rw [eo 200 (by decide) (by decide) (by decide) (by decide)]; exact bl k k0 k1⟩
end
section
variable {X : zX} {dep : Nat} {h : zH}
theorem v_mended (l s t z : Int) (I : vI h) (hz : z = 0 ∨ z = 1) (hdep : 8 ≤ dep) : vP1 X dep mX10_mended mX11_mended [xI l, xI s, xI t, xI z] h := by
  have m25 := I.2.2.1.2.1
  have m3 := I.2.2.1.1
  have lt := I.2.2.2.2.2.2.2.2.2.1
  have m65 := lt.2.1
  refine vP1.mk (f_X10_mended l s t z I.zb hz (by omega)) (fun v g P => ?_)
  rcases P with ⟨l0, e1, e2, e3, z1, z2, z3, hv, hg⟩ | ⟨c, rfl, rfl⟩
  · have l4 : l < 4 := by have := lt.1; omega
    have f1 := z1.far
    have f3 := z3.far
    have f2 : ∀ o : Int, o ≠ 63 → e2 o = e1 o := fun o ho => funext fun k => z2.1 o k ho
    have I1 := z1.vI I
    have I2 : vI e2 := I1.scr (fun o ho => f2 o (by unfold vScr at ho; omega)) (fun k _ => by rw [f2 3 (by decide)]) (fun k _ => by rw [f2 169 (by decide)]) (fun j q j0 j1 q0 q1 => by
      rw [f2 (125 + 14 * j) (by omega), f2 (113 + 14 * j) (by omega)]
      exact z1.ro I j q j0 j1 q0 q1)
    have ge : ∀ o : Int, o ≠ 0 → o ≠ 64 → g o = e3 o := fun o p1 p2 => funext fun k => hg.1 o k (by omega)
    have gt : ∀ o : Int, 169 ≤ o → g o = h o := fun o ho => by rw [ge o (by omega) (by omega), f3.1 o (by simp only [zKS]; omega), f2 o (by omega), f1.1 o (by simp only [zKS]; omega)]
    have bm := f_X11_mended (X := X) (dep := dep) l s t z (h := g) (I.mb2 gt) hdep
    rw [gt 169 (by decide), m25] at bm
    refine ⟨_, bm, fun w f Q => ?_⟩
    rcases Q with ⟨-, x1, x2, ⟨x0, q1, q2, q3⟩, q4, q5, q6⟩ | ⟨c', -, -⟩
    · have x1o : ∀ o : Int, o ≠ 233 → x1 o = x0 o := fun o ho => funext fun k => q2 o k (fun z => by
        simp only [List.mem_cons, List.not_mem_nil, or_false] at z
        omega)
      have x1h : ∀ o : Int, 169 < o → (o < 213 ∨ 223 < o ∧ o < 229) → x1 o = h o := fun o o0 o1 => by
        rw [x1o o (by omega), q1.far o (by omega), zfn (by omega), gt o (by omega)]
      have x19 : ∀ k : Int, k ≠ 0 → x1 169 k = h 169 k := fun k hk => by rw [x1o 169 (by decide), q1.far 169 (by decide), zst_ne (Or.inr hk), gt 169 (by decide)]
      have e23 : e2 3 0 = h 3 0 := by rw [f2 3 (by decide)]; exact f1.2 0 (by decide)
      have e20 : e2 0 = h 0 := by rw [f2 0 (by decide), f1.1 0 (by simp only [zKS]; omega)]
      have e2t : ∀ o : Int, 169 ≤ o → e2 o = h o := fun o ho => by rw [f2 o (by omega), f1.1 o (by simp only [zKS]; omega)]
      have l02 : 0 ≤ l ∧ l < e2 0 12 := by rw [e20]; exact l0
      -- called then (s), called now (t): both sides
      have x233 : ∀ m : Int, 0 ≤ m → m < h 3 0 → x2 233 m = if x0 219 (60 * l + m) = 5 then 1 else 0 := fun m p0 p1 => by
        rw [q4.far 233 (by decide), q3 m p0 (by omega), zst_ne (Or.inr (by decide)), gt 169 (by decide), m25]
        by_cases y : x0 219 (60 * l + m) = 5
        · rw [if_pos y, if_pos ⟨p1, y⟩]
        · rw [if_neg y, if_neg (fun z => y z.2)]
      have e63 : ∀ m : Int, 0 ≤ m → m < h 3 0 → e3 63 m = if e1 (113 + 14 * l + 5) m = 5 then 1 else 0 := fun m p0 p1 => by
        rw [f3.1 63 (by simp only [zKS]; omega)]
        exact z2.2 m p0 p1
      have key : ∀ m : Int, 0 ≤ m → m < h 3 0 → (mmC (zst x2 169 89 0) l m ↔ if z = 0 then e3 (113 + 14 * l + 5) m = 5 ∧ e3 63 m = 0 else e3 (113 + 14 * l + 5) m ≠ 5 ∧ e3 63 m = 1) := fun m p0 p1 => by
        unfold mmC
        rw [zfn (by decide), zfn (by decide), x233 m p0 p1, e63 m p0 p1]
        rcases hz with rfl | rfl
        · rw [if_pos (show (0 : Int) = 0 from rfl)] at q1 q4
          rw [if_pos (show (0 : Int) = 0 from rfl)]
          have R1 := v_rolled I l0 z1 q1 (fun o o0 _ _ => by rw [zfn (by omega), gt o (by omega)]) (fun k hk => by rw [zst_ne (Or.inr (by omega)), gt 169 (by decide)])
          have R2 := v_rolled I2 (H := x1) l02 z3 q4 (fun o o0 _ o2 => by rw [x1h o o0 o2, e2t o (by omega)]) (fun k hk => by rw [x19 k (by omega), e2t 169 (by decide)])
          rw [(R1.2.1.1 m p0 p1).1, (R2.2.1.1 m p0 (by rw [e23]; exact p1)).1]
        · rw [if_neg (show ¬ (1 : Int) = 0 by decide)] at q1 q4
          rw [if_neg (show ¬ (1 : Int) = 0 by decide)]
          have R1 := v_rolled I2 l02 z3 q1 (fun o o0 _ _ => by rw [zfn (by omega), gt o (by omega), e2t o (by omega)]) (fun k hk => by rw [zst_ne (Or.inr (by omega)), gt 169 (by decide), e2t 169 (by decide)])
          have R2 := v_rolled I (H := x1) l0 z1 q4 (fun o o0 _ o2 => x1h o o0 o2) (fun k hk => x19 k (by omega))
          rw [(R1.2.1.1 m p0 (by rw [e23]; exact p1)).1, (R2.2.1.1 m p0 p1).1]
          by_cases y : e1 (113 + 14 * l + 5) m = 5
          · rw [if_pos y]
            by_cases y2 : e3 (113 + 14 * l + 5) m = 5
            · rw [if_pos y2]
              exact ⟨fun z => absurd z.2 (by decide), fun z => absurd y2 z.1⟩
            · rw [if_neg y2]
              exact ⟨fun _ => ⟨y2, rfl⟩, fun _ => ⟨y, rfl⟩⟩
          · rw [if_neg y]
            exact ⟨fun z => absurd z.1 y, fun z => absurd z.2 (by decide)⟩
      obtain ⟨CC, hCC⟩ : ∃ CC : Int → Prop, CC = fun m : Int => if z = 0 then e3 (113 + 14 * l + 5) m = 5 ∧ e3 63 m = 0 else e3 (113 + 14 * l + 5) m ≠ 5 ∧ e3 63 m = 1 := ⟨_, rfl⟩
      rw [← hCC] at hv hg
      have key' : ∀ m : Int, 0 ≤ m → m < h 3 0 → (mmC (zst x2 169 89 0) l m ↔ CC m) := fun m p0 p1 => by
        rw [hCC]
        exact key m p0 p1
      clear key hCC
      generalize mmC (zst x2 169 89 0) l = MM at q5 q6 key'
      have cn : zcnt MM (h 3 0).toNat = zcnt CC (h 3 0).toNat := zcnt_congr (fun k k0 k1 => key' k k0 (by omega))
      refine ⟨by rw [q5, hv, cn], ?_⟩
      have ci := zcnt_in CC (h 3 0).toNat
      have fo : ∀ o : Int, o ≠ 169 → o ≠ 228 → (o < 213 ∨ 223 < o ∧ o < 229 ∨ 234 < o) → f o = g o := fun o p1 p2 p3 => by
        have q61 : f o = zst x2 169 89 0 o := funext fun k => q6.1 o k (fun z => by
          simp only [List.mem_cons, List.not_mem_nil, or_false] at z
          omega)
        rw [q61, zfn p1, q4.far o (by omega), x1o o (by omega), q1.far o (by omega), zfn p1]
      have f9 : ∀ k : Int, k ≠ 0 → k ≠ 89 → f 169 k = h 169 k := fun k p0 p1 => by
        rw [q6.2.1 k p1, zst_ne (Or.inr p1), q4.far 169 (by decide), x19 k p0]
      have g0 : ∀ k : Int, k ≠ 9 → g 0 k = h 0 k := fun k hk => by rw [hg.2.1 k hk, f3.1 0 (by simp only [zKS]; omega), e20]
      have md : vMd f := by
        refine ⟨?_, ?_, fun k k0 k1 => ?_⟩
        · rw [fo 0 (by decide) (by decide) (by decide), hg.2.2.1]; omega
        · rw [q6.2.2.1, fo 0 (by decide) (by decide) (by decide), hg.2.2.1, cn]
        · rw [fo 0 (by decide) (by decide) (by decide), hg.2.2.1] at k1
          obtain ⟨m, p0, p1, p2⟩ := zcnt_at CC (h 3 0).toNat k k0 k1
          have A := hg.2.2.2 m p0.1 p0.2 p1
          have B := q6.2.2.2 m p0.1 p0.2 ((key' m p0.1 (by omega)).mpr p1)
          have ce : zcnt MM m.toNat = zcnt CC m.toNat := zcnt_congr (fun j j0 j1 => key' j j0 (by omega))
          rw [p2] at A
          rw [ce, p2] at B
          rw [B, fo 64 (by decide) (by decide) (by decide), A]
      generalize hk : zst (zst (fun o => if o = 64 then h 64 else if o = 228 then h 228 else f o : zH) 0 9 (h 0 9)) 169 89 (h 169 89) = k
      have k0 : ∀ q : Int, k 0 q = h 0 q := fun q => by
        rw [← hk, zst_ne (Or.inl (by decide)), zst_or]
        by_cases y : q = 9
        · rw [if_pos y, y]
        · rw [if_neg y]
          show f 0 q = _
          rw [fo 0 (by decide) (by decide) (by decide), g0 q y]
      have k9 : ∀ q : Int, k 169 q = if q = 89 then h 169 89 else f 169 q := fun q => by
        rw [← hk, zst_or]
        by_cases y : q = 89
        · rw [if_pos y, if_pos y]
        · rw [if_neg y, if_neg y, zst_ne (Or.inl (by decide))]
          rfl
      have ko : ∀ o : Int, o ≠ 0 → o ≠ 169 → o ≠ 64 → o ≠ 228 → k o = f o := fun o p1 p2 p3 p4 => by
        rw [← hk, zfn p2, zfn p1]
        show (if o = 64 then h 64 else if o = 228 then h 228 else f o) = _
        rw [if_neg p3, if_neg p4]
      have k64 : k 64 = h 64 := by
        rw [← hk, zfn (by decide), zfn (by decide)]; rfl
      have k228 : k 228 = h 228 := by
        rw [← hk, zfn (by decide), zfn (by decide)]; rfl
      have fh : ∀ o : Int, ¬ vScr o → o ≠ 0 → o ≠ 64 → o ≠ 228 → f o = h o := fun o ho p1 p2 p3 => by
        unfold vScr at ho
        rw [fo o (by omega) p3 (by omega), ge o p1 p2, f3.1 o (by simp only [zKS]; omega), f2 o (by omega), f1.1 o (by simp only [zKS]; omega)]
      have K : vI k := I.scr (fun o ho => by
        by_cases p1 : o = 0
        · rw [p1]; exact funext k0
        · by_cases p2 : o = 64
          · rw [p2, k64]
          · by_cases p3 : o = 228
            · rw [p3, k228]
            · rw [ko o p1 (by unfold vScr at ho; omega) p2 p3]
              exact fh o ho p1 p2 p3) (fun q hq => by
        rw [ko 3 (by decide) (by decide) (by decide) (by decide), fo 3 (by decide) (by decide) (by decide), ge 3 (by decide) (by decide), f3.2 q hq, f2 3 (by decide), f1.2 q hq]) (fun q hq => by
        rw [k9]
        by_cases y : q = 89
        · rw [if_pos y, y]
        · rw [if_neg y]; exact f9 q hq y) (fun j q j0 j1 q0 q1 => by
        rw [ko (125 + 14 * j) (by omega) (by omega) (by omega) (by omega), ko (113 + 14 * j) (by omega) (by omega) (by omega) (by omega), fo (125 + 14 * j) (by omega) (by omega) (by omega), fo (113 + 14 * j) (by omega) (by omega) (by omega), ge (125 + 14 * j) (by omega) (by omega), ge (113 + 14 * j) (by omega) (by omega)]
        exact z3.ro I2 j q j0 j1 q0 q1)
      exact K.mdd (fun o p1 p2 p3 p4 => (ko o p1 p3 p2 p4).symm) (fun q hq => by rw [k0, fo 0 (by decide) (by decide) (by decide), g0 q hq]) (fun q p0 p1 => by rw [k9, if_neg p1]) md
    · exact absurd ⟨l0.1, by rw [gt 169 (by decide), m65]; exact l0.2⟩ c'
  · refine ⟨_, f_X11_mended l s t z I.mb hdep, fun w f Q => ?_⟩
    rcases Q with ⟨c', -⟩ | ⟨-, rfl, rfl⟩
    · exact absurd ⟨c'.1, by have := c'.2; rw [m65] at this; exact this⟩ c
    · exact ⟨rfl, I.th⟩
end
