/-! calls that add a row -/
theorem zadd_o {h : zH} {o a b c d e f p : Int} (h1 : p ≠ o) (h2 : p ≠ o + 1) : zadd h o a b c d e f p = h p := by
  unfold zadd
  rw [zfn h1, zfn h2, zfn h2, zfn h2, zfn h2, zfn h2, zfn h2]
theorem zadd_k {h : zH} {o a b c d e f k : Int} (hk : k ≠ 2) : zadd h o a b c d e f o k = h o k := by
  unfold zadd
  rw [zst_ne (Or.inr hk), zst_ne (Or.inl (by omega)), zst_ne (Or.inl (by omega)), zst_ne (Or.inl (by omega)), zst_ne (Or.inl (by omega)), zst_ne (Or.inl (by omega)), zst_ne (Or.inl (by omega))]
theorem zadd_2 {h : zH} {o a b c d e f : Int} : zadd h o a b c d e f o 2 = h o 2 + 1 := zst_self _ _ _ _
theorem zadd_l {h : zH} {o a b c d e f q : Int} (hq : q < h o 2 * 6) : zadd h o a b c d e f (o + 1) q = h (o + 1) q := by
  unfold zadd
  rw [zst_ne (by omega), zst_ne (by omega), zst_ne (by omega), zst_ne (by omega), zst_ne (by omega), zst_ne (by omega), zst_ne (by omega)]
theorem zadd_r {h : zH} {o a b c d e f : Int} : zadd h o a b c d e f (o + 1) (h o 2 * 6) = a ∧ zadd h o a b c d e f (o + 1) (h o 2 * 6 + 1) = b ∧ zadd h o a b c d e f (o + 1) (h o 2 * 6 + 2) = c ∧ zadd h o a b c d e f (o + 1) (h o 2 * 6 + 3) = d ∧ zadd h o a b c d e f (o + 1) (h o 2 * 6 + 4) = e ∧ zadd h o a b c d e f (o + 1) (h o 2 * 6 + 5) = f := by
  unfold zadd
  refine ⟨?_, ?_, ?_, ?_, ?_, ?_⟩
  · rw [zst_ne (by omega), zst_ne (by omega), zst_ne (by omega), zst_ne (by omega), zst_ne (by omega), zst_ne (by omega), zst_self]
  · rw [zst_ne (by omega), zst_ne (by omega), zst_ne (by omega), zst_ne (by omega), zst_ne (by omega), zst_self]
  · rw [zst_ne (by omega), zst_ne (by omega), zst_ne (by omega), zst_ne (by omega), zst_self]
  · rw [zst_ne (by omega), zst_ne (by omega), zst_ne (by omega), zst_self]
  · rw [zst_ne (by omega), zst_ne (by omega), zst_self]
  · rw [zst_ne (by omega), zst_self]
section
variable {X : zX} {dep : Nat} {h : zH}
theorem v_birth (m y w : Int) (I : vI h) (hdep : 2 ≤ dep) : vP1 X dep mX10_birth mX11_birth [xI m, xI y, xI w] h := by
  have J := I
  obtain ⟨tp, nm, me, bi, fa, ex, sa, se, lw, lt, fl, md, bl⟩ := J
  have lg := bi.1
  have d10 := nm.1
  have m25 := me.2.1
  have m3 := me.1
  have s0 := lg.1
  have s1 := lg.2.1
  have s9 := lg.2.2.1
  have a := f_X10_birth (X := X) (dep := dep) m y w (h := h) (by rw [s1]; omega) (by omega)
  by_cases c : ((0 ≤ m ∧ m < h 3 0) ∧ (-60 ≤ y ∧ y ≤ 9) ∧ 0 ≤ w ∧ w < 52) ∧ h 7 2 < h 7 1
  · rw [if_pos c.1, zb_t c] at a
    have eg : zaddr h 7 (h 0 10) m (y * 52 + w) 0 0 0 = zadd h 7 (h 0 10) m (y * 52 + w) 0 0 0 := if_pos c.2
    rw [eg] at a
    have z1 : zadd h 7 (h 0 10) m (y * 52 + w) 0 0 0 7 1 = h 7 1 := zadd_k (by decide)
    have z2 : zadd h 7 (h 0 10) m (y * 52 + w) 0 0 0 7 2 = h 7 2 + 1 := zadd_2
    have zl : ∀ q : Int, q < h 7 2 * 6 → zadd h 7 (h 0 10) m (y * 52 + w) 0 0 0 8 q = h 8 q := fun q hq => zadd_l (o := 7) hq
    have zr : _ := zadd_r (h := h) (o := 7) (a := h 0 10) (b := m) (c := (y * 52 + w)) (d := 0) (e := 0) (f := 0)
    have zo : ∀ p : Int, p ≠ 7 → p ≠ 8 → zadd h 7 (h 0 10) m (y * 52 + w) 0 0 0 p = h p := fun p h1 h2 => zadd_o h1 h2
    rw [show (7 : Int) + 1 = 8 from rfl] at zr
    generalize zadd h 7 (h 0 10) m (y * 52 + w) 0 0 0 = g at *
    have g25 : g 169 25 = h 3 0 := by rw [zo 169 (by decide) (by decide)]; exact m25
    have gn : g 169 26 = h 7 2 := by rw [zo 169 (by decide) (by decide)]; exact s9
    have g5 : g 169 5 = h 0 10 := by rw [zo 169 (by decide) (by decide)]; exact d10.1
    have b := f_X11_birth (X := X) (dep := dep) m y w (h := g) (by rw [g25]; exact m3) (by rw [gn]; exact s0) hdep
    have cm : ((0 ≤ m ∧ m < h 3 0) ∧ (-60 ≤ y ∧ y ≤ 9) ∧ 0 ≤ w ∧ w ≤ 51) ∧ h 7 2 ≠ 100 := by omega
    rw [g25, gn, g5, if_pos cm, zb_t cm] at b
    refine vP1.F a b rfl ?_
    generalize hf : zst (zst (zst (zst (zst g 169 0 0) 174 (h 7 2) m) 175 (h 7 2) (52 * y + w)) 176 (h 7 2) (h 0 10)) 169 26 (h 7 2 + 1) = f
    have eg1 : ∀ p : Int, p ≠ 169 → (p < 174 ∨ 176 < p) → f p = g p := fun p h1 h2 => by rw [← hf, zfn (by omega), zfn (by omega), zfn (by omega), zfn (by omega), zfn (by omega)]
    have eo : ∀ p : Int, p ≠ 7 ∧ p ≠ 8 ∧ p ≠ 169 ∧ (p < 174 ∨ 176 < p) → f p = h p := fun p hp => (eg1 p hp.2.2.1 hp.2.2.2).trans (zo p hp.1 hp.2.1)
    have e9 : ∀ k : Int, k ≠ 0 ∧ k ≠ 26 → f 169 k = h 169 k := fun k hk => by rw [← hf, zst_ne (by omega), zst_ne (by omega), zst_ne (by omega), zst_ne (by omega), zst_ne (by omega)]; rw [zo 169 (by decide) (by decide)]
    have e3 : h 3 0 ≤ f 3 0 := by rw [eo 3 (by omega)]; exact Int.le_refl _
    have e10 : h 0 10 ≤ f 0 10 := by rw [eo 0 (by omega)]; exact Int.le_refl _
    have eL : f 7 = g 7 := eg1 7 (by decide) (by decide)
    have eM : f 8 = g 8 := eg1 8 (by decide) (by decide)
    have r174 : ∀ r : Int, r ≠ h 7 2 → f 174 r = h 174 r := fun r hr => by rw [← hf, zst_ne (by omega), zst_ne (by omega), zst_ne (by omega), zst_ne (by omega), zst_ne (by omega)]; rw [zo 174 (by decide) (by decide)]
    have t174 : f 174 (h 7 2) = m := by rw [← hf, zst_ne (by omega), zst_ne (by omega), zst_ne (by omega), zst_self]
    have r175 : ∀ r : Int, r ≠ h 7 2 → f 175 r = h 175 r := fun r hr => by rw [← hf, zst_ne (by omega), zst_ne (by omega), zst_ne (by omega), zst_ne (by omega), zst_ne (by omega)]; rw [zo 175 (by decide) (by decide)]
    have t175 : f 175 (h 7 2) = (52 * y + w) := by rw [← hf, zst_ne (by omega), zst_ne (by omega), zst_self]
    have r176 : ∀ r : Int, r ≠ h 7 2 → f 176 r = h 176 r := fun r hr => by rw [← hf, zst_ne (by omega), zst_ne (by omega), zst_ne (by omega), zst_ne (by omega), zst_ne (by omega)]; rw [zo 176 (by decide) (by decide)]
    have t176 : f 176 (h 7 2) = (h 0 10) := by rw [← hf, zst_ne (by omega), zst_self]
    have tn : f 169 26 = h 7 2 + 1 := by rw [← hf, zst_self]
    clear hf a b eg
    refine ⟨tp.tr (by rw [eo 1 (by omega)]) (e9 2 (by omega)) (eo 170 (by omega)) (eo 2 (by omega)), nm.tr (fun k _ _ => by rw [eo 0 (by omega)]) (fun k hk => e9 k (by omega)), me.tr (by rw [eo 3 (by omega)]) (e9 25 (by omega)) (fun o ho => eo o (by omega)), ⟨bi.1.add (by rw [eL]; exact z1) (by rw [eL]; exact z2) (by omega) (by rw [tn, s9]) (fun q hq => by show f 8 q = h 8 q; rw [eM]; exact zl q hq) (by show f 8 (h 7 2 * 6) = _; rw [eM]; exact zr.1) (by rw [eo 0 (by omega)]) (by omega) (List.forall_mem_cons.mpr ⟨⟨⟨by decide, by decide⟩, r176, by show f 176 (h 7 2) = f 8 (h 7 2 * 6 + 0); rw [t176, eM]; rw [Int.add_zero]; exact zr.1.symm⟩, List.forall_mem_cons.mpr ⟨⟨⟨by decide, by decide⟩, r174, by show f 174 (h 7 2) = f 8 (h 7 2 * 6 + 1); rw [t174, eM]; have := zr.2.1; omega⟩, List.forall_mem_cons.mpr ⟨⟨⟨by decide, by decide⟩, r175, by show f 175 (h 7 2) = f 8 (h 7 2 * 6 + 2); rw [t175, eM]; have := zr.2.2.1; omega⟩, fun p hp => by cases hp⟩⟩⟩), fun r r0 r1 => ?_⟩, fa.tr (eo 9 (by omega)) (eo 10 (by omega)) e3 (e9 27 (by omega)) (fun o _ _ => eo o (by omega)) e10, ex.tr (eo 11 (by omega)) (eo 12 (by omega)) e3 (e9 28 (by omega)) (fun o _ _ => eo o (by omega)) e10, sa.tr (eo 13 (by omega)) (eo 14 (by omega)) e3 (e9 29 (by omega)) (fun o _ _ => eo o (by omega)) e10, se.tr (eo 15 (by omega)) (eo 16 (by omega)) e3 (e9 85 (by omega)) (fun o _ _ => eo o (by omega)) e10, lw.tr (by rw [eo 0 (by omega)]) e10 (e9 45 (by omega)) (fun o ho => eo o (by omega)) (fun o k _ _ _ => by rw [eo o (by omega)]), lt.tr (by rw [eo 0 (by omega)]) (e9 65 (by omega)) (fun o l _ _ ho => eo o (by omega)) (fun l q l0 l1 q0 q1 => by rw [eo (125 + 14 * l) (by omega), eo (113 + 14 * l) (by omega)]; exact lt.2.2.2.2.2 l q l0 l1 q0 q1), fl.tr (by rw [eo 44 (by omega)]) (e9 96 (by omega)) (fun o ho => eo o (by omega)), md.tr (by rw [eo 0 (by omega)]) (e9 89 (by omega)) (eo 64 (by omega)) (eo 228 (by omega)), fun k k0 k1 => by rw [eo 200 (by omega)]; exact bl k k0 k1⟩
    rw [eL, z2] at r1
    rw [eM, eo 3 (by omega)]
    by_cases e : r = h 7 2
    · rw [e]
      obtain ⟨q0, q1, q2, q3, q4, q5⟩ := zr
      rw [q1, q2]; omega
    · rw [zl _ (by omega), zl _ (by omega)]
      exact bi.2 r r0 (by omega)
  · have cm : ¬ (((0 ≤ m ∧ m < h 3 0) ∧ (-60 ≤ y ∧ y ≤ 9) ∧ 0 ≤ w ∧ w ≤ 51) ∧ h 7 2 ≠ 100) := by omega
    have ag : (if (0 ≤ m ∧ m < h 3 0) ∧ (-60 ≤ y ∧ y ≤ 9) ∧ 0 ≤ w ∧ w < 52 then zaddr h 7 (h 0 10) m (y * 52 + w) 0 0 0 else h) = h := by
      by_cases c1 : (0 ≤ m ∧ m < h 3 0) ∧ (-60 ≤ y ∧ y ≤ 9) ∧ 0 ≤ w ∧ w < 52
      · rw [if_pos c1]
        exact if_neg (fun z => c ⟨c1, z⟩)
      · exact if_neg c1
    rw [ag, zb_f c] at a
    have b := f_X11_birth (X := X) (dep := dep) m y w (h := h) (by rw [m25]; exact m3) (by rw [s9]; exact s0) hdep
    rw [m25, s9, if_neg cm, zb_f cm] at b
    exact vP1.F a b rfl I.th
theorem v_fact (m k v x y : Int) (I : vI h) (hdep : 2 ≤ dep) : vP1 X dep mX10_fact mX11_fact [xI m, xI k, xI v, xI x, xI y] h := by
  have J := I
  obtain ⟨tp, nm, me, bi, fa, ex, sa, se, lw, lt, fl, md, bl⟩ := J
  have lg := fa.1
  have d10 := nm.1
  have m25 := me.2.1
  have m3 := me.1
  have s0 := lg.1
  have s1 := lg.2.1
  have s9 := lg.2.2.1
  have a := f_X10_fact (X := X) (dep := dep) m k v x y (h := h) (by rw [s1]; omega) (by omega)
  by_cases c : ((0 ≤ m ∧ m < h 3 0) ∧ (0 ≤ v ∧ ((k = 0 ∨ k = 1) ∧ v ≤ 9 ∨ (k = 2 ∨ k = 3 ∨ k = 4) ∧ v ≤ 1 ∨ k = 5 ∧ v ≤ 250)) ∧ (0 ≤ x ∧ x ≤ 3639) ∧ (0 ≤ y ∧ y ≤ 3639) ∧ x ≤ y) ∧ h 9 2 < h 9 1
  · rw [if_pos c.1, zb_t c] at a
    have eg : zaddr h 9 (h 0 10) m k v x y = zadd h 9 (h 0 10) m k v x y := if_pos c.2
    rw [eg] at a
    have z1 : zadd h 9 (h 0 10) m k v x y 9 1 = h 9 1 := zadd_k (by decide)
    have z2 : zadd h 9 (h 0 10) m k v x y 9 2 = h 9 2 + 1 := zadd_2
    have zl : ∀ q : Int, q < h 9 2 * 6 → zadd h 9 (h 0 10) m k v x y 10 q = h 10 q := fun q hq => zadd_l (o := 9) hq
    have zr : _ := zadd_r (h := h) (o := 9) (a := h 0 10) (b := m) (c := k) (d := v) (e := x) (f := y)
    have zo : ∀ p : Int, p ≠ 9 → p ≠ 10 → zadd h 9 (h 0 10) m k v x y p = h p := fun p h1 h2 => zadd_o h1 h2
    rw [show (9 : Int) + 1 = 10 from rfl] at zr
    generalize zadd h 9 (h 0 10) m k v x y = g at *
    have g25 : g 169 25 = h 3 0 := by rw [zo 169 (by decide) (by decide)]; exact m25
    have gn : g 169 27 = h 9 2 := by rw [zo 169 (by decide) (by decide)]; exact s9
    have g5 : g 169 5 = h 0 10 := by rw [zo 169 (by decide) (by decide)]; exact d10.1
    have b := f_X11_fact (X := X) (dep := dep) m k v x y (h := g) (by rw [g25]; exact m3) (by rw [gn]; exact s0) hdep
    have cm : ((0 ≤ m ∧ m < h 3 0) ∧ (0 ≤ v ∧ ((k = 0 ∨ k = 1) ∧ v ≤ 9 ∨ (k = 2 ∨ k = 3 ∨ k = 4) ∧ v ≤ 1 ∨ k = 5 ∧ v ≤ 250)) ∧ (0 ≤ x ∧ x ≤ 3639) ∧ (x ≤ y ∧ y ≤ 3639)) ∧ h 9 2 ≠ 240 := by omega
    rw [g25, gn, g5, if_pos cm, zb_t cm] at b
    refine vP1.F a b rfl ?_
    generalize hf : zst (zst (zst (zst (zst (zst (zst (zst g 169 0 0) 177 (h 9 2) m) 178 (h 9 2) k) 179 (h 9 2) v) 180 (h 9 2) x) 181 (h 9 2) y) 182 (h 9 2) (h 0 10)) 169 27 (h 9 2 + 1) = f
    have eg1 : ∀ p : Int, p ≠ 169 → (p < 177 ∨ 182 < p) → f p = g p := fun p h1 h2 => by rw [← hf, zfn (by omega), zfn (by omega), zfn (by omega), zfn (by omega), zfn (by omega), zfn (by omega), zfn (by omega), zfn (by omega)]
    have eo : ∀ p : Int, p ≠ 9 ∧ p ≠ 10 ∧ p ≠ 169 ∧ (p < 177 ∨ 182 < p) → f p = h p := fun p hp => (eg1 p hp.2.2.1 hp.2.2.2).trans (zo p hp.1 hp.2.1)
    have e9 : ∀ k : Int, k ≠ 0 ∧ k ≠ 27 → f 169 k = h 169 k := fun k hk => by rw [← hf, zst_ne (by omega), zst_ne (by omega), zst_ne (by omega), zst_ne (by omega), zst_ne (by omega), zst_ne (by omega), zst_ne (by omega), zst_ne (by omega)]; rw [zo 169 (by decide) (by decide)]
    have e3 : h 3 0 ≤ f 3 0 := by rw [eo 3 (by omega)]; exact Int.le_refl _
    have e10 : h 0 10 ≤ f 0 10 := by rw [eo 0 (by omega)]; exact Int.le_refl _
    have eL : f 9 = g 9 := eg1 9 (by decide) (by decide)
    have eM : f 10 = g 10 := eg1 10 (by decide) (by decide)
    have r177 : ∀ r : Int, r ≠ h 9 2 → f 177 r = h 177 r := fun r hr => by rw [← hf, zst_ne (by omega), zst_ne (by omega), zst_ne (by omega), zst_ne (by omega), zst_ne (by omega), zst_ne (by omega), zst_ne (by omega), zst_ne (by omega)]; rw [zo 177 (by decide) (by decide)]
    have t177 : f 177 (h 9 2) = m := by rw [← hf, zst_ne (by omega), zst_ne (by omega), zst_ne (by omega), zst_ne (by omega), zst_ne (by omega), zst_ne (by omega), zst_self]
    have r178 : ∀ r : Int, r ≠ h 9 2 → f 178 r = h 178 r := fun r hr => by rw [← hf, zst_ne (by omega), zst_ne (by omega), zst_ne (by omega), zst_ne (by omega), zst_ne (by omega), zst_ne (by omega), zst_ne (by omega), zst_ne (by omega)]; rw [zo 178 (by decide) (by decide)]
    have t178 : f 178 (h 9 2) = k := by rw [← hf, zst_ne (by omega), zst_ne (by omega), zst_ne (by omega), zst_ne (by omega), zst_ne (by omega), zst_self]
    have r179 : ∀ r : Int, r ≠ h 9 2 → f 179 r = h 179 r := fun r hr => by rw [← hf, zst_ne (by omega), zst_ne (by omega), zst_ne (by omega), zst_ne (by omega), zst_ne (by omega), zst_ne (by omega), zst_ne (by omega), zst_ne (by omega)]; rw [zo 179 (by decide) (by decide)]
    have t179 : f 179 (h 9 2) = v := by rw [← hf, zst_ne (by omega), zst_ne (by omega), zst_ne (by omega), zst_ne (by omega), zst_self]
    have r180 : ∀ r : Int, r ≠ h 9 2 → f 180 r = h 180 r := fun r hr => by rw [← hf, zst_ne (by omega), zst_ne (by omega), zst_ne (by omega), zst_ne (by omega), zst_ne (by omega), zst_ne (by omega), zst_ne (by omega), zst_ne (by omega)]; rw [zo 180 (by decide) (by decide)]
    have t180 : f 180 (h 9 2) = x := by rw [← hf, zst_ne (by omega), zst_ne (by omega), zst_ne (by omega), zst_self]
    have r181 : ∀ r : Int, r ≠ h 9 2 → f 181 r = h 181 r := fun r hr => by rw [← hf, zst_ne (by omega), zst_ne (by omega), zst_ne (by omega), zst_ne (by omega), zst_ne (by omega), zst_ne (by omega), zst_ne (by omega), zst_ne (by omega)]; rw [zo 181 (by decide) (by decide)]
    have t181 : f 181 (h 9 2) = y := by rw [← hf, zst_ne (by omega), zst_ne (by omega), zst_self]
    have r182 : ∀ r : Int, r ≠ h 9 2 → f 182 r = h 182 r := fun r hr => by rw [← hf, zst_ne (by omega), zst_ne (by omega), zst_ne (by omega), zst_ne (by omega), zst_ne (by omega), zst_ne (by omega), zst_ne (by omega), zst_ne (by omega)]; rw [zo 182 (by decide) (by decide)]
    have t182 : f 182 (h 9 2) = (h 0 10) := by rw [← hf, zst_ne (by omega), zst_self]
    have tn : f 169 27 = h 9 2 + 1 := by rw [← hf, zst_self]
    clear hf a b eg
    refine ⟨tp.tr (by rw [eo 1 (by omega)]) (e9 2 (by omega)) (eo 170 (by omega)) (eo 2 (by omega)), nm.tr (fun k _ _ => by rw [eo 0 (by omega)]) (fun k hk => e9 k (by omega)), me.tr (by rw [eo 3 (by omega)]) (e9 25 (by omega)) (fun o ho => eo o (by omega)), bi.tr (eo 7 (by omega)) (eo 8 (by omega)) e3 (e9 26 (by omega)) (fun o _ _ => eo o (by omega)) e10, ⟨fa.1.add (by rw [eL]; exact z1) (by rw [eL]; exact z2) (by omega) (by rw [tn, s9]) (fun q hq => by show f 10 q = h 10 q; rw [eM]; exact zl q hq) (by show f 10 (h 9 2 * 6) = _; rw [eM]; exact zr.1) (by rw [eo 0 (by omega)]) (by omega) (List.forall_mem_cons.mpr ⟨⟨⟨by decide, by decide⟩, r182, by show f 182 (h 9 2) = f 10 (h 9 2 * 6 + 0); rw [t182, eM]; rw [Int.add_zero]; exact zr.1.symm⟩, List.forall_mem_cons.mpr ⟨⟨⟨by decide, by decide⟩, r177, by show f 177 (h 9 2) = f 10 (h 9 2 * 6 + 1); rw [t177, eM]; have := zr.2.1; omega⟩, List.forall_mem_cons.mpr ⟨⟨⟨by decide, by decide⟩, r178, by show f 178 (h 9 2) = f 10 (h 9 2 * 6 + 2); rw [t178, eM]; have := zr.2.2.1; omega⟩, List.forall_mem_cons.mpr ⟨⟨⟨by decide, by decide⟩, r179, by show f 179 (h 9 2) = f 10 (h 9 2 * 6 + 3); rw [t179, eM]; have := zr.2.2.2.1; omega⟩, List.forall_mem_cons.mpr ⟨⟨⟨by decide, by decide⟩, r180, by show f 180 (h 9 2) = f 10 (h 9 2 * 6 + 4); rw [t180, eM]; have := zr.2.2.2.2.1; omega⟩, List.forall_mem_cons.mpr ⟨⟨⟨by decide, by decide⟩, r181, by show f 181 (h 9 2) = f 10 (h 9 2 * 6 + 5); rw [t181, eM]; have := zr.2.2.2.2.2; omega⟩, fun p hp => by cases hp⟩⟩⟩⟩⟩⟩), fun r r0 r1 => ?_⟩, ex.tr (eo 11 (by omega)) (eo 12 (by omega)) e3 (e9 28 (by omega)) (fun o _ _ => eo o (by omega)) e10, sa.tr (eo 13 (by omega)) (eo 14 (by omega)) e3 (e9 29 (by omega)) (fun o _ _ => eo o (by omega)) e10, se.tr (eo 15 (by omega)) (eo 16 (by omega)) e3 (e9 85 (by omega)) (fun o _ _ => eo o (by omega)) e10, lw.tr (by rw [eo 0 (by omega)]) e10 (e9 45 (by omega)) (fun o ho => eo o (by omega)) (fun o k _ _ _ => by rw [eo o (by omega)]), lt.tr (by rw [eo 0 (by omega)]) (e9 65 (by omega)) (fun o l _ _ ho => eo o (by omega)) (fun l q l0 l1 q0 q1 => by rw [eo (125 + 14 * l) (by omega), eo (113 + 14 * l) (by omega)]; exact lt.2.2.2.2.2 l q l0 l1 q0 q1), fl.tr (by rw [eo 44 (by omega)]) (e9 96 (by omega)) (fun o ho => eo o (by omega)), md.tr (by rw [eo 0 (by omega)]) (e9 89 (by omega)) (eo 64 (by omega)) (eo 228 (by omega)), fun k k0 k1 => by rw [eo 200 (by omega)]; exact bl k k0 k1⟩
    rw [eL, z2] at r1
    rw [eM, eo 3 (by omega)]
    by_cases e : r = h 9 2
    · rw [e]
      obtain ⟨q0, q1, q2, q3, q4, q5⟩ := zr
      rw [q1, q2]; omega
    · rw [zl _ (by omega), zl _ (by omega)]
      exact fa.2 r r0 (by omega)
  · have cm : ¬ (((0 ≤ m ∧ m < h 3 0) ∧ (0 ≤ v ∧ ((k = 0 ∨ k = 1) ∧ v ≤ 9 ∨ (k = 2 ∨ k = 3 ∨ k = 4) ∧ v ≤ 1 ∨ k = 5 ∧ v ≤ 250)) ∧ (0 ≤ x ∧ x ≤ 3639) ∧ (x ≤ y ∧ y ≤ 3639)) ∧ h 9 2 ≠ 240) := by omega
    have ag : (if (0 ≤ m ∧ m < h 3 0) ∧ (0 ≤ v ∧ ((k = 0 ∨ k = 1) ∧ v ≤ 9 ∨ (k = 2 ∨ k = 3 ∨ k = 4) ∧ v ≤ 1 ∨ k = 5 ∧ v ≤ 250)) ∧ (0 ≤ x ∧ x ≤ 3639) ∧ (0 ≤ y ∧ y ≤ 3639) ∧ x ≤ y then zaddr h 9 (h 0 10) m k v x y else h) = h := by
      by_cases c1 : (0 ≤ m ∧ m < h 3 0) ∧ (0 ≤ v ∧ ((k = 0 ∨ k = 1) ∧ v ≤ 9 ∨ (k = 2 ∨ k = 3 ∨ k = 4) ∧ v ≤ 1 ∨ k = 5 ∧ v ≤ 250)) ∧ (0 ≤ x ∧ x ≤ 3639) ∧ (0 ≤ y ∧ y ≤ 3639) ∧ x ≤ y
      · rw [if_pos c1]
        exact if_neg (fun z => c ⟨c1, z⟩)
      · exact if_neg c1
    rw [ag, zb_f c] at a
    have b := f_X11_fact (X := X) (dep := dep) m k v x y (h := h) (by rw [m25]; exact m3) (by rw [s9]; exact s0) hdep
    rw [m25, s9, if_neg cm, zb_f cm] at b
    exact vP1.F a b rfl I.th
theorem v_exam (m x y : Int) (I : vI h) (hdep : 2 ≤ dep) : vP1 X dep mX10_exam mX11_exam [xI m, xI x, xI y] h := by
  have J := I
  obtain ⟨tp, nm, me, bi, fa, ex, sa, se, lw, lt, fl, md, bl⟩ := J
  have lg := ex.1
  have d10 := nm.1
  have m25 := me.2.1
  have m3 := me.1
  have s0 := lg.1
  have s1 := lg.2.1
  have s9 := lg.2.2.1
  have a := f_X10_exam (X := X) (dep := dep) m x y (h := h) (by rw [s1]; omega) (by omega)
  by_cases c : ((0 ≤ m ∧ m < h 3 0) ∧ (0 ≤ x ∧ x < 8) ∧ 0 ≤ y ∧ y ≤ 9) ∧ h 11 2 < h 11 1
  · rw [if_pos c.1, zb_t c] at a
    have eg : zaddr h 11 (h 0 10) m x y 0 0 = zadd h 11 (h 0 10) m x y 0 0 := if_pos c.2
    rw [eg] at a
    have z1 : zadd h 11 (h 0 10) m x y 0 0 11 1 = h 11 1 := zadd_k (by decide)
    have z2 : zadd h 11 (h 0 10) m x y 0 0 11 2 = h 11 2 + 1 := zadd_2
    have zl : ∀ q : Int, q < h 11 2 * 6 → zadd h 11 (h 0 10) m x y 0 0 12 q = h 12 q := fun q hq => zadd_l (o := 11) hq
    have zr : _ := zadd_r (h := h) (o := 11) (a := h 0 10) (b := m) (c := x) (d := y) (e := 0) (f := 0)
    have zo : ∀ p : Int, p ≠ 11 → p ≠ 12 → zadd h 11 (h 0 10) m x y 0 0 p = h p := fun p h1 h2 => zadd_o h1 h2
    rw [show (11 : Int) + 1 = 12 from rfl] at zr
    generalize zadd h 11 (h 0 10) m x y 0 0 = g at *
    have g25 : g 169 25 = h 3 0 := by rw [zo 169 (by decide) (by decide)]; exact m25
    have gn : g 169 28 = h 11 2 := by rw [zo 169 (by decide) (by decide)]; exact s9
    have g5 : g 169 5 = h 0 10 := by rw [zo 169 (by decide) (by decide)]; exact d10.1
    have b := f_X11_exam (X := X) (dep := dep) m x y (h := g) (by rw [g25]; exact m3) (by rw [gn]; exact s0) hdep
    have cm : ((0 ≤ m ∧ m < h 3 0) ∧ (0 ≤ x ∧ x ≤ 7) ∧ 0 ≤ y ∧ y ≤ 9) ∧ h 11 2 ≠ 60 := by omega
    rw [g25, gn, g5, if_pos cm, zb_t cm] at b
    refine vP1.F a b rfl ?_
    generalize hf : zst (zst (zst (zst (zst (zst g 169 0 0) 183 (h 11 2) m) 184 (h 11 2) x) 185 (h 11 2) y) 186 (h 11 2) (h 0 10)) 169 28 (h 11 2 + 1) = f
    have eg1 : ∀ p : Int, p ≠ 169 → (p < 183 ∨ 186 < p) → f p = g p := fun p h1 h2 => by rw [← hf, zfn (by omega), zfn (by omega), zfn (by omega), zfn (by omega), zfn (by omega), zfn (by omega)]
    have eo : ∀ p : Int, p ≠ 11 ∧ p ≠ 12 ∧ p ≠ 169 ∧ (p < 183 ∨ 186 < p) → f p = h p := fun p hp => (eg1 p hp.2.2.1 hp.2.2.2).trans (zo p hp.1 hp.2.1)
    have e9 : ∀ k : Int, k ≠ 0 ∧ k ≠ 28 → f 169 k = h 169 k := fun k hk => by rw [← hf, zst_ne (by omega), zst_ne (by omega), zst_ne (by omega), zst_ne (by omega), zst_ne (by omega), zst_ne (by omega)]; rw [zo 169 (by decide) (by decide)]
    have e3 : h 3 0 ≤ f 3 0 := by rw [eo 3 (by omega)]; exact Int.le_refl _
    have e10 : h 0 10 ≤ f 0 10 := by rw [eo 0 (by omega)]; exact Int.le_refl _
    have eL : f 11 = g 11 := eg1 11 (by decide) (by decide)
    have eM : f 12 = g 12 := eg1 12 (by decide) (by decide)
    have r183 : ∀ r : Int, r ≠ h 11 2 → f 183 r = h 183 r := fun r hr => by rw [← hf, zst_ne (by omega), zst_ne (by omega), zst_ne (by omega), zst_ne (by omega), zst_ne (by omega), zst_ne (by omega)]; rw [zo 183 (by decide) (by decide)]
    have t183 : f 183 (h 11 2) = m := by rw [← hf, zst_ne (by omega), zst_ne (by omega), zst_ne (by omega), zst_ne (by omega), zst_self]
    have r184 : ∀ r : Int, r ≠ h 11 2 → f 184 r = h 184 r := fun r hr => by rw [← hf, zst_ne (by omega), zst_ne (by omega), zst_ne (by omega), zst_ne (by omega), zst_ne (by omega), zst_ne (by omega)]; rw [zo 184 (by decide) (by decide)]
    have t184 : f 184 (h 11 2) = x := by rw [← hf, zst_ne (by omega), zst_ne (by omega), zst_ne (by omega), zst_self]
    have r185 : ∀ r : Int, r ≠ h 11 2 → f 185 r = h 185 r := fun r hr => by rw [← hf, zst_ne (by omega), zst_ne (by omega), zst_ne (by omega), zst_ne (by omega), zst_ne (by omega), zst_ne (by omega)]; rw [zo 185 (by decide) (by decide)]
    have t185 : f 185 (h 11 2) = y := by rw [← hf, zst_ne (by omega), zst_ne (by omega), zst_self]
    have r186 : ∀ r : Int, r ≠ h 11 2 → f 186 r = h 186 r := fun r hr => by rw [← hf, zst_ne (by omega), zst_ne (by omega), zst_ne (by omega), zst_ne (by omega), zst_ne (by omega), zst_ne (by omega)]; rw [zo 186 (by decide) (by decide)]
    have t186 : f 186 (h 11 2) = (h 0 10) := by rw [← hf, zst_ne (by omega), zst_self]
    have tn : f 169 28 = h 11 2 + 1 := by rw [← hf, zst_self]
    clear hf a b eg
    refine ⟨tp.tr (by rw [eo 1 (by omega)]) (e9 2 (by omega)) (eo 170 (by omega)) (eo 2 (by omega)), nm.tr (fun k _ _ => by rw [eo 0 (by omega)]) (fun k hk => e9 k (by omega)), me.tr (by rw [eo 3 (by omega)]) (e9 25 (by omega)) (fun o ho => eo o (by omega)), bi.tr (eo 7 (by omega)) (eo 8 (by omega)) e3 (e9 26 (by omega)) (fun o _ _ => eo o (by omega)) e10, fa.tr (eo 9 (by omega)) (eo 10 (by omega)) e3 (e9 27 (by omega)) (fun o _ _ => eo o (by omega)) e10, ⟨ex.1.add (by rw [eL]; exact z1) (by rw [eL]; exact z2) (by omega) (by rw [tn, s9]) (fun q hq => by show f 12 q = h 12 q; rw [eM]; exact zl q hq) (by show f 12 (h 11 2 * 6) = _; rw [eM]; exact zr.1) (by rw [eo 0 (by omega)]) (by omega) (List.forall_mem_cons.mpr ⟨⟨⟨by decide, by decide⟩, r186, by show f 186 (h 11 2) = f 12 (h 11 2 * 6 + 0); rw [t186, eM]; rw [Int.add_zero]; exact zr.1.symm⟩, List.forall_mem_cons.mpr ⟨⟨⟨by decide, by decide⟩, r183, by show f 183 (h 11 2) = f 12 (h 11 2 * 6 + 1); rw [t183, eM]; have := zr.2.1; omega⟩, List.forall_mem_cons.mpr ⟨⟨⟨by decide, by decide⟩, r184, by show f 184 (h 11 2) = f 12 (h 11 2 * 6 + 2); rw [t184, eM]; have := zr.2.2.1; omega⟩, List.forall_mem_cons.mpr ⟨⟨⟨by decide, by decide⟩, r185, by show f 185 (h 11 2) = f 12 (h 11 2 * 6 + 3); rw [t185, eM]; have := zr.2.2.2.1; omega⟩, fun p hp => by cases hp⟩⟩⟩⟩), fun r r0 r1 => ?_⟩, sa.tr (eo 13 (by omega)) (eo 14 (by omega)) e3 (e9 29 (by omega)) (fun o _ _ => eo o (by omega)) e10, se.tr (eo 15 (by omega)) (eo 16 (by omega)) e3 (e9 85 (by omega)) (fun o _ _ => eo o (by omega)) e10, lw.tr (by rw [eo 0 (by omega)]) e10 (e9 45 (by omega)) (fun o ho => eo o (by omega)) (fun o k _ _ _ => by rw [eo o (by omega)]), lt.tr (by rw [eo 0 (by omega)]) (e9 65 (by omega)) (fun o l _ _ ho => eo o (by omega)) (fun l q l0 l1 q0 q1 => by rw [eo (125 + 14 * l) (by omega), eo (113 + 14 * l) (by omega)]; exact lt.2.2.2.2.2 l q l0 l1 q0 q1), fl.tr (by rw [eo 44 (by omega)]) (e9 96 (by omega)) (fun o ho => eo o (by omega)), md.tr (by rw [eo 0 (by omega)]) (e9 89 (by omega)) (eo 64 (by omega)) (eo 228 (by omega)), fun k k0 k1 => by rw [eo 200 (by omega)]; exact bl k k0 k1⟩
    rw [eL, z2] at r1
    rw [eM, eo 3 (by omega)]
    by_cases e : r = h 11 2
    · rw [e]
      obtain ⟨q0, q1, q2, q3, q4, q5⟩ := zr
      rw [q1]; omega
    · rw [zl _ (by omega)]
      exact ex.2 r r0 (by omega)
  · have cm : ¬ (((0 ≤ m ∧ m < h 3 0) ∧ (0 ≤ x ∧ x ≤ 7) ∧ 0 ≤ y ∧ y ≤ 9) ∧ h 11 2 ≠ 60) := by omega
    have ag : (if (0 ≤ m ∧ m < h 3 0) ∧ (0 ≤ x ∧ x < 8) ∧ 0 ≤ y ∧ y ≤ 9 then zaddr h 11 (h 0 10) m x y 0 0 else h) = h := by
      by_cases c1 : (0 ≤ m ∧ m < h 3 0) ∧ (0 ≤ x ∧ x < 8) ∧ 0 ≤ y ∧ y ≤ 9
      · rw [if_pos c1]
        exact if_neg (fun z => c ⟨c1, z⟩)
      · exact if_neg c1
    rw [ag, zb_f c] at a
    have b := f_X11_exam (X := X) (dep := dep) m x y (h := h) (by rw [m25]; exact m3) (by rw [s9]; exact s0) hdep
    rw [m25, s9, if_neg cm, zb_f cm] at b
    exact vP1.F a b rfl I.th
theorem v_same (x y : Int) (I : vI h) (hdep : 2 ≤ dep) : vP1 X dep mX10_same mX11_same [xI x, xI y] h := by
  have J := I
  obtain ⟨tp, nm, me, bi, fa, ex, sa, se, lw, lt, fl, md, bl⟩ := J
  have lg := sa.1
  have d10 := nm.1
  have m25 := me.2.1
  have m3 := me.1
  have s0 := lg.1
  have s1 := lg.2.1
  have s9 := lg.2.2.1
  have a := f_X10_same (X := X) (dep := dep) x y (h := h) (by rw [s1]; omega) (by omega)
  by_cases c : ((0 ≤ x ∧ x < h 3 0) ∧ (0 ≤ y ∧ y < h 3 0) ∧ x ≠ y) ∧ h 13 2 < h 13 1
  · rw [if_pos c.1, zb_t c] at a
    have eg : zaddr h 13 (h 0 10) x y 0 0 0 = zadd h 13 (h 0 10) x y 0 0 0 := if_pos c.2
    rw [eg] at a
    have z1 : zadd h 13 (h 0 10) x y 0 0 0 13 1 = h 13 1 := zadd_k (by decide)
    have z2 : zadd h 13 (h 0 10) x y 0 0 0 13 2 = h 13 2 + 1 := zadd_2
    have zl : ∀ q : Int, q < h 13 2 * 6 → zadd h 13 (h 0 10) x y 0 0 0 14 q = h 14 q := fun q hq => zadd_l (o := 13) hq
    have zr : _ := zadd_r (h := h) (o := 13) (a := h 0 10) (b := x) (c := y) (d := 0) (e := 0) (f := 0)
    have zo : ∀ p : Int, p ≠ 13 → p ≠ 14 → zadd h 13 (h 0 10) x y 0 0 0 p = h p := fun p h1 h2 => zadd_o h1 h2
    rw [show (13 : Int) + 1 = 14 from rfl] at zr
    generalize zadd h 13 (h 0 10) x y 0 0 0 = g at *
    have g25 : g 169 25 = h 3 0 := by rw [zo 169 (by decide) (by decide)]; exact m25
    have gn : g 169 29 = h 13 2 := by rw [zo 169 (by decide) (by decide)]; exact s9
    have g5 : g 169 5 = h 0 10 := by rw [zo 169 (by decide) (by decide)]; exact d10.1
    have b := f_X11_same (X := X) (dep := dep) x y (h := g) (by rw [g25]; exact m3) (by rw [gn]; exact s0) hdep
    have cm : ((0 ≤ x ∧ x < h 3 0) ∧ (0 ≤ y ∧ y < h 3 0) ∧ x ≠ y) ∧ h 13 2 ≠ 40 := by omega
    rw [g25, gn, g5, if_pos cm, zb_t cm] at b
    refine vP1.F a b rfl ?_
    generalize hf : zst (zst (zst (zst (zst g 169 0 0) 187 (h 13 2) x) 188 (h 13 2) y) 189 (h 13 2) (h 0 10)) 169 29 (h 13 2 + 1) = f
    have eg1 : ∀ p : Int, p ≠ 169 → (p < 187 ∨ 189 < p) → f p = g p := fun p h1 h2 => by rw [← hf, zfn (by omega), zfn (by omega), zfn (by omega), zfn (by omega), zfn (by omega)]
    have eo : ∀ p : Int, p ≠ 13 ∧ p ≠ 14 ∧ p ≠ 169 ∧ (p < 187 ∨ 189 < p) → f p = h p := fun p hp => (eg1 p hp.2.2.1 hp.2.2.2).trans (zo p hp.1 hp.2.1)
    have e9 : ∀ k : Int, k ≠ 0 ∧ k ≠ 29 → f 169 k = h 169 k := fun k hk => by rw [← hf, zst_ne (by omega), zst_ne (by omega), zst_ne (by omega), zst_ne (by omega), zst_ne (by omega)]; rw [zo 169 (by decide) (by decide)]
    have e3 : h 3 0 ≤ f 3 0 := by rw [eo 3 (by omega)]; exact Int.le_refl _
    have e10 : h 0 10 ≤ f 0 10 := by rw [eo 0 (by omega)]; exact Int.le_refl _
    have eL : f 13 = g 13 := eg1 13 (by decide) (by decide)
    have eM : f 14 = g 14 := eg1 14 (by decide) (by decide)
    have r187 : ∀ r : Int, r ≠ h 13 2 → f 187 r = h 187 r := fun r hr => by rw [← hf, zst_ne (by omega), zst_ne (by omega), zst_ne (by omega), zst_ne (by omega), zst_ne (by omega)]; rw [zo 187 (by decide) (by decide)]
    have t187 : f 187 (h 13 2) = x := by rw [← hf, zst_ne (by omega), zst_ne (by omega), zst_ne (by omega), zst_self]
    have r188 : ∀ r : Int, r ≠ h 13 2 → f 188 r = h 188 r := fun r hr => by rw [← hf, zst_ne (by omega), zst_ne (by omega), zst_ne (by omega), zst_ne (by omega), zst_ne (by omega)]; rw [zo 188 (by decide) (by decide)]
    have t188 : f 188 (h 13 2) = y := by rw [← hf, zst_ne (by omega), zst_ne (by omega), zst_self]
    have r189 : ∀ r : Int, r ≠ h 13 2 → f 189 r = h 189 r := fun r hr => by rw [← hf, zst_ne (by omega), zst_ne (by omega), zst_ne (by omega), zst_ne (by omega), zst_ne (by omega)]; rw [zo 189 (by decide) (by decide)]
    have t189 : f 189 (h 13 2) = (h 0 10) := by rw [← hf, zst_ne (by omega), zst_self]
    have tn : f 169 29 = h 13 2 + 1 := by rw [← hf, zst_self]
    clear hf a b eg
    refine ⟨tp.tr (by rw [eo 1 (by omega)]) (e9 2 (by omega)) (eo 170 (by omega)) (eo 2 (by omega)), nm.tr (fun k _ _ => by rw [eo 0 (by omega)]) (fun k hk => e9 k (by omega)), me.tr (by rw [eo 3 (by omega)]) (e9 25 (by omega)) (fun o ho => eo o (by omega)), bi.tr (eo 7 (by omega)) (eo 8 (by omega)) e3 (e9 26 (by omega)) (fun o _ _ => eo o (by omega)) e10, fa.tr (eo 9 (by omega)) (eo 10 (by omega)) e3 (e9 27 (by omega)) (fun o _ _ => eo o (by omega)) e10, ex.tr (eo 11 (by omega)) (eo 12 (by omega)) e3 (e9 28 (by omega)) (fun o _ _ => eo o (by omega)) e10, ⟨sa.1.add (by rw [eL]; exact z1) (by rw [eL]; exact z2) (by omega) (by rw [tn, s9]) (fun q hq => by show f 14 q = h 14 q; rw [eM]; exact zl q hq) (by show f 14 (h 13 2 * 6) = _; rw [eM]; exact zr.1) (by rw [eo 0 (by omega)]) (by omega) (List.forall_mem_cons.mpr ⟨⟨⟨by decide, by decide⟩, r189, by show f 189 (h 13 2) = f 14 (h 13 2 * 6 + 0); rw [t189, eM]; rw [Int.add_zero]; exact zr.1.symm⟩, List.forall_mem_cons.mpr ⟨⟨⟨by decide, by decide⟩, r187, by show f 187 (h 13 2) = f 14 (h 13 2 * 6 + 1); rw [t187, eM]; have := zr.2.1; omega⟩, List.forall_mem_cons.mpr ⟨⟨⟨by decide, by decide⟩, r188, by show f 188 (h 13 2) = f 14 (h 13 2 * 6 + 2); rw [t188, eM]; have := zr.2.2.1; omega⟩, fun p hp => by cases hp⟩⟩⟩), fun r r0 r1 => ?_⟩, se.tr (eo 15 (by omega)) (eo 16 (by omega)) e3 (e9 85 (by omega)) (fun o _ _ => eo o (by omega)) e10, lw.tr (by rw [eo 0 (by omega)]) e10 (e9 45 (by omega)) (fun o ho => eo o (by omega)) (fun o k _ _ _ => by rw [eo o (by omega)]), lt.tr (by rw [eo 0 (by omega)]) (e9 65 (by omega)) (fun o l _ _ ho => eo o (by omega)) (fun l q l0 l1 q0 q1 => by rw [eo (125 + 14 * l) (by omega), eo (113 + 14 * l) (by omega)]; exact lt.2.2.2.2.2 l q l0 l1 q0 q1), fl.tr (by rw [eo 44 (by omega)]) (e9 96 (by omega)) (fun o ho => eo o (by omega)), md.tr (by rw [eo 0 (by omega)]) (e9 89 (by omega)) (eo 64 (by omega)) (eo 228 (by omega)), fun k k0 k1 => by rw [eo 200 (by omega)]; exact bl k k0 k1⟩
    rw [eL, z2] at r1
    rw [eM, eo 3 (by omega)]
    by_cases e : r = h 13 2
    · rw [e]
      obtain ⟨q0, q1, q2, q3, q4, q5⟩ := zr
      rw [q1, q2]; omega
    · rw [zl _ (by omega), zl _ (by omega)]
      exact sa.2 r r0 (by omega)
  · have cm : ¬ (((0 ≤ x ∧ x < h 3 0) ∧ (0 ≤ y ∧ y < h 3 0) ∧ x ≠ y) ∧ h 13 2 ≠ 40) := by omega
    have ag : (if (0 ≤ x ∧ x < h 3 0) ∧ (0 ≤ y ∧ y < h 3 0) ∧ x ≠ y then zaddr h 13 (h 0 10) x y 0 0 0 else h) = h := by
      by_cases c1 : (0 ≤ x ∧ x < h 3 0) ∧ (0 ≤ y ∧ y < h 3 0) ∧ x ≠ y
      · rw [if_pos c1]
        exact if_neg (fun z => c ⟨c1, z⟩)
      · exact if_neg c1
    rw [ag, zb_f c] at a
    have b := f_X11_same (X := X) (dep := dep) x y (h := h) (by rw [m25]; exact m3) (by rw [s9]; exact s0) hdep
    rw [m25, s9, if_neg cm, zb_f cm] at b
    exact vP1.F a b rfl I.th
end
