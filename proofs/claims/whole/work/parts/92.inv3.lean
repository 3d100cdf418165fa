/-! calls that read or tell little -/
theorem zfn {h : zH} {o k x p : Int} (hp : p ≠ o) : zst h o k x p = h p := funext fun _ => zst_ne (Or.inl hp)
section
variable {h f : zH}
/-- what writes the tape alone -/
theorem vI.tape (I : vI h) (tp : vTp f) (ec : ∀ o : Int, o ≠ 1 → o ≠ 2 → o ≠ 170 → o ≠ 169 → f o = h o) (e9 : ∀ k : Int, k ≠ 0 → k ≠ 2 → k ≠ 3 → k ≠ 4 → f 169 k = h 169 k) : vI f :=
  I.to tp (I.2.1.tr (fun k _ _ => by rw [ec 0 (by decide) (by decide) (by decide) (by decide)]) (fun k hk => e9 k (by omega) (by omega) (by omega) (by omega))) (I.2.2.1.tr (by rw [ec 3 (by decide) (by decide) (by decide) (by decide)]) (e9 25 (by decide) (by decide) (by decide) (by decide)) (fun o ho => ec o (by omega) (by omega) (by omega) (by omega))) (by rw [ec 3 (by decide) (by decide) (by decide) (by decide)]) (by rw [ec 0 (by decide) (by decide) (by decide) (by decide)]) (by rw [ec 0 (by decide) (by decide) (by decide) (by decide)]; exact ⟨rfl, rfl, rfl⟩) (fun o ho => ec o (by omega) (by omega) (by omega) (by omega)) (fun o l l0 l1 o0 o1 => ec o (by omega) (by omega) (by omega) (by omega)) (fun l q l0 l1 q0 q1 => by rw [ec (125 + 14 * l) (by omega) (by omega) (by omega) (by omega), ec (113 + 14 * l) (by omega) (by omega) (by omega) (by omega)]; exact I.2.2.2.2.2.2.2.2.2.1.2.2.2.2.2 l q l0 l1 q0 q1) (fun o ho => ec o (by omega) (by omega) (by omega) (by omega)) (fun k hk => e9 k (by omega) (by omega) (by omega) (by omega))
theorem vI.th (I : vI h) : vI (zst h 169 0 0) :=
  I.tape (I.1.tr (zst_ne (Or.inl (by decide))) (zst_ne (Or.inr (by decide))) (zfn (by decide)) (zfn (by decide))) (fun o _ _ _ h9 => zfn h9) (fun k h0 _ _ _ => zst_ne (Or.inr h0))
end
section
variable {X : zX} {dep : Nat} {h : zH}
theorem v_end (n : Int) (I : vI h) : vP1 X dep mX10_end mX11_end [xI n] h := by
  have tp := I.1
  by_cases c : 0 ≤ n ∧ n ≤ h 1 1
  · have a := f_X10_end (X := X) (dep := dep) n (h := h)
    rw [if_pos c, zb_t c] at a
    have b := f_X11_end (X := X) (dep := dep) n (h := zst h 1 1 n)
    have e : zst h 1 1 n 169 2 = h 1 1 := (zst_ne (Or.inl (by decide))).trans tp.2.1
    rw [e, if_pos c, zb_t c] at b
    refine vP1.F a b rfl (I.tape ⟨?_, ?_, fun i i0 i1 => ?_⟩ (fun o h1 _ _ h9 => ?_) (fun k h0 h2 _ _ => ?_))
    · rw [zst_ne (Or.inl (by decide)), zst_ne (Or.inl (by decide)), zst_self]
      have := tp.1
      omega
    · rw [zst_self, zst_ne (Or.inl (by decide)), zst_ne (Or.inl (by decide)), zst_self]
    · rw [zst_ne (Or.inl (by decide)), zst_ne (Or.inl (by decide)), zst_self] at i1
      rw [zfn (by decide), zfn (by decide), zfn (by decide), zfn (by decide), zfn (by decide), zfn (by decide)]
      exact tp.2.2 i i0 (by omega)
    · rw [zfn h9, zfn h9, zfn h1]
    · rw [zst_ne (Or.inr h2), zst_ne (Or.inr h0), zst_ne (Or.inl (by decide))]
  · have a := f_X10_end (X := X) (dep := dep) n (h := h)
    rw [if_neg c, zb_f c] at a
    have b := f_X11_end (X := X) (dep := dep) n (h := h)
    rw [tp.2.1, if_neg c, zb_f c] at b
    exact vP1.F a b rfl I.th
theorem v_next (n : Int) (I : vI h) (hdep : 1 ≤ dep) : vP1 X dep mX10_next mX11_next [xI n] h := by
  have nm := I.2.1
  have d := nm.1
  by_cases c : (0 ≤ n ∧ n ≤ 3639) ∧ h 0 10 + n ≤ 3639
  · have a := f_X10_next (X := X) (dep := dep) n (h := h) d.2 hdep
    rw [if_pos c, if_pos c] at a
    have e : zst h 0 10 (h 0 10 + n) 169 5 = h 0 10 := (zst_ne (Or.inl (by decide))).trans d.1
    have b := f_X11_next (X := X) (dep := dep) n (h := zst h 0 10 (h 0 10 + n)) (by rw [e]; exact d.2) hdep
    rw [e, if_pos c, if_pos c] at b
    refine vP1.F a b rfl ?_
    generalize hf : zst (zst (zst h 0 10 (h 0 10 + n)) 169 0 0) 169 5 (h 0 10 + n) = f
    have eo : ∀ o : Int, o ≠ 0 → o ≠ 169 → f o = h o := fun o h0 h9 => by rw [← hf, zfn h9, zfn h9, zfn h0]
    have e0 : ∀ k : Int, k ≠ 10 → f 0 k = h 0 k := fun k hk => by rw [← hf, zst_ne (Or.inl (by decide)), zst_ne (Or.inl (by decide)), zst_ne (Or.inr hk)]
    have e10 : f 0 10 = h 0 10 + n := by rw [← hf, zst_ne (Or.inl (by decide)), zst_ne (Or.inl (by decide)), zst_self]
    have e9 : ∀ k : Int, k ≠ 0 → k ≠ 5 → f 169 k = h 169 k := fun k h0 h5 => by rw [← hf, zst_ne (Or.inr h5), zst_ne (Or.inr h0), zst_ne (Or.inl (by decide))]
    have e5 : f 169 5 = h 0 10 + n := by rw [← hf, zst_self]
    obtain ⟨tp, nm, me, bi, fa, ex, sa, se, lw, lt, fl, md, bl⟩ := I
    refine ⟨tp.tr (by rw [eo 1 (by decide) (by decide)]) (e9 2 (by decide) (by decide)) (eo 170 (by decide) (by decide)) (eo 2 (by decide) (by decide)), ⟨⟨by rw [e5, e10], by rw [e10]; omega, by rw [e10]; omega⟩, ?_⟩, me.tr (by rw [eo 3 (by decide) (by decide)]) (e9 25 (by decide) (by decide)) (fun o ho => eo o (by omega) (by omega)), bi.tr (eo 7 (by decide) (by decide)) (eo 8 (by decide) (by decide)) (by rw [eo 3 (by decide) (by decide)]; exact Int.le_refl _) (e9 26 (by decide) (by decide)) (fun o _ _ => eo o (by omega) (by omega)) (by omega), fa.tr (eo 9 (by decide) (by decide)) (eo 10 (by decide) (by decide)) (by rw [eo 3 (by decide) (by decide)]; exact Int.le_refl _) (e9 27 (by decide) (by decide)) (fun o _ _ => eo o (by omega) (by omega)) (by omega), ex.tr (eo 11 (by decide) (by decide)) (eo 12 (by decide) (by decide)) (by rw [eo 3 (by decide) (by decide)]; exact Int.le_refl _) (e9 28 (by decide) (by decide)) (fun o _ _ => eo o (by omega) (by omega)) (by omega), sa.tr (eo 13 (by decide) (by decide)) (eo 14 (by decide) (by decide)) (by rw [eo 3 (by decide) (by decide)]; exact Int.le_refl _) (e9 29 (by decide) (by decide)) (fun o _ _ => eo o (by omega) (by omega)) (by omega), se.tr (eo 15 (by decide) (by decide)) (eo 16 (by decide) (by decide)) (by rw [eo 3 (by decide) (by decide)]; exact Int.le_refl _) (e9 85 (by decide) (by decide)) (fun o _ _ => eo o (by omega) (by omega)) (by omega), lw.tr (e0 11 (by decide)) (by omega) (e9 45 (by decide) (by decide)) (fun o ho => eo o (by omega) (by omega)) (fun o k _ _ _ => by rw [eo o (by omega) (by omega)]), lt.tr (e0 12 (by decide)) (e9 65 (by decide) (by decide)) (fun o l _ _ ho => eo o (by omega) (by omega)) (fun l q l0 l1 q0 q1 => by rw [eo (125 + 14 * l) (by omega) (by omega), eo (113 + 14 * l) (by omega) (by omega)]; exact lt.2.2.2.2.2 l q l0 l1 q0 q1), fl.tr (by rw [eo 44 (by decide) (by decide)]) (e9 96 (by decide) (by decide)) (fun o ho => eo o (by omega) (by omega)), md.tr (e0 9 (by decide)) (e9 89 (by decide) (by decide)) (eo 64 (by decide) (by decide)) (eo 228 (by decide) (by decide)), fun k k0 k1 => by rw [eo 200 (by decide) (by decide)]; exact bl k k0 k1⟩
    rw [e9 53 (by decide) (by decide), e9 87 (by decide) (by decide), e9 90 (by decide) (by decide), e9 91 (by decide) (by decide), e0 13 (by decide), e0 14 (by decide), e0 15 (by decide), e0 16 (by decide)]
    exact nm.2
  · have a := f_X10_next (X := X) (dep := dep) n (h := h) d.2 hdep
    rw [if_neg c, if_neg c] at a
    have b := f_X11_next (X := X) (dep := dep) n (h := h) (by rw [d.1]; exact d.2) hdep
    rw [d.1, if_neg c, if_neg c] at b
    exact vP1.F a b rfl I.th
theorem v_fault (I : vI h) : vP1 X dep mX10_fault mX11_fault [] h := vP1.F f_X10_fault f_X11_fault I.2.1.2.1 I.th
theorem v_why (I : vI h) : vP1 X dep mX10_why mX11_why [] h := vP1.F f_X10_why f_X11_why I.2.1.2.2.1 I.th
theorem v_count (w : Int) (I : vI h) : vP1 X dep mX10_count mX11_count [xI w] h := by
  refine vP1.F (f_X10_count w) (f_X11_count w) ?_ I.th
  obtain ⟨tp, nm, me, bi, fa, ex, sa, se, lw, lt, fl, md, bl⟩ := I
  rw [nm.1.1, me.2.1, lt.2.1, lw.2.1, fa.1.2.2.1, ex.1.2.2.1, se.1.2.2.1, nm.2.2.2.1.1, nm.2.2.2.2.1, tp.2.1]
theorem v_gone (p w : Int) (I : vI h) (hdep : 1 ≤ dep) : vP1 X dep mX10_gone mX11_gone [xI p, xI w] h := by
  refine vP1.F (f_X10_gone p w hdep) (f_X11_gone p w hdep) ?_ I.th
  obtain ⟨tp, nm, me, bi, fa, ex, sa, se, lw, lt, fl, md, bl⟩ := I
  rw [fl.1]
  by_cases c : (0 ≤ p ∧ p < 8) ∧ (0 ≤ w ∧ w < 12) ∧ h 44 2 ≠ 0
  · rw [if_pos c, if_pos (by omega)]
    exact (fl.2 p w c.1.1 c.1.2 c.2.1.1 c.2.1.2).2.1
  · rw [if_neg c, if_neg (by omega)]
theorem v_mendedAt (k : Int) (I : vI h) : vP1 X dep mX10_mendedAt mX11_mendedAt [xI k] h := by
  have md := I.2.2.2.2.2.2.2.2.2.2.2.1
  refine vP1.F (f_X10_mendedAt k md.1) (f_X11_mendedAt k (by rw [md.2.1]; exact md.1)) ?_ I.th
  rw [md.2.1]
  by_cases c : 0 ≤ k ∧ k < h 0 9
  · rw [if_pos c, if_pos c]
    exact md.2.2 k c.1 c.2
  · rw [if_neg c, if_neg c]
theorem v_hands (p w n : Int) (I : vI h) (hdep : 1 ≤ dep) : vP1 X dep mX10_hands mX11_hands [xI p, xI w, xI n] h := by
  by_cases c : (0 ≤ p ∧ p < 8) ∧ (0 ≤ w ∧ w < 12) ∧ 0 ≤ n ∧ n ≤ 60
  · have c' : (0 ≤ p ∧ p ≤ 7) ∧ (0 ≤ w ∧ w ≤ 11) ∧ 0 ≤ n ∧ n ≤ 60 := by omega
    have a := f_X10_hands (X := X) (dep := dep) p w n (h := h) hdep
    rw [if_pos c, zb_t c] at a
    have b := f_X11_hands (X := X) (dep := dep) p w n (h := zst h (46 + p) w n) hdep
    rw [if_pos c', zb_t c'] at b
    refine vP1.F a b rfl ?_
    generalize hf : zst (zst (zst h (46 + p) w n) 169 0 0) 235 (12 * p + w) n = f
    have eo : ∀ o : Int, (o < 46 ∨ 53 < o) → o ≠ 235 → o ≠ 169 → f o = h o := fun o h0 h5 h9 => by rw [← hf, zfn h5, zfn h9, zfn (by omega)]
    have e9 : ∀ k : Int, k ≠ 0 → f 169 k = h 169 k := fun k h0 => by rw [← hf, zst_ne (Or.inl (by decide)), zst_ne (Or.inr h0), zst_ne (Or.inl (by omega))]
    obtain ⟨tp, nm, me, bi, fa, ex, sa, se, lw, lt, fl, md, bl⟩ := I
    have e3 : h 3 0 ≤ f 3 0 := by rw [eo 3 (by decide) (by decide) (by decide)]; exact Int.le_refl _
    have e10 : h 0 10 ≤ f 0 10 := by rw [eo 0 (by decide) (by decide) (by decide)]; exact Int.le_refl _
    refine ⟨tp.tr (by rw [eo 1 (by decide) (by decide) (by decide)]) (e9 2 (by decide)) (eo 170 (by decide) (by decide) (by decide)) (eo 2 (by decide) (by decide) (by decide)), nm.tr (fun k _ _ => by rw [eo 0 (by decide) (by decide) (by decide)]) (fun k hk => e9 k (by omega)), me.tr (by rw [eo 3 (by decide) (by decide) (by decide)]) (e9 25 (by decide)) (fun o ho => eo o (by omega) (by omega) (by omega)), bi.tr (eo 7 (by decide) (by decide) (by decide)) (eo 8 (by decide) (by decide) (by decide)) e3 (e9 26 (by decide)) (fun o _ _ => eo o (by omega) (by omega) (by omega)) e10, fa.tr (eo 9 (by decide) (by decide) (by decide)) (eo 10 (by decide) (by decide) (by decide)) e3 (e9 27 (by decide)) (fun o _ _ => eo o (by omega) (by omega) (by omega)) e10, ex.tr (eo 11 (by decide) (by decide) (by decide)) (eo 12 (by decide) (by decide) (by decide)) e3 (e9 28 (by decide)) (fun o _ _ => eo o (by omega) (by omega) (by omega)) e10, sa.tr (eo 13 (by decide) (by decide) (by decide)) (eo 14 (by decide) (by decide) (by decide)) e3 (e9 29 (by decide)) (fun o _ _ => eo o (by omega) (by omega) (by omega)) e10, se.tr (eo 15 (by decide) (by decide) (by decide)) (eo 16 (by decide) (by decide) (by decide)) e3 (e9 85 (by decide)) (fun o _ _ => eo o (by omega) (by omega) (by omega)) e10, lw.tr (by rw [eo 0 (by decide) (by decide) (by decide)]) e10 (e9 45 (by decide)) (fun o ho => eo o (by omega) (by omega) (by omega)) (fun o k _ _ _ => by rw [eo o (by omega) (by omega) (by omega)]), lt.tr (by rw [eo 0 (by decide) (by decide) (by decide)]) (e9 65 (by decide)) (fun o l _ _ ho => eo o (by omega) (by omega) (by omega)) (fun l q l0 l1 q0 q1 => by rw [eo (125 + 14 * l) (by omega) (by omega) (by omega), eo (113 + 14 * l) (by omega) (by omega) (by omega)]; exact lt.2.2.2.2.2 l q l0 l1 q0 q1), ⟨by rw [eo 44 (by decide) (by decide) (by decide), e9 96 (by decide)]; exact fl.1, fun q v q0 q1 v0 v1 => ?_⟩, md.tr (by rw [eo 0 (by decide) (by decide) (by decide)]) (e9 89 (by decide)) (eo 64 (by decide) (by decide) (by decide)) (eo 228 (by decide) (by decide) (by decide)), fun k k0 k1 => by rw [eo 200 (by decide) (by decide) (by decide)]; exact bl k k0 k1⟩
    have r := fl.2 q v q0 q1 v0 v1
    rw [eo 236 (by decide) (by decide) (by decide), eo (55 + q) (by omega) (by omega) (by omega)]
    by_cases e : q = p ∧ v = w
    · rw [e.1, e.2] at r ⊢
      have e1 : f 235 (12 * p + w) = n := by rw [← hf, zst_self]
      have e2 : f (46 + p) w = n := by rw [← hf, zst_ne (Or.inl (by omega)), zst_ne (Or.inl (by omega)), zst_self]
      rw [e1, e2]
      exact ⟨rfl, r.2.1, by omega, r.2.2.2⟩
    · have e1 : f 235 (12 * q + v) = h 235 (12 * q + v) := by rw [← hf, zst_ne (Or.inr (by omega)), zst_ne (Or.inl (by decide)), zst_ne (Or.inl (by omega))]
      have e2 : f (46 + q) v = h (46 + q) v := by rw [← hf, zst_ne (Or.inl (by omega)), zst_ne (Or.inl (by omega)), zst_ne (by omega)]
      rw [e1, e2]
      exact r
  · have a := f_X10_hands (X := X) (dep := dep) p w n (h := h) hdep
    rw [if_neg c, zb_f c] at a
    have b := f_X11_hands (X := X) (dep := dep) p w n (h := h) hdep
    rw [if_neg (by omega), zb_f (by omega)] at b
    exact vP1.F a b rfl I.th
end
