/-! send -/
section
variable {h : zH}
/-- a LINE that says whether one may send -/
theorem v_lineS {c m : zH} {o mm l L w : Int} (hm : 0 ≤ mm ∧ mm < 60) (r : vLr c m L w) (q : vAq c m o mm l) (q9 : c L 5 ≠ 0 → vAs c m o mm l) : (if zline c L (o + 4) (mm * 11) 4 < 0 ∨ c L 6 ≤ zline c L (o + 4) (mm * 11) 4 then (1 : Int) else c (L + 2) (zline c L (o + 4) (mm * 11) 4)) = 1 ↔ mline m w 4 mm l < 0 ∨ m 200 (mline m w 4 mm l) = 0 := by
  rcases r with ⟨w0, zl⟩ | ⟨w0, V, zl, ml, h20, hV, ok, rp⟩
  · have l6 : c L 6 = 0 := zl.1
    unfold zline mline
    rw [if_pos w0, l6]
    exact ⟨fun _ => Or.inl (by decide), fun _ => rfl⟩
  · have q9' : (∃ x ∈ V.2.1, zSrv x) → vAs c m o mm l := fun ⟨x, hx, sx⟩ => q9 (fun z => (zl.2.2.2.2.2.1.mp z) x hx sx)
    have z := v_line hm w0 zl ml h20 hV ok rp q q9' 4
    have kk := zlf_kind c L (o + 4) (mm * 11) 4 (c L 6).toNat 0
    have ez : zlf c L (o + 4) (mm * 11) 4 (c L 6).toNat 0 = zline c L (o + 4) (mm * 11) 4 := rfl
    rw [ez] at kk
    rcases z with z | ⟨z1, z2⟩
    · rw [z.1, z.2]
      exact ⟨fun _ => Or.inl (by decide), fun _ => if_pos (Or.inl (by decide))⟩
    · have k := kk (by omega)
      have l6 := zl.1
      generalize zline c L (o + 4) (mm * 11) 4 = i at *
      have hi : i.toNat < V.1.length := by omega
      have r1 := zl.2.2.2.2.2.2.1 i.toNat hi
      have r2 := ml.2.2.2.2.1 i.toNat hi
      have hx : V.1.getD i.toNat (0, 0, 0, 0) ∈ V.1 := by
        rw [List.getD_eq_getElem?_getD, List.getElem?_eq_getElem hi]
        exact List.getElem_mem _
      rw [Int.toNat_of_nonneg z1.1] at r1 r2
      generalize V.1.getD i.toNat (0, 0, 0, 0) = x at r1 r2 hx
      have o1 := (ok x hx).2.2.2.2
      obtain ⟨-, -, r200, -, -⟩ := r2
      have x4 : x.1 = 4 := by rw [← r1.1, k]
      have o2 := o1 x4
      rw [z2, r200, if_neg (by omega), r1.2.1]
      rcases o2 with y | y
      · rw [y, if_pos ⟨x4, rfl⟩]
        exact ⟨fun z => absurd z (by decide), fun z => by rcases z with z | z <;> omega⟩
      · rw [y, if_neg (fun z => absurd z.2 (by decide))]
        exact ⟨fun _ => Or.inr rfl, fun _ => rfl⟩
theorem zwse_is (h : zH) (num m : Int) : ∀ n : Nat, zwse h num n m = 0 ∧ (∀ k : Int, 0 ≤ k → k < n → ¬ (zget h 15 k 1 = num ∧ zget h 15 k 3 = m)) ∨ zwse h num n m = 1 ∧ ∃ k : Int, (0 ≤ k ∧ k < n) ∧ zget h 15 k 1 = num ∧ zget h 15 k 3 = m
  | 0 => Or.inl ⟨rfl, fun k k0 k1 => absurd k1 (by omega)⟩
  | n + 1 => by
    have st : zwse h num (n + 1) m = if zget h 15 n 1 = num ∧ zget h 15 n 3 = m then 1 else zwse h num n m := rfl
    rw [st]
    by_cases y : zget h 15 n 1 = num ∧ zget h 15 n 3 = m
    · rw [if_pos y]
      exact Or.inr ⟨rfl, n, by omega, y⟩
    · rw [if_neg y]
      rcases zwse_is h num m n with ⟨z1, z2⟩ | ⟨z1, k, k0, k1⟩
      · refine Or.inl ⟨z1, fun k k0 k1 => ?_⟩
        by_cases e : k = n
        · rw [e]; exact y
        · exact z2 k k0 (by omega)
      · exact Or.inr ⟨z1, k, by omega, k1⟩
/-- now, all sendings are known -/
theorem vI.nowE (I : vI h) : zknown h 15 (h 0 10) = h 15 2 := by
  have se := I.2.2.2.2.2.2.2.1
  have kn := se.1.known (h 0 10)
  have s0 := se.1.1
  by_cases z : h 15 2 = 0
  · omega
  · have := (kn.2 (h 15 2 - 1) (by omega) (by omega)).mp (se.1.2.2.2.2.2 (h 15 2 - 1) (by omega) (by omega)).2
    omega
theorem v_wsent (I : vI h) {f : zH} (e : ∀ o : Int, 224 ≤ o → o ≤ 227 → f o = h o) (e9 : f 169 85 = h 169 85) (l m : Int) : (zwse h l (zknown h 15 (h 0 10)).toNat m ≠ 0 ↔ mws f l m) ∧ (zwse h l (zknown h 15 (h 0 10)).toNat m = 0 ∨ zwse h l (zknown h 15 (h 0 10)).toNat m = 1) := by
  have se := I.2.2.2.2.2.2.2.1
  have s9 := se.1.2.2.1
  have s0 := se.1.1
  rw [I.nowE]
  unfold mws
  rw [e9, s9, e 224 (by decide) (by decide), e 226 (by decide) (by decide)]
  rcases zwse_is h l m (h 15 2).toNat with ⟨z1, z2⟩ | ⟨z1, k, k0, k1⟩
  · rw [z1]
    refine ⟨⟨fun y => absurd rfl y, fun ⟨k, k0, k1⟩ => ?_⟩, Or.inl rfl⟩
    have r := I.rowE k0.1 k0.2
    exact absurd ⟨by rw [← r.1]; exact k1.1, by rw [← r.2.2.1]; exact k1.2⟩ (z2 k k0.1 (by omega))
  · rw [z1]
    have r := I.rowE k0.1 (show k < h 15 2 by omega)
    exact ⟨⟨fun _ => ⟨k, by omega, by rw [r.1]; exact k1.1, by rw [r.2.2.1]; exact k1.2⟩, fun _ => by decide⟩, Or.inr rfl⟩
/-- a sending more -/
theorem vI.sendrow {k f : zH} (K : vI k) {l a b : Int} (room : k 15 2 < 60) (ha : 0 ≤ a ∧ a < k 3 0) (hb : 0 ≤ b ∧ b < k 3 0) (ab : a ≠ b) (un : ∀ j : Int, 0 ≤ j → j < k 15 2 → k 16 (j * 6 + 1) = l → k 16 (j * 6 + 2) ≠ a ∧ k 16 (j * 6 + 2) ≠ b) (eo : ∀ o : Int, o ≠ 15 ∧ o ≠ 16 ∧ o ≠ 169 ∧ (o < 224 ∨ 227 < o) → f o = k o) (e9 : ∀ q : Int, q ≠ 0 ∧ q ≠ 85 → f 169 q = k 169 q) (z1 : f 15 1 = k 15 1) (z2 : f 15 2 = k 15 2 + 1) (zl : ∀ q : Int, q < k 15 2 * 6 → f 16 q = k 16 q) (zr : f 16 (k 15 2 * 6) = k 0 10 ∧ f 16 (k 15 2 * 6 + 1) = l ∧ f 16 (k 15 2 * 6 + 2) = a ∧ f 16 (k 15 2 * 6 + 3) = b) (tn : f 169 85 = k 169 85 + 1)
    (r224 : (∀ r : Int, r ≠ k 15 2 → f 224 r = k 224 r) ∧ f 224 (k 15 2) = l) (r225 : (∀ r : Int, r ≠ k 15 2 → f 225 r = k 225 r) ∧ f 225 (k 15 2) = a) (r226 : (∀ r : Int, r ≠ k 15 2 → f 226 r = k 226 r) ∧ f 226 (k 15 2) = b) (r227 : (∀ r : Int, r ≠ k 15 2 → f 227 r = k 227 r) ∧ f 227 (k 15 2) = k 0 10) : vI f := by
  obtain ⟨tp, nm, me, bi, fa, ex, sa, se, lw, lt, fl, md, bl⟩ := K
  have d10 := nm.1
  have e3 : k 3 0 ≤ f 3 0 := by rw [eo 3 (by omega)]; exact Int.le_refl _
  have e10 : k 0 10 ≤ f 0 10 := by rw [eo 0 (by omega)]; exact Int.le_refl _
  obtain ⟨q0, q1, q2, q3⟩ := zr
  refine ⟨tp.tr (by rw [eo 1 (by omega)]) (e9 2 (by omega)) (eo 170 (by omega)) (eo 2 (by omega)), nm.tr (fun k _ _ => by rw [eo 0 (by omega)]) (fun k hk => e9 k (by omega)), me.tr (by rw [eo 3 (by omega)]) (e9 25 (by omega)) (fun o ho => eo o (by omega)), bi.tr (eo 7 (by omega)) (eo 8 (by omega)) e3 (e9 26 (by omega)) (fun o _ _ => eo o (by omega)) e10, fa.tr (eo 9 (by omega)) (eo 10 (by omega)) e3 (e9 27 (by omega)) (fun o _ _ => eo o (by omega)) e10, ex.tr (eo 11 (by omega)) (eo 12 (by omega)) e3 (e9 28 (by omega)) (fun o _ _ => eo o (by omega)) e10, sa.tr (eo 13 (by omega)) (eo 14 (by omega)) e3 (e9 29 (by omega)) (fun o _ _ => eo o (by omega)) e10, ⟨se.1.add z1 z2 (by omega) tn zl q0 (by rw [eo 0 (by omega)]) (by omega) (List.forall_mem_cons.mpr ⟨⟨⟨by decide, by decide⟩, r227.1, by show f 227 (k 15 2) = f 16 (k 15 2 * 6 + 0); rw [r227.2, Int.add_zero]; exact q0.symm⟩, List.forall_mem_cons.mpr ⟨⟨⟨by decide, by decide⟩, r224.1, by show f 224 (k 15 2) = f 16 (k 15 2 * 6 + 1); rw [r224.2]; exact q1.symm⟩, List.forall_mem_cons.mpr ⟨⟨⟨by decide, by decide⟩, r225.1, by show f 225 (k 15 2) = f 16 (k 15 2 * 6 + 2); rw [r225.2]; exact q2.symm⟩, List.forall_mem_cons.mpr ⟨⟨⟨by decide, by decide⟩, r226.1, by show f 226 (k 15 2) = f 16 (k 15 2 * 6 + 3); rw [r226.2]; exact q3.symm⟩, fun p hp => by cases hp⟩⟩⟩⟩), fun r r0 r1 => ?_⟩, lw.tr (by rw [eo 0 (by omega)]) e10 (e9 45 (by omega)) (fun o ho => eo o (by omega)) (fun o q _ _ _ => by rw [eo o (by omega)]), lt.tr (by rw [eo 0 (by omega)]) (e9 65 (by omega)) (fun o l _ _ ho => eo o (by omega)) (fun l q l0 l1 q0 q1 => by rw [eo (125 + 14 * l) (by omega), eo (113 + 14 * l) (by omega)]; exact lt.2.2.2.2.2 l q l0 l1 q0 q1), fl.tr (by rw [eo 44 (by omega)]) (e9 96 (by omega)) (fun o ho => eo o (by omega)), md.tr (by rw [eo 0 (by omega)]) (e9 89 (by omega)) (eo 64 (by omega)) (eo 228 (by omega)), fun k k0 k1 => by rw [eo 200 (by omega)]; exact bl k k0 k1⟩
  rw [z2] at r1
  rw [eo 3 (by omega)]
  by_cases e : r = k 15 2
  · rw [e, q1, q2, q3]
    refine ⟨⟨ha, hb⟩, fun j j0 j1 ej => ?_⟩
    by_cases e2 : j = k 15 2
    · rw [e2, q2]
      exact ⟨ab, fun z => absurd z (by omega)⟩
    · rw [zl _ (by omega)] at ej
      rw [zl _ (by omega)]
      have u := un j j0 (by omega) ej
      exact ⟨u.2, fun _ => u.1⟩
  · rw [zl _ (by omega), zl _ (by omega), zl _ (by omega)]
    have s := se.2 r r0 (by omega)
    refine ⟨s.1, fun j j0 j1 ej => ?_⟩
    rw [zl _ (by omega)] at ej
    rw [zl _ (by omega)]
    exact s.2 j j0 j1 ej
end
