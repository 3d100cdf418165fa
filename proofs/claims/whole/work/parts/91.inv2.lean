/-! what the invariant tells each side -/
theorem vlaw {h : zH} {L : Int} {V : zLV} (w : zLi h L V) (v3 : V.1.length ≤ 20) (v4 : V.2.1.length ≤ 120) (v5 : zVok V) : zLawOK h L ∧ zClsOK h L := by
  have w6 := w.1
  have row : ∀ l : Int, 0 ≤ l → l < h L 6 → ∃ x ∈ V.1, h (L + 1) l = x.1 ∧ h (L + 2) l = x.2.1 ∧ h (L + 3) l = x.2.2.1 ∧ h (L + 4) l = x.2.2.2 := fun l l0 l1 => by
    have hl : l.toNat < V.1.length := by omega
    have r := w.2.2.2.2.2.2.1 l.toNat hl
    rw [Int.toNat_of_nonneg l0, List.getD_eq_getElem?_getD, List.getElem?_eq_getElem hl] at r
    exact ⟨V.1[l.toNat], List.getElem_mem _, r⟩
  refine ⟨⟨by omega, fun l l0 l1 => ?_⟩, fun l l0 l1 => ?_⟩
  · obtain ⟨x, hx, r1, r2, r3, r4⟩ := row l l0 l1
    have ok := v5 x hx
    rw [r3, r4]
    omega
  · obtain ⟨x, hx, r1, r2, r3, r4⟩ := row l l0 l1
    have ok := v5 x hx
    rw [r1, r2]
    by_cases c : x.1 = 3
    · have := ok.2.2.2.1 c
      exact Or.inl (by omega)
    · exact Or.inr c
section
variable {h : zH}
theorem vLg.get {o most n : Int} {ar : List (Int × Int)} (I : vLg h o most n ar) {r c q : Int} (r0 : 0 ≤ r) (r1 : r < h o 2) (hp : (c, q) ∈ ar) : h q r = h (o + 1) (r * 6 + c) := I.2.2.2.1 r r0 r1 (c, q) hp
theorem vI.zb (I : vI h) : zBase h := by
  obtain ⟨tp, nm, me, bi, fa, ex, sa, se, lw, lt, fl, md, bl⟩ := I
  have m0 := me.1
  refine ⟨⟨m0, fun m h0 h1 => ?_⟩, ⟨sa.1.1, fun r r0 r1 => ?_⟩, ⟨bi.1.1, fun r r0 r1 => ?_⟩, ⟨⟨fa.1.1, fun r r0 r1 => ?_⟩, ⟨ex.1.1, fun r r0 r1 => ?_⟩, ⟨se.1.1, fun r r0 r1 => ?_⟩⟩, fun i i0 i1 => ?_, ?_, fun l l0 l1 => ?_, lw.1, lt.1⟩
  · exact (me.2.2 m h0 h1).2
  · rw [zget_in r0 r1 (by decide) (by decide), zget_in r0 r1 (by decide) (by decide)]
    exact sa.2 r r0 r1
  · rw [zget_in r0 r1 (by decide) (by decide), zget_in r0 r1 (by decide) (by decide)]
    exact bi.2 r r0 r1
  · rw [zget_in r0 r1 (by decide) (by decide), zget_in r0 r1 (by decide) (by decide)]
    exact fa.2 r r0 r1
  · rw [zget_in r0 r1 (by decide) (by decide)]
    exact ex.2 r r0 r1
  · rw [zget_in r0 r1 (by decide) (by decide), zget_in r0 r1 (by decide) (by decide)]
    exact (se.2 r r0 r1).1
  · obtain ⟨⟨⟨V, v1, v2, v3, v4, v5⟩, -⟩, -⟩ := lw.2.2.1 i i0 i1
    exact vlaw v1 v3 v4 v5.1
  · exact vlaw lw.2.2.2.1 (by decide) (by decide) (fun x hx => by cases hx)
  · have q := lt.2.2.2.2.2 l
    have e2 : 113 + 14 * l + 1 = 114 + 14 * l := by omega
    have e3 : 113 + 14 * l + 2 = 115 + 14 * l := by omega
    have e4 : 113 + 14 * l + 3 = 116 + 14 * l := by omega
    have e5 : 113 + 14 * l + 12 = 125 + 14 * l := by omega
    unfold zRollOK zPick
    rw [e2, e3, e4, e5]
    by_cases c : l < h 0 12
    · obtain ⟨a1, a2, a3, a4, a5, a6⟩ := lt.2.2.1 l l0 c
      exact ⟨⟨fun k k0 k1 => (a5 k k0 k1).1.2, fun k k0 k1 => (a6 k k0 k1).2⟩, by omega, by omega, fun p p0 p1 => (q p l0 l1 p0 p1).1⟩
    · obtain ⟨a1, a2, a3, a4, a5, a6, a7, a8⟩ := lt.2.2.2.1 l (by omega) l1
      exact ⟨⟨fun k k0 k1 => by rw [(a7 k k0 k1).1]; omega, fun k k0 k1 => by rw [(a8 k k0 k1).1]; omega⟩, a1, a2, fun p p0 p1 => (q p l0 l1 p0 p1).1⟩
theorem vI.mb (I : vI h) : mBase h := by
  obtain ⟨tp, nm, me, bi, fa, ex, sa, se, lw, lt, fl, md, bl⟩ := I
  have m0 := me.1
  have e25 := me.2.1
  refine ⟨by omega, fun m h0 h1 => ?_, ⟨by rw [sa.1.2.2.1]; exact sa.1.1, fun r r0 r1 => ?_⟩, ⟨by rw [bi.1.2.2.1]; exact bi.1.1, fun r r0 r1 => ?_⟩, ⟨by rw [fa.1.2.2.1]; exact fa.1.1, fun r r0 r1 => ?_⟩, ⟨by rw [ex.1.2.2.1]; exact ex.1.1, fun r r0 r1 => ?_⟩, ⟨by rw [se.1.2.2.1]; exact se.1.1, fun r r0 r1 => ?_⟩, ⟨by rw [lw.2.1]; exact lw.1, fun i i0 i1 => ?_⟩, ⟨by rw [lt.2.1]; exact lt.1, fun l l0 l1 => ?_⟩⟩
  · obtain ⟨⟨a1, a2, a3⟩, a4, a5, a6⟩ := me.2.2 m h0 (by omega)
    omega
  · rw [sa.1.2.2.1] at r1
    have := sa.2 r r0 r1
    rw [sa.1.get r0 r1 (c := 1) (q := 187) (by decide), sa.1.get r0 r1 (c := 2) (q := 188) (by decide), e25]
    exact this
  · rw [bi.1.2.2.1] at r1
    have := bi.2 r r0 r1
    rw [bi.1.get r0 r1 (c := 1) (q := 174) (by decide), bi.1.get r0 r1 (c := 2) (q := 175) (by decide), e25]
    exact this
  · rw [fa.1.2.2.1] at r1
    have := fa.2 r r0 r1
    rw [fa.1.get r0 r1 (c := 1) (q := 177) (by decide), fa.1.get r0 r1 (c := 2) (q := 178) (by decide), e25]
    exact this
  · rw [ex.1.2.2.1] at r1
    have := ex.2 r r0 r1
    rw [ex.1.get r0 r1 (c := 1) (q := 183) (by decide), e25]
    exact this
  · rw [se.1.2.2.1] at r1
    have := se.2 r r0 r1
    rw [se.1.get r0 r1 (c := 2) (q := 225) (by decide), se.1.get r0 r1 (c := 3) (q := 226) (by decide), e25]
    refine ⟨this.1.1, this.1.2, fun j j0 j1 ej => ?_⟩
    rw [se.1.get j0 (by omega) (c := 1) (q := 224) (by decide), se.1.get r0 r1 (c := 1) (q := 224) (by decide)] at ej
    rw [se.1.get j0 (by omega) (c := 2) (q := 225) (by decide)]
    exact (this.2 j j0 j1 ej).1
  · rw [lw.2.1] at i1
    obtain ⟨⟨⟨V, v1, v2, v3, v4, v5⟩, w1, -⟩, -⟩ := lw.2.2.1 i i0 i1
    refine ⟨w1, fun k k0 k1 hk => ?_⟩
    rw [v2.1] at k1
    have row := v2.2.2.2.2.1 k.toNat (by omega)
    rw [Int.toNat_of_nonneg k0] at row
    have hx : V.1.getD k.toNat (0, 0, 0, 0) ∈ V.1 := by
      rw [List.getD_eq_getElem?_getD, List.getElem?_eq_getElem (show k.toNat < V.1.length by omega)]
      exact List.getElem_mem _
    have ok := v5.1 _ hx
    have k3 := row.1.symm.trans hk
    rw [row.2.1 k3]
    have := ok.2.2.2.1 k3
    omega
  · by_cases c : l < h 0 12
    · obtain ⟨a1, a2, a3, a4, a5, a6⟩ := lt.2.2.1 l l0 c
      exact ⟨a1.2, a2.2, fun k k0 k1 => by rw [(a5 k k0 k1).1.1]; exact (a5 k k0 k1).1.2, fun k k0 k1 => by rw [(a6 k k0 k1).1]; exact (a6 k k0 k1).2⟩
    · obtain ⟨a1, a2, a3, a4, a5, a6, a7, a8⟩ := lt.2.2.2.1 l (by omega) l1
      exact ⟨a3, a4, fun k k0 k1 => by rw [(a7 k k0 k1).2]; decide, fun k k0 k1 => by rw [(a8 k k0 k1).2]; decide⟩
end
/-- a call on the class and on the model: the same answer, and the invariant again -/
def vP1 (X : zX) (dep : Nat) (mc mm : zMd) (as : List zV) (h : zH) : Prop := zW mc X dep 0 0 239 0 (zar 0 (xR 0 :: as)) [] h (zQI (fun v g => zW mm X dep 0 0 239 0 (zar 0 (xR 169 :: as)) [] g (zQI (fun w f => w = v ∧ vI f))))
theorem vP1.mk {X : zX} {dep : Nat} {mc mm : zMd} {as : List zV} {h : zH} {P : Int → zH → Prop} (hc : zW mc X dep 0 0 239 0 (zar 0 (xR 0 :: as)) [] h (zQI P)) (hm : ∀ v g, P v g → ∃ Q : Int → zH → Prop, zW mm X dep 0 0 239 0 (zar 0 (xR 169 :: as)) [] g (zQI Q) ∧ ∀ w f, Q w f → w = v ∧ vI f) : vP1 X dep mc mm as h := by
  refine hc.weaken (fun _ g _ q => ⟨q.1, q.2.choose, q.2.choose_spec.1, ?_⟩)
  obtain ⟨Q, hq, hh⟩ := hm _ g q.2.choose_spec.2
  exact hq.weaken (fun _ f _ r => ⟨r.1, r.2.choose, r.2.choose_spec.1, hh _ f r.2.choose_spec.2⟩)
theorem vP1.F {X : zX} {dep : Nat} {mc mm : zMd} {as : List zV} {h g f : zH} {v w : Int} (hc : zW mc X dep 0 0 239 0 (zar 0 (xR 0 :: as)) [] h (zF g [xI v])) (hm : zW mm X dep 0 0 239 0 (zar 0 (xR 169 :: as)) [] g (zF f [xI w])) (e : w = v) (I : vI f) : vP1 X dep mc mm as h :=
  vP1.mk (zfI hc) (fun _ _ p => by
    obtain ⟨rfl, rfl⟩ := p
    exact ⟨_, zfI hm, fun _ _ q => by
      obtain ⟨rfl, rfl⟩ := q
      exact ⟨e, I⟩⟩)
/-- all that a call may write and yet keep the invariant -/
theorem vI.to {h f : zH} (I : vI h) (tp : vTp f) (nm : vNm f) (me : vMe f) (e3 : f 3 0 = h 3 0) (e10 : f 0 10 = h 0 10) (e0 : f 0 9 = h 0 9 ∧ f 0 11 = h 0 11 ∧ f 0 12 = h 0 12) (ec : ∀ o : Int, 7 ≤ o ∧ o ≤ 16 ∨ 36 ≤ o ∧ o ≤ 44 ∨ 46 ≤ o ∧ o ≤ 62 ∨ 64 ≤ o ∧ o ≤ 112 → f o = h o) (ee : ∀ o l : Int, 0 ≤ l → l < 4 → 114 + 14 * l ≤ o → o ≤ 116 + 14 * l → f o = h o) (eq : ∀ l q : Int, 0 ≤ l → l < 4 → 0 ≤ q → q < 60 → (-1 ≤ f (125 + 14 * l) q ∧ f (125 + 14 * l) q < 60) ∧ f (113 + 14 * l) 0 = l) (em : ∀ o : Int, 174 ≤ o ∧ o ≤ 211 ∨ 224 ≤ o ∧ o ≤ 228 ∨ 235 ≤ o ∧ o ≤ 236 → f o = h o) (e9 : ∀ k : Int, k = 26 ∨ k = 27 ∨ k = 28 ∨ k = 29 ∨ k = 45 ∨ k = 65 ∨ k = 85 ∨ k = 89 ∨ k = 96 → f 169 k = h 169 k) : vI f := by
  obtain ⟨-, -, -, bi, fa, ex, sa, se, lw, lt, fl, md, bl⟩ := I
  refine ⟨tp, nm, me, ?_, ?_, ?_, ?_, ?_, ?_, ?_, ?_, ?_, ?_⟩
  · exact bi.tr (ec 7 (by decide)) (ec 8 (by decide)) (by omega) (e9 26 (by decide)) (fun o o0 o1 => em o (by omega)) (by omega)
  · exact fa.tr (ec 9 (by decide)) (ec 10 (by decide)) (by omega) (e9 27 (by decide)) (fun o o0 o1 => em o (by omega)) (by omega)
  · exact ex.tr (ec 11 (by decide)) (ec 12 (by decide)) (by omega) (e9 28 (by decide)) (fun o o0 o1 => em o (by omega)) (by omega)
  · exact sa.tr (ec 13 (by decide)) (ec 14 (by decide)) (by omega) (e9 29 (by decide)) (fun o o0 o1 => em o (by omega)) (by omega)
  · exact se.tr (ec 15 (by decide)) (ec 16 (by decide)) (by omega) (e9 85 (by decide)) (fun o o0 o1 => em o (by omega)) (by omega)
  · exact lw.tr e0.2.1 (by omega) (e9 45 (by decide)) (fun o ho => ec o (by omega)) (fun o k o0 o1 _ => by rw [em o (by omega)])
  · exact lt.tr e0.2.2 (e9 65 (by decide)) (fun o l l0 l1 ho => by
      rcases ho with ho | ho
      · exact ee o l l0 l1 ho.1 ho.2
      · exact em o (by omega)) eq
  · exact fl.tr (by rw [ec 44 (by decide)]) (e9 96 (by decide)) (fun o ho => by
      rcases ho with ho | ho | ho
      · exact ec o (by omega)
      · exact em o (by omega)
      · exact em o (by omega))
  · exact md.tr e0.1 (e9 89 (by decide)) (ec 64 (by decide)) (em 228 (by decide))
  · intro k k0 k1
    rw [em 200 (by decide)]
    exact bl k k0 k1
