section
variable {X : zX} {dep : Nat} {h : zH}
theorem v_send (l a b : Int) (I : vI h) (hdep : 7 ≤ dep) : vP1 X dep mX10_send mX11_send [xI l, xI a, xI b] h := by
  have m25 := I.2.2.1.2.1
  have m3 := I.2.2.1.1
  have lt := I.2.2.2.2.2.2.2.2.2.1
  have m65 := lt.2.1
  have se := I.2.2.2.2.2.2.2.1
  have s1 := se.1.2.1
  have s9 := se.1.2.2.1
  have s0 := se.1.1
  have d10 := I.2.1.1
  refine vP1.mk (f_X10_send l a b I.zb s1 (by omega)) (fun v g P => ?_)
  rcases P with ⟨c, e, ze, P⟩ | ⟨c, hv0, hg0⟩
  · have l0 := c.1
    have day := (lt.2.2.1 l l0.1 l0.2).1.1
    have l4 : l < 4 := by have := lt.1; omega
    have far := ze.far
    have e15 : ∀ k : Int, e 15 k = h 15 k := fun k => by rw [far.1 15 (by simp only [zKS]; omega)]
    -- the class's heap, behind its call
    have ge : ∀ o : Int, o ≠ 15 → o ≠ 16 → g o = e o := fun o h1 h2 => by
      rcases P with ⟨-, -, rfl⟩ | ⟨-, -, rfl⟩
      · unfold zaddr
        by_cases y : e 15 2 < e 15 1
        · rw [if_pos y]; exact zadd_o h1 (by omega)
        · rw [if_neg y]
      · rfl
    have gt : ∀ o : Int, 169 ≤ o → g o = h o := fun o ho => by rw [ge o (by omega) (by omega), far.1 o (by simp only [zKS]; omega)]
    have bm := f_X11_send (X := X) (dep := dep) l a b (h := g) (I.mb2 gt) hdep
    rw [gt 169 (by decide), d10.1] at bm
    refine ⟨_, bm, fun w f Q => ?_⟩
    have cm : mCs g l a b ↔ h 15 2 ≠ 60 := by
      unfold mCs mCl mCm
      rw [gt 169 (by decide), gt 205 (by decide), m65, m25, s9, d10.1, day, show 114 + 14 * l = 113 + 14 * l + 1 by omega]
      exact ⟨fun z => z.2.2.2.1, fun z => ⟨c.1, c.2.1, c.2.2.1, z, c.2.2.2⟩⟩
    rcases Q with ⟨c', e2, b2, Q⟩ | ⟨c', rfl, rfl⟩
    · have room := cm.mp c'
      have room' : h 15 2 < 60 := by omega
      have ro : e 15 2 < e 15 1 := by rw [e15, e15]; omega
      have R := v_rolled I (H := zst g 169 0 0) l0 ze b2 (fun o o0 _ o2 => by rw [zfn (by omega), gt o (by omega)]) (fun k hk => by rw [zst_ne (Or.inr (by omega)), gt 169 (by decide)])
      obtain ⟨J, Row, Rs⟩ := R
      have J2 := J.2.1
      have e5 : e2 169 5 = h 0 10 := (J2.2 5 (by decide)).trans d10.1
      have sc : ∀ m : Int, msent e2 l m (h 0 10) = msent h l m (h 0 10) := fun m => msent_cg (fun o o0 o1 => J2.1 o (by omega) (by omega)) (J2.2 85 (by decide)) l m _
      have sent : ∀ m : Int, 0 ≤ m → m < h 3 0 → (msent e2 l m (e2 169 5) < 0 ↔ e (113 + 14 * l + 12) m = -1) := fun m q0 q1 => by
        rw [e5, sc, (Rs.1 m q0 q1).1]
        have := v_sentIn I l (h 0 10) m
        omega
      have was : ∀ m : Int, 0 ≤ m → m < h 3 0 → (mws e2 l m ↔ e (113 + 14 * l + 13) m ≠ 0) := fun m q0 q1 => by
        rw [(Rs.1 m q0 q1).2]
        exact (v_wsent I (fun o o0 o1 => J2.1 o (by omega) (by omega)) (J2.2 85 (by decide)) l m).1.symm
      have ra := (Row.1 a c.2.1.1 c.2.1.2).1
      have rb := (Row.1 b c.2.2.1.1 c.2.2.1.2).1
      have MS : mMS e2 l a b ↔ (e (113 + 14 * l + 5) a = 5 ∨ e (113 + 14 * l + 13) a ≠ 0 ∧ e (113 + 14 * l + 5) a ≠ 0) ∧ e (113 + 14 * l + 12) a = -1 ∧ zmbs e (113 + 14 * l) b := by
        unfold mMS zmbs
        rw [ra, rb, was a c.2.1.1 c.2.1.2, was b c.2.2.1.1 c.2.2.1.2, sent a c.2.1.1 c.2.1.2, sent b c.2.2.1.1 c.2.2.1.2]
        constructor
        · rintro ⟨x1, x2, x3, x4, x5⟩
          exact ⟨x1.imp id (fun z => ⟨z.2, z.1⟩), x2, x3, Classical.byContradiction x4, x5⟩
        · rintro ⟨x1, x2, x3, x4, x5⟩
          exact ⟨x1.imp id (fun z => ⟨z.2, z.1⟩), x2, x3, fun z => z x4, x5⟩
      have ef2 : ∀ o : Int, (o < 213 ∨ 223 < o ∧ o < 229 ∨ 232 < o) → e2 o = zst g 169 0 0 o := fun o ho => funext fun k => mRolled_ag b2 o k (fun z => by
        simp only [mRS, List.mem_cons, List.not_mem_nil, or_false] at z
        omega)
      -- a heap that only drawing has written, keeps the invariant
      have keep : ∀ F : zH, (∀ o : Int, (o < 213 ∨ 223 < o ∧ o < 229 ∨ 232 < o) → o ≠ 15 → o ≠ 16 → F o = zst g 169 0 0 o) → F 15 = h 15 → F 16 = h 16 → vI F := fun F hF h15 h16 => by
        have fo : ∀ o : Int, (o < 213 ∨ 223 < o ∧ o < 229 ∨ 232 < o) → o ≠ 15 → o ≠ 16 → o ≠ 169 → F o = e o := fun o ho p1 p2 p3 => by
          rw [hF o ho p1 p2, zfn p3, ge o p1 p2]
        refine I.scr (fun o ho => ?_) (fun k hk => ?_) (fun k hk => ?_) (fun j q j0 j1 q0 q1 => ?_)
        · unfold vScr at ho
          by_cases p1 : o = 15
          · rw [p1, h15]
          · by_cases p2 : o = 16
            · rw [p2, h16]
            · rw [fo o (by omega) p1 p2 (by omega), far.1 o (by simp only [zKS]; omega)]
        · rw [fo 3 (by decide) (by decide) (by decide) (by decide)]
          exact far.2 k hk
        · rw [hF 169 (by decide) (by decide) (by decide), zst_ne (Or.inr hk), gt 169 (by decide)]
        · rw [fo (125 + 14 * j) (by omega) (by omega) (by omega) (by omega), fo (113 + 14 * j) (by omega) (by omega) (by omega) (by omega)]
          exact ze.ro I j q j0 j1 q0 q1
      rcases Q with ⟨ms, f2, f3, hf2, a3, Q⟩ | ⟨nms, rfl, rfl⟩
      · have mm := MS.mp ms
        have th : e 20 a ≠ 0 := Rs.2.2.2.2 a c.2.1.1 c.2.1.2 (by rcases mm.1 with z | z; omega; exact z.2)
        have fo2 : ∀ o : Int, o ≠ 217 → o ≠ 218 → f2 o = e2 o := fun o p1 p2 => funext fun k => hf2.1 o k (fun z => by
          simp only [List.mem_cons, List.not_mem_nil, or_false] at z
          omega)
        have hvh : mHv e2 (e2 205 l) (h 0 10) f2 := by rw [← e5]; exact hf2.2
        have hv2 := J.hv hvh
        have q := Rs.2.2.1 a c.2.1.1 c.2.1.2 th
        have e217 : ∀ i : Int, 0 ≤ i → i < 360 → f2 217 i = e2 217 i := fun i i0 i1 => by rw [hv2.1 i i0 i1, Rs.2.2.2.1.1 i i0 i1]
        have a60 : a < 60 := by omega
        have qa : vAq e f2 (113 + 14 * l) a l := by
          have q1 := q.1
          unfold vAq at q1 ⊢
          have a0 := c.2.1.1
          rw [e217 (6 * a) (by omega) (by omega), e217 (6 * a + 1) (by omega) (by omega), e217 (6 * a + 2) (by omega) (by omega), e217 (6 * a + 3) (by omega) (by omega), e217 (6 * a + 4) (by omega) (by omega), e217 (6 * a + 5) (by omega) (by omega), hv2.2 a a0 a60, ← Rs.2.2.2.1.2 a a0 a60, fo2 214 (by decide) (by decide), fo2 205 (by decide) (by decide), fo2 169 (by decide) (by decide), fo2 172 (by decide) (by decide), mBro_ag hf2.1 (by decide) (by decide)]
          exact q1
        have hL : zbest h l (h 0 10) (h 0 11).toNat = 36 ∨ ∃ i : Int, (0 ≤ i ∧ i < 8) ∧ zbest h l (h 0 10) (h 0 11).toNat = 65 + 6 * i := by
          have lw8 := I.2.2.2.2.2.2.2.2.1.1
          rcases zbest_is h l (h 0 10) (h 0 11).toNat with z | ⟨i, i0, i1, i2⟩
          · exact Or.inl z
          · exact Or.inr ⟨i, by omega, i2⟩
        have eL : ∀ o : Int, zbest h l (h 0 10) (h 0 11).toNat ≤ o → o ≤ zbest h l (h 0 10) (h 0 11).toNat + 5 → e o = h o := fun o o0 o1 => far.1 o (by simp only [zKS]; rcases hL with z | ⟨i, i0, z⟩ <;> omega)
        have rL : vLr e f2 (zbest h l (h 0 10) (h 0 11).toNat) (mlaw h (h 205 l) (h 0 10)) := (v_lawFor I l0 (h 0 10)).to (I.law8 _ _) eL (fun o o0 o1 => by rw [fo2 o (by omega) (by omega)]; exact J2.1 o (by omega) (by omega))
        have lS := v_lineS (o := 113 + 14 * l) (mm := a) (l := l) ⟨c.2.1.1, a60⟩ rL qa (fun z => by
          rw [eL _ (Int.le_refl _) (by omega)] at z
          have q2 := q.2 z
          unfold vAs at q2 ⊢
          rw [q2, fo2 169 (by decide) (by decide), mBro_ag hf2.1 (by decide) (by decide), mSer_ag hf2.1 (by decide)])
        rw [e5, J.law l] at Q
        rcases Q with ⟨q4, rfl, rfl⟩ | ⟨q4, rfl, rfl⟩
        · -- it is sent
          have may : zmay e (113 + 14 * l) (zbest h l (h 0 10) (h 0 11).toNat) a := ⟨mm.1, mm.2.1, lS.mpr q4⟩
          rcases P with ⟨-, rfl, hg⟩ | ⟨np, -, -⟩
          · refine ⟨(zb_t ro).symm, ?_⟩
            have eg : g = zadd e 15 (h 0 10) l a b 0 0 := by rw [hg]; exact if_pos ro
            have z1 : g 15 1 = e 15 1 := by rw [eg]; exact zadd_k (by decide)
            have z2 : g 15 2 = e 15 2 + 1 := by rw [eg]; exact zadd_2
            have zl : ∀ q : Int, q < e 15 2 * 6 → g 16 q = e 16 q := fun q hq => by rw [eg]; exact zadd_l (o := 15) hq
            have zr : _ := zadd_r (h := e) (o := 15) (a := h 0 10) (b := l) (c := a) (d := b) (e := 0) (f := 0)
            rw [show (15 : Int) + 1 = 16 from rfl, ← eg] at zr
            clear hg eg
            have fo3 : ∀ o : Int, o ≠ 231 → f3 o = f2 o := fun o p1 => funext fun k => a3 o k (fun z => by
              simp only [List.mem_cons, List.not_mem_nil, or_false] at z
              omega)
            have f3g : ∀ o : Int, (o < 213 ∨ 223 < o ∧ o < 229 ∨ 232 < o) → f3 o = zst g 169 0 0 o := fun o ho => by rw [fo3 o (by omega), fo2 o (by omega) (by omega), ef2 o ho]
            have K := keep (fun o => if o = 15 then h 15 else if o = 16 then h 16 else f3 o) (fun o ho p1 p2 => by
              show (if o = 15 then h 15 else if o = 16 then h 16 else f3 o) = _
              rw [if_neg p1, if_neg p2]; exact f3g o ho) rfl rfl
            generalize hk : (fun o => if o = 15 then h 15 else if o = 16 then h 16 else f3 o : zH) = k at K
            have kn : ∀ o : Int, o ≠ 15 → o ≠ 16 → k o = f3 o := fun o p1 p2 => by
              rw [← hk]; show (if o = 15 then h 15 else if o = 16 then h 16 else f3 o) = _
              rw [if_neg p1, if_neg p2]
            have k15 : k 15 = h 15 := by rw [← hk]; rfl
            have k16 : k 16 = h 16 := by rw [← hk]; rfl
            have e16 : ∀ q : Int, e 16 q = h 16 q := fun q => by rw [far.1 16 (by simp only [zKS]; omega)]
            have k3 : k 3 0 = h 3 0 := by rw [kn 3 (by decide) (by decide), f3g 3 (by decide), zfn (by decide), ge 3 (by decide) (by decide)]; exact far.2 0 (by decide)
            have k10 : k 0 10 = h 0 10 := by rw [kn 0 (by decide) (by decide), f3g 0 (by decide), zfn (by decide), ge 0 (by decide) (by decide), far.1 0 (by simp only [zKS]; omega)]
            have n85 : f3 169 85 = h 15 2 := by rw [f3g 169 (by decide), zst_ne (Or.inr (by decide)), gt 169 (by decide)]; exact s9
            have n5 : f3 169 5 = h 0 10 := by rw [f3g 169 (by decide), zst_ne (Or.inr (by decide)), gt 169 (by decide)]; exact d10.1
            have sf : ∀ o : Int, o ≠ 169 → (o < 224 ∨ 227 < o) → mSnd f3 l a b o = f3 o := fun o p1 p2 => by
              unfold mSnd
              rw [zfn (by omega), zfn (by omega), zfn (by omega), zfn (by omega), zfn (by omega)]
            refine K.sendrow (l := l) (a := a) (b := b) (by rw [k15]; exact room') (by rw [k3]; exact c.2.1) (by rw [k3]; exact c.2.2.1) (fun z => ?_) (fun j j0 j1 ej => ?_) (fun o ho => by rw [sf o (by omega) (by omega), kn o (by omega) (by omega)]) (fun q hq => ?_) (by rw [sf 15 (by decide) (by decide), f3g 15 (by decide), zfn (by decide), z1, k15, e15]) (by rw [sf 15 (by decide) (by decide), f3g 15 (by decide), zfn (by decide), z2, k15, e15]) (fun q hq => ?_) ?_ ?_ ?_ ?_ ?_ ?_
            · -- a is not b
              rw [← z] at mm
              have m2 := mm.2.2.1
              have m4 := mm.2.2.2.1
              rcases mm.1 with y | y
              · omega
              · exact y.1 m4
            · rw [k15] at j1
              rw [k16] at ej ⊢
              have rw_ := I.rowE j0 j1
              rw [zget_in j0 j1 (by decide) (by decide), zget_in j0 j1 (by decide) (by decide)] at rw_
              have no : ∀ m : Int, msent h l m (h 0 10) < 0 → h 16 (j * 6 + 2) ≠ m := fun m hm z => by
                have A := v_sent I l (h 0 10) m
                have B := v_sentIn I l (h 0 10) m
                have nn := I.nowE
                have low : ∀ n : Nat, (j : Int) < n → (n : Int) ≤ h 15 2 → zse h l n m ≠ -1 := by
                  intro n
                  induction n with
                  | zero => intro y _; omega
                  | succ n ih =>
                    intro y y2
                    have st : zse h l (n + 1) m = if zget h 15 n 1 = l ∧ zget h 15 n 2 = m then zget h 15 n 3 else zse h l n m := rfl
                    rw [st]
                    by_cases y3 : zget h 15 n 1 = l ∧ zget h 15 n 2 = m
                    · rw [if_pos y3, zget_in (by omega) (by omega) (by decide) (by decide)]
                      have q : 0 ≤ h (15 + 1) ((n : Int) * 6 + 3) := (se.2 n (by omega) (by omega)).1.2.1
                      omega
                    · rw [if_neg y3]
                      by_cases e : j = n
                      · exfalso
                        rw [← e] at y3
                        rw [zget_in j0 j1 (by decide) (by decide), zget_in j0 j1 (by decide) (by decide)] at y3
                        exact y3 ⟨ej, z⟩
                      · exact ih (by omega) (by omega)
                have := low (zknown h 15 (h 0 10)).toNat (by omega) (by omega)
                omega
              refine ⟨no a ?_, no b ?_⟩
              · rw [← sc, ← e5]; exact ms.2.1
              · rw [← sc, ← e5]; exact ms.2.2.2.2
            · show zst (zst (zst (zst (zst f3 224 _ l) 225 _ a) 226 _ b) 227 _ _) 169 85 _ 169 q = _
              rw [zst_ne (Or.inr hq.2), zst_ne (Or.inl (by decide)), zst_ne (Or.inl (by decide)), zst_ne (Or.inl (by decide)), zst_ne (Or.inl (by decide)), kn 169 (by decide) (by decide)]
            · rw [k15] at hq
              rw [sf 16 (by decide) (by decide), f3g 16 (by decide), zfn (by decide), zl q (by rw [e15]; exact hq), k16, e16]
            · rw [sf 16 (by decide) (by decide), f3g 16 (by decide), zfn (by decide), k15, k10, ← e15]
              exact ⟨zr.1, zr.2.1, zr.2.2.1, zr.2.2.2.1⟩
            · rw [kn 169 (by decide) (by decide)]
              exact zst_self _ _ _ _
            · rw [k15, ← n85]
              refine ⟨fun r hr => ?_, ?_⟩
              · show zst (zst (zst (zst (zst f3 224 _ l) 225 _ a) 226 _ b) 227 _ _) 169 85 _ 224 r = _
                rw [zst_ne (Or.inl (by decide)), zst_ne (Or.inl (by decide)), zst_ne (Or.inl (by decide)), zst_ne (Or.inl (by decide)), zst_ne (Or.inr hr), kn 224 (by decide) (by decide)]
              · show zst (zst (zst (zst (zst f3 224 _ l) 225 _ a) 226 _ b) 227 _ _) 169 85 _ 224 _ = _
                rw [zst_ne (Or.inl (by decide)), zst_ne (Or.inl (by decide)), zst_ne (Or.inl (by decide)), zst_ne (Or.inl (by decide)), zst_self]
            · rw [k15, ← n85]
              refine ⟨fun r hr => ?_, ?_⟩
              · show zst (zst (zst (zst (zst f3 224 _ l) 225 _ a) 226 _ b) 227 _ _) 169 85 _ 225 r = _
                rw [zst_ne (Or.inl (by decide)), zst_ne (Or.inl (by decide)), zst_ne (Or.inl (by decide)), zst_ne (Or.inr hr), zst_ne (Or.inl (by decide)), kn 225 (by decide) (by decide)]
              · show zst (zst (zst (zst (zst f3 224 _ l) 225 _ a) 226 _ b) 227 _ _) 169 85 _ 225 _ = _
                rw [zst_ne (Or.inl (by decide)), zst_ne (Or.inl (by decide)), zst_ne (Or.inl (by decide)), zst_self]
            · rw [k15, ← n85]
              refine ⟨fun r hr => ?_, ?_⟩
              · show zst (zst (zst (zst (zst f3 224 _ l) 225 _ a) 226 _ b) 227 _ _) 169 85 _ 226 r = _
                rw [zst_ne (Or.inl (by decide)), zst_ne (Or.inl (by decide)), zst_ne (Or.inr hr), zst_ne (Or.inl (by decide)), zst_ne (Or.inl (by decide)), kn 226 (by decide) (by decide)]
              · show zst (zst (zst (zst (zst f3 224 _ l) 225 _ a) 226 _ b) 227 _ _) 169 85 _ 226 _ = _
                rw [zst_ne (Or.inl (by decide)), zst_ne (Or.inl (by decide)), zst_self]
            · rw [k15, k10, ← n85, ← n5]
              refine ⟨fun r hr => ?_, ?_⟩
              · show zst (zst (zst (zst (zst f3 224 _ l) 225 _ a) 226 _ b) 227 _ _) 169 85 _ 227 r = _
                rw [zst_ne (Or.inl (by decide)), zst_ne (Or.inr hr), zst_ne (Or.inl (by decide)), zst_ne (Or.inl (by decide)), zst_ne (Or.inl (by decide)), kn 227 (by decide) (by decide)]
              · show zst (zst (zst (zst (zst f3 224 _ l) 225 _ a) 226 _ b) 227 _ _) 169 85 _ 227 _ = _
                rw [zst_ne (Or.inl (by decide)), zst_self]
          · exact absurd ⟨may, mm.2.2⟩ np
        · -- no LINE lets him
          rcases P with ⟨p, -, -⟩ | ⟨-, rfl, hg⟩
          · exact absurd (lS.mp p.1.2.2) q4
          · have fo3 : ∀ o : Int, (o < 213 ∨ 223 < o ∧ o < 229 ∨ 232 < o) → f o = zst g 169 0 0 o := fun o ho => by
              have e3 : f o = f2 o := funext fun k => a3 o k (fun z => by
                simp only [List.mem_cons, List.not_mem_nil, or_false] at z
                omega)
              rw [e3, fo2 o (by omega) (by omega), ef2 o ho]
            refine ⟨rfl, keep _ (fun o ho _ _ => fo3 o ho) ?_ ?_⟩
            · rw [fo3 15 (by decide), zfn (by decide), hg, far.1 15 (by simp only [zKS]; omega)]
            · rw [fo3 16 (by decide), zfn (by decide), hg, far.1 16 (by simp only [zKS]; omega)]
      · rcases P with ⟨p, -, -⟩ | ⟨-, rfl, hg⟩
        · exact absurd (MS.mpr ⟨p.1.1, p.1.2.1, p.2⟩) nms
        · refine ⟨rfl, keep _ (fun o ho _ _ => ef2 o ho) ?_ ?_⟩
          · rw [ef2 15 (by decide), zfn (by decide), hg, far.1 15 (by simp only [zKS]; omega)]
          · rw [ef2 16 (by decide), zfn (by decide), hg, far.1 16 (by simp only [zKS]; omega)]
    · have full : h 15 2 = 60 := Classical.byContradiction fun z => c' (cm.mpr z)
      have nr : ¬ e 15 2 < e 15 1 := by rw [e15, e15]; omega
      have hg : g = e ∧ v = 0 := by
        rcases P with ⟨-, hv, hg⟩ | ⟨-, hv, hg⟩
        · rw [hg, hv]
          exact ⟨if_neg nr, zb_f nr⟩
        · exact ⟨hg, hv⟩
      refine ⟨hg.2.symm, ?_⟩
      rw [hg.1]
      refine I.scr (fun o ho => ?_) (fun k hk => ?_) (fun k hk => ?_) (fun j q j0 j1 q0 q1 => ?_)
      · unfold vScr at ho
        rw [zfn (by omega), far.1 o (by simp only [zKS]; omega)]
      · rw [zfn (by decide)]; exact far.2 k hk
      · rw [zst_ne (Or.inr hk), far.1 169 (by simp only [zKS]; omega)]
      · rw [zfn (by omega), zfn (by omega)]
        exact ze.ro I j q j0 j1 q0 q1
  · have cn : ¬ mCs h l a b := fun z => by
      obtain ⟨z1, z2, z3, z4, z5⟩ := z
      unfold mCl at z1
      unfold mCm at z2 z3
      rw [m65] at z1
      rw [m25] at z2 z3
      rw [d10.1, (lt.2.2.1 l z1.1 z1.2).1.1, show 114 + 14 * l = 113 + 14 * l + 1 by omega] at z5
      exact c ⟨z1, z2, z3, z5⟩
    rw [hv0, hg0]
    refine ⟨_, f_X11_send l a b I.mb hdep, fun w f Q => ?_⟩
    rcases Q with ⟨c', -⟩ | ⟨-, rfl, rfl⟩
    · exact absurd c' cn
    · exact ⟨rfl, I.th⟩
end
