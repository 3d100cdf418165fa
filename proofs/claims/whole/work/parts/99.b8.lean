/-! mended, appeal -/
section
variable {h : zH}
theorem zRolled.vI (I : vI h) {l t : Int} {g : zH} (a : zRolled h l t g) : vI g :=
  I.scr (fun o ho => a.far.1 o (by unfold vScr at ho; simp only [zKS]; omega)) a.far.2 (fun k _ => by rw [a.far.1 169 (by simp only [zKS]; omega)]) (a.ro I)
/-- a roll of the model, seen from any heap that keeps the tables -/
theorem mRolled.far {H e : zH} {l t : Int} (b : mRolled H l t e) (o : Int) (ho : o < 213 ∨ 223 < o ∧ o < 229 ∨ 232 < o) : e o = H o := funext fun k => mRolled_ag b o k (fun z => by
  simp only [mRS, List.mem_cons, List.not_mem_nil, or_false] at z
  omega)
end
section
variable {X : zX} {dep : Nat} {h : zH}
theorem v_appeal (l m : Int) (I : vI h) (hdep : 8 ≤ dep) : vP1 X dep mX10_appeal mX11_appeal [xI l, xI m] h := by
  have m25 := I.2.2.1.2.1
  have m3 := I.2.2.1.1
  have lt := I.2.2.2.2.2.2.2.2.2.1
  have m65 := lt.2.1
  obtain ⟨d1, d2, d3, d4, d5, d6⟩ := I.2.1
  have lw := I.2.2.2.2.2.2.2.2.1
  refine vP1.mk (f_X10_appeal l m I.zb d1.2 d4.2 (by omega) (by omega)) (fun v g P => ?_)
  -- how long one may appeal
  have lim : ∀ l0 : 0 ≤ l ∧ l < h 0 12, (if mlaw h (h 205 l) (h 0 10) < 0 then 30 else h 194 (mlaw h (h 205 l) (h 0 10))) = h (zbest h l (h 0 10) (h 0 11).toNat) 4 := fun l0 => by
    rcases v_lawFor I l0 (h 0 10) with ⟨w0, z⟩ | ⟨w0, V, z, mv, -⟩
    · rw [if_pos w0]; exact z.2.2.2.2.1.symm
    · rw [if_neg (by omega), mv.2.2.2.1]; exact z.2.2.2.2.1.symm
  rcases P with ⟨c, e1, e2, z1, z2, P⟩ | ⟨c, hv0, hg0⟩
  · have l0 := c.1
    have l4 : l < 4 := by have := lt.1; omega
    have day := (lt.2.2.1 l l0.1 l0.2).1.1
    have f1 := z1.far
    have f2 := z2.far
    have ge : ∀ o : Int, o ≠ 0 → g o = e2 o := fun o ho => by
      rcases P with ⟨-, -, rfl⟩ | ⟨-, -, rfl⟩
      · rw [zfn ho, zfn ho]
      · rw [zfn ho]
    have gt : ∀ o : Int, 169 ≤ o → g o = h o := fun o ho => by rw [ge o (by omega), f2.1 o (by simp only [zKS]; omega), f1.1 o (by simp only [zKS]; omega)]
    have bm := f_X11_appeal (X := X) (dep := dep) l m (h := g) (I.mb2 gt) (by rw [gt 169 (by decide), d1.1]; exact d1.2) (by rw [gt 169 (by decide), d4.1]; exact d4.2) (by rw [gt 169 (by decide), d4.1, d5]; exact d6) hdep
    rw [gt 169 (by decide), gt 205 (by decide), d1.1] at bm
    refine ⟨_, bm, fun w f Q => ?_⟩
    have cm : mCa9 g l m := by
      unfold mCa9 mCl mCm mlaw
      rw [gt 169 (by decide), gt 205 (by decide), gt 194 (by decide), d1.1, d4.1, m65, m25]
      have eb : ∀ n : Nat, mbest g (h 205 l) (h 0 10) n = mbest h (h 205 l) (h 0 10) n := fun n => by
        induction n with
        | zero => rfl
        | succ n ih =>
          have s : ∀ x : zH, ∀ d : Int, mbest x d (h 0 10) (n + 1) = if x 191 n ≤ h 0 10 ∧ x 190 n ≤ d ∧ (mbest x d (h 0 10) n < 0 ∨ x 190 (mbest x d (h 0 10) n) ≤ x 190 n) then (n : Int) else mbest x d (h 0 10) n := fun _ _ => rfl
          rw [s, s, ih, gt 191 (by decide), gt 190 (by decide)]
      rw [eb]
      have L := lim l0
      unfold mlaw at L
      rw [L, day, show 114 + 14 * l = 113 + 14 * l + 1 by omega]
      exact ⟨⟨c.1, c.2.1, c.2.2.2.1, by omega⟩, c.2.2.2.2⟩
    rcases Q with ⟨-, x1, x2, ⟨x0, q1, q2, q3⟩, q4, q5, rfl⟩ | ⟨c', -, -⟩
    · have day2 : h (113 + 14 * l + 1) 0 = h 205 l := by rw [day, show 113 + 14 * l + 1 = 114 + 14 * l by omega]
      rw [day2] at z1
      have R1 := v_rolled I l0 z1 q1 (fun o o0 _ _ => by rw [zfn (by omega), gt o (by omega)]) (fun k hk => by rw [zst_ne (Or.inr (by omega)), gt 169 (by decide)])
      have I1 := z1.vI I
      have x1o : ∀ o : Int, o ≠ 233 → x1 o = x0 o := fun o ho => funext fun k => q2 o k (fun z => by
        simp only [List.mem_cons, List.not_mem_nil, or_false] at z
        omega)
      have x1h : ∀ o : Int, 169 < o → (o < 213 ∨ 223 < o ∧ o < 229) → x1 o = h o := fun o o0 o1 => by
        rw [x1o o (by omega), q1.far o (by omega), zfn (by omega), gt o (by omega)]
      have e03 : e1 3 0 = h 3 0 := f1.2 0 (by decide)
      have e00 : e1 0 = h 0 := f1.1 0 (by simp only [zKS]; omega)
      have R2 := v_rolled I1 (H := x1) (by rw [e00]; exact l0) z2 q4 (fun o o0 _ o2 => by rw [x1h o o0 o2, f1.1 o (by simp only [zKS]; omega)]) (fun k hk => by rw [x1o 169 (by decide), q1.far 169 (by decide), zst_ne (Or.inr (by omega)), gt 169 (by decide), f1.1 169 (by simp only [zKS]; omega)])
      have s1 := (R1.2.1.1 m c.2.1.1 c.2.1.2).1
      have s2 := (R2.2.1.1 m c.2.1.1 (by rw [e03]; exact c.2.1.2)).1
      have x233 : x2 233 m = if e1 (113 + 14 * l + 5) m = 5 then 1 else 0 := by
        rw [q4.far 233 (by decide), q3 m c.2.1.1 (by omega), zst_ne (Or.inr (by decide)), gt 169 (by decide), m25, s1]
        by_cases y : e1 (113 + 14 * l + 5) m = 5
        · rw [if_pos y, if_pos ⟨c.2.1.2, y⟩]
        · rw [if_neg y, if_neg (fun z => y z.2)]
      have cond : (x2 233 m ≠ 0 ∧ x2 219 (60 * l + m) ≠ 5) ↔ (e1 (113 + 14 * l + 5) m = 5 ∧ e2 (113 + 14 * l + 5) m ≠ 5) := by
        rw [x233, s2]
        by_cases y : e1 (113 + 14 * l + 5) m = 5
        · rw [if_pos y]
          exact ⟨fun z => ⟨y, z.2⟩, fun z => ⟨by decide, z.2⟩⟩
        · rw [if_neg y]
          exact ⟨fun z => absurd rfl z.1, fun z => absurd z.1 y⟩
      have wv : w = v ∧ (v = 0 ∨ v = 1) ∧ g 0 15 = h 0 15 + 1 ∧ g 0 16 = h 0 16 + v ∧ ∀ k : Int, k ≠ 15 → k ≠ 16 → g 0 k = h 0 k := by
        have e20 : ∀ k : Int, e2 0 k = h 0 k := fun k => by rw [f2.1 0 (by simp only [zKS]; omega), e00]
        rw [q5]
        rcases P with ⟨y, rfl, rfl⟩ | ⟨y, rfl, rfl⟩
        · rw [if_pos (cond.mpr y)]
          exact ⟨rfl, Or.inr rfl, by rw [zst_ne (Or.inr (by decide)), zst_self], zst_self _ _ _ _, fun k p1 p2 => by rw [zst_ne (Or.inr p2), zst_ne (Or.inr p1), e20]⟩
        · rw [if_neg (fun z => y (cond.mp z))]
          exact ⟨rfl, Or.inl rfl, zst_self _ _ _ _, by rw [zst_ne (Or.inr (by decide)), e20, Int.add_zero], fun k p1 p2 => by rw [zst_ne (Or.inr p1), e20]⟩
      obtain ⟨wv, v01, g15, g16, g0⟩ := wv
      refine ⟨wv, ?_⟩
      rw [wv]
      clear q5 cond x233 P
      have fo : ∀ o : Int, o ≠ 169 → (o < 213 ∨ 223 < o ∧ o < 229 ∨ 234 < o) → zst (zst x2 169 90 (h 169 90 + 1)) 169 91 (h 169 91 + v) o = g o := fun o p1 p2 => by
        rw [zfn p1, zfn p1, q4.far o (by omega), x1o o (by omega), q1.far o (by omega), zfn p1]
      have f9 : ∀ k : Int, k ≠ 0 → k ≠ 90 → k ≠ 91 → zst (zst x2 169 90 (h 169 90 + 1)) 169 91 (h 169 91 + v) 169 k = h 169 k := fun k p0 p1 p2 => by
        rw [zst_ne (Or.inr p2), zst_ne (Or.inr p1), q4.far 169 (by decide), x1o 169 (by decide), q1.far 169 (by decide), zst_ne (Or.inr p0), gt 169 (by decide)]
      have f91 : zst (zst x2 169 90 (h 169 90 + 1)) 169 91 (h 169 91 + v) 169 91 = h 0 16 + v := by rw [zst_self, d5]
      have f90 : zst (zst x2 169 90 (h 169 90 + 1)) 169 91 (h 169 91 + v) 169 90 = h 0 15 + 1 := by rw [zst_ne (Or.inr (by decide)), zst_self, d4.1]
      generalize zst (zst x2 169 90 (h 169 90 + 1)) 169 91 (h 169 91 + v) = F at *
      refine I.scr2 ⟨⟨?_, ?_, ?_⟩, ?_, ?_, ⟨?_, ?_, ?_⟩, ?_, ?_, ?_⟩ (fun o ho o0 => ?_) (fun k hk => by rw [fo 0 (by decide) (by decide), g0 k (by omega) (by omega)]) (fun k hk => ?_) (fun k p0 p1 => f9 k p0 (by omega) (by omega)) (fun j q j0 j1 q0 q1 => ?_)
      · rw [f9 5 (by decide) (by decide) (by decide), fo 0 (by decide) (by decide), g0 10 (by decide) (by decide)]; exact d1.1
      · rw [fo 0 (by decide) (by decide), g0 10 (by decide) (by decide)]; exact d1.2.1
      · rw [fo 0 (by decide) (by decide), g0 10 (by decide) (by decide)]; exact d1.2.2
      · rw [f9 53 (by decide) (by decide) (by decide), fo 0 (by decide) (by decide), g0 13 (by decide) (by decide)]; exact d2
      · rw [f9 87 (by decide) (by decide) (by decide), fo 0 (by decide) (by decide), g0 14 (by decide) (by decide)]; exact d3
      · rw [f90, fo 0 (by decide) (by decide), g15]
      · rw [fo 0 (by decide) (by decide), g15]; omega
      · rw [fo 0 (by decide) (by decide), g15]; omega
      · rw [f91, fo 0 (by decide) (by decide), g16]
      · rw [fo 0 (by decide) (by decide), g16]; omega
      · rw [fo 0 (by decide) (by decide), g16, g15]; omega
      · unfold vScr at ho
        rw [fo o (by omega) (by omega), ge o o0, f2.1 o (by simp only [zKS]; omega), f1.1 o (by simp only [zKS]; omega)]
      · rw [fo 3 (by decide) (by decide), ge 3 (by decide), f2.2 k hk, f1.2 k hk]
      · rw [fo (125 + 14 * j) (by omega) (by omega), fo (113 + 14 * j) (by omega) (by omega), ge _ (by omega), ge _ (by omega)]
        exact z2.ro I1 j q j0 j1 q0 q1
    · exact absurd cm c'
  · have cn : ¬ mCa9 h l m := fun z => by
      obtain ⟨⟨z1, z2, z3, z4⟩, z5⟩ := z
      unfold mCl at z1
      unfold mCm at z2
      rw [m65] at z1
      rw [m25] at z2
      rw [d1.1, lim z1, (lt.2.2.1 l z1.1 z1.2).1.1, show 114 + 14 * l = 113 + 14 * l + 1 by omega] at z5
      rw [d1.1, (lt.2.2.1 l z1.1 z1.2).1.1, show 114 + 14 * l = 113 + 14 * l + 1 by omega] at z3
      rw [d4.1] at z4
      exact c ⟨z1, z2, by omega, z3, z5⟩
    rw [hv0, hg0]
    refine ⟨_, f_X11_appeal l m I.mb (by rw [d1.1]; exact d1.2) (by rw [d4.1]; exact d4.2) (by rw [d4.1, d5]; exact d6) hdep, fun w f Q => ?_⟩
    rcases Q with ⟨c', -⟩ | ⟨-, rfl, rfl⟩
    · exact absurd c' cn
    · exact ⟨rfl, I.th⟩
end
