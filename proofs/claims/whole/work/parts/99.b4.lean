/-! state, place, quota, serves -/
section
variable {h : zH}
/-- what a call may write that draws, and then tells -/
theorem vI.scr2 {f : zH} (I : vI h) (nm : vNm f) (eo : ∀ o : Int, ¬ vScr o → o ≠ 0 → f o = h o) (e0 : ∀ k : Int, k ≤ 13 → f 0 k = h 0 k) (e3 : ∀ k : Int, k ≠ 9 → f 3 k = h 3 k) (e9 : ∀ k : Int, k ≠ 0 → k < 87 ∨ k = 89 ∨ k = 96 → f 169 k = h 169 k) (eq : ∀ l q : Int, 0 ≤ l → l < 4 → 0 ≤ q → q < 60 → (-1 ≤ f (125 + 14 * l) q ∧ f (125 + 14 * l) q < 60) ∧ f (113 + 14 * l) 0 = l) : vI f :=
  I.to (I.1.tr (by rw [eo 1 (by unfold vScr; omega) (by decide)]) (e9 2 (by decide) (by decide)) (eo 170 (by unfold vScr; omega) (by decide)) (eo 2 (by unfold vScr; omega) (by decide))) nm (I.2.2.1.tr (e3 0 (by decide)) (e9 25 (by decide) (by decide)) (fun o ho => eo o (by unfold vScr; omega) (by omega))) (e3 0 (by decide)) (e0 10 (by decide)) ⟨e0 9 (by decide), e0 11 (by decide), e0 12 (by decide)⟩ (fun o ho => eo o (by unfold vScr; omega) (by omega)) (fun o l l0 l1 o0 o1 => eo o (by unfold vScr; omega) (by omega)) eq (fun o ho => eo o (by unfold vScr; omega) (by omega)) (fun k hk => e9 k (by omega) (by omega))
/-- what drawing leaves, on the class's side -/
theorem zRolled.far {l t : Int} {g : zH} (a : zRolled h l t g) : (∀ o : Int, ¬ zKS o → g o = h o) ∧ ∀ k : Int, k ≠ 9 → g 3 k = h 3 k :=
  ⟨fun o ho => funext fun k => a.2.1.1 o k ho, a.2.1.2.1⟩
theorem zRolled.ro (I : vI h) {l t : Int} {g : zH} (a : zRolled h l t g) (j q : Int) (j0 : 0 ≤ j) (j1 : j < 4) (q0 : 0 ≤ q) (q1 : q < 60) : (-1 ≤ g (125 + 14 * j) q ∧ g (125 + 14 * j) q < 60) ∧ g (113 + 14 * j) 0 = j := by
  have r := (a.1.2.2.2.2.2.2.1 j j0 j1).2.2.2 q q0 q1
  rw [show 113 + 14 * j + 12 = 125 + 14 * j by omega] at r
  refine ⟨r, ?_⟩
  rw [a.2.1.2.2 j 0 j0 j1 (by decide)]
  exact (I.2.2.2.2.2.2.2.2.2.1.2.2.2.2.2 j q j0 j1 q0 q1).2
theorem vNm.at (I : vI h) : vNm h := I.2.1
theorem zst_if (h : zH) (o k x p q : Int) : zst h o k x p q = if p = o ∧ q = k then x else h p q := rfl
/-- both sides drawn: the rolls are the same, and the invariant stands, whatever is told of why -/
theorem v_rl (I : vI h) {l t x : Int} {g e : zH} (l0 : 0 ≤ l ∧ l < h 0 12) (a : zRolled h l t g) (b : mRolled (zst (zst g 0 14 x) 169 0 0) l t e) : vRd h l t g e ∧ vI (zst e 169 87 x) := by
  have F := a.far
  have ef : ∀ o : Int, (o < 213 ∨ 223 < o ∧ o < 229 ∨ 232 < o) → e o = zst (zst g 0 14 x) 169 0 0 o := fun o ho => funext fun k => mRolled_ag b o k (fun z => by
    simp only [mRS, List.mem_cons, List.not_mem_nil, or_false] at z
    omega)
  have e0 : ∀ k : Int, zst e 169 87 x 0 k = if k = 14 then x else h 0 k := fun k => by
    rw [zst_ne (Or.inl (by decide)), ef 0 (by decide), zst_ne (Or.inl (by decide)), zst_or, F.1 0 (by simp only [zKS]; omega)]
  have e9 : ∀ k : Int, k ≠ 0 → zst e 169 87 x 169 k = if k = 87 then x else h 169 k := fun k hk => by
    rw [zst_or, ef 169 (by decide), zst_ne (Or.inr hk), zst_ne (Or.inl (by decide)), F.1 169 (by simp only [zKS]; omega)]
  have eo : ∀ o : Int, o ≠ 0 → o ≠ 169 → (o < 213 ∨ 223 < o ∧ o < 229 ∨ 232 < o) → zst e 169 87 x o = g o := fun o o0 o9 ho => by
    rw [zfn o9, ef o ho, zfn o9, zfn o0]
  refine ⟨v_rolled I l0 a b (fun o o0 _ o2 => by rw [zfn (by omega), zfn (by omega), F.1 o (by simp only [zKS]; omega)]) (fun k hk => by rw [zst_ne (Or.inr (by omega)), zst_ne (Or.inl (by decide)), F.1 169 (by simp only [zKS]; omega)]), I.scr2 ?_ (fun o ho o0 => ?_) (fun k hk => by rw [e0, if_neg (by omega)]) (fun k hk => ?_) (fun k hk hk' => by rw [e9 k hk, if_neg (by omega)]) (fun j q j0 j1 q0 q1 => ?_)⟩
  · have nm := I.2.1
    unfold vNm at nm ⊢
    have z : ∀ k : Int, k ≠ 14 → zst e 169 87 x 0 k = h 0 k := fun k hk => by rw [e0, if_neg hk]
    have z14 : zst e 169 87 x 0 14 = x := by rw [e0, if_pos rfl]
    have w : ∀ k : Int, k ≠ 0 → k ≠ 87 → zst e 169 87 x 169 k = h 169 k := fun k k0 k1 => by rw [e9 k k0, if_neg k1]
    have w87 : zst e 169 87 x 169 87 = x := zst_self _ _ _ _
    rw [z 10 (by decide), z 13 (by decide), z14, z 15 (by decide), z 16 (by decide), w 5 (by decide) (by decide), w 53 (by decide) (by decide), w87, w 90 (by decide) (by decide), w 91 (by decide) (by decide)]
    obtain ⟨n1, n2, n3, n4⟩ := nm
    exact ⟨n1, n2, rfl, n4⟩
  · unfold vScr at ho
    rw [eo o o0 (by omega) (by omega), F.1 o (by simp only [zKS]; omega)]
  · rw [eo 3 (by decide) (by decide) (by decide)]
    exact F.2 k hk
  · rw [eo (125 + 14 * j) (by omega) (by omega) (by omega), eo (113 + 14 * j) (by omega) (by omega) (by omega)]
    exact a.ro I j q j0 j1 q0 q1
theorem v_rl0 (I : vI h) {l t : Int} {g e : zH} (l0 : 0 ≤ l ∧ l < h 0 12) (a : zRolled h l t g) (b : mRolled (zst g 169 0 0) l t e) : vRd h l t g e ∧ vI e := by
  have F := a.far
  have s1 : zst g 0 14 (h 0 14) = g := by
    funext o k
    rw [zst_if]
    by_cases z : o = 0 ∧ k = 14
    · rw [if_pos z, z.1, z.2, F.1 0 (by simp only [zKS]; omega)]
    · rw [if_neg z]
  have b' : mRolled (zst (zst g 0 14 (h 0 14)) 169 0 0) l t e := by rw [s1]; exact b
  have R := v_rl I l0 a b'
  have s2 : zst e 169 87 (h 0 14) = e := by
    funext o k
    rw [zst_if]
    by_cases z : o = 169 ∧ k = 87
    · have ef : e 169 87 = zst g 169 0 0 169 87 := mRolled_ag b 169 87 (by decide)
      rw [if_pos z, z.1, z.2, ef, zst_ne (Or.inr (by decide)), F.1 169 (by simp only [zKS]; omega)]
      exact (I.2.1.2.2.1).symm
    · rw [if_neg z]
  rw [s2] at R
  exact R
end
section
variable {X : zX} {dep : Nat} {h : zH}
theorem v_state (l m t : Int) (I : vI h) (hdep : 7 ≤ dep) : vP1 X dep mX10_state mX11_state [xI l, xI m, xI t] h := by
  have m25 := I.2.2.1.2.1
  have m65 := I.2.2.2.2.2.2.2.2.2.1.2.1
  refine vP1.mk (f_X10_state l m t I.zb (by omega)) (fun v g P => ?_)
  rcases P with ⟨c, e, a, rfl, rfl⟩ | ⟨c, rfl, rfl⟩
  · have ge : ∀ o : Int, 169 ≤ o → zst e 0 14 (e (113 + 14 * l + 6) m) o = h o := fun o ho => by
      rw [zfn (by omega), a.far.1 o (by simp only [zKS]; omega)]
    refine ⟨_, f_X11_state l m t (I.mb2 ge) hdep, fun w f Q => ?_⟩
    rcases Q with ⟨-, e2, b, rfl, rfl⟩ | ⟨c', -, -⟩
    · obtain ⟨R, J⟩ := v_rl I c.1 a b
      have r := R.2.1.1 m c.2.1 c.2.2
      rw [r.2.1]
      exact ⟨r.1, J⟩
    · exact absurd ⟨⟨c.1.1, by rw [ge 169 (by decide), m65]; exact c.1.2⟩, c.2.1, by rw [ge 169 (by decide), m25]; exact c.2.2⟩ c'
  · refine ⟨_, f_X11_state l m t I.mb hdep, fun w f Q => ?_⟩
    rcases Q with ⟨c', -⟩ | ⟨-, rfl, rfl⟩
    · exact absurd ⟨⟨c'.1.1, by have := c'.1.2; rw [m65] at this; exact this⟩, c'.2.1, by have := c'.2.2; rw [m25] at this; exact this⟩ c
    · exact ⟨rfl, I.th⟩
theorem v_place (l m t : Int) (I : vI h) (hdep : 7 ≤ dep) : vP1 X dep mX10_place mX11_place [xI l, xI m, xI t] h := by
  have m25 := I.2.2.1.2.1
  have m65 := I.2.2.2.2.2.2.2.2.2.1.2.1
  refine vP1.mk (f_X10_place l m t I.zb (by omega)) (fun v g P => ?_)
  rcases P with ⟨c, a, rfl⟩ | ⟨c, rfl, rfl⟩
  · have ge : ∀ o : Int, 169 ≤ o → g o = h o := fun o ho => a.far.1 o (by simp only [zKS]; omega)
    refine ⟨_, f_X11_place l m t (I.mb2 ge) hdep, fun w f Q => ?_⟩
    rcases Q with ⟨-, b, rfl⟩ | ⟨c', -, -⟩
    · obtain ⟨R, J⟩ := v_rl0 I c.1 a b
      exact ⟨(R.2.1.1 m c.2.1 c.2.2).2.2, J⟩
    · exact absurd ⟨⟨c.1.1, by rw [ge 169 (by decide), m65]; exact c.1.2⟩, c.2.1, by rw [ge 169 (by decide), m25]; exact c.2.2⟩ c'
  · refine ⟨_, f_X11_place l m t I.mb hdep, fun w f Q => ?_⟩
    rcases Q with ⟨c', -⟩ | ⟨-, rfl, rfl⟩
    · exact absurd ⟨⟨c'.1.1, by have := c'.1.2; rw [m65] at this; exact this⟩, c'.2.1, by have := c'.2.2; rw [m25] at this; exact this⟩ c
    · exact ⟨rfl, I.th⟩
theorem v_serves (l m t : Int) (I : vI h) (hdep : 7 ≤ dep) : vP1 X dep mX10_serves mX11_serves [xI l, xI m, xI t] h := by
  have m25 := I.2.2.1.2.1
  have m65 := I.2.2.2.2.2.2.2.2.2.1.2.1
  refine vP1.mk (f_X10_serves l m t I.zb (by omega)) (fun v g P => ?_)
  rcases P with ⟨c, a, rfl⟩ | ⟨c, rfl, rfl⟩
  · have ge : ∀ o : Int, 169 ≤ o → g o = h o := fun o ho => a.far.1 o (by simp only [zKS]; omega)
    refine ⟨_, f_X11_serves l m t (I.mb2 ge) hdep, fun w f Q => ?_⟩
    rcases Q with ⟨-, b, rfl⟩ | ⟨c', -, -⟩
    · obtain ⟨R, J⟩ := v_rl0 I c.1 a b
      exact ⟨R.2.2.2.1 m c.2.1 c.2.2, J⟩
    · exact absurd ⟨⟨c.1.1, by rw [ge 169 (by decide), m65]; exact c.1.2⟩, c.2.1, by rw [ge 169 (by decide), m25]; exact c.2.2⟩ c'
  · refine ⟨_, f_X11_serves l m t I.mb hdep, fun w f Q => ?_⟩
    rcases Q with ⟨c', -⟩ | ⟨-, rfl, rfl⟩
    · exact absurd ⟨⟨c'.1.1, by have := c'.1.2; rw [m65] at this; exact this⟩, c'.2.1, by have := c'.2.2; rw [m25] at this; exact this⟩ c
    · exact ⟨rfl, I.th⟩
theorem v_quota (l p t : Int) (I : vI h) (hdep : 7 ≤ dep) : vP1 X dep mX10_quota mX11_quota [xI l, xI p, xI t] h := by
  have m65 := I.2.2.2.2.2.2.2.2.2.1.2.1
  refine vP1.mk (f_X10_quota l p t I.zb (by omega)) (fun v g P => ?_)
  rcases P with ⟨c, a, rfl⟩ | ⟨c, rfl, rfl⟩
  · have ge : ∀ o : Int, 169 ≤ o → g o = h o := fun o ho => a.far.1 o (by simp only [zKS]; omega)
    refine ⟨_, f_X11_quota l p t (I.mb2 ge) hdep, fun w f Q => ?_⟩
    rcases Q with ⟨-, b, rfl⟩ | ⟨c', -, -⟩
    · obtain ⟨R, J⟩ := v_rl0 I c.1 a b
      exact ⟨R.2.1.2.1 p c.2.1 c.2.2, J⟩
    · exact absurd ⟨⟨c.1.1, by rw [ge 169 (by decide), m65]; exact c.1.2⟩, c.2.1, by omega⟩ c'
  · refine ⟨_, f_X11_quota l p t I.mb hdep, fun w f Q => ?_⟩
    rcases Q with ⟨c', -⟩ | ⟨-, rfl, rfl⟩
    · exact absurd ⟨⟨c'.1.1, by have := c'.1.2; rw [m65] at this; exact this⟩, c'.2.1, by omega⟩ c
    · exact ⟨rfl, I.th⟩
theorem v_called (l t : Int) (I : vI h) (hdep : 7 ≤ dep) : vP1 X dep mX10_called mX11_called [xI l, xI t] h := by
  have m3 := I.2.2.1.1
  have m25 := I.2.2.1.2.1
  have m65 := I.2.2.2.2.2.2.2.2.2.1.2.1
  refine vP1.mk (f_X10_called l t I.zb (by omega)) (fun v g P => ?_)
  rcases P with ⟨c, a, rfl⟩ | ⟨c, rfl, rfl⟩
  · have ge : ∀ o : Int, 169 ≤ o → g o = h o := fun o ho => a.far.1 o (by simp only [zKS]; omega)
    refine ⟨_, f_X11_called l t (I.mb2 ge) hdep, fun w f Q => ?_⟩
    rcases Q with ⟨-, b, rfl⟩ | ⟨c', -, -⟩
    · obtain ⟨R, J⟩ := v_rl0 I c a b
      refine ⟨?_, J⟩
      rw [← R.2.1.2.2.2, ge 169 (by decide), m25]
      exact zcnt_congr (fun m m0 m1 => by rw [(R.2.1.1 m m0 (by omega)).1])
    · exact absurd ⟨c.1, by rw [ge 169 (by decide), m65]; exact c.2⟩ c'
  · refine ⟨_, f_X11_called l t I.mb hdep, fun w f Q => ?_⟩
    rcases Q with ⟨c', -⟩ | ⟨-, rfl, rfl⟩
    · exact absurd ⟨c'.1, by have := c'.2; rw [m65] at this; exact this⟩ c
    · exact ⟨rfl, I.th⟩
end
