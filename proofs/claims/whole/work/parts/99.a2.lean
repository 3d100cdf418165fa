/-! who, age, brothers -/
/-- what looking and drawing write -/
def vScr (o : Int) : Prop := o = 3 ∨ 17 ≤ o ∧ o ≤ 23 ∨ o = 63 ∨ (113 ≤ o ∧ o ≤ 168 ∧ ((o - 113) % 14 = 0 ∨ 4 ≤ (o - 113) % 14)) ∨ o = 169 ∨ 212 ≤ o ∧ o ≤ 223 ∨ 229 ≤ o ∧ o ≤ 234
theorem vI.scr {h f : zH} (I : vI h) (eo : ∀ o : Int, ¬ vScr o → f o = h o) (e3 : ∀ k : Int, k ≠ 9 → f 3 k = h 3 k) (e9 : ∀ k : Int, k ≠ 0 → f 169 k = h 169 k) (eq : ∀ l q : Int, 0 ≤ l → l < 4 → 0 ≤ q → q < 60 → (-1 ≤ f (125 + 14 * l) q ∧ f (125 + 14 * l) q < 60) ∧ f (113 + 14 * l) 0 = l) : vI f :=
  I.to (I.1.tr (by rw [eo 1 (by unfold vScr; omega)]) (e9 2 (by decide)) (eo 170 (by unfold vScr; omega)) (eo 2 (by unfold vScr; omega))) (I.2.1.tr (fun k _ _ => by rw [eo 0 (by unfold vScr; omega)]) (fun k hk => e9 k (by omega))) (I.2.2.1.tr (e3 0 (by decide)) (e9 25 (by decide)) (fun o ho => eo o (by unfold vScr; omega))) (e3 0 (by decide)) (by rw [eo 0 (by unfold vScr; omega)]) (by rw [eo 0 (by unfold vScr; omega)]; exact ⟨rfl, rfl, rfl⟩) (fun o ho => eo o (by unfold vScr; omega)) (fun o l l0 l1 o0 o1 => eo o (by unfold vScr; omega)) eq (fun o ho => eo o (by unfold vScr; omega)) (fun k hk => e9 k (by omega))
theorem vI.mb2 {h g : zH} (I : vI h) (e : ∀ o : Int, 169 ≤ o → g o = h o) : mBase g :=
  mBase_of (fun o ho k => by
    rw [e o (by
      simp only [mRB, List.mem_cons, List.not_mem_nil, or_false] at ho
      omega)]) (fun k _ => by rw [e 169 (by decide)]) I.mb
section
variable {X : zX} {dep : Nat} {h : zH}
theorem vI.lk (I : vI h) {t : Int} {g f : zH} (a : zLooked h t g) (b : mPeo (zst g 169 0 0) t f) : vLk h t g f ∧ vI f ∧ (∀ o : Int, 169 ≤ o → g o = h o) ∧ g 5 = h 5 ∧ f 173 = h 173 := by
  obtain ⟨a1, a2⟩ := a
  have go : ∀ o : Int, o ≠ 3 → (o < 17 ∨ 23 < o) → g o = h o := fun o h3 h7 => funext fun k => by
    rw [a1 o k (fun z => by
      simp only [List.mem_cons, List.not_mem_nil, or_false] at z
      omega), zst_ne (Or.inl h3)]
  have g3 : ∀ k : Int, k ≠ 9 → g 3 k = h 3 k := fun k hk => by
    rw [a1 3 k (by decide), zst_ne (Or.inr hk)]
  have fo : ∀ o : Int, (o < 213 ∨ 216 < o) → f o = zst g 169 0 0 o := fun o ho => funext fun k => b.1 o k (fun z => by
    simp only [mSp, List.mem_cons, List.not_mem_nil, or_false] at z
    omega)
  refine ⟨v_look I a2 b (fun k hk => by rw [zst_ne (Or.inr (by omega)), go 169 (by decide) (by decide)]) (fun o o0 _ _ => by rw [zfn (by omega), go o (by omega) (by omega)]), ?_, fun o ho => go o (by omega) (by omega), go 5 (by decide) (by decide), by rw [fo 173 (by decide), zfn (by decide), go 173 (by decide) (by decide)]⟩
  refine I.scr (fun o ho => ?_) (fun k hk => ?_) (fun k hk => ?_) (fun l q l0 l1 q0 q1 => ?_)
  · have ho' := ho
    unfold vScr at ho'
    rw [fo o (by omega), zfn (by omega), go o (by omega) (by omega)]
  · rw [fo 3 (by decide), zfn (by decide), g3 k hk]
  · rw [fo 169 (by decide), zst_ne (Or.inr hk), go 169 (by decide) (by decide)]
  · rw [fo (125 + 14 * l) (by omega), zfn (by omega), go (125 + 14 * l) (by omega) (by omega), fo (113 + 14 * l) (by omega), zfn (by omega), go (113 + 14 * l) (by omega) (by omega)]
    exact I.2.2.2.2.2.2.2.2.2.1.2.2.2.2.2 l q l0 l1 q0 q1
theorem v_who (m t : Int) (I : vI h) (hdep : 4 ≤ dep) : vP1 X dep mX10_who mX11_who [xI m, xI t] h := by
  have m25 := I.2.2.1.2.1
  refine vP1.mk (f_X10_who m t I.zb hdep) (fun v g P => ?_)
  rcases P with ⟨c, a, rfl⟩ | ⟨c, rfl, rfl⟩
  · have ge : ∀ o : Int, 169 ≤ o → g o = h o := fun o ho => funext fun k => by
      rw [a.1 o k (fun z => by
        simp only [List.mem_cons, List.not_mem_nil, or_false] at z
        omega), zst_ne (Or.inl (by omega))]
    refine ⟨_, f_X11_who m t (I.mb2 ge) (by omega), fun w f Q => ?_⟩
    rcases Q with ⟨-, b, rfl⟩ | ⟨c', -, -⟩
    · obtain ⟨L, J, -⟩ := I.lk a b
      exact ⟨L.who m c.1 c.2, J⟩
    · exact absurd ⟨c.1, by rw [ge 169 (by decide), m25]; exact c.2⟩ c'
  · refine ⟨_, f_X11_who m t I.mb (by omega), fun w f Q => ?_⟩
    rcases Q with ⟨c', -, -⟩ | ⟨-, rfl, rfl⟩
    · exact absurd ⟨c'.1, by have := c'.2; rw [m25] at this; exact this⟩ c
    · exact ⟨rfl, I.th⟩
theorem v_age (m d t : Int) (I : vI h) (hdep : 4 ≤ dep) : vP1 X dep mX10_age mX11_age [xI m, xI d, xI t] h := by
  have m25 := I.2.2.1.2.1
  refine vP1.mk (f_X10_age m d t I.zb hdep) (fun v g P => ?_)
  rcases P with ⟨c, a, rfl⟩ | ⟨c, rfl, rfl⟩
  · have ge : ∀ o : Int, 169 ≤ o → g o = h o := fun o ho => funext fun k => by
      rw [a.1 o k (fun z => by
        simp only [List.mem_cons, List.not_mem_nil, or_false] at z
        omega), zst_ne (Or.inl (by omega))]
    refine ⟨_, f_X11_age m d t (I.mb2 ge) (by omega), fun w f Q => ?_⟩
    rcases Q with ⟨-, b, rfl⟩ | ⟨c', -, -⟩
    · obtain ⟨L, J, -⟩ := I.lk a b
      refine ⟨?_, J⟩
      rw [L.bn m c.1.1 c.1.2]
      by_cases z : g 18 m = 0
      · rw [if_pos z, if_pos z]
      · rw [if_neg z, if_neg z, L.bw m c.1.1 c.1.2 z]
    · exact absurd ⟨⟨c.1.1, by rw [ge 169 (by decide), m25]; exact c.1.2⟩, c.2⟩ c'
  · refine ⟨_, f_X11_age m d t I.mb (by omega), fun w f Q => ?_⟩
    rcases Q with ⟨c', -, -⟩ | ⟨-, rfl, rfl⟩
    · exact absurd ⟨⟨c'.1.1, by have := c'.1.2; rw [m25] at this; exact this⟩, c'.2⟩ c
    · exact ⟨rfl, I.th⟩
/-- a man's brothers -/
theorem vLk.bro {t : Int} {g f : zH} (L : vLk h t g f) {m : Int} (m0 : 0 ≤ m) (m1 : m < h 3 0) (fa : 0 ≤ h 173 m ∧ h 173 m < 60) (e : f 173 = h 173) (c : f 215 m ≠ 0) : zcnt (mBro f m) (h 3 0).toNat = g 21 (h 173 m) - 1 := by
  rw [L.so _ fa.1 fa.2]
  have z := (zcnt_but (P := fun q => f 215 q ≠ 0 ∧ h 173 q = h 173 m) (m := m) ⟨c, rfl⟩ (h 3 0).toNat).1 (by omega)
  rw [if_pos m0] at z
  have y : zcnt (mBro f m) (h 3 0).toNat = zcnt (fun k => m ≠ k ∧ f 215 k ≠ 0 ∧ h 173 k = h 173 m) (h 3 0).toNat := zcnt_ag (fun k => by
    unfold mBro
    rw [e]
    exact ⟨fun q => ⟨q.1, q.2.1, q.2.2.symm⟩, fun q => ⟨q.1, q.2.1, q.2.2.symm⟩⟩) _
  rw [y, z]
  omega
theorem v_brothers (m t : Int) (I : vI h) (hdep : 4 ≤ dep) : vP1 X dep mX10_brothers mX11_brothers [xI m, xI t] h := by
  have m25 := I.2.2.1.2.1
  refine vP1.mk (f_X10_brothers m t I.zb hdep) (fun v g P => ?_)
  rcases P with ⟨c, a, rfl⟩ | ⟨c, rfl, rfl⟩
  · have ge : ∀ o : Int, 169 ≤ o → g o = h o := fun o ho => funext fun k => by
      rw [a.1 o k (fun z => by
        simp only [List.mem_cons, List.not_mem_nil, or_false] at z
        omega), zst_ne (Or.inl (by omega))]
    have g25 : g 169 25 = h 3 0 := by rw [ge 169 (by decide)]; exact m25
    refine ⟨_, f_X11_brothers m t (I.mb2 ge) (by omega), fun w f Q => ?_⟩
    rcases Q with ⟨-, b, rfl⟩ | ⟨c', -, -⟩
    · obtain ⟨L, J, -, g5, f173⟩ := I.lk a b
      refine ⟨?_, J⟩
      have men := I.2.2.1.2.2 m c.1 c.2
      have f25 : f 169 25 = h 3 0 := J.2.2.1.2.1.trans (by
        have := b.1 3 0 (by decide)
        rw [this, zst_ne (Or.inl (by decide)), a.1 3 0 (by decide), zst_ne (Or.inr (by decide))])
      rw [f25, L.th m c.1 c.2]
      by_cases z : g 20 m = 0
      · rw [if_pos z, if_pos z]
      · rw [if_neg z, if_neg z, g5, ← men.1.2.1]
        refine L.bro c.1 c.2 (by rw [men.1.2.1]; exact men.2.1) f173 (by rw [L.th m c.1 c.2]; exact z)
    · exact absurd ⟨c.1, by rw [g25]; exact c.2⟩ c'
  · refine ⟨_, f_X11_brothers m t I.mb (by omega), fun w f Q => ?_⟩
    rcases Q with ⟨c', -, -⟩ | ⟨-, rfl, rfl⟩
    · exact absurd ⟨c'.1, by have := c'.2; rw [m25] at this; exact this⟩ c
    · exact ⟨rfl, I.th⟩
end
