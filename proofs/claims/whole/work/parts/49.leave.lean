/-! leaving -/
/-- what is told for a week -/
def zto (h : zH) (w : Int) : Int := if w < 12 then zat h w else 255
/-- the walk of leaving, w weeks and p parishes of the next behind it -/
def zLv (h : zH) (o : Int) (w p : Nat) (g : zH) : Prop :=
  zap (fun q => q = 44 ∨ 55 ≤ q ∧ q ≤ 62) h g ∧ (∀ k : Int, k ≠ 2 → g 44 k = h 44 k) ∧ g 44 2 = 1 ∧
  (∀ q v : Int, 0 ≤ q → q < 8 → 0 ≤ v → (v < w ∨ v = w ∧ q < p) → g (55 + q) v = (zlv (zcap h o) (zto h) (v.toNat + 1)).1 q) ∧
  ∀ q v : Int, v < 0 ∨ 12 ≤ v → g (55 + q) v = h (55 + q) v
def zLvOK (h : zH) (o : Int) : Prop := (0 ≤ h 1 1 ∧ h 1 1 ≤ 340) ∧ zTold h ∧ (∀ p : Int, 0 ≤ p → p < 8 → (0 ≤ h 22 p ∧ h 22 p ≤ 60) ∧ 0 ≤ h (o + 10) p) ∧ ∀ p w : Int, 0 ≤ p → p < 8 → 0 ≤ w → w < 12 → 0 ≤ h (46 + p) w ∧ h (46 + p) w ≤ 60
theorem zLv.mh {h g : zH} {o : Int} {w p : Nat} (a : zLv h o w p g) (q v : Int) (hq : 0 ≤ q ∧ q < 8) : ∀ n : Nat, zmh g q v n = zmh h q v n
  | 0 => rfl
  | n + 1 => by
    unfold zmh
    rw [a.mh q v hq n, a.1 (46 + q) _ (by omega)]
theorem zLv.at {h g : zH} {o : Int} {w p : Nat} (a : zLv h o w p g) (i : Int) : zat g i = zat h i := by
  unfold zat
  rw [a.1 1 1 (by omega), a.1 2 i (by omega)]
theorem zto_in {h : zH} (ht : zTold h) (h1 : 0 ≤ h 1 1 ∧ h 1 1 ≤ 340) : 0 ≤ zto h 0 ∧ (∀ w : Int, 0 ≤ w → w < 12 → zto h w ≤ zto h (w + 1)) ∧ ∀ w : Int, 0 ≤ w → w < 12 → zto h w = zat h w ∧ 0 ≤ zto h w ∧ zto h w ≤ 255 := by
  have z : ∀ w : Int, 0 ≤ w → w < 12 → 0 ≤ zat h w ∧ zat h w ≤ 255 := fun w w0 w1 => by
    have := ht.1
    have := zat_in (h := h) (i := w) w0 (by omega)
    omega
  refine ⟨?_, fun w w0 w1 => ?_, fun w w0 w1 => ?_⟩
  · unfold zto
    rw [if_pos (by omega)]
    exact (z 0 (by omega) (by omega)).1
  · unfold zto
    by_cases c : w = 11
    · subst c
      exact (z 11 (by omega) (by omega)).2
    · rw [if_pos w1, if_pos (by omega)]
      have := ht.2 (w + 1) (by omega) (by omega)
      rw [show w + 1 - 1 = w by omega] at this
      exact this
  · unfold zto
    rw [if_pos w1]
    exact ⟨rfl, z w w0 w1⟩
theorem zcap_0 {h : zH} {o : Int} (w : zLvOK h o) (v p : Int) (p0 : 0 ≤ p) (p1 : p < 8) (v0 : 0 ≤ v) (v1 : v ≤ 12) : 0 ≤ zcap h o v p ∧ zcap h o v p ≤ 60 := by
  have := w.2.2.1 p p0 p1
  have := zmh_in (h := h) (p := p) (fun u u0 u1 => w.2.2.2 p u p0 p1 u0 u1) v v0 (12 - v).toNat (by omega)
  unfold zcap
  omega
theorem zlv_ok {h : zH} {o : Int} (w : zLvOK h o) : ∀ v : Nat, v ≤ 12 → (0 ≤ (zlv (zcap h o) (zto h) v).2.1 ∧ (zlv (zcap h o) (zto h) v).2.1 ≤ zto h v) ∧ ∀ p : Int, 0 ≤ p → p < 8 → 0 ≤ (zlv (zcap h o) (zto h) v).1 p ∧ (zlv (zcap h o) (zto h) v).1 p ≤ zcap h o v p :=
  zlv_in (fun p p0 p1 => (zcap_0 w 0 p p0 p1 (by omega) (by omega)).1) (fun v p v0 v1 p0 p1 => zcap_le h o v p v0 v1) (zto_in w.2.1 w.1).1 (zto_in w.2.1 w.1).2.1
theorem zlv_c (cap : Int → Int → Int) (told : Int → Int) : ∀ w : Nat, (zlv cap told w).2.2 = 0 ∨ (zlv cap told w).2.2 = 1
  | 0 => Or.inr rfl
  | w + 1 => by
    show (if (zlv cap told w).2.2 = 0 then 0 else if zls (cap w) (zlv cap told w).1 (told w) (zlv cap told w).2.1 8 = told w then 1 else 0 : Int) = 0 ∨ _ = 1
    show (if (zlv cap told w).2.2 = 0 then 0 else if zls (cap w) (zlv cap told w).1 (told w) (zlv cap told w).2.1 8 = told w then 1 else 0 : Int) = 0 ∨ (if (zlv cap told w).2.2 = 0 then 0 else if zls (cap w) (zlv cap told w).1 (told w) (zlv cap told w).2.1 8 = told w then 1 else 0 : Int) = 1
    repeat' split
    all_goals first | exact Or.inl rfl | exact Or.inr rfl
theorem l_X0_leave_24 {X : zX} {dep : Nat} {Q : Nat → zH → List zV → Prop} (o c : Int) (w : Nat) (hw : w < 12) {h : zH} (ho : zRollO o) (hb : 113 ≤ o ∧ o ≤ 155) (ok : zLvOK h o) (hdep : 2 ≤ dep)
    (kx : ∀ g : zH, zLv h o w 8 g → zW mX0_leave X dep 0 0 239 133 [(0, xR 44), (1, xR 1), (2, xR 3), (3, xR o), (4, xI c), (5, xI (zls (zcap h o w) (zlv (zcap h o) (zto h) w).1 (zto h w) (zlv (zcap h o) (zto h) w).2.1 8)), (6, xI w)] [] g Q) :
    ∀ (k p : Nat) (g : zH), p + k = 8 → zLv h o w p g → zW mX0_leave X dep 0 0 239 24 [(0, xR 44), (1, xR 1), (2, xR 3), (3, xR o), (4, xI c), (5, xI (zls (zcap h o w) (zlv (zcap h o) (zto h) w).1 (zto h w) (zlv (zcap h o) (zto h) w).2.1 p)), (6, xI w), (7, xI p)] [] g Q := by
  have z1 := zlv_ok ok w (by omega)
  have zt := zto_in ok.2.1 ok.1
  have zt2 := zt.2.2 w (by omega) (by omega)
  have zs : ∀ p : Nat, p ≤ 8 → _ := zls_in (cap := zcap h o w) (b := (zlv (zcap h o) (zto h) w).1) (t := zto h w) (s := (zlv (zcap h o) (zto h) w).2.1) z1.1 (fun p p0 p1 => (z1.2 p p0 p1).2)
  intro k
  induction k with
  | zero =>
    intro p g hk a
    obtain rfl : p = 8 := by omega
    refine bX0_leave_24 o c _ w 8 ho (by omega) (by omega) (fun q => absurd q (by omega)) (fun q => absurd q (by omega)) hdep (fun q => ?_) (fun q => absurd (by omega) q) (fun q => absurd (by omega) q)
    exact kx g a
  | succ k ih =>
    intro p g hk a
    have o1 := ok.2.2.1 p (by omega) (by omega)
    have m1 := zmh_in (h := h) (p := p) (fun u u0 u1 => ok.2.2.2 p u (by omega) (by omega) u0 u1) w (by omega) (12 - (w : Int)).toNat (by omega)
    have e22 := a.1 22 p (by omega)
    have emh := a.mh p w (by omega) (12 - (w : Int)).toNat
    have e10 := a.1 (o + 10) p (by omega)
    have cp := zcap_0 ok w p (by omega) (by omega) (by omega) (by omega)
    have s1 := zs p (by omega)
    have s2 := zs (p + 1) (by omega)
    have b1 := z1.2 p (by omega) (by omega)
    have fin : ∀ b : Int, b = (zlv (zcap h o) (zto h) w).1 p → zW mX0_leave X dep 0 0 239 76 [(0, xR 44), (1, xR 1), (2, xR 3), (3, xR o), (4, xI c), (5, xI (zls (zcap h o w) (zlv (zcap h o) (zto h) w).1 (zto h w) (zlv (zcap h o) (zto h) w).2.1 p)), (6, xI w), (7, xI p), (8, xI b), (9, xI (max 0 ((g 22 p) - (zmh g p w (12 - (w : Int)).toNat))))] [] g Q := by
      intro b hb9
      have ecap : min (max 0 (g 22 p - zmh g p w (12 - (w : Int)).toNat)) (g (o + 10) p) = zcap h o w p := by
        rw [e22, emh, e10]
        rfl
      have es : zls (zcap h o w) (zlv (zcap h o) (zto h) w).1 (zto h w) (zlv (zcap h o) (zto h) w).2.1 (p + 1) = zls (zcap h o w) (zlv (zcap h o) (zto h) w).1 (zto h w) (zlv (zcap h o) (zto h) w).2.1 p + min (zcap h o w p - (zlv (zcap h o) (zto h) w).1 p) (zto h w - zls (zcap h o w) (zlv (zcap h o) (zto h) w).1 (zto h w) (zlv (zcap h o) (zto h) w).2.1 p) := rfl
      refine bX0_leave_76 o c _ w p b _ ho (by rw [a.1 1 1 (by omega)]; exact ok.1) (by omega) (by rw [a.at, ← zt2.1]; omega) (by omega) (by omega) (by rw [ecap]; omega) (by omega) ?_
      rw [ecap, a.at, ← zt2.1, hb9]
      refine bX0_leave_105 o c _ w p _ _ ho (by omega) (by omega) (by omega) (by omega) (by omega) ?_
      have a2 : zLv h o w (p + 1) (zst g (55 + (p : Int)) w ((zlv (zcap h o) (zto h) w).1 p + min (zcap h o w p - (zlv (zcap h o) (zto h) w).1 p) (zto h w - zls (zcap h o w) (zlv (zcap h o) (zto h) w).1 (zto h w) (zlv (zcap h o) (zto h) w).2.1 p))) := by
        refine ⟨a.1.st (Or.inr (by omega)) _ _, fun q hq => ?_, ?_, fun q v q0 q1 v0 hv => ?_, fun q v hv => ?_⟩
        · rw [zst_ne (Or.inl (by omega))]
          exact a.2.1 q hq
        · rw [zst_ne (Or.inl (by omega))]
          exact a.2.2.1
        · by_cases e : q = p ∧ v = w
          · obtain ⟨rfl, rfl⟩ := e
            rw [zst_self]
            rfl
          · rw [zst_ne (by omega)]
            exact a.2.2.2.1 q v q0 q1 v0 (by omega)
        · rw [zst_ne (by omega)]
          exact a.2.2.2.2 q v hv
      have go := ih (p + 1) _ (by omega) a2
      rw [es] at go
      rw [show ((p + 1 : Nat) : Int) = (p : Int) + 1 by omega] at go
      exact go
    refine bX0_leave_24 o c _ w p ho (by omega) (by omega) (fun _ => by rw [e22]; exact o1.1) (fun _ => by rw [emh]; exact m1) hdep (fun q => absurd q (by omega)) (fun _ q => fin _ ?_) (fun _ q => fin _ ?_)
    · have := a.2.2.2.1 p ((w : Int) - 1) (by omega) (by omega) (by omega) (Or.inl (by omega))
      rw [this, show ((w : Int) - 1).toNat + 1 = w by omega]
    · have : w = 0 := by omega
      subst this
      rfl
theorem l_X0_leave_14 {X : zX} {dep : Nat} (o : Int) {h : zH} (ho : zRollO o) (hb : 113 ≤ o ∧ o ≤ 155) (ok : zLvOK h o) (hdep : 2 ≤ dep) :
    ∀ (k w : Nat) (g : zH), w + k = 12 → zLv h o w 0 g → zW mX0_leave X dep 0 0 239 14 [(0, xR 44), (1, xR 1), (2, xR 3), (3, xR o), (4, xI (zlv (zcap h o) (zto h) w).2.2), (5, xI (zlv (zcap h o) (zto h) w).2.1), (6, xI w)] [] g
      (zQI (fun v g => v = (zlv (zcap h o) (zto h) 12).2.2 ∧ zLv h o 12 0 g)) := by
  intro k
  induction k with
  | zero =>
    intro w g hk a
    obtain rfl : w = 12 := by omega
    refine bX0_leave_14 o _ _ 12 ho (by omega) (zlv_c _ _ 12) (fun _ => ?_) (fun q => absurd (by omega) q)
    exact ⟨rfl, _, rfl, rfl, a⟩
  | succ k ih =>
    intro w g hk a
    have zt2 := (zto_in ok.2.1 ok.1).2.2 w (by omega) (by omega)
    refine bX0_leave_14 o _ _ w ho (by omega) (zlv_c _ _ w) (fun q => absurd q (by omega)) (fun _ => ?_)
    refine l_X0_leave_24 o _ w (by omega) ho hb ok hdep (fun e b => ?_) 8 0 g (by omega) a
    have b2 : zLv h o (w + 1) 0 e := ⟨b.1, b.2.1, b.2.2.1, fun q v q0 q1 v0 hv => b.2.2.2.1 q v q0 q1 v0 (by omega), b.2.2.2.2⟩
    have go := ih (w + 1) e (by omega) b2
    rw [show ((w + 1 : Nat) : Int) = (w : Int) + 1 by omega] at go
    refine bX0_leave_133 o _ _ w ho (by rw [b.1 1 1 (by omega)]; exact ok.1) (by omega) (by omega) (fun c => ?_) (fun c => ?_)
    · have e1 : (zlv (zcap h o) (zto h) (w + 1)).2.2 = 0 := if_pos c
      rw [e1] at go
      exact go
    · have e1 : (zlv (zcap h o) (zto h) (w + 1)).2.2 = if zls (zcap h o w) (zlv (zcap h o) (zto h) w).1 (zto h w) (zlv (zcap h o) (zto h) w).2.1 8 = zto h w then 1 else 0 := if_neg c
      rw [e1] at go
      rw [b.at, ← zt2.1]
      exact go
theorem f_X0_leave {X : zX} {dep : Nat} (o : Int) {h : zH} (ho : zRollO o) (hb : 113 ≤ o ∧ o ≤ 155) (ok : zLvOK h o) (hdep : 2 ≤ dep) : zW mX0_leave X dep 0 0 239 0 (zar 0 [xR 44, xR 1, xR 3, xR o]) [] h
    (zQI (fun v g => v = (zlv (zcap h o) (zto h) 12).2.2 ∧ zLv h o 12 0 g)) := by
  refine bX0_leave_0 o ho ?_
  have a : zLv h o 0 0 (zst h 44 2 1) := ⟨(zap.rf _ h).st (Or.inl rfl) _ _, fun k hk => zst_ne (Or.inr hk), zst_self _ _ _ _, fun q v q0 q1 v0 hv => by omega, fun q v hv => zst_ne (by omega)⟩
  exact l_X0_leave_14 o ho hb ok hdep 12 0 _ (by omega) a
