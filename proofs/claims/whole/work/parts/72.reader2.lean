/-! reading a COND: contracts -/
theorem zTkOK.lt {h : zH} {j : Int} (t : zTkOK h) (hj : 0 ≤ j ∧ j < h 25 4) (hk : h 26 j ≠ 0 ∨ h 29 j ≠ -1) : j + 1 < h 25 4 := by
  by_cases c : j = h 25 4 - 1
  · rw [c, t.2.1, t.2.2.1] at hk
    omega
  · omega
theorem zSeq_nil (r : zRes) : zSeq [] r = r := by
  cases r with
  | inl e => rfl
  | inr q => rfl
theorem f_X5_readSign {X : zX} {dep : Nat} (L w j o : Int) {h : zH} (a : zAt h L j o) (t : zTkOK h) (hw : w ≠ 0) (hdep : 1 ≤ dep) : zW mX5_readSign X dep 0 0 239 0 (zar 0 [xR 24, xI w]) [] h (zQI (fun v f => h 26 j = w ∧ v = 1 ∧ f = zrd h (j + 1) o ∨ ¬ h 26 j = w ∧ v = 0 ∧ zFt h L 1 j f)) := by
  have a5 := a.2.2.2.1
  refine bX5_readSign_0 w (fun c => ?_) (fun c => ?_)
  · have c1 : h 26 j = w := by omega
    have lt := t.lt a.2.1 (Or.inl (by omega))
    refine rX5_readSign_15 w (f_X5_readToken L j o a ⟨lt, t.1.2⟩) hdep (fun g hg => ?_)
    refine bX5_readSign_18 w ?_
    exact ⟨rfl, _, rfl, Or.inl ⟨c1, rfl, hg⟩⟩
  · refine rX5_readSign_10 w (f_X5_fail L 1 j o a t.1.2) hdep (fun v g hg => ?_)
    obtain ⟨rfl, hg⟩ := hg
    refine bX5_readSign_13 w 0 (Or.inl rfl) ?_
    exact ⟨rfl, _, rfl, Or.inr ⟨by omega, rfl, hg⟩⟩
/-- what follows a word that asks -/
def zQm (kd vl : Int → Int) (q j o : Int) : zRes :=
  if zWn q ≠ -1 then .inr (j, o, [zqs (zWa q) 61 (zWn q)])
  else if kd j ≠ 60 ∧ kd j ≠ 61 ∧ kd j ≠ 62 then .inl (1, j)
  else if kd (j + 1) ≠ 2 then .inl (1, j + 1)
  else .inr (j + 2, o, [zqs (zWa q) (kd j) (vl (j + 1))])
theorem zQm_n (kd wd vl : Int → Int) (j o : Int) : zQm kd vl (wd j) (j + 1) (o + 1) = zQn kd wd vl j o := by
  unfold zQm zQn
  rw [show j + 1 + 1 = j + 2 by omega, show j + 1 + 2 = j + 3 by omega]
theorem f_X5_readQuestion {X : zX} {dep : Nat} (L q j o : Int) {h : zH} (hL : zLawO L) (hb : 30 ≤ L ∧ L ≤ 107) (hq : 1000000 ≤ q ∧ q < 1000022) (a : zAt h L j o) (t : zTkOK h) (hl : 0 < h L 6 ∧ h L 6 ≤ 20 ∧ 0 ≤ h L 12 ∧ h L 12 < 120) (hdep : 2 ≤ dep) :
    zW mX5_readQuestion X dep 0 0 239 0 (zar 0 [xR 24, xR q]) [] h (zQI (zOut h L (zQm (h 26) (h 28) q j o))) := by
  have a5 := a.2.2.2.1
  have a4 := a.2.2.1
  have rd := a.rd
  have add : ∀ (g : zH) (x : Int), (0 < g L 6 ∧ g L 6 ≤ 20 ∧ 0 ≤ g L 12 ∧ g L 12 < 120) → zW mX1_addStep X (dep - 1) 0 0 239 0 (zar 0 [xR L, xI x]) [] g (zQ0 (fun f => f = zstp g L x)) := fun g x hx => (f_X1_addStep L x hL (by omega) (by omega)).weaken (fun _ _ _ q => ⟨q.1, q.2.2, q.2.1⟩)
  have qs : ∀ (g : zH) (s y : Int), zW mX1_question X (dep - 1) 0 0 239 0 (zar 0 [xI (zWa q), xI s, xI y]) [] g (zQI (fun v f => v = zqs (zWa q) s y ∧ g = f)) := fun g s y => zfI (f_X1_question _ _ _)
  have sg : zWn q = -1 → (h 24 5 = 60 ∨ h 24 5 = 61 ∨ h 24 5 = 62) → zW mX5_readQuestion X dep 0 0 239 60 [(0, xR 24), (1, xR q), (2, xI (h 24 5))] [xR 24] h (zQI (zOut h L (zQm (h 26) (h 28) q j o))) := by
    intro c1 c2
    have lt := t.lt a.2.1 (Or.inl (by omega))
    refine rX5_readQuestion_60 q _ (f_X5_readToken L j o a ⟨lt, t.1.2⟩) (by omega) (fun g hg => ?_)
    have e : ∀ p k : Int, p ≠ 24 → g p k = h p k := fun p k hp => by rw [hg, zrd_ne _ _ _ hp]
    have r24 : ∀ k : Int, g 24 k = if k = 7 then o else if k = 6 then h 29 (j + 1) else if k = 5 then h 26 (j + 1) else if k = 4 then j + 1 else h 24 k := fun k => by rw [hg, zrd_24]
    have g5 : g 24 5 = h 26 (j + 1) := r24 5
    have g4 : g 24 4 = j + 1 := r24 4
    have g1 : g 24 1 = L := (r24 1).trans a.1
    refine bX5_readQuestion_63 q _ L hq hL g1 (by rw [g4]; have := t.1; have := a.2.1; omega) (fun c3 => ?_) (fun c3 => ?_)
    · rw [g4, e 28 _ (by omega)]
      rw [g5] at c3
      have ag : zAt g L (j + 1) o := ⟨g1, by rw [e 25 4 (by omega)]; have := a.2.1; omega, g4, by rw [g5, e 26 _ (by omega)], by rw [e 29 _ (by omega)]; exact r24 6, r24 7, a.2.2.2.2.2.2⟩
      have lt2 := t.lt (j := j + 1) (by have := a.2.1; omega) (Or.inl (by omega))
      refine rX5_readQuestion_98 q _ _ L hL (qs g _ _) (by omega) (fun v f hf => ?_)
      obtain ⟨rfl, rfl⟩ := hf
      refine rX5_readQuestion_101 q _ L _ hL (add g _ (by rw [e L _ (by omega), e L _ (by omega)]; omega)) (by omega) (fun f hf => ?_)
      refine bX5_readQuestion_104 q _ ?_
      have ef : f = zrd (zstp h L (zqs (zWa q) (h 24 5) (h 28 (j + 1)))) (j + 1) o := by rw [hf, hg, zstp_rd _ _ _ _ _ hb.1]
      have e2 : ∀ p k : Int, p < 24 ∨ 24 < p ∧ p < 30 → f p k = h p k := fun p k hp => by
        rw [ef, zrd_ne _ _ _ (by omega), zstp_ne _ _ _ (by omega) (by omega) (by omega)]
      have f24 : ∀ k : Int, f 24 k = g 24 k := fun k => by rw [hf, zstp_ne _ _ _ (by omega) (by omega) (by omega)]
      have af : zAt f L (j + 1) o := ⟨by rw [f24]; exact ag.1, by rw [e2 25 4 (by omega)]; have := a.2.1; omega, by rw [f24]; exact g4, by rw [f24, e2 26 _ (by omega)]; exact g5, by rw [f24, e2 29 _ (by omega)]; exact r24 6, by rw [f24]; exact r24 7, a.2.2.2.2.2.2⟩
      refine rX5_readQuestion_105 q _ (f_X5_readToken L (j + 1) o af ⟨by rw [e2 25 4 (by omega)]; exact lt2, by rw [e2 25 4 (by omega)]; exact t.1.2⟩) (by omega) (fun f2 hf2 => ?_)
      refine bX5_readQuestion_108 q _ ?_
      refine ⟨rfl, _, rfl, ?_⟩
      unfold zQm
      rw [if_neg (by omega), if_neg (by omega), if_neg (by omega)]
      refine ⟨rfl, ?_⟩
      rw [hf2, ef, zrd_rd, show j + 1 + 1 = j + 2 by omega, a5]
      rfl
    · rw [g5] at c3
      have ag : zAt g L (j + 1) o := ⟨g1, by rw [e 25 4 (by omega)]; have := a.2.1; omega, g4, by rw [g5, e 26 _ (by omega)], by rw [e 29 _ (by omega)]; exact r24 6, r24 7, a.2.2.2.2.2.2⟩
      refine rX5_readQuestion_73 q _ (f_X5_fail L 1 (j + 1) o ag (by rw [e 25 4 (by omega)]; exact t.1.2)) (by omega) (fun v f hf => ?_)
      obtain ⟨rfl, hf⟩ := hf
      refine bX5_readQuestion_76 q _ 0 (Or.inl rfl) ?_
      refine ⟨rfl, _, rfl, ?_⟩
      unfold zQm
      rw [if_neg (by omega), if_neg (by omega), if_pos c3]
      exact ⟨rfl, zFt.of (S := []) hb.1 hg hf⟩
  refine bX5_readQuestion_0 q L hq hL a.1 (fun c1 c2 => ?_) (fun c1 c2 c3 => ?_) (fun c1 c2 c3 c4 => ?_) (fun c1 c2 c3 c4 => ?_) (fun c1 => ?_)
  · exact zW.sub (lv' := [(0, xR 24), (1, xR q), (2, xI (h 24 5))]) [1, 2, 0] rfl (sg c1 (by omega))
  · exact zW.sub (lv' := [(0, xR 24), (1, xR q), (2, xI (h 24 5))]) [1, 2, 0] rfl (sg c1 (by omega))
  · exact zW.sub (lv' := [(0, xR 24), (1, xR q), (2, xI (h 24 5))]) [1, 2, 0] rfl (sg c1 (by omega))
  · refine zW.sub (lv' := [(0, xR 24), (1, xR q), (2, xI (h 24 5))]) [1, 2, 0] rfl ?_
    refine rX5_readQuestion_55 q _ (f_X5_fail L 1 j o a t.1.2) (by omega) (fun v f hf => ?_)
    obtain ⟨rfl, hf⟩ := hf
    refine bX5_readQuestion_58 q _ 0 (Or.inl rfl) ?_
    refine ⟨rfl, _, rfl, ?_⟩
    unfold zQm
    rw [if_neg (by omega), if_pos (by omega)]
    exact ⟨rfl, hf⟩
  · refine rX5_readQuestion_22 q L hL (qs h _ _) (by omega) (fun v f hf => ?_)
    obtain ⟨rfl, rfl⟩ := hf
    refine rX5_readQuestion_25 q L _ hL (add h _ hl) (by omega) (fun f hf => ?_)
    refine bX5_readQuestion_28 q ?_
    refine ⟨rfl, _, rfl, ?_⟩
    unfold zQm
    rw [if_pos c1]
    refine ⟨rfl, ?_⟩
    show f = zrd (zstp h L _) j o
    rw [hf, ← zstp_rd _ _ _ _ _ hb.1, rd]
abbrev zS0 (X : zX) (L : Int) (f : Nat) : Prop := ∀ (dep : Nat) (w j o : Int) (h : zH), zCtx h L j o → 0 ≤ w → w ≤ 12 → 4 * (61 - o) ≤ f → 3 * (12 - w) + 3 ≤ dep → zW mX5_readOne X dep 0 0 239 0 (zar 0 [xR 24, xI w]) [] h (zQI (zOut h L (zPx (h 26) (h 29) (h 28) f 0 w j o)))
abbrev zS1 (X : zX) (L : Int) (f : Nat) : Prop := ∀ (dep : Nat) (w j o : Int) (h : zH), zCtx h L j o → 0 ≤ w → w ≤ 12 → 4 * (61 - o) + 1 ≤ f → 3 * (12 - w) + 4 ≤ dep → zW mX5_readAll X dep 0 0 239 0 (zar 0 [xR 24, xI w]) [] h (zQI (zOut h L (zPx (h 26) (h 29) (h 28) f 1 w j o)))
abbrev zS2 (X : zX) (L : Int) (f : Nat) : Prop := ∀ (dep : Nat) (w j o : Int) (h : zH), zCtx h L j o → 0 ≤ w → w ≤ 12 → 4 * (61 - o) + 2 ≤ f → 3 * (12 - w) + 5 ≤ dep → zW mX5_readCond X dep 0 0 239 0 (zar 0 [xR 24, xI w]) [] h (zQI (zOut h L (zPx (h 26) (h 29) (h 28) f 2 w j o)))
abbrev zS3 (X : zX) (L : Int) (f : Nat) : Prop := ∀ (dep : Nat) (w j o n : Int) (h : zH), zCtx h L j o → 0 ≤ w → w ≤ 12 → 0 ≤ n → n + 1 ≤ o → 4 * (61 - o) + 1 ≤ f → 3 * (12 - w) + 4 ≤ dep → zW mX5_readAll X dep 0 0 239 12 [(0, xR 24), (1, xI w), (2, xI n)] [] h (zQI (zOut h L (zPx (h 26) (h 29) (h 28) f 3 w j o)))
abbrev zS4 (X : zX) (L : Int) (f : Nat) : Prop := ∀ (dep : Nat) (w j o n : Int) (h : zH), zCtx h L j o → 0 ≤ w → w ≤ 12 → 0 ≤ n → n + 1 ≤ o → 4 * (61 - o) + 2 ≤ f → 3 * (12 - w) + 5 ≤ dep → zW mX5_readCond X dep 0 0 239 12 [(0, xR 24), (1, xI w), (2, xI n)] [] h (zQI (zOut h L (zPx (h 26) (h 29) (h 28) f 4 w j o)))
theorem zCtx.next {h g : zH} {L j o : Int} (a : zCtx h L j o) (hb : 30 ≤ L) (lt : j + 1 < h 25 4) (hg : g = zrd h (j + 1) o) : zCtx g L (j + 1) o ∧ g 26 = h 26 ∧ g 29 = h 29 ∧ g 28 = h 28 ∧ g 27 = h 27 :=
  a.mk hb [] hg (by have := a.1.2.1; omega) a.1.2.2.2.2.2.2 (by have := a.2.2; unfold zLk at this; simp only [List.length_nil]; omega)
theorem zPx_g {h : zH} {L j o : Int} (a : zCtx h L j o) (f m : Nat) (w j2 o2 : Int) (hj : j2 < h 25 4) (ho : o2 ≤ 60) (hm : m < 5) : zGd (h 25 4 - 1) (if m < 3 then 1 else 0) j2 o2 (zPx (h 26) (h 29) (h 28) f m w j2 o2) :=
  zPx_in a.2.1.2.1 a.2.1.2.2.1 f m w j2 o2 (by omega) ho hm
set_option linter.constructorNameAsVariable false in
theorem s_X5_readOne {X : zX} (L : Int) (hL : zLawO L) (hb : 30 ≤ L ∧ L ≤ 107) (f : Nat) (i0 : zS0 X L f) (i2 : zS2 X L f) : zS0 X L (f + 1) := by
  intro dep w j o h a w0 w1 hf hdep
  have a4 := a.1.2.2.1
  have a5 := a.1.2.2.2.1
  have a6 := a.1.2.2.2.2.1
  have a7 := a.1.2.2.2.2.2.1
  have aj := a.1.2.1
  have ao := a.1.2.2.2.2.2.2
  have tk := a.2.1
  have lk := a.2.2
  unfold zLk at lk
  have hwd := (tk.2.2.2 j aj.1 aj.2)
  have fl : ∀ k : Int, zW mX5_fail X (dep - 1) 0 0 239 0 (zar 0 [xR 24, xI k]) [] h (zQI (fun v f => v = 0 ∧ zFt h L k j f)) := fun k => f_X5_fail L k j o a.1 tk.1.2
  rw [zPx_0]
  have t49 : ∀ y : Int, ¬ (¬ zAsk (h 29 j) ∧ h 29 j ≠ 1000007 ∧ h 26 j ≠ 40) → (y = 0 ∧ ¬ zAsk (h 29 j) ∨ y = 1 ∧ zAsk (h 29 j)) → zW mX5_readOne X dep 0 0 239 49 [(0, xR 24), (1, xI w), (2, xR (h 24 6)), (3, xI y)] [] h (zQI (zOut h L (if ¬ zAsk (h 29 j) ∧ h 29 j ≠ 1000007 ∧ h 26 j ≠ 40 then .inl (1, j)
    else if 60 ≤ o ∨ 12 ≤ w then .inl (4, j)
    else if zAsk (h 29 j) then zQn (h 26) (h 29) (h 28) j o
    else if h 29 j = 1000007 then (match zPx (h 26) (h 29) (h 28) f 0 (w + 1) (j + 1) (o + 1) with
      | .inl e => .inl e
      | .inr q => .inr (q.1, q.2.1, q.2.2 ++ [-3]))
    else (match zPx (h 26) (h 29) (h 28) f 2 (w + 1) (j + 1) (o + 1) with
      | .inl e => .inl e
      | .inr q => if h 26 q.1 = 41 then .inr (q.1 + 1, q.2.1, q.2.2) else .inl (1, q.1))))) := by
    intro y c0 hy
    rw [if_neg c0]
    have f4 : 60 ≤ o ∨ 12 ≤ w → zW mX5_readOne X dep 0 0 239 66 [(0, xR 24), (1, xI w), (2, xR (h 24 6)), (3, xI y)] [xI 4, xR 24] h (zQI (zOut h L (if 60 ≤ o ∨ 12 ≤ w then .inl (4, j)
    else if zAsk (h 29 j) then zQn (h 26) (h 29) (h 28) j o
    else if h 29 j = 1000007 then (match zPx (h 26) (h 29) (h 28) f 0 (w + 1) (j + 1) (o + 1) with
      | .inl e => .inl e
      | .inr q => .inr (q.1, q.2.1, q.2.2 ++ [-3]))
    else (match zPx (h 26) (h 29) (h 28) f 2 (w + 1) (j + 1) (o + 1) with
      | .inl e => .inl e
      | .inr q => if h 26 q.1 = 41 then .inr (q.1 + 1, q.2.1, q.2.2) else .inl (1, q.1))))) := by
      intro c1
      rw [if_pos c1]
      refine rX5_readOne_66 w _ y (fl 4) (by omega) (fun v f hf => ?_)
      obtain ⟨rfl, hf⟩ := hf
      refine bX5_readOne_69 w _ y 0 (Or.inl rfl) ?_
      exact ⟨rfl, _, rfl, rfl, hf⟩
    refine bX5_readOne_49 w _ y (by omega) (fun c => f4 (by omega)) (fun c c2 => ?_) (fun c c2 => f4 (by omega))
    rw [if_neg (by omega)]
    have lt : j + 1 < h 25 4 := tk.lt aj (by
      by_cases c3 : h 29 j = -1
      · refine Or.inl (fun z => c0 ⟨fun q => q.1 (by omega), by omega, by omega⟩)
      · exact Or.inr c3)
    have a7' : zAt (zst h 24 7 (h 24 7 + 1)) L j (o + 1) := by
      refine ⟨?_, ?_, ?_, ?_, ?_, ?_, by omega⟩
      · rw [zst_ne (Or.inr (by omega))]; exact a.1.1
      · rw [zst_ne (Or.inl (by omega))]; exact aj
      · rw [zst_ne (Or.inr (by omega))]; exact a4
      · rw [zst_ne (Or.inr (by omega)), zst_ne (Or.inl (by omega))]; exact a5
      · rw [zst_ne (Or.inr (by omega)), zst_ne (Or.inl (by omega))]; exact a6
      · rw [zst_self, a7]
    refine rX5_readOne_81 w _ y (f_X5_readToken L j (o + 1) a7' (by rw [zst_ne (Or.inl (by omega))]; exact ⟨lt, tk.1.2⟩)) (by omega) (fun g hg => ?_)
    rw [zrd_st7] at hg
    obtain ⟨cg, g26, g29, g28, g27⟩ := a.mk hb.1 [] hg (by omega) (by omega) (by simp only [List.length_nil]; omega)
    have lg := cg.2.2
    unfold zLk at lg
    have l12 : g L 12 = h L 12 := by rw [hg, zrd_ne _ _ _ (by omega)]
    refine bX5_readOne_84 w _ y (by rw [a6]; exact hwd.1) (by omega) (fun c3 c4 => ?_) (fun c3 c4 => ?_) (fun c3 => ?_)
    · rw [a6] at c4
      rw [if_neg (hy.elim (fun q => q.2) (fun q => absurd (c3.symm.trans q.1) (by decide))), if_pos c4]
      refine rX5_readOne_130 w _ y (i0 (dep - 1) (w + 1) (j + 1) (o + 1) g cg (by omega) (by omega) (by omega) (by omega)) (by omega) (fun v f1 hf1 => ?_)
      rw [g26, g29, g28] at hf1
      have gd := zPx_g a f 0 (w + 1) (j + 1) (o + 1) lt (by omega) (by omega)
      cases hr : zPx (h 26) (h 29) (h 28) f 0 (w + 1) (j + 1) (o + 1) with
      | inl e =>
        rw [hr] at hf1
        obtain ⟨rfl, hf1⟩ := hf1
        refine bX5_readOne_133 w _ y 0 L hL (hf1.2.1.trans cg.1.1) (fun c => absurd rfl c) (fun _ => ?_)
        exact ⟨rfl, _, rfl, rfl, zFt.of (S := []) hb.1 hg hf1⟩
      | inr q =>
        rw [hr] at hf1 gd
        obtain ⟨rfl, hf1⟩ := hf1
        have b : j + 1 + 1 ≤ q.1 ∧ q.1 ≤ h 25 4 - 1 ∧ o + 1 + 1 ≤ q.2.1 ∧ q.2.1 ≤ 60 ∧ (q.2.2.length : Int) + 1 ≤ 2 * (q.2.1 - (o + 1)) := gd
        have e1 : f1 = zrd (zstps h L q.2.2) q.1 q.2.1 := by
          rw [hf1, hg, zstps_rd _ _ _ hb.1, zrd_rd]
        have f12 : f1 L 12 = h L 12 + q.2.2.length := by rw [e1, zrd_ne _ _ _ (by omega)]; exact (zstps_L L _ h).1
        have f6 : f1 L 6 = h L 6 := by rw [e1, zrd_ne _ _ _ (by omega)]; exact (zstps_L L _ h).2 6 (by omega) (by omega)
        have f1l : f1 24 1 = L := by
          rw [e1, zrd_24]
          exact (zstps_ne L (by omega) (by omega) (by omega) 1 q.2.2 h).trans a.1.1
        refine bX5_readOne_133 w _ y 1 L hL f1l (fun _ => ?_) (fun c => absurd c (by omega))
        refine rX5_readOne_144 w _ y L hL ((f_X1_addStep L (-3) hL (by omega) (by omega)).weaken (fun _ _ _ q => ⟨q.1, q.2.2, q.2.1⟩)) (by omega) (P := fun f2 => f2 = zstp f1 L (-3)) (fun f2 hf2 => ?_)
        refine bX5_readOne_147 w _ y ?_
        refine ⟨rfl, _, rfl, rfl, ?_⟩
        show f2 = zrd (zstps h L (q.2.2 ++ [-3])) q.1 q.2.1
        rw [hf2, e1, zstp_rd _ _ _ _ _ hb.1, zstps_app]
        rfl
    · rw [a6] at c4
      rw [if_neg (hy.elim (fun q => q.2) (fun q => absurd (c3.symm.trans q.1) (by decide))), if_neg c4]
      refine rX5_readOne_105 w _ y (i2 (dep - 1) (w + 1) (j + 1) (o + 1) g cg (by omega) (by omega) (by omega) (by omega)) (by omega) (fun v f1 hf1 => ?_)
      rw [g26, g29, g28] at hf1
      have gd := zPx_g a f 2 (w + 1) (j + 1) (o + 1) lt (by omega) (by omega)
      cases hr : zPx (h 26) (h 29) (h 28) f 2 (w + 1) (j + 1) (o + 1) with
      | inl e =>
        rw [hr] at hf1
        obtain ⟨rfl, hf1⟩ := hf1
        refine bX5_readOne_108 w _ y 0 (fun _ => ?_) (fun c => absurd rfl c)
        exact ⟨rfl, _, rfl, rfl, zFt.of (S := []) hb.1 hg hf1⟩
      | inr q =>
        rw [hr] at hf1 gd
        obtain ⟨rfl, hf1⟩ := hf1
        have b : j + 1 + 1 ≤ q.1 ∧ q.1 ≤ h 25 4 - 1 ∧ o + 1 + 1 ≤ q.2.1 ∧ q.2.1 ≤ 60 ∧ (q.2.2.length : Int) + 1 ≤ 2 * (q.2.1 - (o + 1)) := gd
        have e1 : f1 = zrd (zstps h L q.2.2) q.1 q.2.1 := by
          rw [hf1, hg, zstps_rd _ _ _ hb.1, zrd_rd]
        obtain ⟨cf, f26, f29, f28, f27⟩ := a.mk hb.1 q.2.2 e1 (by omega) (by omega) (by omega)
        refine bX5_readOne_108 w _ y 1 (fun c => absurd c (by omega)) (fun _ => ?_)
        refine rX5_readOne_114 w _ y (f_X5_readSign L 41 q.1 q.2.1 cf.1 cf.2.1 (by omega) (by omega)) (by omega) (fun v f2 hf2 => ?_)
        rw [f26] at hf2
        rcases hf2 with ⟨c5, rfl, hf2⟩ | ⟨c5, rfl, hf2⟩
        · refine bX5_readOne_117 w _ y 1 ?_
          refine ⟨rfl, _, rfl, ?_⟩
          show zOut h L (if h 26 q.1 = 41 then .inr (q.1 + 1, q.2.1, q.2.2) else .inl (1, q.1)) _ _
          rw [if_pos c5]
          refine ⟨by decide, ?_⟩
          rw [hf2, e1, zrd_rd]
        · refine bX5_readOne_117 w _ y 0 ?_
          refine ⟨rfl, _, rfl, ?_⟩
          show zOut h L (if h 26 q.1 = 41 then .inr (q.1 + 1, q.2.1, q.2.2) else .inl (1, q.1)) _ _
          rw [if_neg c5]
          exact ⟨by decide, zFt.of hb.1 e1 hf2⟩
    · have c5 : zAsk (h 29 j) := by
        rcases hy with q | q
        · exact absurd q.1 c3
        · exact q.2
      rw [if_pos c5]
      have q9 : 1000000 ≤ h 24 6 ∧ h 24 6 < 1000022 := by
        rw [a6]
        rcases hwd.1 with q | q
        · exact absurd (show h 29 j < 0 by omega) c5.1
        · exact q
      refine rX5_readOne_90 w _ y (f_X5_readQuestion L _ (j + 1) (o + 1) hL hb q9 cg.1 cg.2.1 (by omega) (by omega)) (by omega) (fun v f1 hf1 => ?_)
      rw [g26, g28, a6, zQm_n] at hf1
      generalize zQn (h 26) (h 29) (h 28) j o = Z at hf1 ⊢
      have v01 : v = 0 ∨ v = 1 := by
        cases Z with
        | inl e => exact Or.inl hf1.1
        | inr q => exact Or.inr hf1.1
      refine bX5_readOne_93 w _ y v v01 ?_
      refine ⟨rfl, _, rfl, ?_⟩
      have z := zOut.seq (j := 0) (o := 0) (S := []) hb.1 hg hf1
      rw [zSeq_nil] at z
      exact z
  have f1 : ¬ zAsk (h 29 j) ∧ h 29 j ≠ 1000007 ∧ h 26 j ≠ 40 → zW mX5_readOne X dep 0 0 239 45 [(3, xI 0), (2, xR (h 24 6)), (0, xR 24), (1, xI w)] [xI 1, xR 24] h (zQI (zOut h L (if ¬ zAsk (h 29 j) ∧ h 29 j ≠ 1000007 ∧ h 26 j ≠ 40 then .inl (1, j)
    else if 60 ≤ o ∨ 12 ≤ w then .inl (4, j)
    else if zAsk (h 29 j) then zQn (h 26) (h 29) (h 28) j o
    else if h 29 j = 1000007 then (match zPx (h 26) (h 29) (h 28) f 0 (w + 1) (j + 1) (o + 1) with
      | .inl e => .inl e
      | .inr q => .inr (q.1, q.2.1, q.2.2 ++ [-3]))
    else (match zPx (h 26) (h 29) (h 28) f 2 (w + 1) (j + 1) (o + 1) with
      | .inl e => .inl e
      | .inr q => if h 26 q.1 = 41 then .inr (q.1 + 1, q.2.1, q.2.2) else .inl (1, q.1))))) := by
    intro c
    rw [if_pos c]
    refine zW.sub (lv' := [(0, xR 24), (1, xI w), (2, xR (h 24 6)), (3, xI 0)]) [2, 3, 1, 0] rfl ?_
    refine rX5_readOne_45 w _ 0 (fl 1) (by omega) (fun v f hf => ?_)
    obtain ⟨rfl, hf⟩ := hf
    refine bX5_readOne_48 w _ 0 0 (Or.inl rfl) ?_
    exact ⟨rfl, _, rfl, rfl, hf⟩
  refine bX5_readOne_0 w (by rw [a6]; exact hwd.1) (fun c c2 => absurd c2 (by omega)) (fun c c2 c3 => ?_) (fun c c2 c3 => ?_) (fun c c2 c3 => ?_) (fun c c2 c3 c4 => ?_) (fun c c2 c3 c4 => ?_) (fun c c2 => ?_)
  · rw [a6] at c c2
    rw [a5] at c3
    exact t49 0 (fun z => z.2.2 c3) (Or.inl ⟨rfl, fun z => z.1 c⟩)
  · rw [a6] at c c2
    rw [a5] at c3
    exact f1 ⟨fun z => z.1 c, c2, c3⟩
  · rw [a6] at c c2 c3
    exact t49 0 (fun z => z.2.1 c3) (Or.inl ⟨rfl, fun z => z.2 c2⟩)
  · rw [a6] at c c2 c3
    rw [a5] at c4
    exact t49 0 (fun z => z.2.2 c4) (Or.inl ⟨rfl, fun z => z.2 c2⟩)
  · rw [a6] at c c2 c3
    rw [a5] at c4
    exact f1 ⟨fun z => z.2 c2, c3, c4⟩
  · rw [a6] at c c2
    exact t49 1 (fun z => z.1 ⟨c, c2⟩) (Or.inr ⟨rfl, c, c2⟩)
theorem s_X5_readAll_0 {X : zX} (L : Int) (hb : 30 ≤ L ∧ L ≤ 107) (f : Nat) (i0 : zS0 X L f) (i3 : zS3 X L f) : zS1 X L (f + 1) := by
  intro dep w j o h a w0 w1 hf hdep
  have aj := a.1.2.1
  have ao := a.1.2.2.2.2.2.2
  have lk := a.2.2
  unfold zLk at lk
  rw [zPx_1]
  refine bX5_readAll_0 w ?_
  refine rX5_readAll_2 w (i0 (dep - 1) w j o h a w0 w1 (by omega) (by omega)) (by omega) (fun v f1 hf1 => ?_)
  have gd := zPx_g a f 0 w j o aj.2 ao.2 (by omega)
  cases hr : zPx (h 26) (h 29) (h 28) f 0 w j o with
  | inl e =>
    rw [hr] at hf1
    obtain ⟨rfl, hf1⟩ := hf1
    refine bX5_readAll_5 w 0 (fun c => absurd rfl c) (fun _ => ?_)
    exact ⟨rfl, _, rfl, rfl, hf1⟩
  | inr q =>
    rw [hr] at hf1 gd
    obtain ⟨rfl, hf1⟩ := hf1
    have b : j + 1 ≤ q.1 ∧ q.1 ≤ h 25 4 - 1 ∧ o + 1 ≤ q.2.1 ∧ q.2.1 ≤ 60 ∧ (q.2.2.length : Int) + 1 ≤ 2 * (q.2.1 - o) := gd
    obtain ⟨cf, f26, f29, f28, f27⟩ := a.mk hb.1 q.2.2 hf1 (by omega) (by omega) (by omega)
    refine bX5_readAll_5 w 1 (fun _ => ?_) (fun c => absurd c (by omega))
    have go := i3 dep w q.1 q.2.1 0 f1 cf w0 w1 (by omega) (by omega) (by omega) (by omega)
    rw [f26, f29, f28] at go
    exact go.weaken (fun _ _ _ z => ⟨z.1, z.2.imp (fun v y => ⟨y.1, zOut.seq (j := 0) (o := 0) hb.1 hf1 y.2⟩)⟩)
theorem s_X5_readAll_12 {X : zX} (L : Int) (hL : zLawO L) (hb : 30 ≤ L ∧ L ≤ 107) (f : Nat) (i0 : zS0 X L f) (i3 : zS3 X L f) : zS3 X L (f + 1) := by
  intro dep w j o n h a w0 w1 n0 no hf hdep
  have a6 := a.1.2.2.2.2.1
  have aj := a.1.2.1
  have ao := a.1.2.2.2.2.2.2
  have tk := a.2.1
  have lk := a.2.2
  unfold zLk at lk
  have hwd := (tk.2.2.2 j aj.1 aj.2)
  rw [zPx_3]
  refine bX5_readAll_12 w n (by rw [a6]; exact hwd.1) (fun c => absurd c (by omega)) (fun _ c => ?_) (fun _ c => ?_)
  · rw [a6] at c
    rw [if_neg c]
    exact ⟨rfl, _, rfl, rfl, a.1.rd.symm⟩
  · rw [a6] at c
    rw [if_pos c]
    have lt : j + 1 < h 25 4 := tk.lt aj (Or.inr (by omega))
    refine rX5_readAll_29 w n (f_X5_readToken L j o a.1 ⟨lt, tk.1.2⟩) (by omega) (fun g hg => ?_)
    obtain ⟨cg, g26, g29, g28, g27⟩ := a.next hb.1 lt hg
    refine bX5_readAll_32 w n ?_
    refine rX5_readAll_34 w n (i0 (dep - 1) w (j + 1) o g cg w0 w1 (by omega) (by omega)) (by omega) (fun v f1 hf1 => ?_)
    rw [g26, g29, g28] at hf1
    have gd := zPx_g a f 0 w (j + 1) o lt ao.2 (by omega)
    cases hr : zPx (h 26) (h 29) (h 28) f 0 w (j + 1) o with
    | inl e =>
      rw [hr] at hf1
      obtain ⟨rfl, hf1⟩ := hf1
      refine bX5_readAll_37 w n 0 L hL (hf1.2.1.trans cg.1.1) (fun c => absurd rfl c) (fun _ => ?_)
      exact ⟨rfl, _, rfl, rfl, zFt.of (S := []) hb.1 hg hf1⟩
    | inr q =>
      rw [hr] at hf1 gd
      obtain ⟨rfl, hf1⟩ := hf1
      have b : j + 1 + 1 ≤ q.1 ∧ q.1 ≤ h 25 4 - 1 ∧ o + 1 ≤ q.2.1 ∧ q.2.1 ≤ 60 ∧ (q.2.2.length : Int) + 1 ≤ 2 * (q.2.1 - o) := gd
      have e1 : f1 = zrd (zstps h L q.2.2) q.1 q.2.1 := by
        rw [hf1, hg, zstps_rd _ _ _ hb.1, zrd_rd]
      have f12 : f1 L 12 = h L 12 + q.2.2.length := by rw [e1, zrd_ne _ _ _ (by omega)]; exact (zstps_L L _ h).1
      have f6 : f1 L 6 = h L 6 := by rw [e1, zrd_ne _ _ _ (by omega)]; exact (zstps_L L _ h).2 6 (by omega) (by omega)
      have f1l : f1 24 1 = L := by
        rw [e1, zrd_24]
        exact (zstps_ne L (by omega) (by omega) (by omega) 1 q.2.2 h).trans a.1.1
      refine bX5_readAll_37 w n 1 L hL f1l (fun _ => ?_) (fun c => absurd c (by omega))
      refine rX5_readAll_47 w n L hL ((f_X1_addStep L (-1) hL (by omega) (by omega)).weaken (fun _ _ _ q => ⟨q.1, q.2.2, q.2.1⟩)) (by omega) (P := fun f2 => f2 = zstp f1 L (-1)) (fun f2 hf2 => ?_)
      refine bX5_readAll_50 w n (by omega) ?_
      have e2 : f2 = zrd (zstps h L (q.2.2 ++ [-1])) q.1 q.2.1 := by
        rw [hf2, e1, zstp_rd _ _ _ _ _ hb.1, zstps_app]
        rfl
      have ln : ((q.2.2 ++ [(-1 : Int)]).length : Int) = q.2.2.length + 1 := by rw [List.length_append, List.length_singleton]; omega
      obtain ⟨cf, f26, f29, f28, f27⟩ := a.mk hb.1 _ e2 (by omega) (by omega) (by omega)
      have go := i3 dep w q.1 q.2.1 (n + 1) f2 cf w0 w1 (by omega) (by omega) (by omega) (by omega)
      rw [f26, f29, f28] at go
      exact go.weaken (fun _ _ _ z => ⟨z.1, z.2.imp (fun v y => ⟨y.1, zOut.seq (j := 0) (o := 0) hb.1 e2 y.2⟩)⟩)
theorem s_X5_readCond_0 {X : zX} (L : Int) (hb : 30 ≤ L ∧ L ≤ 107) (f : Nat) (i0 : zS1 X L f) (i3 : zS4 X L f) : zS2 X L (f + 1) := by
  intro dep w j o h a w0 w1 hf hdep
  have aj := a.1.2.1
  have ao := a.1.2.2.2.2.2.2
  have lk := a.2.2
  unfold zLk at lk
  rw [zPx_2]
  refine bX5_readCond_0 w ?_
  refine rX5_readCond_2 w (i0 (dep - 1) w j o h a w0 w1 (by omega) (by omega)) (by omega) (fun v f1 hf1 => ?_)
  have gd := zPx_g a f 1 w j o aj.2 ao.2 (by omega)
  cases hr : zPx (h 26) (h 29) (h 28) f 1 w j o with
  | inl e =>
    rw [hr] at hf1
    obtain ⟨rfl, hf1⟩ := hf1
    refine bX5_readCond_5 w 0 (fun c => absurd rfl c) (fun _ => ?_)
    exact ⟨rfl, _, rfl, rfl, hf1⟩
  | inr q =>
    rw [hr] at hf1 gd
    obtain ⟨rfl, hf1⟩ := hf1
    have b : j + 1 ≤ q.1 ∧ q.1 ≤ h 25 4 - 1 ∧ o + 1 ≤ q.2.1 ∧ q.2.1 ≤ 60 ∧ (q.2.2.length : Int) + 1 ≤ 2 * (q.2.1 - o) := gd
    obtain ⟨cf, f26, f29, f28, f27⟩ := a.mk hb.1 q.2.2 hf1 (by omega) (by omega) (by omega)
    refine bX5_readCond_5 w 1 (fun _ => ?_) (fun c => absurd c (by omega))
    have go := i3 dep w q.1 q.2.1 0 f1 cf w0 w1 (by omega) (by omega) (by omega) (by omega)
    rw [f26, f29, f28] at go
    exact go.weaken (fun _ _ _ z => ⟨z.1, z.2.imp (fun v y => ⟨y.1, zOut.seq (j := 0) (o := 0) hb.1 hf1 y.2⟩)⟩)
theorem s_X5_readCond_12 {X : zX} (L : Int) (hL : zLawO L) (hb : 30 ≤ L ∧ L ≤ 107) (f : Nat) (i0 : zS1 X L f) (i3 : zS4 X L f) : zS4 X L (f + 1) := by
  intro dep w j o n h a w0 w1 n0 no hf hdep
  have a6 := a.1.2.2.2.2.1
  have aj := a.1.2.1
  have ao := a.1.2.2.2.2.2.2
  have tk := a.2.1
  have lk := a.2.2
  unfold zLk at lk
  have hwd := (tk.2.2.2 j aj.1 aj.2)
  rw [zPx_4]
  refine bX5_readCond_12 w n (by rw [a6]; exact hwd.1) (fun c => absurd c (by omega)) (fun _ c => ?_) (fun _ c => ?_)
  · rw [a6] at c
    rw [if_neg c]
    exact ⟨rfl, _, rfl, rfl, a.1.rd.symm⟩
  · rw [a6] at c
    rw [if_pos c]
    have lt : j + 1 < h 25 4 := tk.lt aj (Or.inr (by omega))
    refine rX5_readCond_29 w n (f_X5_readToken L j o a.1 ⟨lt, tk.1.2⟩) (by omega) (fun g hg => ?_)
    obtain ⟨cg, g26, g29, g28, g27⟩ := a.next hb.1 lt hg
    refine bX5_readCond_32 w n ?_
    refine rX5_readCond_34 w n (i0 (dep - 1) w (j + 1) o g cg w0 w1 (by omega) (by omega)) (by omega) (fun v f1 hf1 => ?_)
    rw [g26, g29, g28] at hf1
    have gd := zPx_g a f 1 w (j + 1) o lt ao.2 (by omega)
    cases hr : zPx (h 26) (h 29) (h 28) f 1 w (j + 1) o with
    | inl e =>
      rw [hr] at hf1
      obtain ⟨rfl, hf1⟩ := hf1
      refine bX5_readCond_37 w n 0 L hL (hf1.2.1.trans cg.1.1) (fun c => absurd rfl c) (fun _ => ?_)
      exact ⟨rfl, _, rfl, rfl, zFt.of (S := []) hb.1 hg hf1⟩
    | inr q =>
      rw [hr] at hf1 gd
      obtain ⟨rfl, hf1⟩ := hf1
      have b : j + 1 + 1 ≤ q.1 ∧ q.1 ≤ h 25 4 - 1 ∧ o + 1 ≤ q.2.1 ∧ q.2.1 ≤ 60 ∧ (q.2.2.length : Int) + 1 ≤ 2 * (q.2.1 - o) := gd
      have e1 : f1 = zrd (zstps h L q.2.2) q.1 q.2.1 := by
        rw [hf1, hg, zstps_rd _ _ _ hb.1, zrd_rd]
      have f12 : f1 L 12 = h L 12 + q.2.2.length := by rw [e1, zrd_ne _ _ _ (by omega)]; exact (zstps_L L _ h).1
      have f6 : f1 L 6 = h L 6 := by rw [e1, zrd_ne _ _ _ (by omega)]; exact (zstps_L L _ h).2 6 (by omega) (by omega)
      have f1l : f1 24 1 = L := by
        rw [e1, zrd_24]
        exact (zstps_ne L (by omega) (by omega) (by omega) 1 q.2.2 h).trans a.1.1
      refine bX5_readCond_37 w n 1 L hL f1l (fun _ => ?_) (fun c => absurd c (by omega))
      refine rX5_readCond_48 w n L hL ((f_X1_addStep L (-2) hL (by omega) (by omega)).weaken (fun _ _ _ q => ⟨q.1, q.2.2, q.2.1⟩)) (by omega) (P := fun f2 => f2 = zstp f1 L (-2)) (fun f2 hf2 => ?_)
      refine bX5_readCond_51 w n (by omega) ?_
      have e2 : f2 = zrd (zstps h L (q.2.2 ++ [-2])) q.1 q.2.1 := by
        rw [hf2, e1, zstp_rd _ _ _ _ _ hb.1, zstps_app]
        rfl
      have ln : ((q.2.2 ++ [(-2 : Int)]).length : Int) = q.2.2.length + 1 := by rw [List.length_append, List.length_singleton]; omega
      obtain ⟨cf, f26, f29, f28, f27⟩ := a.mk hb.1 _ e2 (by omega) (by omega) (by omega)
      have go := i3 dep w q.1 q.2.1 (n + 1) f2 cf w0 w1 (by omega) (by omega) (by omega) (by omega)
      rw [f26, f29, f28] at go
      exact go.weaken (fun _ _ _ z => ⟨z.1, z.2.imp (fun v y => ⟨y.1, zOut.seq (j := 0) (o := 0) hb.1 e2 y.2⟩)⟩)
theorem s_X5_all {X : zX} (L : Int) (hL : zLawO L) (hb : 30 ≤ L ∧ L ≤ 107) : ∀ f : Nat, zS0 X L f ∧ zS1 X L f ∧ zS2 X L f ∧ zS3 X L f ∧ zS4 X L f
  | 0 => ⟨fun dep w j o h a _ _ hf => absurd hf (by have := a.1.2.2.2.2.2.2; omega), fun dep w j o h a _ _ hf => absurd hf (by have := a.1.2.2.2.2.2.2; omega), fun dep w j o h a _ _ hf => absurd hf (by have := a.1.2.2.2.2.2.2; omega), fun dep w j o n h a _ _ _ _ hf => absurd hf (by have := a.1.2.2.2.2.2.2; omega), fun dep w j o n h a _ _ _ _ hf => absurd hf (by have := a.1.2.2.2.2.2.2; omega)⟩
  | f + 1 => by
    obtain ⟨i0, i1, i2, i3, i4⟩ := s_X5_all (X := X) L hL hb f
    exact ⟨s_X5_readOne L hL hb f i0 i2, s_X5_readAll_0 L hb f i0 i3, s_X5_readCond_0 L hb f i1 i4, s_X5_readAll_12 L hL hb f i0 i3, s_X5_readCond_12 L hL hb f i1 i4⟩
/-- the fuel of reading -/
theorem f_X5_readCond {X : zX} {dep : Nat} (L j o : Int) {h : zH} (hL : zLawO L) (hb : 30 ≤ L ∧ L ≤ 107) (a : zCtx h L j o) (hdep : 41 ≤ dep) : zW mX5_readCond X dep 0 0 239 0 (zar 0 [xR 24, xI 0]) [] h (zQI (zOut h L (zPx (h 26) (h 29) (h 28) 300 2 0 j o))) :=
  (s_X5_all L hL hb 300).2.2.1 dep 0 j o h a (by omega) (by omega) (by have := a.1.2.2.2.2.2.2; omega) (by omega)
