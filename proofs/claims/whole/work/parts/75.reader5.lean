/-! reading LINES: contracts -/
/-! tokens that are alike as far as the end are read alike -/
def zEq (n : Int) (a b : Int → Int) : Prop := ∀ i : Int, 0 ≤ i → i ≤ n → a i = b i
theorem zPx_cg {kd wd vl kd' wd' vl' : Int → Int} {n : Int} (hk : kd n = 0) (hw : wd n = -1) (ek : zEq n kd kd') (ew : zEq n wd wd') (ev : zEq n vl vl') : ∀ (f : Nat) (m : Nat) (w j o : Int), 0 ≤ j → j ≤ n → o ≤ 60 → m < 5 → zPx kd wd vl f m w j o = zPx kd' wd' vl' f m w j o
  | 0, m, w, j, o, h0, hj, ho, hm => rfl
  | f + 1, m, w, j, o, h0, hj, ho, hm => by
    have ih := zPx_cg hk hw ek ew ev f
    have gd := zPx_in (vl := vl) hk hw f
    have ne : ∀ x : Int, wd x ≠ -1 → x ≤ n → x < n := fun x hx hx2 => by
      rcases Int.lt_or_eq_of_le hx2 with q | q
      · exact q
      · rw [q] at hx; exact absurd hw hx
    have nk : ∀ x : Int, kd x ≠ 0 → x ≤ n → x < n := fun x hx hx2 => by
      rcases Int.lt_or_eq_of_le hx2 with q | q
      · exact q
      · rw [q] at hx; exact absurd hk hx
    have e1 := ek j h0 hj
    have e2 := ew j h0 hj
    rcases (show m = 0 ∨ m = 1 ∨ m = 2 ∨ m = 3 ∨ m = 4 by omega) with rfl | rfl | rfl | rfl | rfl
    · rw [zPx_0, zPx_0, ← e1, ← e2]
      by_cases c1 : ¬ zAsk (wd j) ∧ wd j ≠ 1000007 ∧ kd j ≠ 40
      · rw [if_pos c1, if_pos c1]
      · rw [if_neg c1, if_neg c1]
        have jn : j < n := by
          by_cases a : wd j = -1
          · exact nk j (fun z => c1 ⟨fun q => q.1 (by omega), by omega, by omega⟩) hj
          · exact ne j a hj
        by_cases c2 : 60 ≤ o ∨ 12 ≤ w
        · rw [if_pos c2, if_pos c2]
        · rw [if_neg c2, if_neg c2]
          by_cases c3 : zAsk (wd j)
          · rw [if_pos c3, if_pos c3]
            unfold zQn
            rw [← e2, ← ek (j + 1) (by omega) (by omega)]
            by_cases c4 : zWn (wd j) ≠ -1
            · rw [if_pos c4, if_pos c4]
            · rw [if_neg c4, if_neg c4]
              by_cases c5 : kd (j + 1) ≠ 60 ∧ kd (j + 1) ≠ 61 ∧ kd (j + 1) ≠ 62
              · rw [if_pos c5, if_pos c5]
              · have j1 := nk (j + 1) (by omega) (by omega)
                rw [if_neg c5, if_neg c5, ← ek (j + 2) (by omega) (by omega), ← ev (j + 2) (by omega) (by omega)]
          · rw [if_neg c3, if_neg c3]
            by_cases c4 : wd j = 1000007
            · rw [if_pos c4, if_pos c4, ih 0 (w + 1) (j + 1) (o + 1) (by omega) (by omega) (by omega) (by omega)]
            · rw [if_neg c4, if_neg c4, ← ih 2 (w + 1) (j + 1) (o + 1) (by omega) (by omega) (by omega) (by omega)]
              have g := gd 2 (w + 1) (j + 1) (o + 1) (by omega) (by omega) (by omega)
              cases hr : zPx kd wd vl f 2 (w + 1) (j + 1) (o + 1) with
              | inl e => rfl
              | inr q =>
                rw [hr] at g
                have b : j + 1 + 1 ≤ q.1 ∧ q.1 ≤ n ∧ o + 1 + 1 ≤ q.2.1 ∧ q.2.1 ≤ 60 ∧ (q.2.2.length : Int) + 1 ≤ 2 * (q.2.1 - (o + 1)) := g
                show (if kd q.1 = 41 then _ else _) = if kd' q.1 = 41 then _ else _
                rw [ek q.1 (by omega) b.2.1]
    · rw [zPx_1, zPx_1, ← ih 0 w j o h0 hj ho (by omega)]
      have g := gd 0 w j o hj ho (by omega)
      cases hr : zPx kd wd vl f 0 w j o with
      | inl e => rfl
      | inr q =>
        rw [hr] at g
        have b : j + 1 ≤ q.1 ∧ q.1 ≤ n ∧ o + 1 ≤ q.2.1 ∧ q.2.1 ≤ 60 ∧ (q.2.2.length : Int) + 1 ≤ 2 * (q.2.1 - o) := g
        show zSeq q.2.2 _ = zSeq q.2.2 _
        rw [ih 3 w q.1 q.2.1 (by omega) b.2.1 b.2.2.2.1 (by omega)]
    · rw [zPx_2, zPx_2, ← ih 1 w j o h0 hj ho (by omega)]
      have g := gd 1 w j o hj ho (by omega)
      cases hr : zPx kd wd vl f 1 w j o with
      | inl e => rfl
      | inr q =>
        rw [hr] at g
        have b : j + 1 ≤ q.1 ∧ q.1 ≤ n ∧ o + 1 ≤ q.2.1 ∧ q.2.1 ≤ 60 ∧ (q.2.2.length : Int) + 1 ≤ 2 * (q.2.1 - o) := g
        show zSeq q.2.2 _ = zSeq q.2.2 _
        rw [ih 4 w q.1 q.2.1 (by omega) b.2.1 b.2.2.2.1 (by omega)]
    · rw [zPx_3, zPx_3, ← e2]
      by_cases c : wd j = 1000010
      · have jn := ne j (by omega) hj
        rw [if_pos c, if_pos c, ← ih 0 w (j + 1) o (by omega) (by omega) ho (by omega)]
        have g := gd 0 w (j + 1) o (by omega) ho (by omega)
        cases hr : zPx kd wd vl f 0 w (j + 1) o with
        | inl e => rfl
        | inr q =>
          rw [hr] at g
          have b : j + 1 + 1 ≤ q.1 ∧ q.1 ≤ n ∧ o + 1 ≤ q.2.1 ∧ q.2.1 ≤ 60 ∧ (q.2.2.length : Int) + 1 ≤ 2 * (q.2.1 - o) := g
          show zSeq _ _ = zSeq _ _
          rw [ih 3 w q.1 q.2.1 (by omega) b.2.1 b.2.2.2.1 (by omega)]
      · rw [if_neg c, if_neg c]
    · rw [zPx_4, zPx_4, ← e2]
      by_cases c : wd j = 1000009
      · have jn := ne j (by omega) hj
        rw [if_pos c, if_pos c, ← ih 1 w (j + 1) o (by omega) (by omega) ho (by omega)]
        have g := gd 1 w (j + 1) o (by omega) ho (by omega)
        cases hr : zPx kd wd vl f 1 w (j + 1) o with
        | inl e => rfl
        | inr q =>
          rw [hr] at g
          have b : j + 1 + 1 ≤ q.1 ∧ q.1 ≤ n ∧ o + 1 ≤ q.2.1 ∧ q.2.1 ≤ 60 ∧ (q.2.2.length : Int) + 1 ≤ 2 * (q.2.1 - o) := g
          show zSeq _ _ = zSeq _ _
          rw [ih 4 w q.1 q.2.1 (by omega) b.2.1 b.2.2.2.1 (by omega)]
      · rw [if_neg c, if_neg c]
theorem zHd_cg {kd wd vl kd' wd' vl' : Int → Int} {n : Int} (hk : kd n = 0) (hw : wd n = -1) (ek : zEq n kd kd') (ew : zEq n wd wd') (ev : zEq n vl vl') (k y ol ap j : Int) (h0 : 0 ≤ j) (hj : j ≤ n) : zHd kd wd vl k y ol ap j = zHd kd' wd' vl' k y ol ap j := by
  have ne : ∀ x : Int, wd x ≠ -1 → x ≤ n → x < n := fun x hx hx2 => by
    rcases Int.lt_or_eq_of_le hx2 with q | q
    · exact q
    · rw [q] at hx; exact absurd hw hx
  have nk : ∀ x : Int, kd x ≠ 0 → x ≤ n → x < n := fun x hx hx2 => by
    rcases Int.lt_or_eq_of_le hx2 with q | q
    · exact q
    · rw [q] at hx; exact absurd hk hx
  unfold zHd
  rw [← ek j h0 hj, ← ew j h0 hj, ← ev j h0 hj]
  by_cases k0 : k = 0
  · rw [if_pos k0, if_pos k0]
    by_cases c1 : kd j ≠ 2
    · rw [if_pos c1, if_pos c1]
    · have j1 := nk j (by omega) hj
      rw [if_neg c1, if_neg c1]
      by_cases c2 : vl j < 0 ∨ 99 < vl j
      · rw [if_pos c2, if_pos c2]
      · rw [if_neg c2, if_neg c2, ← ew (j + 1) (by omega) (by omega)]
        by_cases c3 : wd (j + 1) ≠ 1000001
        · rw [if_pos c3, if_pos c3]
        · have j2 := ne (j + 1) (by omega) (by omega)
          rw [if_neg c3, if_neg c3, ← ek (j + 2) (by omega) (by omega), ← ev (j + 2) (by omega) (by omega)]
  · rw [if_neg k0, if_neg k0]
theorem zLn_cg {kd wd vl kd' wd' vl' : Int → Int} {n : Int} (hk : kd n = 0) (hw : wd n = -1) (ek : zEq n kd kd') (ew : zEq n wd wd') (ev : zEq n vl vl') (V : zLV) (j o : Int) (h0 : 0 ≤ j) (hj : j ≤ n) (ho : o ≤ 60) : zLn kd wd vl V j o = zLn kd' wd' vl' V j o := by
  unfold zLn
  rw [← ew j h0 hj]
  generalize zWl (wd j) = K
  by_cases c1 : wd j < 0 ∨ K = -1
  · rw [if_pos c1, if_pos c1]
  · rw [if_neg c1, if_neg c1]
    have jn : j < n := by
      rcases Int.lt_or_eq_of_le hj with q | q
      · exact q
      · rw [q, hw] at c1; exact absurd (Or.inl (by decide)) c1
    by_cases c2 : 20 ≤ (V.1.length : Int) ∨ (K = 0 ∨ K = 5) ∧ V.1.any (fun x => decide (x.1 = K)) = true
    · rw [if_pos c2, if_pos c2]
    · rw [if_neg c2, if_neg c2, ← zHd_cg hk hw ek ew ev _ _ _ _ (j + 1) (by omega) (by omega)]
      have hd := zHd_in (vl := vl) hk hw (K) V.2.2.1 V.2.2.2.1 V.2.2.2.2 (j + 1) (by omega)
      cases hr : zHd kd wd vl (K) V.2.2.1 V.2.2.2.1 V.2.2.2.2 (j + 1) with
      | inl e => rfl
      | inr r =>
        rw [hr] at hd
        have b : j + 1 ≤ r.1 ∧ r.1 ≤ n ∧ ((K = 3 → 0 ≤ r.2.1 ∧ r.2.1 ≤ 8) ∧ (K = 4 → r.2.1 = 0 ∨ r.2.1 = 1)) := hd
        show (if ¬ (K = 0 ∨ K = 5) ∧ wd r.1 = 1000003 then _ else _) = if ¬ (K = 0 ∨ K = 5) ∧ wd' r.1 = 1000003 then _ else _
        rw [← ew r.1 (by omega) b.2.1]
        by_cases c3 : ¬ (K = 0 ∨ K = 5) ∧ wd r.1 = 1000003
        · rw [if_pos c3, if_pos c3]
          have rn : r.1 < n := by
            rcases Int.lt_or_eq_of_le b.2.1 with q | q
            · exact q
            · rw [q, hw] at c3; exact absurd c3.2 (by decide)
          rw [← zPx_cg hk hw ek ew ev 300 2 0 (r.1 + 1) o (by omega) (by omega) ho (by omega)]
          have i := zPx_in (vl := vl) hk hw 300 2 0 (r.1 + 1) o (by omega) ho (by omega)
          cases hq : zPx kd wd vl 300 2 0 (r.1 + 1) o with
          | inl e => rfl
          | inr q =>
            rw [hq] at i
            have b2 : r.1 + 1 + 1 ≤ q.1 ∧ q.1 ≤ n ∧ o + 1 ≤ q.2.1 ∧ q.2.1 ≤ 60 ∧ (q.2.2.length : Int) + 1 ≤ 2 * (q.2.1 - o) := i
            show zEn kd q.1 q.2.1 _ = zEn kd' q.1 q.2.1 _
            unfold zEn
            rw [ek q.1 (by omega) b2.2.1]
        · rw [if_neg c3, if_neg c3]
          unfold zEn
          rw [ek r.1 (by omega) b.2.1]
/-- reading the LINES to the end -/
def zLl (kd wd vl : Int → Int) (tl : Int) : Nat → zLV → Int → Int → (Int × Int) ⊕ zLV
  | 0, _, j, _ => .inl (9, j)
  | f + 1, V, j, o => if kd j = 0 then (if tl = 0 then .inr V else .inl (1, j)) else match zLn kd wd vl V j o with
    | .inl e => .inl e
    | .inr q => zLl kd wd vl tl f q.2.2 q.1 q.2.1
theorem zLl_s (kd wd vl : Int → Int) (tl : Int) (f : Nat) (V : zLV) (j o : Int) : zLl kd wd vl tl (f + 1) V j o = if kd j = 0 then (if tl = 0 then .inr V else .inl (1, j)) else match zLn kd wd vl V j o with
    | .inl e => .inl e
    | .inr q => zLl kd wd vl tl f q.2.2 q.1 q.2.1 := rfl
theorem zLl_cg {kd wd vl kd' wd' vl' : Int → Int} {n : Int} (hk : kd n = 0) (hw : wd n = -1) (ek : zEq n kd kd') (ew : zEq n wd wd') (ev : zEq n vl vl') (tl : Int) : ∀ (f : Nat) (V : zLV) (j o : Int), 0 ≤ j → j ≤ n → o ≤ 60 → (V.2.1.length : Int) ≤ 2 * o → zVok V → zLl kd wd vl tl f V j o = zLl kd' wd' vl' tl f V j o
  | 0, _, _, _, _, _, _, _, _ => rfl
  | f + 1, V, j, o, h0, hj, ho, hs, hv => by
    rw [zLl_s, zLl_s, ← ek j h0 hj, ← zLn_cg hk hw ek ew ev V j o h0 hj ho]
    by_cases c : kd j = 0
    · rw [if_pos c, if_pos c]
    · rw [if_neg c, if_neg c]
      have g := zLn_in (vl := vl) hk hw V j o hj ho hs hv
      cases hr : zLn kd wd vl V j o with
      | inl e => rfl
      | inr q =>
        rw [hr] at g
        have b : j < q.1 ∧ q.1 ≤ n ∧ o ≤ q.2.1 ∧ q.2.1 ≤ 60 ∧ q.2.2.1.length = V.1.length + 1 ∧ (q.2.2.2.1.length : Int) ≤ 2 * q.2.1 ∧ zVok q.2.2 := g
        exact zLl_cg hk hw ek ew ev tl f q.2.2 q.1 q.2.1 (by omega) b.2.1 b.2.2.2.1 b.2.2.2.2.2.1 b.2.2.2.2.2.2
theorem zLn_20 {kd wd vl : Int → Int} {V : zLV} {j o : Int} (h : 20 ≤ V.1.length) : ∃ e, zLn kd wd vl V j o = .inl e := by
  unfold zLn
  by_cases c1 : wd j < 0 ∨ zWl (wd j) = -1
  · exact ⟨_, if_pos c1⟩
  · rw [if_neg c1]
    exact ⟨_, if_pos (Or.inl (by omega))⟩
/-- what a law as read keeps to -/
def zVfin (n : Int) (r : (Int × Int) ⊕ zLV) : Prop := match r with
  | .inl e => 0 ≤ e.2 ∧ e.2 ≤ n
  | .inr V => V.1.length ≤ 20 ∧ V.2.1.length ≤ 120 ∧ zVok V
theorem zLl_in {kd wd vl : Int → Int} {n : Int} (hk : kd n = 0) (hw : wd n = -1) (tl : Int) : ∀ (f : Nat) (V : zLV) (j o : Int), 0 ≤ j → j ≤ n → o ≤ 60 → (V.2.1.length : Int) ≤ 2 * o → zVok V → V.1.length ≤ 20 → zVfin n (zLl kd wd vl tl f V j o)
  | 0, V, j, o, h0, hj, _, _, _, _ => ⟨h0, hj⟩
  | f + 1, V, j, o, h0, hj, ho, hs, hv, hl => by
    rw [zLl_s]
    by_cases c : kd j = 0
    · rw [if_pos c]
      by_cases c2 : tl = 0
      · rw [if_pos c2]; exact ⟨hl, by omega, hv⟩
      · rw [if_neg c2]; exact ⟨h0, hj⟩
    · rw [if_neg c]
      have g := zLn_in (vl := vl) hk hw V j o hj ho hs hv
      by_cases c3 : 20 ≤ V.1.length
      · obtain ⟨e, he⟩ := zLn_20 (kd := kd) (wd := wd) (vl := vl) (j := j) (o := o) c3
        rw [he] at g ⊢
        have b : j ≤ e.2 ∧ e.2 ≤ n := g
        exact ⟨by show 0 ≤ e.2; omega, b.2⟩
      · cases hr : zLn kd wd vl V j o with
        | inl e =>
          rw [hr] at g
          have b : j ≤ e.2 ∧ e.2 ≤ n := g
          exact ⟨by show 0 ≤ e.2; omega, b.2⟩
        | inr q =>
          rw [hr] at g
          have b : j < q.1 ∧ q.1 ≤ n ∧ o ≤ q.2.1 ∧ q.2.1 ≤ 60 ∧ q.2.2.1.length = V.1.length + 1 ∧ (q.2.2.2.1.length : Int) ≤ 2 * q.2.1 ∧ zVok q.2.2 := g
          exact zLl_in hk hw tl f q.2.2 q.1 q.2.1 (by omega) b.2.1 b.2.2.2.1 b.2.2.2.2.2.1 b.2.2.2.2.2.2 (by omega)
def zFin (h : zH) (L : Int) (r : (Int × Int) ⊕ zLV) (v : Int) (f : zH) : Prop := match r with
  | .inl e => v = 0 ∧ zFt h L e.1 e.2 f
  | .inr V => v = 1 ∧ zap (zLS L) h f ∧ zLi f L V ∧ f 24 2 = h 24 2 ∧ f 24 3 = h 24 3
theorem l_X5_read_46 {X : zX} {dep : Nat} (L : Int) {h : zH} (hL : zLawO L) (hb : 30 ≤ L ∧ L ≤ 107) (t : zTkOK h) (h1 : h 24 1 = L) (hdep : 43 ≤ dep) : ∀ (k n : Nat) (V : zLV) (j o : Int) (g : zH), n + k = 21 → V.1.length = n → n ≤ 20 → (V.2.1.length : Int) ≤ 2 * o → zVok V → zLd h L j o V g →
    zW mX5_read X dep 0 0 239 46 [(0, xR 24), (3, xI n)] [] g (zQI (zFin h L (zLl (h 26) (h 29) (h 28) (h 25 5) k V j o)))
  | 0, n, V, j, o, g, hk, hl, hn, _, _, _ => absurd hk (by omega)
  | k + 1, n, V, j, o, g, hk, hl, hn, hs, hv, a => by
    obtain ⟨tg, e25, e26, e27, e28, e29, e255⟩ := t.ap hb.1 a.1
    have w5 := a.2.1.2.2.2.1
    have wj := a.2.1.2.1
    have wo := a.2.1.2.2.2.2.2.2
    rw [e26] at w5
    rw [e25] at wj
    rw [zLl_s]
    refine bX5_read_46 n (fun c => absurd c (by omega)) (fun _ c => ?_) (fun _ c => ?_)
    · rw [w5] at c
      rw [if_pos c]
      refine bX5_read_74 n (fun c2 => ?_) (fun c2 => ?_)
      · rw [e255] at c2
        rw [if_pos c2]
        exact ⟨rfl, _, rfl, rfl, a.1, a.2.2.1, a.2.2.2.1, a.2.2.2.2⟩
      · rw [e255] at c2
        rw [if_neg c2]
        refine rX5_read_86 n (f_X5_fail L 1 j o a.2.1 (by rw [e25]; exact t.1.2)) (by omega) (fun v f hf => ?_)
        obtain ⟨rfl, hf⟩ := hf
        refine bX5_read_89 n 0 ?_
        exact ⟨rfl, _, rfl, by decide, zFt.tr hb.1 a.1 (a.2.1.1.trans h1.symm) hf⟩
    · rw [w5] at c
      rw [if_neg c]
      refine rX5_read_60 n (f_X5_readLine L j o V hL hb a.2.1 tg a.2.2.1 (by omega) hs (by omega)) (by omega) (fun v f hf => ?_)
      rw [e26, e28, e29] at hf
      have gd := zLn_in (vl := h 28) t.2.1 t.2.2.1 V j o (by omega) wo.2 hs hv
      cases hr : zLn (h 26) (h 29) (h 28) V j o with
      | inl e =>
        rw [hr] at hf
        obtain ⟨rfl, hf⟩ := hf
        refine bX5_read_63 n 0 (by omega) (fun c => absurd rfl c) (fun _ => ?_)
        exact ⟨rfl, _, rfl, rfl, zFt.tr hb.1 a.1 (a.2.1.1.trans h1.symm) hf⟩
      | inr q =>
        rw [hr] at hf gd
        obtain ⟨rfl, hf⟩ := hf
        have b : j < q.1 ∧ q.1 ≤ h 25 4 - 1 ∧ o ≤ q.2.1 ∧ q.2.1 ≤ 60 ∧ q.2.2.1.length = V.1.length + 1 ∧ (q.2.2.2.1.length : Int) ≤ 2 * q.2.1 ∧ zVok q.2.2 := gd
        have l20 : V.1.length < 20 := by
          refine Nat.lt_of_not_le fun z => ?_
          obtain ⟨e, he⟩ := zLn_20 (kd := h 26) (wd := h 29) (vl := h 28) (j := j) (o := o) z
          rw [hr] at he
          cases he
        refine bX5_read_63 n 1 (by omega) (fun _ => ?_) (fun c => absurd c (by omega))
        exact l_X5_read_46 L hL hb t h1 hdep k (n + 1) q.2.2 q.1 q.2.1 f (by omega) (by omega) (by omega) b.2.2.2.2.2.1 b.2.2.2.2.2.2 ⟨a.1.tr hf.1, hf.2.1, hf.2.2.1, hf.2.2.2.1.trans a.2.2.2.1, hf.2.2.2.2.trans a.2.2.2.2⟩
/-- the law of a text -/
noncomputable def zRdL (h : zH) : (Int × Int) ⊕ zLV := zLl (zTK (zat h) (min (h 1 1) 300)) (zTW (zat h) (min (h 1 1) 300)) (zTV (zat h) (min (h 1 1) 300)) (if h 1 1 ≤ 300 then 0 else 1) 21 ([], [], 20, 25, 30) 0 0
abbrev zRS (L : Int) : Int → Prop := fun q => 24 ≤ q ∧ q ≤ 29 ∨ L ≤ q ∧ q ≤ L + 5
def zRdO (h : zH) (L : Int) (v : Int) (f : zH) : Prop := zap (zRS L) h f ∧ match zRdL h with
  | .inl e => v = 0 ∧ f 24 2 = e.1 ∧ f 24 3 = zTS (zat h) (min (h 1 1) 300) e.2 ∧ 0 ≤ f 24 3 ∧ f 24 3 ≤ 340
  | .inr V => v = 1 ∧ f 24 2 = 0 ∧ f 24 3 = 0 ∧ zLi f L V ∧ V.1.length ≤ 20 ∧ V.2.1.length ≤ 120 ∧ zVok V
theorem zps_in {b : Int → Int} (hb : ∀ q : Int, 340 ≤ q → b q = -1) : ∀ j : Nat, 0 ≤ zps b j
  | 0 => zsk_in 400 0
  | j + 1 => by
    have i := zps_in hb j
    have k := zsk_in (b := b) 400 (znx b (zps b j))
    have : zps b j ≤ znx b (zps b j) := by
      unfold znx
      split
      · exact zre_in 400 _
      · omega
    show 0 ≤ zsk b 400 (znx b (zps b j))
    omega
theorem f_X5_read {X : zX} {dep : Nat} (L : Int) {h : zH} (hL : zLawO L) (hb : 30 ≤ L ∧ L ≤ 107) (ht : 0 ≤ h 1 1 ∧ h 1 1 ≤ 340) (hdep : 43 ≤ dep) : zW mX5_read X dep 0 0 239 0 (zar 0 [xR 24, xR 1, xR L]) [] h (zQI (zRdO h L)) := by
  refine bX5_read_0 L (by omega) ?_
  refine rX5_read_9 L hL ((f_X1_empty L hL).weaken (fun _ _ _ q => ⟨q.1, q.2.2, q.2.1⟩)) (by omega) (fun g0 hg0 => ?_)
  refine bX5_read_12 L ?_
  have a0 : zap (zRS L) h g0 := by
    rw [hg0]
    exact ((((((((zap.rf _ h).st (Or.inl (by omega)) _ _).st (Or.inr (by omega)) _ _).st (Or.inr (by omega)) _ _).st (Or.inr (by omega)) _ _).st (Or.inr (by omega)) _ _).st (Or.inr (by omega)) _ _).st (Or.inr (by omega)) _ _)
  have g0L : ∀ k : Int, g0 L k = if k = 12 then 0 else if k = 6 then 0 else if k = 5 then 0 else if k = 4 then 30 else if k = 3 then 25 else if k = 2 then 20 else h L k := fun k => by
    rw [hg0]
    by_cases c12 : k = 12
    · rw [if_pos c12, c12, zst_self]
    · rw [if_neg c12, zst_ne (Or.inr c12)]
      by_cases c6 : k = 6
      · rw [if_pos c6, c6, zst_self]
      · rw [if_neg c6, zst_ne (Or.inr c6)]
        by_cases c5 : k = 5
        · rw [if_pos c5, c5, zst_self]
        · rw [if_neg c5, zst_ne (Or.inr c5)]
          by_cases c4 : k = 4
          · rw [if_pos c4, c4, zst_self]
          · rw [if_neg c4, zst_ne (Or.inr c4)]
            by_cases c3 : k = 3
            · rw [if_pos c3, c3, zst_self]
            · rw [if_neg c3, zst_ne (Or.inr c3)]
              by_cases c2 : k = 2
              · rw [if_pos c2, c2, zst_self]
              · rw [if_neg c2, zst_ne (Or.inr c2), zst_ne (Or.inl (by omega))]
  have g01 : g0 24 1 = L := by
    rw [hg0, zst_ne (Or.inl (by omega)), zst_ne (Or.inl (by omega)), zst_ne (Or.inl (by omega)), zst_ne (Or.inl (by omega)), zst_ne (Or.inl (by omega)), zst_ne (Or.inl (by omega)), zst_self]
  generalize hg1 : (zst (zst (zst (zst g0 24 2 0) 24 3 0) 24 7 0) 24 4 (-1) : zH) = g1
  have a1 : zap (zRS L) h g1 := by
    rw [← hg1]
    exact (((a0.st (Or.inl (by omega)) _ _).st (Or.inl (by omega)) _ _).st (Or.inl (by omega)) _ _).st (Or.inl (by omega)) _ _
  have g1L : ∀ q k : Int, q ≠ 24 → g1 q k = g0 q k := fun q k hq => by
    rw [← hg1, zst_ne (Or.inl hq), zst_ne (Or.inl hq), zst_ne (Or.inl hq), zst_ne (Or.inl hq)]
  have g124 : g1 24 1 = L ∧ g1 24 2 = 0 ∧ g1 24 3 = 0 ∧ g1 24 7 = 0 ∧ g1 24 4 = -1 := by
    rw [← hg1]
    refine ⟨?_, ?_, ?_, ?_, zst_self _ _ _ _⟩
    · rw [zst_ne (Or.inr (by omega)), zst_ne (Or.inr (by omega)), zst_ne (Or.inr (by omega)), zst_ne (Or.inr (by omega))]; exact g01
    · rw [zst_ne (Or.inr (by omega)), zst_ne (Or.inr (by omega)), zst_ne (Or.inr (by omega)), zst_self]
    · rw [zst_ne (Or.inr (by omega)), zst_ne (Or.inr (by omega)), zst_self]
    · rw [zst_ne (Or.inr (by omega)), zst_self]
  have e11 : g1 1 1 = h 1 1 := a1 1 1 (by simp only [zRS]; omega)
  have ez : zat g1 = zat h := funext fun i => by
    unfold zat
    rw [e11, a1 2 i (by simp only [zRS]; omega)]
  refine rX5_read_37 L (f_X8_read (by rw [e11]; exact ht) (by omega)) (by omega) (fun g2 hg2 => ?_)
  obtain ⟨n, n300, nl, ne, tr⟩ := hg2
  rw [ez, e11] at nl ne
  rw [e11] at tr
  refine bX5_read_40 L ?_
  have hbz : ∀ q : Int, 340 ≤ q → zat h q = -1 := fun q hq => zat_out ht q (by omega)
  have tr2 : zap zT5 g1 g2 ∧ g2 25 4 = n + 1 ∧ g2 25 5 = (if h 1 1 ≤ 300 then 0 else 1) ∧ ∀ j : Int, 0 ≤ j → j < n + 1 → g2 26 j = zTK (zat h) (min (h 1 1) 300) j ∧ g2 27 j = zTS (zat h) (min (h 1 1) 300) j ∧ g2 28 j = zTV (zat h) (min (h 1 1) 300) j ∧ g2 29 j = zTW (zat h) (min (h 1 1) 300) j := by
    refine ⟨tr.1, tr.2.1, ?_, fun j j0 j1 => ?_⟩
    · have := tr.2.2.1; rw [e11] at this; exact this
    · have := tr.2.2.2 j j0 j1; rw [ez] at this; exact this
  have kn : zTK (zat h) (min (h 1 1) 300) n = 0 := by unfold zTK; rw [Int.toNat_natCast, if_neg (by omega)]
  have wn : zTW (zat h) (min (h 1 1) 300) n = -1 := by unfold zTW; rw [Int.toNat_natCast, if_neg (by omega)]
  have tk2 : zTkOK g2 := by
    refine ⟨by rw [tr2.2.1]; omega, ?_, ?_, fun j j0 j1 => ?_⟩
    · rw [tr2.2.1, show (n : Int) + 1 - 1 = n by omega, (tr2.2.2.2 n (by omega) (by omega)).1]; exact kn
    · rw [tr2.2.1, show (n : Int) + 1 - 1 = n by omega, (tr2.2.2.2 n (by omega) (by omega)).2.2.2]; exact wn
    · rw [tr2.2.1] at j1
      have q := tr2.2.2.2 j j0 j1
      rw [q.1, q.2.2.2]
      unfold zTW zTK
      by_cases c : zps (zat h) j.toNat < min (h 1 1) 300
      · rw [if_pos c, if_pos c]
        refine ⟨zww_in _ _, fun z => ?_⟩
        unfold zww at z
        by_cases c2 : zrc (zat h (zps (zat h) j.toNat)) ∧ zkd (zat h) (zps (zat h) j.toNat) = 1
        · exact c2.2
        · rw [if_neg c2] at z; exact absurd rfl z
      · rw [if_neg c]
        exact ⟨Or.inl rfl, fun z => absurd rfl z⟩
  have g224 : ∀ k : Int, g2 24 k = g1 24 k := fun k => tr2.1 24 k (by simp only [zT5]; omega)
  refine rX5_read_41 L (P := fun g3 => g3 = zst (zst (zst g2 24 4 0) 24 5 (g2 26 0)) 24 6 (g2 29 0)) ?_ (by omega) (fun g3 hg3 => ?_)
  · refine bX5_readToken_0 (by rw [g224, g124.2.2.2.2, tr2.2.1]; omega) (fun c => absurd c (by rw [g224, g124.2.2.2.2, tr2.2.1]; omega)) (fun _ => ⟨rfl, rfl, ?_⟩)
    rw [g224, g124.2.2.2.2]
    rfl
  refine bX5_read_44 L ?_
  have g3ne : ∀ q k : Int, q ≠ 24 → g3 q k = g2 q k := fun q k hq => by
    rw [hg3, zst_ne (Or.inl hq), zst_ne (Or.inl hq), zst_ne (Or.inl hq)]
  have g3c : ∀ k : Int, k ≠ 4 → k ≠ 5 → k ≠ 6 → g3 24 k = g1 24 k := fun k h4 h5 h6 => by
    rw [hg3, zst_ne (Or.inr h6), zst_ne (Or.inr h5), zst_ne (Or.inr h4)]
    exact g224 k
  have at3 : zAt g3 L 0 0 := by
    refine ⟨(g3c 1 (by omega) (by omega) (by omega)).trans g124.1, ?_, ?_, ?_, ?_, (g3c 7 (by omega) (by omega) (by omega)).trans g124.2.2.2.1, by omega⟩
    · rw [g3ne 25 4 (by omega), tr2.2.1]; omega
    · rw [hg3, zst_ne (Or.inr (by omega)), zst_ne (Or.inr (by omega)), zst_self]
    · rw [g3ne 26 0 (by omega), hg3, zst_ne (Or.inr (by omega)), zst_self]
    · rw [g3ne 29 0 (by omega), hg3, zst_self]
  have tk3 : zTkOK g3 := by
    unfold zTkOK
    rw [g3ne 25 4 (by omega), show g3 26 = g2 26 from funext fun k => g3ne 26 k (by omega), show g3 29 = g2 29 from funext fun k => g3ne 29 k (by omega)]
    exact tk2
  have lgL : ∀ k : Int, g3 L k = g0 L k := fun k => by
    rw [g3ne L k (by omega), tr2.1 L k (by simp only [zT5]; omega), g1L L k (by omega)]
  have li3 : zLi g3 L ([], [], 20, 25, 30) := by
    refine ⟨?_, ?_, ?_, ?_, ?_, ?_, fun i hi => absurd hi (Nat.not_lt_zero _), fun i hi => absurd hi (Nat.not_lt_zero _)⟩
    · rw [lgL, g0L]; rfl
    · rw [lgL, g0L]; rfl
    · rw [lgL, g0L]; rfl
    · rw [lgL, g0L]; rfl
    · rw [lgL, g0L]; rfl
    · rw [lgL, g0L]
      exact ⟨fun _ x hx => absurd hx List.not_mem_nil, fun _ => rfl⟩
  have go := l_X5_read_46 (X := X) (dep := dep) L hL hb tk3 at3.1 hdep 21 0 ([], [], 20, 25, 30) 0 0 g3 rfl rfl (by omega) (by simp) (fun x hx => absurd hx List.not_mem_nil) ⟨zap.rf _ g3, at3, li3, rfl, rfl⟩
  have a3 : zap (zRS L) h g3 := fun q k hq => by
    simp only [zRS] at hq
    rw [g3ne q k (by omega), tr2.1 q k (by simp only [zT5]; omega)]
    exact a1 q k (by simp only [zRS]; omega)
  have er : zLl (g3 26) (g3 29) (g3 28) (g3 25 5) 21 ([], [], 20, 25, 30) 0 0 = zRdL h := by
    unfold zRdL
    rw [g3ne 25 5 (by omega), tr2.2.2.1]
    refine zLl_cg (n := n) ?_ ?_ (fun i i0 i1 => ?_) (fun i i0 i1 => ?_) (fun i i0 i1 => ?_) _ 21 _ 0 0 (by omega) (by omega) (by omega) (by simp) (fun x hx => absurd hx List.not_mem_nil)
    · rw [g3ne 26 n (by omega), (tr2.2.2.2 n (by omega) (by omega)).1]; exact kn
    · rw [g3ne 29 n (by omega), (tr2.2.2.2 n (by omega) (by omega)).2.2.2]; exact wn
    · rw [g3ne 26 i (by omega)]; exact (tr2.2.2.2 i i0 (by omega)).1
    · rw [g3ne 29 i (by omega)]; exact (tr2.2.2.2 i i0 (by omega)).2.2.2
    · rw [g3ne 28 i (by omega)]; exact (tr2.2.2.2 i i0 (by omega)).2.2.1
  have fin : zVfin n (zRdL h) := zLl_in kn wn _ 21 _ 0 0 (by omega) (by omega) (by omega) (by simp) (fun x hx => absurd hx List.not_mem_nil) (by simp)
  rw [er] at go
  refine go.weaken (fun _ f _ z => ?_)
  obtain ⟨z1, v, z2, z3⟩ := z
  refine ⟨z1, v, z2, ?_⟩
  cases hr : zRdL h with
  | inl e =>
    rw [hr] at z3 fin
    obtain ⟨z4, z5, z6, z7, z8⟩ := z3
    have fe : 0 ≤ e.2 ∧ e.2 ≤ n := fin
    have es : g3 27 e.2 = zTS (zat h) (min (h 1 1) 300) e.2 := by rw [g3ne 27 _ (by omega)]; exact (tr2.2.2.2 e.2 fe.1 (by omega)).2.1
    have sb : 0 ≤ zTS (zat h) (min (h 1 1) 300) e.2 ∧ zTS (zat h) (min (h 1 1) 300) e.2 ≤ 340 := by
      have p0 := zps_in hbz e.2.toNat
      unfold zTS
      split
      · omega
      · omega
    refine ⟨a3.tr (z5.mono (fun q hq => by simp only [zLS] at hq; simp only [zRS]; omega)), ?_⟩
    rw [hr]
    exact ⟨z4, z7, z8.trans es, by rw [z8, es]; exact sb.1, by rw [z8, es]; exact sb.2⟩
  | inr V =>
    rw [hr] at z3 fin
    obtain ⟨z4, z5, z6, z7, z8⟩ := z3
    refine ⟨a3.tr (z5.mono (fun q hq => by simp only [zLS] at hq; simp only [zRS]; omega)), ?_⟩
    rw [hr]
    refine ⟨z4, ?_, ?_, z6, fin.1, fin.2.1, fin.2.2⟩
    · rw [z7, g3c 2 (by omega) (by omega) (by omega)]; exact g124.2.1
    · rw [z8, g3c 3 (by omega) (by omega) (by omega)]; exact g124.2.2.1
theorem f_X10_law {X : zX} {dep : Nat} (d : Int) {h : zH} (hn : 0 ≤ h 0 11 ∧ h 0 11 ≤ 8) (ht : 0 ≤ h 1 1 ∧ h 1 1 ≤ 340) (hdep : 44 ≤ dep) : zW mX10_law X dep 0 0 239 0 (zar 0 [xR 0, xI d]) [] h
    (zQI (fun v g => (h 0 11 < 8 ∧ (0 ≤ d ∧ d ≤ 3639) ∧ h 0 10 ≤ d) ∧ (∃ u f, zRdO h (65 + 6 * h 0 11) u f ∧
        (u = 1 ∧ v = f (65 + 6 * h 0 11) 6 ∧ g = zst (zst (zst (zst (zst f 1 1 0) 0 13 (f 24 2)) (65 + 6 * h 0 11) 0 (f 0 10)) (65 + 6 * h 0 11) 1 d) 0 11 (f 0 11 + 1) ∨
         u = 0 ∧ v = -1 - f 24 3 ∧ g = zst (zst f 1 1 0) 0 13 (f 24 2))) ∨
      ¬ (h 0 11 < 8 ∧ (0 ≤ d ∧ d ≤ 3639) ∧ h 0 10 ≤ d) ∧ v = -1000 ∧ g = zst h 1 1 0)) := by
  refine bX10_law_0 d hn (by omega) (fun c => ?_) (fun c c1 => ?_) (fun c c1 c2 => ?_) (fun c c1 c2 => ?_)
  · exact ⟨rfl, _, rfl, Or.inr ⟨fun z => by omega, rfl, rfl⟩⟩
  · exact ⟨rfl, _, rfl, Or.inr ⟨fun z => c1 z.2.1, rfl, rfl⟩⟩
  · refine zW.sub (lv' := [(0, xR 0), (1, xI d), (2, xR (65 + 6 * (h 0 11)))]) [1, 2, 0] rfl ?_
    refine rX10_law_55 d (h 0 11) (f_X5_read _ (zLawO_laws (by omega) (by omega)) (by omega) ht (by omega)) (by omega) (fun u f hf => ?_)
    have e11 : f 0 11 = h 0 11 := hf.1 0 11 (by simp only [zRS]; omega)
    have hp : 0 ≤ f 24 3 ∧ f 24 3 ≤ 340 ∧ (u = 0 ∨ u = 1) := by
      have z := hf.2
      cases hr : zRdL h with
      | inl e => rw [hr] at z; exact ⟨z.2.2.2.1, z.2.2.2.2, Or.inl z.1⟩
      | inr V => rw [hr] at z; exact ⟨by rw [z.2.2.1]; omega, by rw [z.2.2.1]; omega, Or.inr z.1⟩
    refine bX10_law_58 d (h 0 11) u (by omega) (by omega) (by omega) (fun c3 => ?_) (fun c3 => ?_)
    · exact ⟨rfl, _, rfl, Or.inl ⟨⟨by omega, c1, c2⟩, u, f, hf, Or.inl ⟨by omega, rfl, rfl⟩⟩⟩
    · exact ⟨rfl, _, rfl, Or.inl ⟨⟨by omega, c1, c2⟩, u, f, hf, Or.inr ⟨c3, by omega, rfl⟩⟩⟩
  · exact ⟨rfl, _, rfl, Or.inr ⟨fun z => c2 z.2.2, rfl, rfl⟩⟩
