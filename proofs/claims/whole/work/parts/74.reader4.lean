/-! reading LINES: contracts -/
abbrev zRl : Type := (Int × Int) ⊕ (Int × Int × zLV)
def zEn (kd : Int → Int) (j o : Int) (V : zLV) : zRl := if kd j = 59 then .inr (j + 1, o, V) else .inl (1, j)
/-- reading a LINE -/
def zLn (kd wd vl : Int → Int) (V : zLV) (j o : Int) : zRl :=
  if wd j < 0 ∨ zWl (wd j) = -1 then .inl (1, j)
  else if 20 ≤ (V.1.length : Int) ∨ (zWl (wd j) = 0 ∨ zWl (wd j) = 5) ∧ V.1.any (fun x => decide (x.1 = zWl (wd j))) = true then .inl (3, j)
  else match zHd kd wd vl (zWl (wd j)) V.2.2.1 V.2.2.2.1 V.2.2.2.2 (j + 1) with
    | .inl e => .inl e
    | .inr r => if ¬ (zWl (wd j) = 0 ∨ zWl (wd j) = 5) ∧ wd r.1 = 1000003 then
        (match zPx kd wd vl 300 2 0 (r.1 + 1) o with
          | .inl e => .inl e
          | .inr q => zEn kd q.1 q.2.1 (V.1 ++ [(zWl (wd j), r.2.1, (V.2.1.length : Int), (V.2.1.length : Int) + q.2.2.length)], V.2.1 ++ q.2.2, r.2.2))
      else zEn kd r.1 o (V.1 ++ [(zWl (wd j), r.2.1, (V.2.1.length : Int), (V.2.1.length : Int))], V.2.1, r.2.2)
def zLo (h : zH) (L : Int) (r : zRl) (v : Int) (f : zH) : Prop := match r with
  | .inl e => v = 0 ∧ zFt h L e.1 e.2 f
  | .inr q => v = 1 ∧ zLd h L q.1 q.2.1 q.2.2 f
theorem zWl_in0 : ∀ i : Nat, i < 22 → -1 ≤ (zWln.getD i 0).toInt ∧ (zWln.getD i 0).toInt ≤ 5 := by decide +kernel
theorem zWl_in {q : Int} (hq : 1000000 ≤ q ∧ q < 1000022) : -1 ≤ zWl q ∧ zWl q ≤ 5 := zWl_in0 _ (by omega)
theorem zLi.has {h : zH} {L : Int} {V : zLV} (w : zLi h L V) (k : Int) : (∃ i : Int, 0 ≤ i ∧ i < h L 6 ∧ h (L + 1) i = k) ↔ V.1.any (fun x => decide (x.1 = k)) = true := by
  rw [List.any_eq_true]
  constructor
  · rintro ⟨i, i0, i1, i2⟩
    rw [w.1] at i1
    have o := (w.2.2.2.2.2.2.1 i.toNat (by omega)).1
    have hi : i.toNat < V.1.length := by omega
    refine ⟨V.1[i.toNat], List.getElem_mem hi, ?_⟩
    rw [List.getD_eq_getElem?_getD, List.getElem?_eq_getElem hi, Int.toNat_of_nonneg i0, i2] at o
    exact decide_eq_true o.symm
  · rintro ⟨x, hx, e⟩
    obtain ⟨i, hi, rfl⟩ := List.getElem_of_mem hx
    have o := (w.2.2.2.2.2.2.1 i hi).1
    rw [List.getD_eq_getElem?_getD, List.getElem?_eq_getElem hi] at o
    refine ⟨i, by omega, by rw [w.1]; omega, ?_⟩
    rw [o]
    exact of_decide_eq_true e
def zHdG (n j k : Int) : ((Int × Int) ⊕ (Int × Int × Int × Int × Int)) → Prop
  | .inl e => j ≤ e.2 ∧ e.2 ≤ n
  | .inr r => j ≤ r.1 ∧ r.1 ≤ n ∧ ((k = 3 → 0 ≤ r.2.1 ∧ r.2.1 ≤ 8) ∧ (k = 4 → r.2.1 = 0 ∨ r.2.1 = 1))
theorem zk5 {K : Int} (a : -1 ≤ K ∧ K ≤ 5) (b : K ≠ -1) : 0 ≤ K ∧ K ≤ 5 := by omega
theorem zHd_in {kd wd vl : Int → Int} {n : Int} (hk : kd n = 0) (hw : wd n = -1) (k y ol ap j : Int) (hj : j ≤ n) : zHdG n j k (zHd kd wd vl k y ol ap j) := by
  have ne : ∀ x : Int, wd x ≠ -1 → x ≤ n → x < n := fun x hx hx2 => by
    rcases Int.lt_or_eq_of_le hx2 with q | q
    · exact q
    · rw [q] at hx; exact absurd hw hx
  have nk : ∀ x : Int, kd x ≠ 0 → x ≤ n → x < n := fun x hx hx2 => by
    rcases Int.lt_or_eq_of_le hx2 with q | q
    · exact q
    · rw [q] at hx; exact absurd hk hx
  unfold zHd
  by_cases k0 : k = 0
  · rw [if_pos k0]
    by_cases c1 : kd j ≠ 2
    · rw [if_pos c1]; exact ⟨Int.le_refl _, hj⟩
    · have j1 := nk j (by omega) hj
      rw [if_neg c1]
      by_cases c2 : vl j < 0 ∨ 99 < vl j
      · rw [if_pos c2]; exact ⟨Int.le_refl _, hj⟩
      · rw [if_neg c2]
        by_cases c3 : wd (j + 1) ≠ 1000001
        · rw [if_pos c3]; exact ⟨by show j ≤ j + 1; omega, by show j + 1 ≤ n; omega⟩
        · have j2 := ne (j + 1) (by omega) (by omega)
          rw [if_neg c3]
          by_cases c4 : kd (j + 2) ≠ 2
          · rw [if_pos c4]; exact ⟨by show j ≤ j + 2; omega, by show j + 2 ≤ n; omega⟩
          · have j3 := nk (j + 2) (by omega) (by omega)
            rw [if_neg c4]
            by_cases c5 : vl (j + 2) < vl j ∨ 99 < vl (j + 2)
            · rw [if_pos c5]; exact ⟨by show j ≤ j + 2; omega, by show j + 2 ≤ n; omega⟩
            · rw [if_neg c5]; exact ⟨by show j ≤ j + 3; omega, by show j + 3 ≤ n; omega, fun z => by omega, fun z => by omega⟩
  · rw [if_neg k0]
    by_cases k2 : k = 2
    · rw [if_pos k2]
      by_cases c1 : kd j ≠ 2
      · rw [if_pos c1]; exact ⟨Int.le_refl _, hj⟩
      · have j1 := nk j (by omega) hj
        rw [if_neg c1]
        by_cases c2 : vl j < 1 ∨ 3000 < vl j
        · rw [if_pos c2]; exact ⟨Int.le_refl _, hj⟩
        · rw [if_neg c2]; exact ⟨by show j ≤ j + 1; omega, by show j + 1 ≤ n; omega, fun z => by omega, fun z => by omega⟩
    · rw [if_neg k2]
      by_cases k3 : k = 3
      · rw [if_pos k3]
        by_cases c1 : kd j ≠ 2
        · rw [if_pos c1]; exact ⟨Int.le_refl _, hj⟩
        · have j1 := nk j (by omega) hj
          rw [if_neg c1]
          by_cases c2 : vl j < 0 ∨ 8 < vl j
          · rw [if_pos c2]; exact ⟨Int.le_refl _, hj⟩
          · rw [if_neg c2]; exact ⟨by show j ≤ j + 1; omega, by show j + 1 ≤ n; omega, fun z => by show 0 ≤ vl j ∧ vl j ≤ 8; omega, fun z => by omega⟩
      · rw [if_neg k3]
        by_cases k4 : k = 4
        · rw [if_pos k4]
          by_cases c1 : wd j = 1000007
          · have j1 := ne j (by omega) hj
            rw [if_pos c1]; exact ⟨by show j ≤ j + 1; omega, by show j + 1 ≤ n; omega, fun z => by omega, fun _ => Or.inl rfl⟩
          · rw [if_neg c1]; exact ⟨Int.le_refl _, hj, fun z => by omega, fun _ => Or.inr rfl⟩
        · rw [if_neg k4]
          by_cases k5 : k = 5
          · rw [if_pos k5]
            by_cases c1 : kd j ≠ 2
            · rw [if_pos c1]; exact ⟨Int.le_refl _, hj⟩
            · have j1 := nk j (by omega) hj
              rw [if_neg c1]
              by_cases c2 : vl j < 0 ∨ 999 < vl j
              · rw [if_pos c2]; exact ⟨Int.le_refl _, hj⟩
              · rw [if_neg c2]; exact ⟨by show j ≤ j + 1; omega, by show j + 1 ≤ n; omega, fun z => by omega, fun z => by omega⟩
          · rw [if_neg k5]; exact ⟨Int.le_refl _, hj, fun z => by omega, fun z => by omega⟩
/-- a law as read keeps to this -/
def zVok (V : zLV) : Prop := ∀ x ∈ V.1, 0 ≤ x.2.2.1 ∧ x.2.2.1 ≤ x.2.2.2 ∧ x.2.2.2 ≤ V.2.1.length ∧ (x.1 = 3 → 0 ≤ x.2.1 ∧ x.2.1 ≤ 8) ∧ (x.1 = 4 → x.2.1 = 0 ∨ x.2.1 = 1)
def zLnG (n j o : Int) (V : zLV) : zRl → Prop
  | .inl e => j ≤ e.2 ∧ e.2 ≤ n
  | .inr q => j < q.1 ∧ q.1 ≤ n ∧ o ≤ q.2.1 ∧ q.2.1 ≤ 60 ∧ q.2.2.1.length = V.1.length + 1 ∧ (q.2.2.2.1.length : Int) ≤ 2 * q.2.1 ∧ zVok q.2.2
theorem zLn_in {kd wd vl : Int → Int} {n : Int} (hk : kd n = 0) (hw : wd n = -1) (V : zLV) (j o : Int) (hj : j ≤ n) (ho : o ≤ 60) (hs : (V.2.1.length : Int) ≤ 2 * o) (hv : zVok V) : zLnG n j o V (zLn kd wd vl V j o) := by
  have nk : ∀ x : Int, kd x ≠ 0 → x ≤ n → x < n := fun x hx hx2 => by
    rcases Int.lt_or_eq_of_le hx2 with q | q
    · exact q
    · rw [q] at hx; exact absurd hk hx
  have en : ∀ (j2 o2 : Int) (W : zLV), j < j2 → j2 ≤ n → o ≤ o2 → o2 ≤ 60 → W.1.length = V.1.length + 1 → (W.2.1.length : Int) ≤ 2 * o2 → zVok W → zLnG n j o V (zEn kd j2 o2 W) := by
    intro j2 o2 W h1 h2 h3 h4 h5 h6 h7
    unfold zEn
    by_cases c : kd j2 = 59
    · rw [if_pos c]
      have := nk j2 (by omega) h2
      exact ⟨by show j < j2 + 1; omega, by show j2 + 1 ≤ n; omega, h3, h4, h5, h6, h7⟩
    · rw [if_neg c]
      exact ⟨by show j ≤ j2; omega, h2⟩
  have vok : ∀ (k num : Int) (T : List Int) (R : Int × Int × Int), ((k = 3 → 0 ≤ num ∧ num ≤ 8) ∧ (k = 4 → num = 0 ∨ num = 1)) → zVok (V.1 ++ [(k, num, (V.2.1.length : Int), (V.2.1.length : Int) + T.length)], V.2.1 ++ T, R) := by
    intro k num T R h3 x hx
    have ln : ((V.2.1 ++ T).length : Int) = V.2.1.length + T.length := by rw [List.length_append]; omega
    rcases List.mem_append.mp hx with z | z
    · have := hv x z
      exact ⟨this.1, this.2.1, by show x.2.2.2 ≤ ((V.2.1 ++ T).length : Int); omega, this.2.2.2⟩
    · rw [List.mem_singleton.mp z]
      exact ⟨by show (0 : Int) ≤ V.2.1.length; omega, by show (V.2.1.length : Int) ≤ (V.2.1.length : Int) + T.length; omega, by show (V.2.1.length : Int) + T.length ≤ ((V.2.1 ++ T).length : Int); omega, h3⟩
  unfold zLn
  generalize zWl (wd j) = K
  by_cases c1 : wd j < 0 ∨ K = -1
  · rw [if_pos c1]; exact ⟨Int.le_refl _, hj⟩
  · rw [if_neg c1]
    have jn : j < n := by
      rcases Int.lt_or_eq_of_le hj with q | q
      · exact q
      · rw [q, hw] at c1; exact absurd (Or.inl (by decide)) c1
    by_cases c2 : 20 ≤ (V.1.length : Int) ∨ (K = 0 ∨ K = 5) ∧ V.1.any (fun x => decide (x.1 = K)) = true
    · rw [if_pos c2]; exact ⟨Int.le_refl _, hj⟩
    · rw [if_neg c2]
      have hd := zHd_in (vl := vl) hk hw (K) V.2.2.1 V.2.2.2.1 V.2.2.2.2 (j + 1) (by omega)
      cases hr : zHd kd wd vl (K) V.2.2.1 V.2.2.2.1 V.2.2.2.2 (j + 1) with
      | inl e =>
        rw [hr] at hd
        have b : j + 1 ≤ e.2 ∧ e.2 ≤ n := hd
        exact ⟨by show j ≤ e.2; omega, b.2⟩
      | inr r =>
        rw [hr] at hd
        have b : j + 1 ≤ r.1 ∧ r.1 ≤ n ∧ ((K = 3 → 0 ≤ r.2.1 ∧ r.2.1 ≤ 8) ∧ (K = 4 → r.2.1 = 0 ∨ r.2.1 = 1)) := hd
        show zLnG n j o V (if ¬ (K = 0 ∨ K = 5) ∧ wd r.1 = 1000003 then _ else _)
        by_cases c3 : ¬ (K = 0 ∨ K = 5) ∧ wd r.1 = 1000003
        · rw [if_pos c3]
          have rn : r.1 < n := by
            rcases Int.lt_or_eq_of_le b.2.1 with q | q
            · exact q
            · rw [q, hw] at c3; exact absurd c3.2 (by decide)
          have i := zPx_in (vl := vl) hk hw 300 2 0 (r.1 + 1) o (by omega) ho (by omega)
          cases hq : zPx kd wd vl 300 2 0 (r.1 + 1) o with
          | inl e =>
            rw [hq] at i
            have b2 : r.1 + 1 ≤ e.2 ∧ e.2 ≤ n := i
            exact ⟨by show j ≤ e.2; omega, b2.2⟩
          | inr q =>
            rw [hq] at i
            have b2 : r.1 + 1 + 1 ≤ q.1 ∧ q.1 ≤ n ∧ o + 1 ≤ q.2.1 ∧ q.2.1 ≤ 60 ∧ (q.2.2.length : Int) + 1 ≤ 2 * (q.2.1 - o) := i
            refine en _ _ _ (by omega) b2.2.1 (by omega) b2.2.2.2.1 ?_ ?_ (vok _ _ _ _ b.2.2)
            · show (V.1 ++ [_]).length = _
              rw [List.length_append, List.length_singleton]
            · show ((V.2.1 ++ q.2.2).length : Int) ≤ _
              rw [List.length_append]
              omega
        · rw [if_neg c3]
          refine en _ _ _ (by omega) b.2.1 (by omega) ho ?_ hs ?_
          · show (V.1 ++ [_]).length = _
            rw [List.length_append, List.length_singleton]
          · have z := vok (K) r.2.1 [] r.2.2 b.2.2
            rw [List.append_nil, List.length_nil, show (V.2.1.length : Int) + ((0 : Nat) : Int) = V.2.1.length by omega] at z
            exact z
/-- the same, its LINE's number told -/
def zIs (a b : Int) : Prop := a = b
def zLnK (kd wd vl : Int → Int) (K : Int) (V : zLV) (j o : Int) : zRl :=
  if wd j < 0 ∨ K = -1 then .inl (1, j)
  else if 20 ≤ (V.1.length : Int) ∨ (K = 0 ∨ K = 5) ∧ V.1.any (fun x => decide (x.1 = K)) = true then .inl (3, j)
  else match zHd kd wd vl K V.2.2.1 V.2.2.2.1 V.2.2.2.2 (j + 1) with
    | .inl e => .inl e
    | .inr r => if ¬ (K = 0 ∨ K = 5) ∧ wd r.1 = 1000003 then
        (match zPx kd wd vl 300 2 0 (r.1 + 1) o with
          | .inl e => .inl e
          | .inr q => zEn kd q.1 q.2.1 (V.1 ++ [(K, r.2.1, (V.2.1.length : Int), (V.2.1.length : Int) + q.2.2.length)], V.2.1 ++ q.2.2, r.2.2))
      else zEn kd r.1 o (V.1 ++ [(K, r.2.1, (V.2.1.length : Int), (V.2.1.length : Int))], V.2.1, r.2.2)
theorem zLn_K {kd wd vl : Int → Int} {K : Int} {V : zLV} {j o : Int} (h : zIs (zWl (wd j)) K) : zLn kd wd vl V j o = zLnK kd wd vl K V j o := by
  have h' : zWl (wd j) = K := h
  subst h'
  unfold zLn zLnK
  rfl
set_option linter.constructorNameAsVariable false in
theorem f_X5_readLine {X : zX} {dep : Nat} (L j o : Int) (V : zLV) {h : zH} (hL : zLawO L) (hb : 30 ≤ L ∧ L ≤ 107) (w : zAt h L j o) (t : zTkOK h) (li : zLi h L V) (hl : V.1.length ≤ 20) (hs : (V.2.1.length : Int) ≤ 2 * o) (hdep : 42 ≤ dep) :
    zW mX5_readLine X dep 0 0 239 0 (zar 0 [xR 24]) [] h (zQI (zLo h L (zLn (h 26) (h 29) (h 28) V j o))) := by
  obtain ⟨K, hK⟩ : ∃ K, zIs (zWl (h 29 j)) K := ⟨_, rfl⟩
  have hE : zIs (zWl (h 24 6)) K := (congrArg zWl w.2.2.2.2.1).trans hK
  rw [zLn_K hK]
  have w6 := w.2.2.2.2.1
  have wj := w.2.1
  have wo := w.2.2.2.2.2.2
  have hwd := (t.2.2.2 j wj.1 wj.2).1
  have l6 := li.1
  have hn := t.2.1
  have hn2 := t.2.2.1
  have f1 : h 29 j < 0 ∨ K = -1 → zW mX5_readLine X dep 0 0 239 19 [(1, xR (h 24 6)), (0, xR 24)] [xI 1, xR 24] h (zQI (zLo h L (zLnK (h 26) (h 29) (h 28) K V j o))) := by
    intro c
    refine zW.sub (lv' := [(0, xR 24), (1, xR (h 24 6))]) [1, 0] rfl ?_
    refine rX5_readLine_19 _ (f_X5_fail L 1 j o w t.1.2) (by omega) (fun v g hg => ?_)
    obtain ⟨rfl, hg⟩ := hg
    refine bX5_readLine_22 _ 0 (Or.inl rfl) ?_
    refine ⟨rfl, _, rfl, ?_⟩
    unfold zLnK
    rw [if_pos c]
    exact ⟨rfl, hg⟩
  have e136 : ∀ (q y : Int) (f : zH) (j1 o1 : Int) (V1 : zLV), zLd h L j1 o1 V1 f → zW mX5_readLine X dep 0 0 239 136 [(0, xR 24), (1, xR q), (2, xI y)] [] f (zQI (zLo h L (zEn (h 26) j1 o1 V1))) := by
    intro q y f j1 o1 V1 a
    obtain ⟨tf, f25, f26, f27, f28, f29, -⟩ := t.ap hb.1 a.1
    refine bX5_readLine_136 q y ?_
    refine rX5_readLine_139 q y (f_X5_readSign L 59 j1 o1 a.2.1 tf (by omega) (by omega)) (by omega) (fun v g hg => ?_)
    rw [f26] at hg
    refine bX5_readLine_142 q y v (by rcases hg with z | z; exact Or.inr z.2.1; exact Or.inl z.2.1) ?_
    refine ⟨rfl, _, rfl, ?_⟩
    unfold zEn
    rcases hg with ⟨c, rfl, hg⟩ | ⟨c, rfl, hg⟩
    · rw [if_pos c]
      have lt := t.lt (j := j1) (by have := a.2.1.2.1; rw [f25] at this; exact this) (Or.inl (by omega))
      have ld := zLd.mk hb.1 a.2.1 (j2 := j1 + 1) (by rw [f25]; have := a.2.1.2.1; omega) hg a.2.2.1
      exact ⟨rfl, a.1.tr ld.1, ld.2.1, ld.2.2.1, ld.2.2.2.1.trans a.2.2.2.1, ld.2.2.2.2.trans a.2.2.2.2⟩
    · rw [if_neg c]
      exact ⟨rfl, zFt.tr hb.1 a.1 (a.2.1.1.trans w.1.symm) hg⟩
  have main : ¬ (h 29 j < 0 ∨ K = -1) → zW mX5_readLine X dep 0 0 239 0 (zar 0 [xR 24]) [] h (zQI (zLo h L (zLnK (h 26) (h 29) (h 28) K V j o))) := by
    intro c1
    have hq : 1000000 ≤ h 29 j ∧ h 29 j < 1000022 := by
      rcases hwd with q | q
      · exact absurd (Or.inl (by omega)) c1
      · exact q
    have wl : -1 ≤ K ∧ K ≤ 5 := by
      have z := zWl_in hq
      rw [show zWl (h 29 j) = K from hK] at z
      exact z
    have f3 : ∀ y : Int, (20 ≤ (V.1.length : Int) ∨ (K = 0 ∨ K = 5) ∧ V.1.any (fun x => decide (x.1 = K)) = true) → zW mX5_readLine X dep 0 0 239 76 [(0, xR 24), (1, xR (h 24 6)), (2, xI y)] [xI 3, xR 24] h (zQI (zLo h L (zLnK (h 26) (h 29) (h 28) K V j o))) := by
      intro y c2
      refine rX5_readLine_76 _ y (f_X5_fail L 3 j o w t.1.2) (by omega) (fun v g hg => ?_)
      obtain ⟨rfl, hg⟩ := hg
      refine bX5_readLine_79 _ y 0 (Or.inl rfl) ?_
      refine ⟨rfl, _, rfl, ?_⟩
      unfold zLnK
      rw [if_neg c1, if_pos c2]
      exact ⟨rfl, hg⟩
    have at80 : ∀ y : Int, ¬ (20 ≤ (V.1.length : Int) ∨ (K = 0 ∨ K = 5) ∧ V.1.any (fun x => decide (x.1 = K)) = true) → (y = 0 ↔ ¬ (K = 0 ∨ K = 5)) → zW mX5_readLine X dep 0 0 239 80 [(0, xR 24), (1, xR (h 24 6)), (2, xI y)] [] h (zQI (zLo h L (zLnK (h 26) (h 29) (h 28) K V j o))) := by
      intro y c2 hy
      have lt := t.lt wj (Or.inr (by omega))
      refine bX5_readLine_80 _ y L (by rw [w6]; exact hq) hL w.1 ?_
      refine rX5_readLine_88 _ y L hL ((f_X1_addLine L _ hL (by rw [l6]; omega)).weaken (fun _ _ _ q => ⟨q.1, q.2.2, q.2.1⟩)) (by omega) (P := fun f => f = zadl h L (zWl (h 24 6))) (fun g hg => ?_)
      rw [show zWl (h 24 6) = K from hE] at hg
      refine bX5_readLine_91 _ y ?_
      have ag : zAt g L j o := by
        rw [hg]
        unfold zadl
        exact ((((w.st hb.1 (by omega) _ _).st hb.1 (by omega) _ _).st hb.1 (by omega) _ _).st hb.1 (by omega) _ _).st hb.1 (by omega) _ _
      have apg : zap (zLS L) h g := by
        rw [hg]
        unfold zadl
        exact (((((zap.rf _ h).st (Or.inr (by omega)) _ _).st (Or.inr (by omega)) _ _).st (Or.inr (by omega)) _ _).st (Or.inr (by omega)) _ _).st (Or.inr (by omega)) _ _
      have lig : zLi g L (V.1 ++ [(K, 0, (V.2.1.length : Int), (V.2.1.length : Int))], V.2) := by rw [hg]; exact li.line _
      have g24 : g 24 2 = h 24 2 ∧ g 24 3 = h 24 3 := by
        rw [hg]
        unfold zadl
        constructor
        · rw [zst_ne (Or.inl (by omega)), zst_ne (Or.inl (by omega)), zst_ne (Or.inl (by omega)), zst_ne (Or.inl (by omega)), zst_ne (Or.inl (by omega))]
        · rw [zst_ne (Or.inl (by omega)), zst_ne (Or.inl (by omega)), zst_ne (Or.inl (by omega)), zst_ne (Or.inl (by omega)), zst_ne (Or.inl (by omega))]
      obtain ⟨tg, e25, e26, e27, e28, e29, -⟩ := t.ap hb.1 apg
      refine rX5_readLine_92 _ y (f_X5_readToken L j o ag (by rw [e25]; exact ⟨lt, t.1.2⟩)) (by omega) (fun g2 hg2 => ?_)
      have ld2 := zLd.mk hb.1 ag (j2 := j + 1) (by rw [e25]; omega) hg2 lig
      have a2 : zap (zLS L) h g2 := apg.tr ld2.1
      obtain ⟨t2, k25, k26, k27, k28, k29, -⟩ := t.ap hb.1 a2
      refine bX5_readLine_95 _ y (by rw [w6]; exact hq) ?_
      refine rX5_readLine_100 _ y (f_X5_readHead L (j + 1) o _ V.2.2.1 V.2.2.2.1 V.2.2.2.2 V.1 V.2.1 hL hb ld2.2.1 t2 (by omega) (by rw [show zWl (h 24 6) = K from hE]; exact ld2.2.2.1) (by rw [show zWl (h 24 6) = K from hE]; exact zk5 wl (fun z => c1 (Or.inr z))) (by omega)) (by omega) (fun v f hf => ?_)
      rw [k26, k28, k29, show zWl (h 24 6) = K from hE] at hf
      have hd := zHd_in (vl := h 28) hn hn2 (K) V.2.2.1 V.2.2.2.1 V.2.2.2.2 (j + 1) (by omega)
      unfold zLnK
      rw [if_neg c1, if_neg c2]
      cases hr : zHd (h 26) (h 29) (h 28) (K) V.2.2.1 V.2.2.2.1 V.2.2.2.2 (j + 1) with
      | inl e =>
        rw [hr] at hf
        obtain ⟨rfl, hf⟩ := hf
        refine bX5_readLine_103 _ y 0 (fun c => absurd rfl c) (fun _ => ?_)
        exact ⟨rfl, _, rfl, rfl, zFt.tr hb.1 a2 (ld2.2.1.1.trans w.1.symm) hf⟩
      | inr r =>
        rw [hr] at hf hd
        obtain ⟨rfl, hf⟩ := hf
        have b : j + 1 ≤ r.1 ∧ r.1 ≤ h 25 4 - 1 ∧ ((K = 3 → 0 ≤ r.2.1 ∧ r.2.1 ≤ 8) ∧ (K = 4 → r.2.1 = 0 ∨ r.2.1 = 1)) := hd
        have ldf : zLd h L r.1 o (V.1 ++ [(K, r.2.1, (V.2.1.length : Int), (V.2.1.length : Int))], V.2.1, r.2.2) f := ⟨a2.tr hf.1, hf.2.1, hf.2.2.1, hf.2.2.2.1.trans (ld2.2.2.2.1.trans g24.1), hf.2.2.2.2.trans (ld2.2.2.2.2.trans g24.2)⟩
        obtain ⟨tf, m25, m26, m27, m28, m29, -⟩ := t.ap hb.1 ldf.1
        have f6 := ldf.2.1.2.2.2.2.1
        rw [m29] at f6
        refine bX5_readLine_103 _ y 1 (fun _ => ?_) (fun c => absurd c (by omega))
        refine bX5_readLine_108 _ y (by rw [f6]; exact (t.2.2.2 r.1 (by omega) (by omega)).1) (fun c => ?_) (fun c c3 => ?_) (fun c c3 => ?_)
        · show zW mX5_readLine X dep 0 0 239 136 _ _ _ (zQI (zLo h L (if ¬ (K = 0 ∨ K = 5) ∧ h 29 r.1 = 1000003 then _ else _)))
          rw [if_neg (fun z => c (hy.mpr z.1))]
          exact e136 _ y f _ _ _ ldf
        · rw [f6] at c3
          show zW mX5_readLine X dep 0 0 239 136 _ _ _ (zQI (zLo h L (if ¬ (K = 0 ∨ K = 5) ∧ h 29 r.1 = 1000003 then _ else _)))
          rw [if_neg (fun z => c3 z.2)]
          exact e136 _ y f _ _ _ ldf
        · rw [f6] at c3
          show zW mX5_readLine X dep 0 0 239 123 _ _ _ (zQI (zLo h L (if ¬ (K = 0 ∨ K = 5) ∧ h 29 r.1 = 1000003 then _ else _)))
          rw [if_pos ⟨hy.mp c, c3⟩]
          have lt2 := t.lt (j := r.1) (by omega) (Or.inr (by omega))
          refine rX5_readLine_123 _ y (f_X5_readToken L r.1 o ldf.2.1 (by rw [m25]; exact ⟨lt2, t.1.2⟩)) (by omega) (fun g4 hg4 => ?_)
          refine bX5_readLine_126 _ y ?_
          have ld4 := zLd.mk hb.1 ldf.2.1 (j2 := r.1 + 1) (by rw [m25]; omega) hg4 ldf.2.2.1
          have a4 : zap (zLS L) h g4 := ldf.1.tr ld4.1
          obtain ⟨t4, n25, n26, n27, n28, n29, -⟩ := t.ap hb.1 a4
          have cx : zCtx g4 L (r.1 + 1) o := by
            refine ⟨ld4.2.1, t4, ?_⟩
            have q6 := ld4.2.2.1.1
            have q12 := ld4.2.2.1.2.1
            have ln : ((V.1 ++ [(K, r.2.1, (V.2.1.length : Int), (V.2.1.length : Int))]).length : Int) = V.1.length + 1 := by rw [List.length_append, List.length_singleton]; omega
            unfold zLk
            rw [q6, q12]
            show 0 < ((V.1 ++ [(K, r.2.1, (V.2.1.length : Int), (V.2.1.length : Int))]).length : Int) ∧ ((V.1 ++ [(K, r.2.1, (V.2.1.length : Int), (V.2.1.length : Int))]).length : Int) ≤ 20 ∧ 0 ≤ (V.2.1.length : Int) ∧ (V.2.1.length : Int) ≤ 2 * o
            omega
          refine rX5_readLine_128 _ y (f_X5_readCond L (r.1 + 1) o hL hb cx (by omega)) (by omega) (fun v f5 hf5 => ?_)
          rw [n26, n28, n29] at hf5
          have gd := zPx_in (vl := h 28) hn hn2 300 2 0 (r.1 + 1) o (by omega) wo.2 (by omega)
          cases hq2 : zPx (h 26) (h 29) (h 28) 300 2 0 (r.1 + 1) o with
          | inl e =>
            rw [hq2] at hf5
            obtain ⟨rfl, hf5⟩ := hf5
            refine bX5_readLine_131 _ y 0 (fun c => absurd rfl c) (fun _ => ?_)
            exact ⟨rfl, _, rfl, rfl, zFt.tr hb.1 a4 (ld4.2.1.1.trans w.1.symm) hf5⟩
          | inr q =>
            rw [hq2] at hf5 gd
            obtain ⟨rfl, hf5⟩ := hf5
            have b2 : r.1 + 1 + 1 ≤ q.1 ∧ q.1 ≤ h 25 4 - 1 ∧ o + 1 ≤ q.2.1 ∧ q.2.1 ≤ 60 ∧ (q.2.2.length : Int) + 1 ≤ 2 * (q.2.1 - o) := gd
            obtain ⟨cf, -, -, -, -⟩ := cx.mk hb.1 q.2.2 hf5 (by rw [n25]; omega) (by omega) (by have := cx.2.2; unfold zLk at this; omega)
            have li5 : zLi f5 L (V.1 ++ [(K, r.2.1, (V.2.1.length : Int), (V.2.1.length : Int) + q.2.2.length)], V.2.1 ++ q.2.2, r.2.2) := by
              rw [hf5]
              exact (zLi.stps q.2.2 V.2.1 g4 ld4.2.2.1).rd hb.1 _ _
            have ap5 : zap (zLS L) g4 f5 := fun p k hp => by
              rw [hf5, zrd_ne _ _ _ (fun z => hp (Or.inl z)), zstps_ne L (by simp only [zLS] at hp; omega) (by simp only [zLS] at hp; omega) (by simp only [zLS] at hp; omega)]
            have s24 : ∀ k : Int, k < 4 → f5 24 k = g4 24 k := fun k hk => by
              rw [hf5, zrd_24, if_neg (by omega), if_neg (by omega), if_neg (by omega), if_neg (by omega)]
              exact zstps_ne L (by omega) (by omega) (by omega) k q.2.2 g4
            refine bX5_readLine_131 _ y 1 (fun _ => ?_) (fun c => absurd c (by omega))
            exact e136 _ y f5 _ _ _ ⟨a4.tr ap5, cf.1, li5, (s24 2 (by omega)).trans (ld4.2.2.2.1.trans ldf.2.2.2.1), (s24 3 (by omega)).trans (ld4.2.2.2.2.trans ldf.2.2.2.2)⟩
    have at68 : ∀ y : Int, ¬ 20 ≤ (V.1.length : Int) → y = 1 → (K = 0 ∨ K = 5) → zW mX5_readLine X dep 0 0 239 68 [(0, xR 24), (1, xR (h 24 6)), (2, xI y)] [xI (zWl (h 24 6)), xR L] h (zQI (zLo h L (zLnK (h 26) (h 29) (h 28) K V j o))) := by
      intro y c2 hy c3
      refine rX5_readLine_68 _ y L hL (zfI (f_X1_hasLine L _ hL (by rw [l6]; omega))) (by omega) (fun v g hg => ?_)
      obtain ⟨rfl, rfl⟩ := hg
      rw [zb_iff (li.has _), show zWl (h 24 6) = K from hE]
      refine bX5_readLine_71 _ y _ (fun c => ?_) (fun c => ?_)
      · refine at80 y (fun z => ?_) ⟨fun z => by omega, fun z => absurd c3 z⟩
        rcases z with z | z
        · exact c2 z
        · rw [zb_t z.2] at c; exact absurd c (by decide)
      · refine f3 y (Or.inr ⟨c3, ?_⟩)
        exact Classical.byContradiction fun z => c (zb_f z)
    refine bX5_readLine_0 L (by rw [w6]; exact hwd) hL w.1 (fun c => ?_) (fun c c2 c3 c4 => ?_) (fun c c2 c3 c4 => ?_) (fun c c2 c3 c4 => ?_) (fun c c2 c3 c4 c5 => ?_) (fun c c2 c3 c4 c5 => ?_) (fun c c2 => ?_)
    · rw [w6] at c; exact absurd (Or.inl c) c1
    · rw [show zWl (h 24 6) = K from hE] at c2 c3
      refine zW.sub (lv' := [(0, xR 24), (1, xR (h 24 6)), (2, xI 1)]) [2, 1, 0] rfl ?_
      exact f3 1 (Or.inl (by omega))
    · rw [show zWl (h 24 6) = K from hE] at c2 c3
      refine zW.sub (lv' := [(0, xR 24), (1, xR (h 24 6)), (2, xI 1)]) [2, 1, 0] rfl ?_
      exact at68 1 (by omega) rfl (Or.inl c3)
    · rw [show zWl (h 24 6) = K from hE] at c2 c3
      refine zW.sub (lv' := [(0, xR 24), (1, xR (h 24 6)), (2, xI (if (zWl (h 24 6)) = 5 then 1 else 0 : Int))]) [2, 1, 0] rfl ?_
      exact f3 _ (Or.inl (by omega))
    · rw [show zWl (h 24 6) = K from hE] at c2 c3 c5
      have c6 : ¬ K = 5 := fun z => by rw [if_pos z] at c5; exact absurd c5 (by decide)
      have z := at80 (if (zWl (h 24 6)) = 5 then 1 else 0 : Int) (fun z => z.elim (fun q => c4 (by rw [l6]; exact q)) (fun q => q.1.elim c3 c6)) (by rw [show zWl (h 24 6) = K from hE]; exact ⟨fun _ z => z.elim c3 c6, fun _ => c5⟩)
      exact z
    · rw [show zWl (h 24 6) = K from hE] at c2 c3 c5
      have c6 : K = 5 := Classical.byContradiction fun z => c5 (if_neg z)
      refine zW.sub (lv' := [(0, xR 24), (1, xR (h 24 6)), (2, xI (if (zWl (h 24 6)) = 5 then 1 else 0 : Int))]) [2, 1, 0] rfl ?_
      exact at68 _ (by omega) (by rw [show zWl (h 24 6) = K from hE, if_pos c6]) (Or.inr c6)
    · rw [show zWl (h 24 6) = K from hE] at c2; exact absurd (Or.inr c2) c1
  by_cases c : h 29 j < 0 ∨ K = -1
  · refine bX5_readLine_0 L (by rw [w6]; exact hwd) hL w.1 (fun c2 => f1 c) (fun c2 c3 => absurd c (by rw [w6] at c2; rw [show zWl (h 24 6) = K from hE] at c3; exact fun z => z.elim c2 c3)) (fun c2 c3 => absurd c (by rw [w6] at c2; rw [show zWl (h 24 6) = K from hE] at c3; exact fun z => z.elim c2 c3)) (fun c2 c3 => absurd c (by rw [w6] at c2; rw [show zWl (h 24 6) = K from hE] at c3; exact fun z => z.elim c2 c3)) (fun c2 c3 => absurd c (by rw [w6] at c2; rw [show zWl (h 24 6) = K from hE] at c3; exact fun z => z.elim c2 c3)) (fun c2 c3 => absurd c (by rw [w6] at c2; rw [show zWl (h 24 6) = K from hE] at c3; exact fun z => z.elim c2 c3)) (fun c2 c3 => f1 c)
  · exact main c
