/-! what a step asks, and which LINE speaks of a man: both sides -/
/-- the answers that the class keeps of a man are the model's -/
def vAq (c m : zH) (o mm l : Int) : Prop := c (o + 4) (mm * 11) = m 217 (6 * mm) ∧ c (o + 4) (mm * 11 + 1) = m 217 (6 * mm + 1) ∧ c (o + 4) (mm * 11 + 2) = m 217 (6 * mm + 2) ∧ c (o + 4) (mm * 11 + 3) = m 217 (6 * mm + 3) ∧ c (o + 4) (mm * 11 + 4) = m 217 (6 * mm + 4) ∧ c (o + 4) (mm * 11 + 5) = m 217 (6 * mm + 5) ∧ c (o + 4) (mm * 11 + 6) = zage (m 214 mm) (m 205 l) ∧ c (o + 4) (mm * 11 + 7) = m 218 mm ∧ c (o + 4) (mm * 11 + 8) = zcnt (mBro m mm) (m 169 25).toNat ∧ c (o + 4) (mm * 11 + 10) = m 172 mm
def vAs (c m : zH) (o mm l : Int) : Prop := c (o + 4) (mm * 11 + 9) = zcnt (fun b => mSer m l b ∧ mBro m mm b) (m 169 25).toNat
theorem zans_q {c : zH} {A p a s n v : Int} (a0 : 0 ≤ a) (a1 : a < 11) (hs : s = 60 ∨ s = 61 ∨ s = 62) (hn : 0 ≤ n ∧ n ≤ 9999) (hp : 0 ≤ p ∧ p ≤ 649) (e : c A (p + a) = v) : zans c A (zqs a s n) p = (if s = 60 then (if n ≤ v then 0 else 1) else if s = 61 then (if v = n then 1 else 0) else if v ≤ n then 0 else 1) := by
  obtain ⟨-, d1, d2, d3⟩ := zqs_dec a0 (show a < 16 by omega) (show 0 ≤ s by omega) (show s < 256 by omega) hn.1 (show n < 100000 by omega)
  unfold zans
  rw [d1, d2, d3, e]
  rcases hs with rfl | rfl | rfl
  · rw [if_pos rfl]
    by_cases y : n ≤ v
    · rw [if_pos y]; exact zb_f (by omega)
    · rw [if_neg y]; exact zb_t ⟨by omega, Or.inl ⟨rfl, by omega⟩⟩
  · rw [if_neg (by decide), if_pos rfl]
    by_cases y : v = n
    · rw [if_pos y]; exact zb_t ⟨by omega, Or.inr (Or.inl ⟨rfl, y⟩)⟩
    · rw [if_neg y]; exact zb_f (by omega)
  · rw [if_neg (by decide), if_neg (by decide)]
    by_cases y : v ≤ n
    · rw [if_pos y]; exact zb_f (by omega)
    · rw [if_neg y]; exact zb_t ⟨by omega, Or.inr (Or.inr ⟨by decide, by decide, by omega⟩)⟩
theorem v_ans {c m : zH} {o mm l k x : Int} (hm : 0 ≤ mm ∧ mm < 60) (q : vAq c m o mm l) (q9 : m 201 k = 10 → vAs c m o mm l) (h : mStq (m 201 k) (m 202 k) (m 203 k) x) (hx : 0 ≤ x) : zans c (o + 4) x (mm * 11) = mat m k mm l := by
  obtain ⟨q0, q1, q2, q3, q4, q5, q6, q7, q8, q10⟩ := q
  have hp : 0 ≤ mm * 11 ∧ mm * 11 ≤ 649 := by omega
  have z : ∀ (a v : Int), 0 ≤ a → a < 11 → c (o + 4) (mm * 11 + a) = v → zans c (o + 4) (zqs a 61 1) (mm * 11) = if v = 1 then 1 else 0 := fun a v a0 a1 e => by
    rw [zans_q a0 a1 (Or.inr (Or.inl rfl)) (by decide) hp e, if_neg (by decide), if_pos rfl]
  unfold mat
  rcases h with h | h | h | h | h | h | h | ⟨h1, h2, h3, h4⟩
  · omega
  · omega
  · omega
  · rw [h.2, z 2 _ (by decide) (by decide) q2, h.1, if_neg (show ¬ (4 : Int) ≤ 0 by decide), if_neg (show ¬ (0 : Int) = 3 by decide), show 6 * mm + 2 + 0 = 6 * mm + 2 by omega]
  · rw [h.2, z 3 _ (by decide) (by decide) q3, h.1, if_neg (show ¬ (4 : Int) ≤ 1 by decide), if_neg (show ¬ (1 : Int) = 3 by decide), show 6 * mm + 2 + 1 = 6 * mm + 3 by omega]
  · rw [h.2, z 4 _ (by decide) (by decide) q4, h.1, if_neg (show ¬ (4 : Int) ≤ 2 by decide), if_neg (show ¬ (2 : Int) = 3 by decide), show 6 * mm + 2 + 2 = 6 * mm + 4 by omega]
  · rw [h.2, zans_q (a := 8) (by decide) (by decide) (Or.inr (Or.inl rfl)) (by decide) hp q8, if_neg (by decide), if_pos rfl, h.1, if_neg (show ¬ (4 : Int) ≤ 3 by decide), if_pos rfl]
  · have w : ∀ a v : Int, 0 ≤ a → a < 11 → mtb (m 201 k) = a → mnum m (m 201 k) mm l = v → c (o + 4) (mm * 11 + a) = v → zans c (o + 4) x (mm * 11) = (if 4 ≤ m 201 k then (if m 202 k = 60 then (if m 203 k ≤ mnum m (m 201 k) mm l then 0 else 1) else if m 202 k = 61 then (if mnum m (m 201 k) mm l = m 203 k then 1 else 0) else if mnum m (m 201 k) mm l ≤ m 203 k then 0 else 1) else if m 201 k = 3 then (if zcnt (mBro m mm) (m 169 25).toNat = 0 then 1 else 0) else (if m 217 (6 * mm + 2 + m 201 k) = 1 then 1 else 0)) := fun a v a0 a1 ea ev e => by
      rw [h4, ea, zans_q a0 a1 h2 h3 hp e, if_pos h1.1, ev]
    rcases (show m 201 k = 4 ∨ m 201 k = 5 ∨ m 201 k = 6 ∨ m 201 k = 7 ∨ m 201 k = 8 ∨ m 201 k = 9 ∨ m 201 k = 10 ∨ m 201 k = 11 by omega) with y | y | y | y | y | y | y | y
    · exact w 6 (zage (m 214 mm) (m 205 l)) (by decide) (by decide) (by rw [y]; rfl) (by rw [y]; rfl) q6
    · exact w 0 (m 217 (6 * mm)) (by decide) (by decide) (by rw [y]; rfl) (by rw [y]; rfl) (by rw [Int.add_zero]; exact q0)
    · exact w 1 (m 217 (6 * mm + 1)) (by decide) (by decide) (by rw [y]; rfl) (by rw [y]; rfl) q1
    · exact w 5 (m 217 (6 * mm + 5)) (by decide) (by decide) (by rw [y]; rfl) (by rw [y]; rfl) q5
    · exact w 7 (m 218 mm) (by decide) (by decide) (by rw [y]; rfl) (by rw [y]; rfl) q7
    · exact w 8 (zcnt (mBro m mm) (m 169 25).toNat) (by decide) (by decide) (by rw [y]; rfl) (by rw [y]; rfl) q8
    · exact w 9 (zcnt (fun b => mSer m l b ∧ mBro m mm b) (m 169 25).toNat) (by decide) (by decide) (by rw [y]; rfl) (by rw [y]; rfl) (q9 y)
    · exact w 10 (m 172 mm) (by decide) (by decide) (by rw [y]; rfl) (by rw [y]; rfl) q10
/-- a LINE's COND, on both sides -/
theorem v_holdL {c m : zH} {o mm l L w : Int} {V : zLV} (hm : 0 ≤ mm ∧ mm < 60) (zl : zLi c L V) (ml : mLwr m w V) (hV : V.2.1.length ≤ 120) (ok : zVok V) (rp : zVrp V) (q : vAq c m o mm l) (q9 : (∃ x ∈ V.2.1, zSrv x) → vAs c m o mm l) {i : Nat} (hi : i < V.1.length) : zhold c L (o + 4) (mm * 11) i ↔ mSo m w (20 * w + i) mm l := by
  obtain ⟨-, -, -, -, -, z5, zr, zs⟩ := zl
  obtain ⟨-, -, -, -, mr, ms⟩ := ml
  have r1 := zr i hi
  have r2 := mr i hi
  have hx : V.1.getD i (0, 0, 0, 0) ∈ V.1 := by
    rw [List.getD_eq_getElem?_getD, List.getElem?_eq_getElem hi]
    exact List.getElem_mem _
  generalize V.1.getD i (0, 0, 0, 0) = x at r1 r2 hx
  obtain ⟨-, -, a3, a4⟩ := r1
  obtain ⟨-, -, -, b3, b4⟩ := r2
  have o1 := ok x hx
  unfold zhold mSo
  rw [a3, a4, b3, b4]
  rcases rp x hx with z | ⟨A, S, B, y1, y2, y3, y4⟩
  · rw [z, Int.sub_self]
    exact ⟨fun _ => Or.inl rfl, fun _ => Or.inl rfl⟩
  · have ln : V.2.1.length = A.length + S.length + B.length := by rw [y1, List.length_append, List.length_append]
    have en : (x.2.2.2 - x.2.2.1).toNat = S.length := by omega
    have gd : ∀ k : Nat, k < S.length → V.2.1.getD (A.length + k) 0 = S.getD k 0 := fun k hk => by
      rw [y1, List.append_assoc, List.getD_eq_getElem?_getD, List.getElem?_append_right (by omega), Nat.add_sub_cancel_left, List.getElem?_append_left hk, ← List.getD_eq_getElem?_getD]
    have mst : ∀ k : Nat, k < S.length → mStq (m 201 (130 * w + x.2.2.1 + k)) (m 202 (130 * w + x.2.2.1 + k)) (m 203 (130 * w + x.2.2.1 + k)) (S.getD k 0) := fun k hk => by
      have q := ms (A.length + k) (by omega)
      rw [gd k hk] at q
      rw [y2, Int.add_assoc, show (A.length : Int) + (k : Int) = ((A.length + k : Nat) : Int) by omega]
      exact q
    have H := v_hold (c := c) (m := m) (o := L) (a := o + 4) (p := mm * 11) (i0 := x.2.2.1) (mm := mm) (l := l) (aa := 130 * w + x.2.2.1) (S := S) (by omega) y4 (fun k hk => by
      have q := zs (A.length + k) (by omega)
      rw [gd k hk] at q
      rw [y2, show (A.length : Int) + (k : Int) = ((A.length + k : Nat) : Int) by omega]
      exact q) mst (fun k hk hx0 => v_ans hm q (fun y10 => q9 ⟨S.getD k 0, ?_, ?_⟩) (mst k hk) hx0)
    · rw [en, H.1]
      have ne : x.2.2.1 ≠ x.2.2.2 := fun e => by
        have s0 : S.length = 0 := by omega
        have s1 : S = [] := List.length_eq_zero_iff.mp s0
        have f := (y4 0 (Int.le_refl _)).2
        rw [s1] at f
        exact absurd (show (0 : Int) = 0 + 1 from f) (by decide)
      constructor
      · rintro (z | z)
        · exact absurd z ne
        · exact Or.inr (H.2.mp z)
      · rintro (z | z)
        · exact absurd z (by decide)
        · exact Or.inr (H.2.mpr z)
    · rw [← gd k hk, List.getD_eq_getElem?_getD, List.getElem?_eq_getElem (show A.length + k < V.2.1.length by omega)]
      exact List.getElem_mem _
    · refine ⟨hx0, ?_⟩
      rcases mst k hk with h | h | h | h | h | h | h | ⟨h1, h2, h3, h4⟩
      · omega
      · omega
      · omega
      · omega
      · omega
      · omega
      · omega
      · rw [h4, y10]
        exact (zqs_dec (a := 9) (by decide) (by decide) (by omega) (by omega) h3.1 (by omega)).2.1
/-- the LINE that speaks of a man -/
theorem v_line {c m : zH} {o mm l L w : Int} {V : zLV} (hm : 0 ≤ mm ∧ mm < 60) (hw : 0 ≤ w) (zl : zLi c L V) (ml : mLwr m w V) (h20 : V.1.length ≤ 20) (hV : V.2.1.length ≤ 120) (ok : zVok V) (rp : zVrp V) (q : vAq c m o mm l) (q9 : (∃ x ∈ V.2.1, zSrv x) → vAs c m o mm l) (kd : Int) : zline c L (o + 4) (mm * 11) kd = -1 ∧ mline m w kd mm l = -1 ∨ (0 ≤ zline c L (o + 4) (mm * 11) kd ∧ zline c L (o + 4) (mm * 11) kd < V.1.length) ∧ mline m w kd mm l = 20 * w + zline c L (o + 4) (mm * 11) kd := by
  have key : ∀ (k i : Nat), i + k = V.1.length → zlf c L (o + 4) (mm * 11) kd k i = -1 ∧ mlf m w kd mm l k i = -1 ∨ (0 ≤ zlf c L (o + 4) (mm * 11) kd k i ∧ zlf c L (o + 4) (mm * 11) kd k i < V.1.length) ∧ mlf m w kd mm l k i = 20 * w + zlf c L (o + 4) (mm * 11) kd k i := by
    intro k
    induction k with
    | zero => exact fun i _ => Or.inl ⟨rfl, rfl⟩
    | succ k ih =>
      intro i hk
      have r1 := zl.2.2.2.2.2.2.1 i (by omega)
      have r2 := ml.2.2.2.2.1 i (by omega)
      have H := v_holdL hm zl ml hV ok rp q q9 (i := i) (by omega)
      have n := ih (i + 1) (by omega)
      rw [show ((i + 1 : Nat) : Int) = (i : Int) + 1 by omega] at n
      unfold zlf mlf
      by_cases y : c (L + 1) i = kd ∧ zhold c L (o + 4) (mm * 11) i
      · rw [if_pos y, if_pos ⟨by rw [r2.1, ← r1.1]; exact y.1, H.mp y.2⟩]
        exact Or.inr ⟨by omega, rfl⟩
      · rw [if_neg y, if_neg (fun z => y ⟨by rw [r1.1, ← r2.1]; exact z.1, H.mpr z.2⟩)]
        exact n
  have z := key V.1.length 0 (by omega)
  unfold zline mline
  rw [if_neg (by omega), zl.1, ml.1, Int.toNat_natCast]
  exact z
