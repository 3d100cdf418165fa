/-! the model reads a LINE -/
theorem mTx.sc {b : Int → Int} {sz : Int} {g : zH} (t : mTx b sz g) {o : Int} (ho : o ≠ 169 ∧ o ≠ 170) (k x : Int) : mTx b sz (zst g o k x) :=
  ⟨(zst_ne (Or.inl (Ne.symm ho.1))).trans t.1, (funext fun i => mbt_st g o k x i ⟨ho.2, Or.inl ho.1⟩).trans t.2⟩
theorem mAt.sc {b : Int → Int} {sz j : Int} {g : zH} (a : mAt b sz j g) {o : Int} (ho : o ≠ 169) (k x : Int) : mAt b sz j (zst g o k x) :=
  a.cg (fun _ _ => zst_ne (Or.inl (Ne.symm ho)))
/-- what a fault leaves -/
def mbh (g : zH) (k : Int) : zH := zst (zst g 169 53 k) 169 54 (g 169 50)
/-- the cells in which a law is read -/
def mScr (o k : Int) : Prop := (192 ≤ o ∧ o ≤ 195 ∧ k = 8) ∨ (196 ≤ o ∧ o ≤ 200 ∧ 160 ≤ k) ∨ (201 ≤ o ∧ o ≤ 203 ∧ 1040 ≤ k)
def mFy (S : List Int) (h g : zH) : Prop := (∀ o k : Int, o ≠ 169 → o ≠ 204 → ¬ mScr o k → g o k = h o k) ∧ (∀ k : Int, k ∉ S → g 169 k = h 169 k) ∧ ∀ k : Int, g 200 k = h 200 k ∨ 0 ≤ g 200 k ∧ g 200 k ≤ 1
theorem mFy.rf (S : List Int) (h : zH) : mFy S h h := ⟨fun _ _ _ _ _ => rfl, fun _ _ => rfl, fun _ => Or.inl rfl⟩
theorem mFy.tr {S : List Int} {h g f : zH} (a : mFy S h g) (c : mFy S g f) : mFy S h f := ⟨fun o k h1 h2 h3 => (c.1 o k h1 h2 h3).trans (a.1 o k h1 h2 h3), fun k hk => (c.2.1 k hk).trans (a.2.1 k hk), fun k => by
  rcases c.2.2 k with z | z
  · rw [z]; exact a.2.2 k
  · exact Or.inr z⟩
theorem mFy.st {S : List Int} {h g : zH} (a : mFy S h g) {k : Int} (hk : k ∈ S) (x : Int) : mFy S h (zst g 169 k x) := ⟨fun o i h1 h2 h3 => (zst_ne (Or.inl h1)).trans (a.1 o i h1 h2 h3), fun i hi => (zst_ne (Or.inr (fun z : i = k => hi (by rw [z]; exact hk)))).trans (a.2.1 i hi), fun i => by
  rw [zst_ne (Or.inl (by decide))]
  exact a.2.2 i⟩
theorem mFy.sc {S : List Int} {h g : zH} (a : mFy S h g) {q k : Int} (hq : mScr q k) (x : Int) (hx : q = 200 → 0 ≤ x ∧ x ≤ 1) : mFy S h (zst g q k x) := ⟨fun o i h1 h2 h3 => by
  rw [zst_ne (Classical.byContradiction fun z => h3 (by
    have e : o = q ∧ i = k := by omega
    rw [e.1, e.2]; exact hq))]
  exact a.1 o i h1 h2 h3, fun i hi => by
  rw [zst_ne (Or.inl (by unfold mScr at hq; omega))]
  exact a.2.1 i hi, fun i => by
  by_cases c : q = 200 ∧ i = k
  · rw [c.1, c.2, zst_self]
    exact Or.inr (hx c.1)
  · rw [zst_ne (by omega)]
    exact a.2.2 i⟩
theorem mFx.fy {S S' : List Int} {h g : zH} (a : mFx S h g) (hs : ∀ k ∈ S, k ∈ S') : mFy S' h g := ⟨fun o k h1 h2 h3 => a.1 o k h1 h2 (by unfold mScr at h3; omega), fun k hk => a.2 k (fun z => hk (hs k z)), fun k => Or.inl (a.1 200 k (by decide) (by decide) (Or.inr (by decide)))⟩
abbrev mLS : List Int := [4, 46, 47, 48, 49, 50, 51, 52, 56, 55]
abbrev mLE : List Int := [4, 46, 47, 48, 49, 50, 51, 52, 56, 55, 53, 54]
theorem mFy.mono {S S' : List Int} {h g : zH} (a : mFy S h g) (hs : ∀ k ∈ S, k ∈ S') : mFy S' h g := ⟨a.1, fun k hk => a.2.1 k (fun z => hk (hs k z)), a.2.2⟩
def mBe (h0 : zH) (b : Int → Int) (sz : Int) (e : Int × Int) (g : zH) : Prop := mFy mLE h0 g ∧ g 169 53 = e.1 ∧ g 169 54 = zTS b (min sz 300) e.2
theorem mBe.mk {h0 g : zH} {b : Int → Int} {sz j : Int} (fx : mFy mLS h0 g) (a : mAt b sz j g) (k : Int) : mBe h0 b sz (k, j) (mbh g k) := by
  unfold mbh
  refine ⟨((fx.mono (by decide)).st (by decide) _).st (by decide) _, ?_, ?_⟩
  · rw [zst_ne (Or.inr (by decide)), zst_self]
  · rw [zst_self]
    exact a.kd.2.2.2.2.2.1
/-- which LINES came already -/
def mOnc (w : Int) (l : List (Int × Int × Int × Int)) (K : Int) : Prop := (0 ≤ w ∧ w ≤ 63) ∧ ∀ k : Int, 0 ≤ k → k ≤ 5 → (zand (zshr w k) 1 = 1 ↔ (l.any (fun x => decide (x.1 = k)) = true ∨ k = K))
theorem mbit0 : ∀ w : Nat, w < 64 → ∀ k : Nat, k < 6 → (0 ≤ zor (w : Int) (zshl 1 (k : Int)) ∧ zor (w : Int) (zshl 1 (k : Int)) ≤ 63) ∧ ∀ i : Nat, i < 6 → (zand (zshr (zor (w : Int) (zshl 1 (k : Int))) (i : Int)) 1 = 1 ↔ (zand (zshr (w : Int) (i : Int)) 1 = 1 ∨ i = k)) := by decide +kernel
theorem mOnc.or {w K0 K : Int} {l : List (Int × Int × Int × Int)} (a : mOnc w l K0) (h0 : K0 < 0) (hK : 0 ≤ K ∧ K ≤ 5) : mOnc (zor w (zshl 1 K)) l K := by
  obtain ⟨⟨w0, w1⟩, a⟩ := a
  obtain ⟨w, rfl⟩ := Int.eq_ofNat_of_zero_le w0
  obtain ⟨k, rfl⟩ := Int.eq_ofNat_of_zero_le hK.1
  have z := mbit0 w (by omega) k (by omega)
  refine ⟨z.1, fun i i0 i1 => ?_⟩
  have ai := a i i0 i1
  obtain ⟨i, rfl⟩ := Int.eq_ofNat_of_zero_le i0
  rw [z.2 i (by omega), ai]
  constructor
  · rintro ((q | q) | q)
    · exact Or.inl q
    · omega
    · exact Or.inr (by omega)
  · rintro (q | q)
    · exact Or.inl (Or.inl q)
    · exact Or.inr (by omega)
theorem mOnc.ap {w K0 K : Int} {l : List (Int × Int × Int × Int)} {x : Int × Int × Int × Int} (a : mOnc w l K) (hx : x.1 = K) (h0 : K0 < 0) : mOnc w (l ++ [x]) K0 := by
  refine ⟨a.1, fun k k0 k1 => ?_⟩
  rw [a.2 k k0 k1, List.any_append]
  simp only [List.any_cons, List.any_nil, Bool.or_false, Bool.or_eq_true, decide_eq_true_eq, hx]
  constructor
  · rintro (q | q)
    · exact Or.inl (Or.inl q)
    · exact Or.inl (Or.inr q.symm)
  · rintro ((q | q) | q)
    · exact Or.inl q
    · exact Or.inr q.symm
    · omega
def mRow (g : zH) (i : Int) (x : Int × Int × Int × Int) : Prop := g 196 (160 + i) = x.1 ∧ (x.1 = 3 → g 197 (160 + i) = x.2.1) ∧ g 200 (160 + i) = (if x.1 = 4 ∧ x.2.1 = 0 then 1 else 0) ∧ g 198 (160 + i) = x.2.2.1 ∧ g 199 (160 + i) = x.2.2.2
theorem mRow.cg {g f : zH} {i : Int} {x : Int × Int × Int × Int} (a : mRow g i x) (e : ∀ o : Int, 196 ≤ o → o ≤ 200 → f o (160 + i) = g o (160 + i)) : mRow f i x := by
  unfold mRow
  rw [e 196 (by decide) (by decide), e 197 (by decide) (by decide), e 198 (by decide) (by decide), e 199 (by decide) (by decide), e 200 (by decide) (by decide)]
  exact a
def mLp (g : zH) (l : List (Int × Int × Int × Int)) : Prop := ∀ i : Nat, i < l.length → mRow g i (l.getD i (0, 0, 0, 0))
/-- a law's reading, between LINES -/
def mLs (h0 : zH) (b : Int → Int) (sz : Int) (V : zLV) (j o : Int) (g : zH) : Prop := mFy mLS h0 g ∧ mTx b sz g ∧ mAt b sz j g ∧ g 169 48 = o ∧ mSl g V.2.1 ∧ g 195 8 = V.1.length ∧ mLp g V.1 ∧ mOnc (g 169 55) V.1 (-1) ∧ g 192 8 = V.2.2.1 ∧ g 193 8 = V.2.2.2.1 ∧ g 194 8 = V.2.2.2.2
/-- in a LINE -/
def mMd (h0 : zH) (b : Int → Int) (sz : Int) (l : List (Int × Int × Int × Int)) (x : Int × Int × Int × Int) (T : List Int) (y ol ap j o : Int) (g : zH) : Prop := mFy mLS h0 g ∧ mTx b sz g ∧ mAt b sz j g ∧ g 169 48 = o ∧ mSl g T ∧ g 195 8 = l.length ∧ mLp g l ∧ mOnc (g 169 55) l x.1 ∧ g 192 8 = y ∧ g 193 8 = ol ∧ g 194 8 = ap ∧ mRow g l.length x
section
variable {h0 g f : zH} {b : Int → Int} {sz j o : Int} {l : List (Int × Int × Int × Int)} {x : Int × Int × Int × Int} {T : List Int} {y ol ap : Int}
theorem mMd.nx (a : mMd h0 b sz l x T y ol ap j o g) (hf : mLf g f) (t : mTx b sz f) (q : mAt b sz (j + 1) f) : mMd h0 b sz l x T y ol ap (j + 1) o f := by
  obtain ⟨a1, a2, a3, a4, a5, a6, a7, a8, a9, a10, a11, a12⟩ := a
  have e : ∀ p k : Int, p ≠ 169 → f p k = g p k := fun p k hp => hf.1 p k (fun z => hp (List.mem_singleton.mp z))
  exact ⟨a1.tr (hf.fx.fy (by decide)), t, q, (hf.2 48 (by decide)).trans a4, a5.cg (hf.2 46 (by decide)) (fun p k hp => e p k (by omega)), (e 195 8 (by decide)).trans a6, fun i hi => (a7 i hi).cg (fun p p0 p1 => e p _ (by omega)), by rw [hf.2 55 (by decide)]; exact a8, (e 192 8 (by decide)).trans a9, (e 193 8 (by decide)).trans a10, (e 194 8 (by decide)).trans a11, a12.cg (fun p p0 p1 => e p _ (by omega))⟩
theorem mMd.sc (a : mMd h0 b sz l x T y ol ap j o g) {p k v : Int} (hp : (p = 192 ∨ p = 193 ∨ p = 194) ∧ k = 8 ∨ (p = 197 ∨ p = 199 ∨ p = 200) ∧ k = 160 + (l.length : Int)) {x' : Int × Int × Int × Int} (hv : p = 200 → 0 ≤ v ∧ v ≤ 1) (hK : x'.1 = x.1) (hr : mRow (zst g p k v) l.length x') {y' ol' ap' : Int} (h1 : zst g p k v 192 8 = y') (h2 : zst g p k v 193 8 = ol') (h3 : zst g p k v 194 8 = ap') : mMd h0 b sz l x' T y' ol' ap' j o (zst g p k v) := by
  obtain ⟨a1, a2, a3, a4, a5, a6, a7, a8, a9, a10, a11, a12⟩ := a
  refine ⟨a1.sc (by unfold mScr; omega) v hv, a2.sc (by omega) k v, a3.sc (by omega) k v, (zst_ne (Or.inl (by omega))).trans a4, a5.cg (zst_ne (Or.inl (by omega))) (fun q i hq => zst_ne (Or.inl (by omega))), (zst_ne (Or.inl (by omega))).trans a6, fun i hi => (a7 i hi).cg (fun q q0 q1 => zst_ne (by omega)), ?_, h1, h2, h3, hr⟩
  rw [zst_ne (Or.inl (by omega)), hK]
  exact a8
end
section
variable {X : zX} {dep : Nat} {h0 : zH} {b : Int → Int} {sz n : Int}
theorem m_bad2 {g : zH} (k : Int) : zW mX11_bad X dep 0 0 239 0 (zar 0 [xR 169, xI k]) [] g (zQI (fun v f => v = 0 ∧ f = mbh g k)) := m_bad k
theorem f_X11_readNumber (a c : Int) {j : Int} {g : zH} (hz : 0 ≤ sz ∧ sz ≤ 340) (t : mTx b sz g) (q : mAt b sz j g) (hl : 0 ≤ g 195 8 ∧ g 195 8 < 20) (hdep : 2 ≤ dep) :
    zW mX11_readNumber X dep 0 0 239 0 (zar 0 [xR 169, xI a, xI c]) [] g (zQI (fun v f => (zTK b (min sz 300)) j = 2 ∧ (a ≤ (zTV b (min sz 300)) j ∧ (zTV b (min sz 300)) j ≤ c) ∧ v = 1 ∧ mLf (zst g 197 (160 + g 195 8) ((zTV b (min sz 300)) j)) f ∧ mTx b sz f ∧ mAt b sz (j + 1) f ∨ (zTK b (min sz 300)) j ≠ 2 ∧ v = 0 ∧ f = mbh g 1 ∨ (zTK b (min sz 300)) j = 2 ∧ ¬ (a ≤ (zTV b (min sz 300)) j ∧ (zTV b (min sz 300)) j ≤ c) ∧ v = 0 ∧ f = mbh g 2)) := by
  have k2 := q.kd.2.1
  have v2 := q.kd.2.2.2.1
  refine bX11_readNumber_0 a c (by omega) (fun c1 c2 => ?_) (fun c1 c2 => ?_) (fun c1 => ?_)
  · have e := k2.mp c1
    have ev := v2 e
    rw [ev] at c2
    refine bX11_readNumber_32 a c hl ?_
    rw [ev]
    have t1 : mTx b sz (zst g 197 (160 + g 195 8) ((zTV b (min sz 300)) j)) := t.sc (by decide) _ _
    have q1 : mAt b sz j (zst g 197 (160 + g 195 8) ((zTV b (min sz 300)) j)) := q.sc (by decide) _ _
    refine rX11_readNumber_53 (f_X11_nx hz t1 q1 (by rw [e]; decide) (by omega)) (by omega) (fun f hf => ?_)
    exact bX11_readNumber_56 ⟨rfl, _, rfl, Or.inl ⟨e, c2, rfl, hf⟩⟩
  · have e := k2.mp c1
    have ev := v2 e
    rw [ev] at c2
    refine bX11_readNumber_26 (rX11_readNumber_28 (m_bad2 2) (by omega) (fun v f hf => ?_))
    obtain ⟨rfl, rfl⟩ := hf
    exact bX11_readNumber_31 0 (Or.inl rfl) ⟨rfl, _, rfl, Or.inr (Or.inr ⟨e, c2, rfl, rfl⟩)⟩
  · refine bX11_readNumber_8 (rX11_readNumber_10 (m_bad2 1) (by omega) (fun v f hf => ?_))
    obtain ⟨rfl, rfl⟩ := hf
    exact bX11_readNumber_13 0 (Or.inl rfl) ⟨rfl, _, rfl, Or.inr (Or.inl ⟨fun z => c1 (k2.mpr z), rfl, rfl⟩)⟩
/-- behind readNumber -/
theorem mMd.rd {g f : zH} {l : List (Int × Int × Int × Int)} {x : Int × Int × Int × Int} {T : List Int} {y ol ap j o v : Int} (a : mMd h0 b sz l x T y ol ap j o g) (hf : mLf (zst g 197 (160 + g 195 8) v) f) (t : mTx b sz f) (q : mAt b sz (j + 1) f) {nm : Int} (h3 : x.1 = 3 → nm = v) (h4 : x.1 = 4 → nm = x.2.1) : mMd h0 b sz l (x.1, nm, x.2.2) T y ol ap (j + 1) o f ∧ f 197 (160 + (l.length : Int)) = v := by
  have a6 := a.2.2.2.2.2.1
  have a12 := a.2.2.2.2.2.2.2.2.2.2.2
  rw [a6] at hf
  have m : mMd h0 b sz l (x.1, nm, x.2.2) T y ol ap j o (zst g 197 (160 + (l.length : Int)) v) := by
    refine a.sc (x' := (x.1, nm, x.2.2)) (v := v) (Or.inr ⟨Or.inl rfl, rfl⟩) (fun z => absurd z (by decide)) rfl ⟨?_, fun z => ?_, ?_, ?_, ?_⟩ ?_ ?_ ?_
    · exact (zst_ne (Or.inl (by decide))).trans a12.1
    · rw [zst_self]; exact (h3 z).symm
    · rw [zst_ne (Or.inl (by decide)), a12.2.2.1]
      show _ = if x.1 = 4 ∧ nm = 0 then 1 else 0
      by_cases c : x.1 = 4
      · rw [h4 c]
      · rw [if_neg (fun z => c z.1), if_neg (fun z => c z.1)]
    · exact (zst_ne (Or.inl (by decide))).trans a12.2.2.2.1
    · exact (zst_ne (Or.inl (by decide))).trans a12.2.2.2.2
    · exact (zst_ne (Or.inl (by decide))).trans a.2.2.2.2.2.2.2.2.1
    · exact (zst_ne (Or.inl (by decide))).trans a.2.2.2.2.2.2.2.2.2.1
    · exact (zst_ne (Or.inl (by decide))).trans a.2.2.2.2.2.2.2.2.2.2.1
  refine ⟨m.nx hf t q, ?_⟩
  rw [hf.1 197 _ (by decide), zst_self]
/-- what a LINE's reading answers -/
def mO3 (h0 : zH) (b : Int → Int) (sz : Int) (l : List (Int × Int × Int × Int)) (r : zRl) (v : Int) (g : zH) : Prop := match r with
  | .inl e => v = 0 ∧ mBe h0 b sz e g
  | .inr q => v = 1 ∧ ∃ x : Int × Int × Int × Int, q.2.2.1 = l ++ [x] ∧ mMd h0 b sz l x q.2.2.2.1 q.2.2.2.2.1 q.2.2.2.2.2.1 q.2.2.2.2.2.2 q.1 q.2.1 g
theorem mO3.v {l : List (Int × Int × Int × Int)} {r : zRl} {v : Int} {g : zH} (a : mO3 h0 b sz l r v g) : v = 0 ∨ v = 1 := by
  cases r with
  | inl e => exact Or.inl a.1
  | inr q => exact Or.inr a.1
theorem f_X11_ages {j o y ol ap : Int} {l : List (Int × Int × Int × Int)} {x : Int × Int × Int × Int} {T : List Int} {g : zH} (hz : 0 ≤ sz ∧ sz ≤ 340) (hl : l.length < 20) (hx : x.1 = 0) (a : mMd h0 b sz l x T y ol ap j o g) (hdep : 3 ≤ dep) :
    zW mX11_ages X dep 0 0 239 0 (zar 0 [xR 169, xI (160 + (l.length : Int))]) [] g (zQI (mO3 h0 b sz l (match zHd (zTK b (min sz 300)) (zTW b (min sz 300)) (zTV b (min sz 300)) 0 y ol ap j with
      | .inl e => .inl e
      | .inr r => .inr (r.1, o, (l ++ [(x.1, r.2.1, x.2.2)], T, r.2.2)))))  := by
  have a6 := a.2.2.2.2.2.1
  unfold zHd
  rw [if_pos rfl]
  refine bX11_ages_0 _ (rX11_ages_4 _ (f_X11_readNumber 0 99 hz a.2.1 a.2.2.1 (by rw [a6]; omega) (by omega)) (by omega) (fun v f hf => ?_))
  rcases hf with ⟨e1, e2, rfl, e4, e5, e6⟩ | ⟨e1, rfl, rfl⟩ | ⟨e1, e2, rfl, rfl⟩
  · rw [if_neg (fun z => z e1), if_neg (by omega)]
    obtain ⟨m1, f1⟩ := a.rd e4 e5 e6 (nm := 0) (fun z => by omega) (fun z => by omega)
    refine bX11_ages_7 _ 1 (fun _ => ?_) (fun c => absurd c (by decide))
    have m2 : mMd h0 b sz l (x.1, 0, x.2.2) T ((zTV b (min sz 300)) j) ol ap (j + 1) o (zst f 192 8 ((zTV b (min sz 300)) j)) :=
      m1.sc (Or.inl ⟨Or.inl rfl, rfl⟩) (fun z => absurd z (by decide)) rfl (m1.2.2.2.2.2.2.2.2.2.2.2.cg (fun p p0 p1 => zst_ne (Or.inl (by omega)))) (zst_self _ _ _ _) ((zst_ne (Or.inl (by decide))).trans m1.2.2.2.2.2.2.2.2.2.1) ((zst_ne (Or.inl (by decide))).trans m1.2.2.2.2.2.2.2.2.2.2.1)
    have w1 : _ ↔ (zTW b (min sz 300)) (j + 1) = 1000001 := m2.2.2.1.wd 1 (by decide) (c := 29807) (by decide +kernel)
    have k1 := mTW_k1 (b := b) (x := min sz 300) (j := j + 1)
    have r49 : zst f 192 8 ((zTV b (min sz 300)) j) 169 49 = f 169 49 := zst_ne (Or.inl (by decide))
    have r56 : zst f 192 8 ((zTV b (min sz 300)) j) 169 56 = f 169 56 := zst_ne (Or.inl (by decide))
    rw [r49, r56] at w1
    refine bX11_ages_12 _ (by omega) (by omega) (fun c => ?_) (fun c => ?_)
    · have c' := w1.mp c
      rw [if_neg (fun z => z c'), f1]
      refine rX11_ages_42 _ (f_X11_nx hz m2.2.1 m2.2.2.1 (by rw [k1 (by omega)]; decide) (by omega)) (by omega) (fun f2 hf2 => bX11_ages_45 _ ?_)
      have m3 := m2.nx hf2.1 hf2.2.1 hf2.2.2
      rw [show j + 1 + 1 = j + 2 from Int.add_assoc j 1 1] at m3
      have y3 := m3.2.2.2.2.2.2.2.2.1
      have b6 := m3.2.2.2.2.2.1
      rw [y3]
      refine rX11_ages_55 _ _ (f_X11_readNumber ((zTV b (min sz 300)) j) 99 hz m3.2.1 m3.2.2.1 (by rw [b6]; omega) (by omega)) (by omega) (fun v f3 hf3 => ?_)
      rcases hf3 with ⟨d1, d2, rfl, d4, d5, d6⟩ | ⟨d1, rfl, rfl⟩ | ⟨d1, d2, rfl, rfl⟩
      · rw [if_neg (fun z => z d1), if_neg (by omega)]
        obtain ⟨m4, f4⟩ := m3.rd d4 d5 d6 (nm := 0) (fun z => absurd z (by show ¬ x.1 = 3; omega)) (fun z => absurd z (by show ¬ x.1 = 4; omega))
        refine bX11_ages_58 _ 1 (fun _ => ?_) (fun c => absurd c (by decide))
        refine bX11_ages_63 _ (by omega) ⟨rfl, _, rfl, rfl, (x.1, 0, x.2.2), rfl, ?_⟩
        rw [f4]
        rw [show j + 2 + 1 = j + 3 from Int.add_assoc j 2 1] at m4
        exact m4.sc (Or.inl ⟨Or.inr (Or.inl rfl), rfl⟩) (fun z => absurd z (by decide)) rfl (m4.2.2.2.2.2.2.2.2.2.2.2.cg (fun p p0 p1 => zst_ne (Or.inl (by omega)))) ((zst_ne (Or.inl (by decide))).trans m4.2.2.2.2.2.2.2.2.1) (zst_self _ _ _ _) ((zst_ne (Or.inl (by decide))).trans m4.2.2.2.2.2.2.2.2.2.2.1)
      · rw [if_pos d1]
        refine bX11_ages_58 _ 0 (fun c => absurd rfl c) (fun _ => ⟨rfl, _, rfl, rfl, mBe.mk m3.1 m3.2.2.1 1⟩)
      · rw [if_neg (fun z => z d1), if_pos (by omega)]
        refine bX11_ages_58 _ 0 (fun c => absurd rfl c) (fun _ => ⟨rfl, _, rfl, rfl, mBe.mk m3.1 m3.2.2.1 2⟩)
    · rw [if_pos (fun z => c (w1.mpr z)), f1]
      refine bX11_ages_35 (rX11_ages_37 (m_bad2 1) (by omega) (fun v f2 hf2 => ?_))
      obtain ⟨rfl, rfl⟩ := hf2
      exact bX11_ages_40 0 (Or.inl rfl) ⟨rfl, _, rfl, rfl, mBe.mk m2.1 m2.2.2.1 1⟩
  · rw [if_pos e1]
    exact bX11_ages_7 _ 0 (fun c => absurd rfl c) (fun _ => ⟨rfl, _, rfl, rfl, mBe.mk a.1 a.2.2.1 1⟩)
  · rw [if_neg (fun z => z e1), if_pos (by omega)]
    exact bX11_ages_7 _ 0 (fun c => absurd rfl c) (fun _ => ⟨rfl, _, rfl, rfl, mBe.mk a.1 a.2.2.1 2⟩)
/-- behind a LINE's head -/
def mLt (kd wd vl : Int → Int) (l : List (Int × Int × Int × Int)) (x : Int × Int × Int × Int) (T : List Int) (R : Int × Int × Int) (j o : Int) : zRl :=
  if wd j = 1000003 then (match zPx kd wd vl 300 2 0 (j + 1) o with
    | .inl e => .inl e
    | .inr q => .inr (q.1, q.2.1, (l ++ [(x.1, x.2.1, (T.length : Int), (T.length : Int) + q.2.2.length)], T ++ q.2.2, R)))
  else .inr (j, o, (l ++ [(x.1, x.2.1, (T.length : Int), (T.length : Int))], T, R))
theorem mMd.lf {l : List (Int × Int × Int × Int)} {x : Int × Int × Int × Int} {T S : List Int} {y ol ap j o j1 o1 : Int} {g f : zH} (a : mMd h0 b sz l x T y ol ap j o g) (c : mC g b sz [] (T ++ S) j1 o1 f) : mMd h0 b sz l x (T ++ S) y ol ap j1 o1 f := by
  obtain ⟨a1, a2, a3, a4, a5, a6, a7, a8, a9, a10, a11, a12⟩ := a
  obtain ⟨c1, c2, c3, c4, c5, c6, c7⟩ := c
  have e : ∀ p k : Int, 192 ≤ p → p ≤ 200 → f p k = g p k := fun p k p0 p1 => c1.1 p k (by omega) (by omega) (Or.inr (by omega))
  exact ⟨a1.tr (c1.fy (by decide)), c2, c3, c4, c7, (e 195 8 (by decide) (by decide)).trans a6, fun i hi => (a7 i hi).cg (fun p p0 p1 => e p _ (by omega) (by omega)), by rw [c1.2 55 (by decide)]; exact a8, (e 192 8 (by decide) (by decide)).trans a9, (e 193 8 (by decide) (by decide)).trans a10, (e 194 8 (by decide) (by decide)).trans a11, a12.cg (fun p p0 p1 => e p _ (by omega) (by omega))⟩
theorem l_X11_line_306 {j o y ol ap : Int} {l : List (Int × Int × Int × Int)} {x : Int × Int × Int × Int} {T : List Int} {g : zH} (hz : 0 ≤ sz ∧ sz ≤ 340) (hk : (zTK b (min sz 300)) n = 0) (hw : (zTW b (min sz 300)) n = -1) (hl : l.length < 20) (hx : x.2.2 = ((T.length : Int), (T.length : Int))) (a : mMd h0 b sz l x T y ol ap j o g) (hj : j ≤ n) (ho : 0 ≤ o ∧ o ≤ 60) (hT : (T.length : Int) ≤ 2 * o) (hdep : 5 ≤ dep) :
    zW mX11_line X dep 0 0 239 306 [(0, xR 169), (2, xI (160 + (l.length : Int)))] [] g (zQI (mO3 h0 b sz l (mLt (zTK b (min sz 300)) (zTW b (min sz 300)) (zTV b (min sz 300)) l x T (y, ol, ap) j o))) := by
  have w3 : _ ↔ (zTW b (min sz 300)) j = 1000003 := a.2.2.1.wd 3 (by decide) (c := 26982) (by decide +kernel)
  have k1 := mTW_k1 (b := b) (x := min sz 300) (j := j)
  have nk : ∀ z : Int, (zTK b (min sz 300)) z ≠ 0 → z ≤ n → z < n := fun z hx hx2 => by
    rcases Int.lt_or_eq_of_le hx2 with q | q
    · exact q
    · rw [q] at hx; exact absurd hk hx
  have t46 := a.2.2.2.2.1.1
  -- the end
  have fin : ∀ (j1 o1 : Int) (S : List Int) (f : zH), mMd h0 b sz l x (T ++ S) y ol ap j1 o1 f → zW mX11_line X dep 0 0 239 329 [(0, xR 169), (2, xI (160 + (l.length : Int)))] [] f (zQI (mO3 h0 b sz l (.inr (j1, o1, (l ++ [(x.1, x.2.1, (T.length : Int), (T.length : Int) + S.length)], T ++ S, (y, ol, ap)))))) := by
    intro j1 o1 S f m
    have s46 := m.2.2.2.2.1.1
    have a12 := m.2.2.2.2.2.2.2.2.2.2.2
    rw [List.length_append] at s46
    have e : f 169 46 = (T.length : Int) + S.length := by omega
    refine bX11_line_329 _ (by omega) ⟨rfl, _, rfl, rfl, (x.1, x.2.1, (T.length : Int), (T.length : Int) + S.length), rfl, ?_⟩
    rw [e]
    show mMd h0 b sz l (x.1, x.2.1, (T.length : Int), (T.length : Int) + S.length) (T ++ S) y ol ap j1 o1 _
    refine m.sc (x' := (x.1, x.2.1, (T.length : Int), (T.length : Int) + S.length)) (v := (T.length : Int) + S.length) (Or.inr ⟨Or.inr (Or.inl rfl), rfl⟩) (fun z => absurd z (by decide)) rfl ⟨?_, fun z => ?_, ?_, ?_, ?_⟩ ?_ ?_ ?_
    · exact (zst_ne (Or.inl (by decide))).trans a12.1
    · exact (zst_ne (Or.inl (by decide))).trans (a12.2.1 z)
    · exact (zst_ne (Or.inl (by decide))).trans a12.2.2.1
    · refine (zst_ne (Or.inl (by decide))).trans (a12.2.2.2.1.trans ?_)
      rw [hx]
    · exact zst_self _ _ _ _
    · exact (zst_ne (Or.inl (by decide))).trans m.2.2.2.2.2.2.2.2.1
    · exact (zst_ne (Or.inl (by decide))).trans m.2.2.2.2.2.2.2.2.2.1
    · exact (zst_ne (Or.inl (by decide))).trans m.2.2.2.2.2.2.2.2.2.2.1
  unfold mLt
  refine bX11_line_306 _ (by omega) (fun c => ?_) (fun c => ?_)
  · rw [if_neg (fun z => c (w3.mpr z))]
    have m := fin j o [] g (by rw [List.append_nil]; exact a)
    rw [List.append_nil, show ((T.length : Int) + (([] : List Int).length : Int)) = T.length from Int.add_zero _] at m
    exact m
  · have c' := w3.mp c
    have kj : (zTK b (min sz 300)) j ≠ 0 := by rw [k1 (by omega)]; decide
    have jn := nk j kj hj
    rw [if_pos c']
    refine bX11_line_316 _ (rX11_line_317 _ (f_X11_nx hz a.2.1 a.2.2.1 kj (by omega)) (by omega) (fun f1 hf1 => ?_))
    have m1 := a.nx hf1.1 hf1.2.1 hf1.2.2
    refine bX11_line_320 _ (rX11_line_321 _ (f_X11_cond (h0 := f1) hz hk hw (by omega) T (j + 1) o jn ho hT ⟨mFx.rf _ f1, m1.2.1, m1.2.2.1, m1.2.2.2.1, m1.2.2.2.2.1⟩) (by omega) (fun v f2 hf2 => ?_))
    cases hr : zPx (zTK b (min sz 300)) (zTW b (min sz 300)) (zTV b (min sz 300)) 300 2 0 (j + 1) o with
    | inl e =>
      rw [hr] at hf2
      obtain ⟨rfl, bd⟩ := hf2
      exact bX11_line_324 _ 0 (fun c => absurd rfl c) (fun _ => ⟨rfl, _, rfl, rfl, (m1.1.mono (by decide)).tr (bd.1.fy (by decide)), bd.2⟩)
    | inr q =>
      rw [hr] at hf2
      obtain ⟨rfl, cc⟩ := hf2
      refine bX11_line_324 _ 1 (fun _ => ?_) (fun c => absurd c (by decide))
      exact fin q.1 q.2.1 q.2.2 f2 (m1.lf cc)
end
