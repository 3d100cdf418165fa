/-! the model reads a law: its LINES, and what is kept -/
theorem mTS_in {b : Int → Int} {x j : Int} (hx : 0 ≤ x) : 0 ≤ zTS b x j ∧ zTS b x j ≤ x := by
  have p := mps_in b j.toNat
  unfold zTS
  by_cases c : zps b j.toNat < x
  · rw [if_pos c]; omega
  · rw [if_neg c]; omega
theorem mn_ex {b : Int → Int} {sz : Int} (hb : ∀ q : Int, sz ≤ q → b q = -1) (h0 : 0 ≤ sz ∧ sz ≤ 340) : ∃ n : Nat, zTK b (min sz 300) n = 0 ∧ zTW b (min sz 300) n = -1 := by
  have hb2 : ∀ q : Int, 340 ≤ q → b q = -1 := fun q hq => hb q (by omega)
  have key : ∀ j : Nat, (∃ n : Nat, min sz 300 ≤ zps b n) ∨ (j : Int) ≤ zps b j := by
    intro j
    induction j with
    | zero => exact Or.inr (mps_in b 0)
    | succ j ih =>
      rcases ih with z | z
      · exact Or.inl z
      · by_cases c : min sz 300 ≤ zps b j
        · exact Or.inl ⟨j, c⟩
        · have ni := znx_in hb2 (p := zps b j) (mps_in b j) (by omega)
          have k := zsk_in (b := b) 400 (znx b (zps b j))
          refine Or.inr ?_
          show ((j + 1 : Nat) : Int) ≤ zsk b 400 (znx b (zps b j))
          omega
  have ex : ∃ n : Nat, min sz 300 ≤ zps b n := by
    rcases key 301 with z | z
    · exact z
    · exact ⟨301, by omega⟩
  obtain ⟨n, hn⟩ := ex
  refine ⟨n, ?_, ?_⟩
  · unfold zTK
    rw [Int.toNat_natCast, if_neg (by omega)]
  · unfold zTW
    rw [Int.toNat_natCast, if_neg (by omega)]
/-- the cells of a law that is kept -/
def mKc (w o k : Int) : Prop := (190 ≤ o ∧ o ≤ 195 ∧ k = w) ∨ (196 ≤ o ∧ o ≤ 200 ∧ 20 * w ≤ k ∧ k < 20 * w + 20) ∨ (201 ≤ o ∧ o ≤ 203 ∧ 130 * w ≤ k ∧ k < 130 * w + 130)
def mRoW (g : zH) (c : Int) (x : Int × Int × Int × Int) : Prop := g 196 c = x.1 ∧ (x.1 = 3 → g 197 c = x.2.1) ∧ g 200 c = (if x.1 = 4 ∧ x.2.1 = 0 then 1 else 0) ∧ g 198 c = x.2.2.1 ∧ g 199 c = x.2.2.2
/-- law w stands in the model as V tells -/
def mLwr (f : zH) (w : Int) (V : zLV) : Prop := f 195 w = V.1.length ∧ f 192 w = V.2.2.1 ∧ f 193 w = V.2.2.2.1 ∧ f 194 w = V.2.2.2.2 ∧ (∀ i : Nat, i < V.1.length → mRoW f (20 * w + i) (V.1.getD i (0, 0, 0, 0))) ∧ ∀ k : Nat, k < V.2.1.length → mStq (f 201 (130 * w + k)) (f 202 (130 * w + k)) (f 203 (130 * w + k)) (V.2.1.getD k 0)
/-- keeping a law: f is what g becomes -/
def mKp (d : Int) (g f : zH) : Prop := (∀ o k : Int, o ≠ 169 → ¬ mKc (g 169 45) o k → f o k = g o k) ∧ (∀ k : Int, k ≠ 45 → f 169 k = g 169 k)
/-- the copying of rows, up to i -/
def mK1 (d : Int) (g f : zH) (i m : Int) : Prop := (∀ o k : Int, ¬ mKc (g 169 45) o k → f o k = g o k) ∧ f 190 (g 169 45) = d ∧ f 191 (g 169 45) = g 169 5 ∧ f 192 (g 169 45) = g 192 8 ∧ f 193 (g 169 45) = g 193 8 ∧ f 194 (g 169 45) = g 194 8 ∧ f 195 (g 169 45) = g 195 8 ∧ (∀ o k : Int, 196 ≤ o → o ≤ 200 → 0 ≤ k → k < i → f o (20 * g 169 45 + k) = g o (160 + k)) ∧ ∀ o k : Int, 201 ≤ o → o ≤ 203 → 0 ≤ k → k < m → f o (130 * g 169 45 + k) = g o (1040 + k)
section
variable {X : zX} {dep : Nat}
theorem l_X11_keep_185 (d : Int) {g : zH} (hw : 0 ≤ g 169 45 ∧ g 169 45 < 8) (hm : 0 ≤ g 169 46 ∧ g 169 46 ≤ 120) : ∀ (r m : Nat) (f : zH), (m : Int) + r = g 169 46 → mK1 d g f 20 m → zW mX11_keep X dep 0 0 239 185 [(0, xR 169), (2, xI m)] [] f (zQ0 (fun f => mK1 d g f 20 (g 169 46)))
  | r, m, f, hr, a => by
    have e45 : f 169 45 = g 169 45 := a.1 169 45 (by unfold mKc; omega)
    have e46 : f 169 46 = g 169 46 := a.1 169 46 (by unfold mKc; omega)
    have rd : ∀ o : Int, 201 ≤ o → o ≤ 203 → f o (1040 + m) = g o (1040 + m) := fun o o0 o1 => a.1 o _ (by unfold mKc; omega)
    cases r with
    | zero =>
      refine bX11_keep_185 m (by omega) (by omega) (by omega) (fun _ => ⟨rfl, rfl, ?_⟩) (fun c => absurd (by omega) c)
      rw [show g 169 46 = (m : Int) by omega]
      exact a
    | succ r =>
      refine bX11_keep_185 m (by omega) (by omega) (by omega) (fun c => absurd c (by omega)) (fun _ => ?_)
      rw [e45, rd 201 (by decide) (by decide), rd 202 (by decide) (by decide), rd 203 (by decide) (by decide)]
      refine l_X11_keep_185 d hw hm r (m + 1) _ (by omega) ?_
      obtain ⟨a1, a2, a3, a4, a5, a6, a7, a8, a9⟩ := a
      have eo : ∀ o k : Int, (o < 201 ∨ 203 < o ∨ k ≠ 130 * g 169 45 + m) → zst (zst (zst f 201 (130 * g 169 45 + m) (g 201 (1040 + m))) 202 (130 * g 169 45 + m) (g 202 (1040 + m))) 203 (130 * g 169 45 + m) (g 203 (1040 + m)) o k = f o k := fun o k hk => by
        rw [zst_ne (by omega), zst_ne (by omega), zst_ne (by omega)]
      refine ⟨fun o k hk => (eo o k (Classical.byContradiction fun z => hk (by unfold mKc; omega))).trans (a1 o k hk), (eo _ _ (by omega)).trans a2, (eo _ _ (by omega)).trans a3, (eo _ _ (by omega)).trans a4, (eo _ _ (by omega)).trans a5, (eo _ _ (by omega)).trans a6, (eo _ _ (by omega)).trans a7, fun o k o0 o1 k0 k1 => (eo _ _ (by omega)).trans (a8 o k o0 o1 k0 k1), fun o k o0 o1 k0 k1 => ?_⟩
      by_cases c : k = m
      · rw [c]
        rcases (show o = 201 ∨ o = 202 ∨ o = 203 by omega) with rfl | rfl | rfl
        · rw [zst_ne (Or.inl (by decide)), zst_ne (Or.inl (by decide)), zst_self]
        · rw [zst_ne (Or.inl (by decide)), zst_self]
        · rw [zst_self]
      · exact (eo _ _ (by omega)).trans (a9 o k o0 o1 k0 (by omega))
theorem l_X11_keep_89 (d : Int) {g : zH} (hw : 0 ≤ g 169 45 ∧ g 169 45 < 8) (hm : 0 ≤ g 169 46 ∧ g 169 46 ≤ 120) (hb : ∀ k : Int, 160 ≤ k → k < 180 → 0 ≤ g 200 k ∧ g 200 k ≤ 1) : ∀ (r i : Nat) (f : zH), i + r = 20 → mK1 d g f i 0 → zW mX11_keep X dep 0 0 239 89 [(0, xR 169), (2, xI i)] [] f (zQ0 (fun f => mK1 d g f 20 (g 169 46)))
  | r, i, f, hr, a => by
    have e45 : f 169 45 = g 169 45 := a.1 169 45 (by unfold mKc; omega)
    have rd : ∀ (o : Int) (k : Int), 196 ≤ o → o ≤ 200 → 160 ≤ k → f o k = g o k := fun o k o0 o1 k0 => a.1 o _ (by unfold mKc; omega)
    cases r with
    | zero =>
      have i20 : i = 20 := by omega
      subst i20
      refine bX11_keep_89 _ (by omega) (by omega) (Or.inl (by omega)) (fun _ => ?_) (fun c => absurd (by omega) c)
      exact l_X11_keep_185 d hw hm (g 169 46).toNat 0 f (by omega) a
    | succ r =>
      have hbi := hb (160 + i) (by omega) (by omega)
      refine bX11_keep_89 i (by omega) (by omega) (Or.inr (by rw [rd 200 _ (by decide) (by decide) (by omega)]; exact hbi)) (fun c => absurd c (by omega)) (fun _ => ?_)
      rw [e45, rd 196 _ (by decide) (by decide) (by omega), rd 197 _ (by decide) (by decide) (by omega), rd 198 _ (by decide) (by decide) (by omega), rd 199 _ (by decide) (by decide) (by omega), rd 200 _ (by decide) (by decide) (by omega)]
      refine l_X11_keep_89 d hw hm hb r (i + 1) _ (by omega) ?_
      obtain ⟨a1, a2, a3, a4, a5, a6, a7, a8, a9⟩ := a
      have eo : ∀ o k : Int, (o < 196 ∨ 200 < o ∨ k ≠ 20 * g 169 45 + i) → zst (zst (zst (zst (zst f 196 (20 * g 169 45 + i) (g 196 (160 + i))) 197 (20 * g 169 45 + i) (g 197 (160 + i))) 200 (20 * g 169 45 + i) (g 200 (160 + i))) 198 (20 * g 169 45 + i) (g 198 (160 + i))) 199 (20 * g 169 45 + i) (g 199 (160 + i)) o k = f o k := fun o k hk => by
        rw [zst_ne (by omega), zst_ne (by omega), zst_ne (by omega), zst_ne (by omega), zst_ne (by omega)]
      refine ⟨fun o k hk => (eo o k (Classical.byContradiction fun z => hk (by unfold mKc; omega))).trans (a1 o k hk), (eo _ _ (by omega)).trans a2, (eo _ _ (by omega)).trans a3, (eo _ _ (by omega)).trans a4, (eo _ _ (by omega)).trans a5, (eo _ _ (by omega)).trans a6, (eo _ _ (by omega)).trans a7, fun o k o0 o1 k0 k1 => ?_, fun o k o0 o1 k0 k1 => (eo _ _ (by omega)).trans (a9 o k o0 o1 k0 k1)⟩
      by_cases c : k = i
      · rw [c]
        rcases (show o = 196 ∨ o = 197 ∨ o = 198 ∨ o = 199 ∨ o = 200 by omega) with rfl | rfl | rfl | rfl | rfl
        · rw [zst_ne (Or.inl (by decide)), zst_ne (Or.inl (by decide)), zst_ne (Or.inl (by decide)), zst_ne (Or.inl (by decide)), zst_self]
        · rw [zst_ne (Or.inl (by decide)), zst_ne (Or.inl (by decide)), zst_ne (Or.inl (by decide)), zst_self]
        · rw [zst_ne (Or.inl (by decide)), zst_self]
        · rw [zst_self]
        · rw [zst_ne (Or.inl (by decide)), zst_ne (Or.inl (by decide)), zst_self]
      · exact (eo _ _ (by omega)).trans (a8 o k o0 o1 k0 (by omega))
theorem f_X11_keep (d : Int) {g : zH} (hw : 0 ≤ g 169 45 ∧ g 169 45 < 8) (hm : 0 ≤ g 169 46 ∧ g 169 46 ≤ 120) (hb : ∀ k : Int, 160 ≤ k → k < 180 → 0 ≤ g 200 k ∧ g 200 k ≤ 1) : zW mX11_keep X dep 0 0 239 0 (zar 0 [xR 169, xI d]) [] g (zQ0 (fun f => mK1 d g f 20 (g 169 46))) := by
  refine bX11_keep_0 d hw ?_
  refine l_X11_keep_89 d hw hm hb 20 0 _ rfl ?_
  have eo : ∀ o k : Int, (o < 190 ∨ 195 < o ∨ k ≠ g 169 45) → zst (zst (zst (zst (zst (zst g 190 (g 169 45) d) 191 (g 169 45) (g 169 5)) 192 (g 169 45) (g 192 8)) 193 (g 169 45) (g 193 8)) 194 (g 169 45) (g 194 8)) 195 (g 169 45) (g 195 8) o k = g o k := fun o k hk => by
    rw [zst_ne (by omega), zst_ne (by omega), zst_ne (by omega), zst_ne (by omega), zst_ne (by omega), zst_ne (by omega)]
  refine ⟨fun o k hk => eo o k (Classical.byContradiction fun z => hk (by unfold mKc; omega)), ?_, ?_, ?_, ?_, ?_, zst_self _ _ _ _, fun o k o0 o1 k0 k1 => absurd k1 (by omega), fun o k o0 o1 k0 k1 => absurd k1 (by omega)⟩
  · rw [zst_ne (Or.inl (by decide)), zst_ne (Or.inl (by decide)), zst_ne (Or.inl (by decide)), zst_ne (Or.inl (by decide)), zst_ne (Or.inl (by decide)), zst_self]
  · rw [zst_ne (Or.inl (by decide)), zst_ne (Or.inl (by decide)), zst_ne (Or.inl (by decide)), zst_ne (Or.inl (by decide)), zst_self]
  · rw [zst_ne (Or.inl (by decide)), zst_ne (Or.inl (by decide)), zst_ne (Or.inl (by decide)), zst_self]
  · rw [zst_ne (Or.inl (by decide)), zst_ne (Or.inl (by decide)), zst_self]
  · rw [zst_ne (Or.inl (by decide)), zst_self]
end
section
variable {X : zX} {dep : Nat} {h0 : zH} {b : Int → Int} {sz n : Int}
/-- what law() leaves: a fault, or a law that is kept -/
def mO5 (h0 : zH) (b : Int → Int) (sz d : Int) (r : (Int × Int) ⊕ zLV) (v : Int) (f : zH) : Prop := match r with
  | .inl e => v = -1 - zTS b (min sz 300) e.2 ∧ mFy mLE h0 f ∧ f 169 53 = e.1
  | .inr V => v = V.1.length ∧ (∀ o k : Int, o ≠ 169 → o ≠ 204 → ¬ mScr o k → ¬ mKc (h0 169 45) o k → f o k = h0 o k) ∧ (∀ k : Int, k ∉ 45 :: mLS → f 169 k = h0 169 k) ∧ (∀ k : Int, 160 ≤ k → k < 180 → 0 ≤ f 200 k ∧ f 200 k ≤ 1) ∧ f 169 45 = h0 169 45 + 1 ∧ f 190 (h0 169 45) = d ∧ f 191 (h0 169 45) = h0 169 5 ∧ mLwr f (h0 169 45) V
theorem mFy.bl {S : List Int} {h g : zH} (a : mFy S h g) (hb : ∀ k : Int, 160 ≤ k → k < 180 → 0 ≤ h 200 k ∧ h 200 k ≤ 1) : ∀ k : Int, 160 ≤ k → k < 180 → 0 ≤ g 200 k ∧ g 200 k ≤ 1 := fun k k0 k1 => by
  rcases a.2.2 k with z | z
  · rw [z]; exact hb k k0 k1
  · exact z
theorem l_X11_law_139 (d : Int) {V : zLV} {j o : Int} {g : zH} (hw : 0 ≤ h0 169 45 ∧ h0 169 45 < 8) (hb : ∀ k : Int, 160 ≤ k → k < 180 → 0 ≤ h0 200 k ∧ h0 200 k ≤ 1) (a : mLs h0 b sz V j o g) (hl : V.1.length ≤ 20) (hT : V.2.1.length ≤ 120) (hdep : 1 ≤ dep) : zW mX11_law X dep 0 0 239 139 [(0, xR 169), (1, xI d)] [] g (zQI (mO5 h0 b sz d (.inr V))) := by
  obtain ⟨a1, a2, a3, a4, a5, a6, a7, a8, a9, a10, a11⟩ := a
  have e45 : g 169 45 = h0 169 45 := a1.2.1 45 (by decide)
  have e5 : g 169 5 = h0 169 5 := a1.2.1 5 (by decide)
  have g46 := a5.1
  refine bX11_law_139 d (rX11_law_141 d (f_X11_keep d (by rw [e45]; exact hw) (by omega) (a1.bl hb)) hdep (fun f hf => ?_))
  obtain ⟨c1, c2, c3, c4, c5, c6, c7, c8, c9⟩ := hf
  rw [e45] at c1 c2 c3 c4 c5 c6 c7 c8 c9
  have f45 : f 169 45 = h0 169 45 := (c1 169 45 (by unfold mKc; omega)).trans e45
  refine bX11_law_144 d (by rw [f45]; omega) ⟨rfl, _, rfl, ?_, fun o k h1 h2 h3 h4 => ?_, fun k hk => ?_, fun k k0 k1 => ?_, ?_, ?_, ?_, ?_, ?_, ?_, ?_, fun i hi => ?_, fun k hk => ?_⟩
  · rw [c1 195 8 (by unfold mKc; omega)]; exact a6
  · rw [zst_ne (Or.inl h1), c1 o k h4]
    exact a1.1 o k h1 h2 h3
  · rw [zst_ne (Or.inr (fun z => hk (by rw [z]; exact List.mem_cons_self))), c1 169 k (by unfold mKc; omega)]
    exact a1.2.1 k (fun z => hk (List.mem_cons_of_mem _ z))
  · rw [zst_ne (Or.inl (by decide)), c1 200 k (by unfold mKc; omega)]
    exact a1.bl hb k k0 k1
  · rw [zst_self, f45]
  · exact (zst_ne (Or.inl (by decide))).trans c2
  · exact (zst_ne (Or.inl (by decide))).trans (c3.trans e5)
  · exact (zst_ne (Or.inl (by decide))).trans (c7.trans a6)
  · exact (zst_ne (Or.inl (by decide))).trans (c4.trans a9)
  · exact (zst_ne (Or.inl (by decide))).trans (c5.trans a10)
  · exact (zst_ne (Or.inl (by decide))).trans (c6.trans a11)
  · have r := a7 i hi
    have e : ∀ o : Int, 196 ≤ o → o ≤ 200 → zst f 169 45 (f 169 45 + 1) o (20 * h0 169 45 + i) = g o (160 + i) := fun o o0 o1 => (zst_ne (Or.inl (by omega))).trans (c8 o i o0 o1 (by omega) (by omega))
    unfold mRoW
    rw [e 196 (by decide) (by decide), e 197 (by decide) (by decide), e 198 (by decide) (by decide), e 199 (by decide) (by decide), e 200 (by decide) (by decide)]
    exact r
  · have r := a5.2 k hk
    have e : ∀ o : Int, 201 ≤ o → o ≤ 203 → zst f 169 45 (f 169 45 + 1) o (130 * h0 169 45 + k) = g o (1040 + k) := fun o o0 o1 => (zst_ne (Or.inl (by omega))).trans (c9 o k o0 o1 (by omega) (by omega))
    rw [e 201 (by decide) (by decide), e 202 (by decide) (by decide), e 203 (by decide) (by decide)]
    exact r
theorem mMd.en {l : List (Int × Int × Int × Int)} {x : Int × Int × Int × Int} {T : List Int} {y ol ap j o : Int} {g : zH} (m : mMd h0 b sz l x T y ol ap j o g) : mLs h0 b sz (l ++ [x], T, y, ol, ap) j o (zst g 195 8 (g 195 8 + 1)) := by
  obtain ⟨a1, a2, a3, a4, a5, a6, a7, a8, a9, a10, a11, a12⟩ := m
  have e : ∀ p i : Int, 196 ≤ p → p ≤ 200 → zst g 195 8 (g 195 8 + 1) p (160 + i) = g p (160 + i) := fun p i p0 p1 => zst_ne (Or.inl (by omega))
  refine ⟨a1.sc (Or.inl ⟨by decide, by decide, rfl⟩) _ (fun z => absurd z (by decide)), a2.sc (by decide) _ _, a3.sc (by decide) _ _, (zst_ne (Or.inl (by decide))).trans a4, a5.cg (zst_ne (Or.inl (by decide))) (fun p k hp => zst_ne (Or.inl (by omega))), ?_, fun i hi => ?_, ?_, (zst_ne (Or.inl (by decide))).trans a9, (zst_ne (Or.inl (by decide))).trans a10, (zst_ne (Or.inl (by decide))).trans a11⟩
  · rw [zst_self, a6]
    show (l.length : Int) + 1 = ((l ++ [x]).length : Int)
    rw [List.length_append, List.length_singleton]
    omega
  · have hi' : i < (l ++ [x]).length := hi
    rw [List.length_append, List.length_singleton] at hi'
    show mRow _ i ((l ++ [x]).getD i (0, 0, 0, 0))
    by_cases c : i = l.length
    · rw [c, List.getD_eq_getElem?_getD, List.getElem?_append_right (Nat.le_refl _), Nat.sub_self]
      exact a12.cg (fun p p0 p1 => e p _ p0 p1)
    · rw [List.getD_eq_getElem?_getD, List.getElem?_append_left (by omega), ← List.getD_eq_getElem?_getD]
      exact (a7 i (by omega)).cg (fun p p0 p1 => e p _ p0 p1)
  · rw [zst_ne (Or.inl (by decide))]
    exact a8.ap rfl (by decide)
theorem l_X11_law_95 (d : Int) (hz : 0 ≤ sz ∧ sz ≤ 340) (hk : (zTK b (min sz 300)) n = 0) (hwn : (zTW b (min sz 300)) n = -1) (hw : 0 ≤ h0 169 45 ∧ h0 169 45 < 8) (hb : ∀ k : Int, 160 ≤ k → k < 180 → 0 ≤ h0 200 k ∧ h0 200 k ≤ 1) (hdep : 7 ≤ dep) : ∀ (f : Nat) (V : zLV) (j o : Int) (g : zH), f + V.1.length = 21 → V.1.length ≤ 20 → mLs h0 b sz V j o g → j ≤ n → 0 ≤ o ∧ o ≤ 60 → (V.2.1.length : Int) ≤ 2 * o → zVok V →
    zW mX11_law X dep 0 0 239 95 [(0, xR 169), (1, xI d)] [] g (zQI (mO5 h0 b sz d (zLl (zTK b (min sz 300)) (zTW b (min sz 300)) (zTV b (min sz 300)) (if sz ≤ 300 then 0 else 1) f V j o)))
  | 0, V, j, o, g, hf, hl, a, hj, ho, hT, hv => by exfalso; omega
  | f + 1, V, j, o, g, hf, hl, a, hj, ho, hT, hv => by
    have k0 := a.2.2.1.kd.2.2.1
    have tin : ∀ q : Int, 0 ≤ zTS b (min sz 300) q ∧ zTS b (min sz 300) q ≤ 300 := fun q => by
      have := mTS_in (b := b) (x := min sz 300) (j := q) (by omega)
      omega
    have out : ∀ (e : Int × Int) (f1 : zH), mBe h0 b sz e f1 → zW mX11_law X dep 0 0 239 118 [(0, xR 169)] [] f1 (zQI (mO5 h0 b sz d (.inl e))) := fun e f1 c => by
      have t := tin e.2
      refine bX11_law_118 (by rw [c.2.2]; omega) ⟨rfl, _, rfl, ?_, c.1, c.2.1⟩
      rw [c.2.2]
    rw [zLl_s]
    refine bX11_law_95 d (fun c => ?_) (fun c => ?_)
    · have c' := k0.mp c
      rw [if_pos c'.1, if_pos (if_pos c'.2)]
      exact l_X11_law_139 d hw hb a hl (by omega) (by omega)
    · refine rX11_law_103 d (f_X11_line hz hk hwn a hj ho hT hl (by omega)) (by omega) (fun v f1 hf1 => ?_)
      have e2 := zLn_mLr (b := b) (x := min sz 300) (j := j) (o := o) (V := V)
      have zin := zLn_in (vl := (zTV b (min sz 300))) hk hwn V j o hj ho.2 hT hv
      have z20 := fun h => zLn_20 (kd := (zTK b (min sz 300))) (wd := (zTW b (min sz 300))) (vl := (zTV b (min sz 300))) (V := V) (j := j) (o := o) h
      cases hr : mLr (zTK b (min sz 300)) (zTW b (min sz 300)) (zTV b (min sz 300)) (mkl ((zTW b (min sz 300)) j)) V j o with
      | inl e =>
        rw [hr] at hf1 e2
        obtain ⟨rfl, be⟩ := hf1
        refine bX11_law_106 d 0 (fun _ => ?_) (fun c => absurd rfl c)
        by_cases kj : (zTK b (min sz 300)) j = 0
        · have s3 : ¬ sz ≤ 300 := fun z => c (k0.mpr ⟨kj, z⟩)
          have wj : (zTW b (min sz 300)) j = -1 := Classical.byContradiction fun z => by
            have := mTW_k1 z
            omega
          have ee : e = (1, j) := by
            rw [wj] at hr
            exact (Sum.inl.inj ((if_pos (by decide : mkl (-1) = -1)).symm.trans hr)).symm
          rw [if_pos kj, if_neg (by rw [if_neg s3]; decide), ← ee]
          exact out e f1 be
        · rw [if_neg kj, e2]
          exact out e f1 be
      | inr q =>
        rw [hr] at hf1 e2
        obtain ⟨rfl, x, ex, m⟩ := hf1
        have kj : (zTK b (min sz 300)) j ≠ 0 := fun kj => by
          have wj : (zTW b (min sz 300)) j = -1 := Classical.byContradiction fun z => by
            have := mTW_k1 z
            omega
          rw [wj] at hr
          cases ((if_pos (by decide : mkl (-1) = -1)).symm.trans hr : (Sum.inl (1, j) : zRl) = Sum.inr q)
        rw [if_neg kj]
        refine bX11_law_106 d 1 (fun c => absurd c (by decide)) (fun _ => ?_)
        refine rX11_law_112 d (f_X11_sign 59 (by decide) hz m.2.1 m.2.2.1 (by omega)) (by omega) (fun v f2 hf2 => ?_)
        have e3 : zLn (zTK b (min sz 300)) (zTW b (min sz 300)) (zTV b (min sz 300)) V j o = zEn (zTK b (min sz 300)) q.1 q.2.1 q.2.2 := e2
        rcases hf2 with ⟨s1, rfl, s2, s3, s4⟩ | ⟨s1, rfl, rfl⟩
        · have e4 : zEn (zTK b (min sz 300)) q.1 q.2.1 q.2.2 = .inr (q.1 + 1, q.2.1, q.2.2) := if_pos s1
          rw [e3, e4] at zin z20
          rw [e3, e4]
          have bb : j < q.1 + 1 ∧ q.1 + 1 ≤ n ∧ o ≤ q.2.1 ∧ q.2.1 ≤ 60 ∧ q.2.2.1.length = V.1.length + 1 ∧ (q.2.2.2.1.length : Int) ≤ 2 * q.2.1 ∧ zVok q.2.2 := zin
          have l20 : V.1.length < 20 := Nat.lt_of_not_le fun z => by
            obtain ⟨e, he⟩ := z20 z
            cases he
          refine bX11_law_115 d 1 (fun _ => ?_) (fun c => absurd c (by decide))
          have m2 := (m.nx s2 s3 s4).en
          have b6 := (m.nx s2 s3 s4).2.2.2.2.2.1
          refine bX11_law_125 d (by omega) ?_
          have ev : q.2.2 = (V.1 ++ [x], q.2.2.2.1, q.2.2.2.2.1, q.2.2.2.2.2.1, q.2.2.2.2.2.2) := by rw [← ex]
          rw [← ev] at m2
          exact l_X11_law_95 d hz hk hwn hw hb hdep f q.2.2 (q.1 + 1) q.2.1 _ (by omega) (by omega) m2 bb.2.1 ⟨by omega, bb.2.2.2.1⟩ bb.2.2.2.2.2.1 bb.2.2.2.2.2.2
        · have e4 : zEn (zTK b (min sz 300)) q.1 q.2.1 q.2.2 = .inl (1, q.1) := if_neg s1
          rw [e3, e4]
          refine bX11_law_115 d 0 (fun c => absurd rfl c) (fun _ => ?_)
          exact out (1, q.1) _ (mBe.mk m.1 m.2.2.1 1)
end
