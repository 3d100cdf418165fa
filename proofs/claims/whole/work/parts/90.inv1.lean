/-! the class's state and the model's are the same -/
def vTp (h : zH) : Prop := (0 ≤ h 1 1 ∧ h 1 1 ≤ 340) ∧ h 169 2 = h 1 1 ∧ ∀ i : Int, 0 ≤ i → i < h 1 1 → h 170 i = h 2 i ∧ -128 ≤ h 2 i ∧ h 2 i ≤ 127
def vNm (h : zH) : Prop := (h 169 5 = h 0 10 ∧ 0 ≤ h 0 10 ∧ h 0 10 ≤ 3639) ∧ h 169 53 = h 0 13 ∧ h 169 87 = h 0 14 ∧ (h 169 90 = h 0 15 ∧ 0 ≤ h 0 15 ∧ h 0 15 ≤ 60) ∧ h 169 91 = h 0 16 ∧ 0 ≤ h 0 16 ∧ h 0 16 ≤ h 0 15
def vMe (h : zH) : Prop := (0 ≤ h 3 0 ∧ h 3 0 ≤ 60) ∧ h 169 25 = h 3 0 ∧ ∀ m : Int, 0 ≤ m → m < h 3 0 → (h 172 m = h 4 m ∧ h 173 m = h 5 m ∧ h 171 m = h 6 m) ∧ (0 ≤ h 5 m ∧ h 5 m < 60) ∧ (0 ≤ h 4 m ∧ h 4 m < 8) ∧ 0 ≤ h 6 m ∧ h 6 m < 26
/-- a ledger against the model's rows -/
def vLg (h : zH) (o most n : Int) (ar : List (Int × Int)) : Prop := (0 ≤ h o 2 ∧ h o 2 ≤ most) ∧ h o 1 = most ∧ h 169 n = h o 2 ∧ (∀ r : Int, 0 ≤ r → r < h o 2 → ∀ p ∈ ar, h p.2 r = h (o + 1) (r * 6 + p.1)) ∧ (∀ r s : Int, 0 ≤ r → r ≤ s → s < h o 2 → h (o + 1) (r * 6) ≤ h (o + 1) (s * 6)) ∧ ∀ r : Int, 0 ≤ r → r < h o 2 → 0 ≤ h (o + 1) (r * 6) ∧ h (o + 1) (r * 6) ≤ h 0 10
abbrev vA7 : List (Int × Int) := [(0, 176), (1, 174), (2, 175)]
abbrev vA9 : List (Int × Int) := [(0, 182), (1, 177), (2, 178), (3, 179), (4, 180), (5, 181)]
abbrev vA11 : List (Int × Int) := [(0, 186), (1, 183), (2, 184), (3, 185)]
abbrev vA13 : List (Int × Int) := [(0, 189), (1, 187), (2, 188)]
abbrev vA15 : List (Int × Int) := [(0, 227), (1, 224), (2, 225), (3, 226)]
def vBi (h : zH) : Prop := vLg h 7 100 26 vA7 ∧ ∀ r : Int, 0 ≤ r → r < h 7 2 → (0 ≤ h 8 (r * 6 + 1) ∧ h 8 (r * 6 + 1) < h 3 0) ∧ -3120 ≤ h 8 (r * 6 + 2) ∧ h 8 (r * 6 + 2) < 520
def vFa (h : zH) : Prop := vLg h 9 240 27 vA9 ∧ ∀ r : Int, 0 ≤ r → r < h 9 2 → (0 ≤ h 10 (r * 6 + 1) ∧ h 10 (r * 6 + 1) < h 3 0) ∧ 0 ≤ h 10 (r * 6 + 2) ∧ h 10 (r * 6 + 2) < 6
def vEx (h : zH) : Prop := vLg h 11 60 28 vA11 ∧ ∀ r : Int, 0 ≤ r → r < h 11 2 → 0 ≤ h 12 (r * 6 + 1) ∧ h 12 (r * 6 + 1) < h 3 0
def vSa (h : zH) : Prop := vLg h 13 40 29 vA13 ∧ ∀ r : Int, 0 ≤ r → r < h 13 2 → (0 ≤ h 14 (r * 6 + 1) ∧ h 14 (r * 6 + 1) < h 3 0) ∧ 0 ≤ h 14 (r * 6 + 2) ∧ h 14 (r * 6 + 2) < h 3 0
def vSe (h : zH) : Prop := vLg h 15 60 85 vA15 ∧ ∀ r : Int, 0 ≤ r → r < h 15 2 → ((0 ≤ h 16 (r * 6 + 2) ∧ h 16 (r * 6 + 2) < h 3 0) ∧ 0 ≤ h 16 (r * 6 + 3) ∧ h 16 (r * 6 + 3) < h 3 0) ∧ ∀ j : Int, 0 ≤ j → j ≤ r → h 16 (j * 6 + 1) = h 16 (r * 6 + 1) → h 16 (j * 6 + 2) ≠ h 16 (r * 6 + 3) ∧ (j < r → h 16 (j * 6 + 2) ≠ h 16 (r * 6 + 2))
/-- law i of the class and of the model -/
def vLw1 (h : zH) (i : Int) : Prop := (∃ V : zLV, zLi h (65 + 6 * i) V ∧ mLwr h i V ∧ V.1.length ≤ 20 ∧ V.2.1.length ≤ 120 ∧ zVok V ∧ zVrp V) ∧ mLOK h i ∧ h 191 i = h (65 + 6 * i) 0 ∧ h 190 i = h (65 + 6 * i) 1
def vLw (h : zH) : Prop := (0 ≤ h 0 11 ∧ h 0 11 ≤ 8) ∧ h 169 45 = h 0 11 ∧ (∀ i : Int, 0 ≤ i → i < h 0 11 → vLw1 h i ∧ (0 ≤ h (65 + 6 * i) 0 ∧ h (65 + 6 * i) 0 ≤ h 0 10) ∧ 0 ≤ h (65 + 6 * i) 1 ∧ h (65 + 6 * i) 1 ≤ 3639) ∧ zLi h 36 ([], [], 20, 25, 30) ∧ h 36 0 = 0 ∧ h 36 1 = -1
def vLt1 (h : zH) (l : Int) : Prop := (h 205 l = h (114 + 14 * l) 0 ∧ 0 ≤ h 205 l ∧ h 205 l ≤ 3639) ∧ (h 206 l = h (114 + 14 * l) 1 ∧ 0 ≤ h 206 l ∧ h 206 l ≤ 60) ∧ h 210 l = h (114 + 14 * l) 2 ∧ h 211 l = h (114 + 14 * l) 3 ∧ (∀ k : Int, 0 ≤ k → k < 52 → (h 208 (52 * l + k) = h (115 + 14 * l) k ∧ 0 ≤ h (115 + 14 * l) k ∧ h (115 + 14 * l) k < 52) ∧ (0 ≤ h 207 (52 * l + k) ∧ h 207 (52 * l + k) < 52) ∧ h 208 (52 * l + h 207 (52 * l + k)) = k) ∧ ∀ k : Int, 0 ≤ k → k < 26 → h 209 (26 * l + k) = h (116 + 14 * l) k ∧ 0 ≤ h (116 + 14 * l) k ∧ h (116 + 14 * l) k < 26
/-- a lot that is not told yet -/
def vLt0 (h : zH) (l : Int) : Prop := (0 ≤ h (114 + 14 * l) 0 ∧ h (114 + 14 * l) 0 ≤ 3639) ∧ (0 ≤ h (114 + 14 * l) 1) ∧ (0 ≤ h 205 l ∧ h 205 l ≤ 3639) ∧ (0 ≤ h 206 l ∧ h 206 l ≤ 60) ∧ (h 210 l = 0 ∧ h (114 + 14 * l) 2 = 0) ∧ (h 211 l = 0 ∧ h (114 + 14 * l) 3 = 0) ∧ (∀ k : Int, 0 ≤ k → k < 52 → h (115 + 14 * l) k = k ∧ h 208 (52 * l + k) = 0) ∧ ∀ k : Int, 0 ≤ k → k < 26 → h (116 + 14 * l) k = k ∧ h 209 (26 * l + k) = 0
def vLt (h : zH) : Prop := (0 ≤ h 0 12 ∧ h 0 12 ≤ 4) ∧ h 169 65 = h 0 12 ∧ (∀ l : Int, 0 ≤ l → l < h 0 12 → vLt1 h l) ∧ (∀ l : Int, h 0 12 ≤ l → l < 4 → vLt0 h l) ∧ (∀ l k : Int, 0 ≤ l → l ≤ k → k < h 0 12 → h 205 l ≤ h 205 k) ∧ ∀ l q : Int, 0 ≤ l → l < 4 → 0 ≤ q → q < 60 → (-1 ≤ h (125 + 14 * l) q ∧ h (125 + 14 * l) q < 60) ∧ h (113 + 14 * l) 0 = l
def vFl (h : zH) : Prop := h 169 96 = h 44 2 ∧ ∀ q w : Int, 0 ≤ q → q < 8 → 0 ≤ w → w < 12 → h 235 (12 * q + w) = h (46 + q) w ∧ h 236 (12 * q + w) = h (55 + q) w ∧ (0 ≤ h (46 + q) w ∧ h (46 + q) w ≤ 60) ∧ 0 ≤ h (55 + q) w ∧ h (55 + q) w ≤ 60
def vMd (h : zH) : Prop := (0 ≤ h 0 9 ∧ h 0 9 ≤ 60) ∧ h 169 89 = h 0 9 ∧ ∀ k : Int, 0 ≤ k → k < h 0 9 → h 228 k = h 64 k
def vBl (h : zH) : Prop := ∀ k : Int, 160 ≤ k → k < 180 → 0 ≤ h 200 k ∧ h 200 k ≤ 1
def vI (h : zH) : Prop := vTp h ∧ vNm h ∧ vMe h ∧ vBi h ∧ vFa h ∧ vEx h ∧ vSa h ∧ vSe h ∧ vLw h ∧ vLt h ∧ vFl h ∧ vMd h ∧ vBl h
theorem mdp_cg {f h : zH} {a : Int} : ∀ n : Nat, (∀ j : Nat, j < n → f 201 (a + j) = h 201 (a + j)) → mdp f a n = mdp h a n
  | 0, _ => rfl
  | n + 1, e => by
    unfold mdp
    rw [mdp_cg n (fun j hj => e j (by omega)), e n (by omega)]
theorem mLOK_cg {f h : zH} {w : Int} (a : mLOK h w) (e1 : ∀ o : Int, 190 ≤ o → o ≤ 195 → f o w = h o w) (e2 : ∀ o k : Int, 196 ≤ o → o ≤ 200 → 0 ≤ k → k < 20 → f o (20 * w + k) = h o (20 * w + k)) (e3 : ∀ k : Int, 0 ≤ k → k < 130 → f 201 (130 * w + k) = h 201 (130 * w + k)) : mLOK f w := by
  obtain ⟨a1, a2⟩ := a
  refine ⟨by rw [e1 195 (by decide) (by decide)]; exact a1, fun i i0 i1 => ?_⟩
  rw [e1 195 (by decide) (by decide)] at i1
  obtain ⟨b, c⟩ := a2 i i0 i1
  rw [e2 198 i (by decide) (by decide) i0 (by omega), e2 199 i (by decide) (by decide) i0 (by omega)]
  refine ⟨b, fun j hj => ?_⟩
  have d := c j hj
  have ej : ∀ k : Nat, k ≤ j → f 201 (130 * w + h 198 (20 * w + i) + k) = h 201 (130 * w + h 198 (20 * w + i) + k) := fun k hk => by
    have := e3 (h 198 (20 * w + i) + k) (by omega) (by omega)
    rw [← Int.add_assoc] at this
    exact this
  rw [mdp_cg j (fun k hk => ej k (by omega)), ej j (Nat.le_refl _)]
  exact d
/-! what does not change, keeps -/
section
variable {h f : zH}
theorem vTp.tr (I : vTp h) (e1 : f 1 1 = h 1 1) (e2 : f 169 2 = h 169 2) (e3 : f 170 = h 170) (e4 : f 2 = h 2) : vTp f := by
  unfold vTp
  rw [e1, e2, e3, e4]
  exact I
theorem vNm.tr (I : vNm h) (e0 : ∀ k : Int, 10 ≤ k → k ≤ 16 → f 0 k = h 0 k) (e9 : ∀ k : Int, k = 5 ∨ k = 53 ∨ k = 87 ∨ k = 90 ∨ k = 91 → f 169 k = h 169 k) : vNm f := by
  unfold vNm
  rw [e0 10 (by decide) (by decide), e0 13 (by decide) (by decide), e0 14 (by decide) (by decide), e0 15 (by decide) (by decide), e0 16 (by decide) (by decide), e9 5 (by decide), e9 53 (by decide), e9 87 (by decide), e9 90 (by decide), e9 91 (by decide)]
  exact I
theorem vMe.tr (I : vMe h) (e3 : f 3 0 = h 3 0) (e9 : f 169 25 = h 169 25) (e : ∀ o : Int, o = 4 ∨ o = 5 ∨ o = 6 ∨ o = 171 ∨ o = 172 ∨ o = 173 → f o = h o) : vMe f := by
  unfold vMe
  rw [e3, e9, e 4 (by decide), e 5 (by decide), e 6 (by decide), e 171 (by decide), e 172 (by decide), e 173 (by decide)]
  exact I
theorem vLg.tr {o most n : Int} {ar : List (Int × Int)} (I : vLg h o most n ar) (e1 : f o 1 = h o 1) (e2 : f o 2 = h o 2) (e3 : f (o + 1) = h (o + 1)) (e9 : f 169 n = h 169 n) (ea : ∀ p ∈ ar, f p.2 = h p.2) (e0 : h 0 10 ≤ f 0 10) : vLg f o most n ar := by
  obtain ⟨a, b, c, d, g, k⟩ := I
  unfold vLg
  rw [e1, e2, e3, e9]
  exact ⟨a, b, c, fun r r0 r1 p hp => by rw [ea p hp]; exact d r r0 r1 p hp, g, fun r r0 r1 => by have := k r r0 r1; omega⟩
/-- a row more -/
theorem vLg.add {o most n : Int} {ar : List (Int × Int)} (I : vLg h o most n ar) (e1 : f o 1 = h o 1) (e2 : f o 2 = h o 2 + 1) (hs : h o 2 < most) (e9 : f 169 n = h 169 n + 1) (ec : ∀ q : Int, q < h o 2 * 6 → f (o + 1) q = h (o + 1) q) (ed : f (o + 1) (h o 2 * 6) = h 0 10) (e0 : f 0 10 = h 0 10) (hd : 0 ≤ h 0 10) (ea : ∀ p ∈ ar, (0 ≤ p.1 ∧ p.1 < 6) ∧ (∀ r : Int, r ≠ h o 2 → f p.2 r = h p.2 r) ∧ f p.2 (h o 2) = f (o + 1) (h o 2 * 6 + p.1)) : vLg f o most n ar := by
  obtain ⟨a, b, c, d, g, k⟩ := I
  refine ⟨by omega, e1.trans b, by omega, fun r r0 r1 p hp => ?_, fun r s r0 rs s1 => ?_, fun r r0 r1 => ?_⟩
  · obtain ⟨p0, p1, p2⟩ := ea p hp
    by_cases e : r = h o 2
    · rw [e]; exact p2
    · rw [p1 r e, ec _ (by omega)]
      exact d r r0 (by omega) p hp
  · by_cases e : s = h o 2
    · rw [e, ed]
      by_cases e' : r = h o 2
      · rw [e', ed]; omega
      · rw [ec _ (by omega)]
        exact (k r r0 (by omega)).2
    · rw [ec _ (by omega), ec _ (by omega)]
      exact g r s r0 rs (by omega)
  · rw [e0]
    by_cases e : r = h o 2
    · rw [e, ed]; omega
    · rw [ec _ (by omega)]
      exact k r r0 (by omega)
theorem vBi.tr (I : vBi h) (e : f 7 = h 7) (e8 : f 8 = h 8) (e3 : h 3 0 ≤ f 3 0) (e9 : f 169 26 = h 169 26) (ea : ∀ o : Int, 174 ≤ o → o ≤ 176 → f o = h o) (e0 : h 0 10 ≤ f 0 10) : vBi f := by
  refine ⟨I.1.tr (by rw [e]) (by rw [e]) e8 e9 (fun p hp => ea p.2 ?_ ?_) e0, fun r r0 r1 => ?_⟩
  · revert p; decide
  · revert p; decide
  · rw [e] at r1
    rw [e8]
    have := I.2 r r0 r1
    omega
theorem vFa.tr (I : vFa h) (e : f 9 = h 9) (e8 : f 10 = h 10) (e3 : h 3 0 ≤ f 3 0) (e9 : f 169 27 = h 169 27) (ea : ∀ o : Int, 177 ≤ o → o ≤ 182 → f o = h o) (e0 : h 0 10 ≤ f 0 10) : vFa f := by
  refine ⟨I.1.tr (by rw [e]) (by rw [e]) e8 e9 (fun p hp => ea p.2 ?_ ?_) e0, fun r r0 r1 => ?_⟩
  · revert p; decide
  · revert p; decide
  · rw [e] at r1
    rw [e8]
    have := I.2 r r0 r1
    omega
theorem vEx.tr (I : vEx h) (e : f 11 = h 11) (e8 : f 12 = h 12) (e3 : h 3 0 ≤ f 3 0) (e9 : f 169 28 = h 169 28) (ea : ∀ o : Int, 183 ≤ o → o ≤ 186 → f o = h o) (e0 : h 0 10 ≤ f 0 10) : vEx f := by
  refine ⟨I.1.tr (by rw [e]) (by rw [e]) e8 e9 (fun p hp => ea p.2 ?_ ?_) e0, fun r r0 r1 => ?_⟩
  · revert p; decide
  · revert p; decide
  · rw [e] at r1
    rw [e8]
    have := I.2 r r0 r1
    omega
theorem vSa.tr (I : vSa h) (e : f 13 = h 13) (e8 : f 14 = h 14) (e3 : h 3 0 ≤ f 3 0) (e9 : f 169 29 = h 169 29) (ea : ∀ o : Int, 187 ≤ o → o ≤ 189 → f o = h o) (e0 : h 0 10 ≤ f 0 10) : vSa f := by
  refine ⟨I.1.tr (by rw [e]) (by rw [e]) e8 e9 (fun p hp => ea p.2 ?_ ?_) e0, fun r r0 r1 => ?_⟩
  · revert p; decide
  · revert p; decide
  · rw [e] at r1
    rw [e8]
    have := I.2 r r0 r1
    omega
theorem vSe.tr (I : vSe h) (e : f 15 = h 15) (e8 : f 16 = h 16) (e3 : h 3 0 ≤ f 3 0) (e9 : f 169 85 = h 169 85) (ea : ∀ o : Int, 224 ≤ o → o ≤ 227 → f o = h o) (e0 : h 0 10 ≤ f 0 10) : vSe f := by
  refine ⟨I.1.tr (by rw [e]) (by rw [e]) e8 e9 (fun p hp => ea p.2 ?_ ?_) e0, fun r r0 r1 => ?_⟩
  · revert p; decide
  · revert p; decide
  · rw [e] at r1
    rw [e8]
    have := I.2 r r0 r1
    refine ⟨by omega, this.2⟩
theorem mLwr.cg {i : Int} {V : zLV} (a : mLwr h i V) (hi : 0 ≤ i ∧ i < 8) (hV : V.1.length ≤ 20 ∧ V.2.1.length ≤ 120) (e : ∀ o k : Int, 190 ≤ o → o ≤ 203 → ¬ mScr o k → f o k = h o k) : mLwr f i V := by
  have e1 : ∀ o : Int, 190 ≤ o → o ≤ 195 → f o i = h o i := fun o o0 o1 => e o i o0 (by omega) (by unfold mScr; omega)
  have e2 : ∀ (o : Int) (k : Nat), 196 ≤ o → o ≤ 200 → k < V.1.length → f o (20 * i + k) = h o (20 * i + k) := fun o k o0 o1 k1 => e o _ (by omega) (by omega) (by unfold mScr; omega)
  have e3 : ∀ (o : Int) (k : Nat), 201 ≤ o → o ≤ 203 → k < V.2.1.length → f o (130 * i + k) = h o (130 * i + k) := fun o k o0 o1 k1 => e o _ (by omega) (by omega) (by unfold mScr; omega)
  unfold mLwr
  rw [e1 195 (by decide) (by decide), e1 192 (by decide) (by decide), e1 193 (by decide) (by decide), e1 194 (by decide) (by decide)]
  refine ⟨a.1, a.2.1, a.2.2.1, a.2.2.2.1, fun k hk => ?_, fun k hk => ?_⟩
  · unfold mRoW
    rw [e2 196 k (by decide) (by decide) hk, e2 197 k (by decide) (by decide) hk, e2 198 k (by decide) (by decide) hk, e2 199 k (by decide) (by decide) hk, e2 200 k (by decide) (by decide) hk]
    exact a.2.2.2.2.1 k hk
  · rw [e3 201 k (by decide) (by decide) hk, e3 202 k (by decide) (by decide) hk, e3 203 k (by decide) (by decide) hk]
    exact a.2.2.2.2.2 k hk
theorem vFl.tr (I : vFl h) (e44 : f 44 2 = h 44 2) (e9 : f 169 96 = h 169 96) (e : ∀ o : Int, 46 ≤ o ∧ o ≤ 62 ∨ o = 235 ∨ o = 236 → f o = h o) : vFl f := by
  refine ⟨by rw [e44, e9]; exact I.1, fun q w q0 q1 w0 w1 => ?_⟩
  rw [e 235 (by decide), e 236 (by decide), e (46 + q) (by omega), e (55 + q) (by omega)]
  exact I.2 q w q0 q1 w0 w1
theorem vMd.tr (I : vMd h) (e0 : f 0 9 = h 0 9) (e9 : f 169 89 = h 169 89) (e : f 64 = h 64) (e' : f 228 = h 228) : vMd f := by
  unfold vMd
  rw [e0, e9, e, e']
  exact I
theorem vLt1.tr {l : Int} (I : vLt1 h l) (e : ∀ o : Int, 114 + 14 * l ≤ o ∧ o ≤ 116 + 14 * l ∨ 205 ≤ o ∧ o ≤ 211 → f o = h o) : vLt1 f l := by
  unfold vLt1
  rw [e 205 (by omega), e 206 (by omega), e 207 (by omega), e 208 (by omega), e 209 (by omega), e 210 (by omega), e 211 (by omega), e (114 + 14 * l) (by omega), e (115 + 14 * l) (by omega), e (116 + 14 * l) (by omega)]
  exact I
theorem vLt0.tr {l : Int} (I : vLt0 h l) (e : ∀ o : Int, 114 + 14 * l ≤ o ∧ o ≤ 116 + 14 * l ∨ 205 ≤ o ∧ o ≤ 211 → f o = h o) : vLt0 f l := by
  unfold vLt0
  rw [e 205 (by omega), e 206 (by omega), e 208 (by omega), e 209 (by omega), e 210 (by omega), e 211 (by omega), e (114 + 14 * l) (by omega), e (115 + 14 * l) (by omega), e (116 + 14 * l) (by omega)]
  exact I
theorem vLt.tr (I : vLt h) (e0 : f 0 12 = h 0 12) (e9 : f 169 65 = h 169 65) (e : ∀ o l : Int, 0 ≤ l → l < 4 → 114 + 14 * l ≤ o ∧ o ≤ 116 + 14 * l ∨ 205 ≤ o ∧ o ≤ 211 → f o = h o) (eq : ∀ l q : Int, 0 ≤ l → l < 4 → 0 ≤ q → q < 60 → (-1 ≤ f (125 + 14 * l) q ∧ f (125 + 14 * l) q < 60) ∧ f (113 + 14 * l) 0 = l) : vLt f := by
  obtain ⟨a, b, c, d, g, k⟩ := I
  refine ⟨by rw [e0]; exact a, by rw [e0, e9]; exact b, fun l l0 l1 => ?_, fun l l0 l1 => ?_, ?_, eq⟩
  · rw [e0] at l1
    exact (c l l0 l1).tr (fun o ho => e o l l0 (by omega) ho)
  · rw [e0] at l0
    exact (d l l0 l1).tr (fun o ho => e o l (by omega) l1 ho)
  · rw [e0, e 205 0 (by decide) (by decide) (Or.inr (by decide))]
    exact g
theorem vLw.tr (I : vLw h) (e0 : f 0 11 = h 0 11) (e10 : h 0 10 ≤ f 0 10) (e9 : f 169 45 = h 169 45) (e : ∀ o : Int, 36 ≤ o ∧ o ≤ 41 ∨ 65 ≤ o ∧ o ≤ 112 → f o = h o) (em : ∀ o k : Int, 190 ≤ o → o ≤ 203 → ¬ mScr o k → f o k = h o k) : vLw f := by
  obtain ⟨a, b, c, d, g, k⟩ := I
  refine ⟨by rw [e0]; exact a, by rw [e0, e9]; exact b, fun i i0 i1 => ?_, ?_, by rw [e 36 (by decide)]; exact g, by rw [e 36 (by decide)]; exact k⟩
  · rw [e0] at i1
    obtain ⟨⟨⟨V, v1, v2, v3, v4, v5⟩, w1, w2, w3⟩, x1, x2⟩ := c i i0 i1
    have i8 : i < 8 := by omega
    have eL : f (65 + 6 * i) = h (65 + 6 * i) := e _ (by omega)
    refine ⟨⟨⟨V, v1.ap (fun k _ => by rw [eL]) (fun q k q0 q1 => by rw [e q (by omega)]), v2.cg ⟨i0, i8⟩ ⟨v3, v4⟩ em, v3, v4, v5⟩, ?_, ?_, ?_⟩, by rw [eL]; omega, by rw [eL]; exact x2⟩
    · refine mLOK_cg w1 (fun o o0 o1 => em o _ (by omega) (by omega) (by unfold mScr; omega)) (fun o k o0 o1 k0 k1 => em o _ (by omega) (by omega) (by unfold mScr; omega)) (fun k k0 k1 => em 201 _ (by decide) (by decide) (by unfold mScr; omega))
    · rw [em 191 i (by decide) (by decide) (by unfold mScr; omega), eL]; exact w2
    · rw [em 190 i (by decide) (by decide) (by unfold mScr; omega), eL]; exact w3
  · exact d.ap (fun k _ => by rw [e 36 (by decide)]) (fun q k q0 q1 => by rw [e q (by omega)])
end
