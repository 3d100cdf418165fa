/-! reading a COND, the model's way -/
theorem mzre_rc {b : Int → Int} : ∀ (k : Nat) (p i : Int), p ≤ i → i < zre b k p → zrc (b i)
  | 0, p, i, h1, h2 => by
    have z : zre b 0 p = p := rfl
    omega
  | k + 1, p, i, h1, h2 => by
    unfold zre at h2
    by_cases c : zrc (b p)
    · rw [if_pos c] at h2
      by_cases e : i = p
      · rw [e]; exact c
      · exact mzre_rc k (p + 1) i (by omega) h2
    · rw [if_neg c] at h2
      omega
theorem mVL_in {b : Int → Int} {x j : Int} (h : zTK b x j = 2) : 0 ≤ zTV b x j ∧ zTV b x j ≤ 9999 := by
  unfold zTK at h
  unfold zTV
  by_cases c : zps b j.toNat < x
  · rw [if_pos c] at h ⊢
    unfold zvv
    rw [if_pos ⟨mkd_2 h, h⟩]
    have rc := mkd_2 h
    have ri := zre_in (b := b) 400 (zps b j.toNat)
    have i := zvl_in (b := b) (p := zps b j.toNat) (zrn b (zps b j.toNat)) (fun i i0 i1 => mzre_rc 400 (zps b j.toNat) _ (by omega) (by unfold zrn at i1; omega))
    unfold zkd at h
    rw [if_pos rc] at h
    by_cases c1 : (zvl b (zps b j.toNat) (zrn b (zps b j.toNat))).1 = 0 ∧ zrn b (zps b j.toNat) ≤ 8
    · rw [if_pos c1] at h; exact absurd h (by decide)
    · rw [if_neg c1] at h
      by_cases c2 : (zvl b (zps b j.toNat) (zrn b (zps b j.toNat))).1 = (zrn b (zps b j.toNat) : Nat) ∧ (zvl b (zps b j.toNat) (zrn b (zps b j.toNat))).1 ≤ 4
      · obtain ⟨i1, i2, i3, i4, i5, i6, i7, i8⟩ := i
        generalize (zvl b (zps b j.toNat) (zrn b (zps b j.toNat))).2 = y at *
        generalize (zvl b (zps b j.toNat) (zrn b (zps b j.toNat))).1 = x at *
        refine ⟨i2, ?_⟩
        rcases (show x = 0 ∨ x = 1 ∨ x = 2 ∨ x = 3 ∨ x = 4 by omega) with z | z | z | z | z
        · have := i3 z; omega
        · have := i4 z; omega
        · have := i5 z; omega
        · have := i6 z; omega
        · have := i7 z; omega
      · rw [if_neg c2] at h; exact absurd h (by decide)
  · rw [if_neg c] at h; exact absurd h (by decide)
/-- atoms -/
def mHide (p : Prop) : Prop := p
theorem mato_1 : mato (-1) = -1 := by decide
theorem mato_ask0 : ∀ i : Nat, i < 22 → ((0 ≤ mato (1000000 + i) ↔ zAsk (1000000 + i)) ∧ mato (1000000 + i) ≤ 11 ∧ (0 ≤ mato (1000000 + i) → i ≠ 7)) := by decide +kernel
def mw1 (w : Int) : Int := if w = 0 then 2 else if w = 1 then 3 else if w = 2 then 4 else 8
def mw2 (w : Int) : Int := if w = 3 then 0 else 1
theorem mato_lo0 : ∀ i : Nat, i < 22 → 0 ≤ mato (1000000 + i) → mato (1000000 + i) < 4 → zWn (1000000 + i) ≠ -1 := by decide +kernel
theorem mato_lo1 : ∀ i : Nat, i < 22 → 0 ≤ mato (1000000 + i) → mato (1000000 + i) < 4 → zWa (1000000 + i) = mw1 (mato (1000000 + i)) ∧ zWn (1000000 + i) = mw2 (mato (1000000 + i)) := by decide +kernel
theorem mato_hi0 : ∀ i : Nat, i < 22 → 4 ≤ mato (1000000 + i) → zWn (1000000 + i) = -1 ∧ zWa (1000000 + i) = mtb (mato (1000000 + i)) := by decide +kernel
theorem mato_ask {b : Int → Int} {x j : Int} : mHide ((0 ≤ mato (zTW b x j) ↔ zAsk (zTW b x j)) ∧ mato (zTW b x j) ≤ 11 ∧ (0 ≤ mato (zTW b x j) → zTW b x j ≠ -1 ∧ zTW b x j ≠ 1000007)) := by
  show _ ∧ _ ∧ _
  rcases mTW_in b x j with e | ⟨i, hi, e⟩
  · rw [e, mato_1]
    exact ⟨⟨fun z => absurd z (by decide), fun z => absurd (by decide : (-1 : Int) < 0) z.1⟩, by decide, fun z => absurd z (by decide)⟩
  · have z := mato_ask0 i hi
    rw [e]
    exact ⟨z.1, z.2.1, fun q => ⟨by omega, fun y => z.2.2 q (by omega)⟩⟩
theorem mato_lo {b : Int → Int} {x j : Int} (h0 : 0 ≤ mato (zTW b x j)) (h1 : mato (zTW b x j) < 4) : mHide (zWn (zTW b x j) ≠ -1) ∧ mStq (mato (zTW b x j)) 0 0 (zqs (zWa (zTW b x j)) 61 (zWn (zTW b x j))) := by
  rcases mTW_in b x j with e | ⟨i, hi, e⟩
  · rw [e, mato_1] at h0; exact absurd h0 (by decide)
  · rw [e] at h0 h1 ⊢
    have z := mato_lo1 i hi h0 h1
    refine ⟨mato_lo0 i hi h0 h1, ?_⟩
    rw [z.1, z.2]
    generalize mato (1000000 + i) = m at h0 h1
    rcases (show m = 0 ∨ m = 1 ∨ m = 2 ∨ m = 3 by omega) with rfl | rfl | rfl | rfl
    · exact Or.inr (Or.inr (Or.inr (Or.inl ⟨rfl, rfl⟩)))
    · exact Or.inr (Or.inr (Or.inr (Or.inr (Or.inl ⟨rfl, rfl⟩))))
    · exact Or.inr (Or.inr (Or.inr (Or.inr (Or.inr (Or.inl ⟨rfl, rfl⟩)))))
    · exact Or.inr (Or.inr (Or.inr (Or.inr (Or.inr (Or.inr (Or.inl ⟨rfl, rfl⟩))))))
theorem mato_hi {b : Int → Int} {x j : Int} (h0 : 4 ≤ mato (zTW b x j)) : mHide (zWn (zTW b x j) = -1) ∧ ∀ s n : Int, (s = 60 ∨ s = 61 ∨ s = 62) → 0 ≤ n → n ≤ 9999 → mStq (mato (zTW b x j)) s n (zqs (zWa (zTW b x j)) s n) := by
  have u := (show _ ∧ _ ∧ _ from mato_ask (b := b) (x := x) (j := j)).2.1
  rcases mTW_in b x j with e | ⟨i, hi, e⟩
  · rw [e, mato_1] at h0; exact absurd h0 (by decide)
  · rw [e] at h0 u ⊢
    have z := mato_hi0 i hi h0
    refine ⟨z.1, fun s n hs n0 n1 => ?_⟩
    rw [z.2]
    exact Or.inr (Or.inr (Or.inr (Or.inr (Or.inr (Or.inr (Or.inr ⟨⟨h0, u⟩, hs, ⟨n0, n1⟩, rfl⟩))))))
abbrev mFS : List Int := [4, 46, 47, 48, 49, 50, 51, 52, 56]
abbrev mES : List Int := [4, 46, 47, 48, 49, 50, 51, 52, 56, 53, 54]
def mC (h0 : zH) (b : Int → Int) (sz : Int) (P T : List Int) (j o : Int) (g : zH) : Prop := mFx mFS h0 g ∧ mTx b sz g ∧ mAt b sz j g ∧ g 169 48 = o ∧ g 169 47 = P.length ∧ mPw g P ∧ mSl g T
def mBd (h0 : zH) (b : Int → Int) (sz : Int) (e : Int × Int) (g : zH) : Prop := mFx mES h0 g ∧ g 169 53 = e.1 ∧ g 169 54 = zTS b (min sz 300) e.2
section
variable {h0 g f : zH} {b : Int → Int} {sz j o : Int} {P T : List Int}
theorem mBd.mk (fx : mFx mFS h0 g) (a : mAt b sz j g) (k : Int) : mBd h0 b sz (k, j) (zst (zst g 169 53 k) 169 54 (g 169 50)) := by
  refine ⟨((fx.mono (by decide)).st (by decide) _).st (by decide) _, ?_, ?_⟩
  · rw [zst_ne (Or.inr (by decide)), zst_self]
  · rw [zst_self]
    exact a.kd.2.2.2.2.2.1
theorem mC.nx (a : mC h0 b sz P T j o g) (hf : mLf g f) (t : mTx b sz f) (q : mAt b sz (j + 1) f) : mC h0 b sz P T (j + 1) o f :=
  ⟨a.1.tr (hf.fx.mono (by decide)), t, q, (hf.2 48 (by decide)).trans a.2.2.2.1, (hf.2 47 (by decide)).trans a.2.2.2.2.1, a.2.2.2.2.2.1.cg (fun i _ _ => hf.1 204 i (by decide)), a.2.2.2.2.2.2.cg (hf.2 46 (by decide)) (fun p k hp => hf.1 p k (by rcases hp with z | z | z <;> rw [z] <;> decide))⟩
theorem mC.on (a : mC h0 b sz P T j o g) : mC h0 b sz P T j (o + 1) (zst g 169 48 (g 169 48 + 1)) := by
  have fx : mFx [48] g (zst g 169 48 (g 169 48 + 1)) := (mFx.rf _ g).st (by decide) _
  refine ⟨a.1.tr (fx.mono (by decide)), a.2.1.fx fx (by decide), a.2.2.1.cg (fun k hk => fx.2 k (fun z => ?_)), by rw [zst_self, a.2.2.2.1], (fx.2 47 (by decide)).trans a.2.2.2.2.1, a.2.2.2.2.2.1.cg (fun i _ _ => zst_ne (Or.inl (by decide))), a.2.2.2.2.2.2.cg (fx.2 46 (by decide)) (fun p k hp => zst_ne (Or.inl (by omega)))⟩
  rw [List.mem_singleton.mp z] at hk
  exact absurd hk (by decide)
theorem mC.ps (a : mC h0 b sz P T j o g) (x : Int) : mC h0 b sz (x :: P) T j o (zst (zst g 204 (g 169 47) x) 169 47 (g 169 47 + 1)) := by
  have p := a.2.2.2.2.1
  have fx : mFx [47] g (zst (zst g 204 (g 169 47) x) 169 47 (g 169 47 + 1)) := ((mFx.rf _ g).pl _ _).st (by decide) _
  refine ⟨a.1.tr (fx.mono (by decide)), a.2.1.fx fx (by decide), a.2.2.1.cg (fun k hk => fx.2 k (fun z => ?_)), (fx.2 48 (by decide)).trans a.2.2.2.1, by rw [zst_self, p, List.length_cons]; omega, ⟨?_, a.2.2.2.2.2.1.cg (fun i i0 i1 => ?_)⟩, a.2.2.2.2.2.2.cg (fx.2 46 (by decide)) (fun q k hq => ?_)⟩
  · rw [List.mem_singleton.mp z] at hk
    exact absurd hk (by decide)
  · rw [zst_ne (Or.inl (by decide)), p, zst_self]
  · rw [zst_ne (Or.inl (by decide)), zst_ne (Or.inr (by omega))]
  · rw [zst_ne (Or.inl (by omega)), zst_ne (Or.inl (by omega))]
theorem mC.wr (a : mC h0 b sz P T j o g) {w s n x : Int} (hx : mStq w s n x) : mC h0 b sz P (T ++ [x]) j o (mwr g w s n) := by
  have n0 := a.2.2.2.2.2.2.n0
  have fx : mFx [46] g (mwr g w s n) := mwr_fx n0 (by decide)
  refine ⟨a.1.tr (fx.mono (by decide)), a.2.1.fx fx (by decide), a.2.2.1.cg (fun k hk => fx.2 k (fun z => ?_)), (fx.2 48 (by decide)).trans a.2.2.2.1, (fx.2 47 (by decide)).trans a.2.2.2.2.1, a.2.2.2.2.2.1.cg (fun i _ _ => mwr_204 _ _ _ _ _), a.2.2.2.2.2.2.wr hx⟩
  rw [List.mem_singleton.mp z] at hk
  exact absurd hk (by decide)
theorem mC.dn (a : mC h0 b sz P T j o g) {P' S : List Int} (fx : mFx [46, 47] g f) (e : f 169 47 = P'.length) (hp : mPw f P') (hs : mSl f (T ++ S)) : mC h0 b sz P' (T ++ S) j o f := by
  refine ⟨a.1.tr (fx.mono (by decide)), a.2.1.fx fx (by decide), a.2.2.1.cg (fun k hk => fx.2 k (fun z => ?_)), (fx.2 48 (by decide)).trans a.2.2.2.1, e, hp, hs⟩
  rcases List.mem_cons.mp z with z | z
  · rw [z] at hk; exact absurd hk (by decide)
  · rw [List.mem_singleton.mp z] at hk
    exact absurd hk (by decide)
theorem mC.pop {x : Int} (a : mC h0 b sz (x :: P) T j o g) : mC h0 b sz P T j o (zst g 169 47 (g 169 47 - 1)) := by
  have fx : mFx [47] g (zst g 169 47 (g 169 47 - 1)) := (mFx.rf _ g).st (by decide) _
  refine ⟨a.1.tr (fx.mono (by decide)), a.2.1.fx fx (by decide), a.2.2.1.cg (fun k hk => fx.2 k (fun z => ?_)), (fx.2 48 (by decide)).trans a.2.2.2.1, ?_, a.2.2.2.2.2.1.2.cg (fun i _ _ => zst_ne (Or.inl (by decide))), a.2.2.2.2.2.2.cg (fx.2 46 (by decide)) (fun p k hp => zst_ne (Or.inl (by omega)))⟩
  · rw [List.mem_singleton.mp z] at hk
    exact absurd hk (by decide)
  · rw [zst_self, a.2.2.2.2.1, List.length_cons]; omega
end
/-! the levels of a pile -/
theorem mlv_ln (ob ab : Bool) (n : Nat) (R : List mLev) : (mlv ob ab n ++ mpo R).length = n + (mlv ob ab 0 ++ mpo R).length := by
  unfold mlv
  simp only [List.length_append, List.length_replicate]
  omega
theorem mlv_le (ob ab : Bool) : (mlv ob ab 0).length ≤ 2 := by cases ob <;> cases ab <;> decide
theorem mpo_le : ∀ R : List mLev, ((mpo R).length : Int) ≤ 3 * mwo R ∧ 0 ≤ mwo R
  | [] => ⟨by decide, by decide⟩
  | v :: R => by
    have i := mpo_le R
    have k := mlv_le v.1 v.2.1
    have e := mlv_ln v.1 v.2.1 v.2.2 R
    show ((23 :: (mlv v.1 v.2.1 v.2.2 ++ mpo R)).length : Int) ≤ 3 * (mwo R + v.2.2 + 1) ∧ 0 ≤ mwo R + v.2.2 + 1
    rw [List.length_cons, e, List.length_append]
    omega
theorem mlv_bd (ob ab : Bool) (n : Nat) (R : List mLev) (h : n + mwo R ≤ 12) : (mlv ob ab n ++ mpo R).length ≤ 40 := by
  have i := mpo_le R
  have k := mlv_le ob ab
  have e := mlv_ln ob ab n R
  rw [e, List.length_append]
  omega
theorem mPi_lv (ob ab : Bool) (n : Nat) : ∀ x ∈ mlv ob ab n, x = 20 ∨ x = 21 ∨ x = 22 ∨ x = 23 := fun x hx => by
  unfold mlv at hx
  rcases List.mem_append.mp hx with q | q
  · exact Or.inl (List.eq_of_mem_replicate q)
  · revert q
    cases ob <;> cases ab
    · intro q; cases q
    · intro q; exact Or.inr (Or.inl (List.mem_singleton.mp q))
    · intro q; exact Or.inr (Or.inr (Or.inl (List.mem_singleton.mp q)))
    · intro q
      rcases List.mem_cons.mp q with z | z
      · exact Or.inr (Or.inl z)
      · exact Or.inr (Or.inr (Or.inl (List.mem_singleton.mp z)))
theorem mPi_po : ∀ R : List mLev, mPi (mpo R)
  | [] => fun x hx => by cases hx
  | v :: R => fun x hx => by
    rcases List.mem_cons.mp hx with q | q
    · exact Or.inr (Or.inr (Or.inr q))
    · rcases List.mem_append.mp q with q | q
      · exact mPi_lv _ _ _ x q
      · exact mPi_po R x q
theorem mPi_all (ob ab : Bool) (n : Nat) (R : List mLev) : mPi (mlv ob ab n ++ mpo R) := fun x hx => by
  rcases List.mem_append.mp hx with q | q
  · exact mPi_lv _ _ _ x q
  · exact mPi_po R x q
theorem mpop_ln (k : Int) : ∀ P : List Int, (mpop k P).1.length + (mpop k P).2.length = P.length
  | [] => rfl
  | x :: P => by
    have i := mpop_ln k P
    by_cases c : x ≠ 23 ∧ k ≤ mbn x
    · have e : mpop k (x :: P) = (x :: (mpop k P).1, (mpop k P).2) := if_pos c
      rw [e]
      show (x :: (mpop k P).1).length + (mpop k P).2.length = (x :: P).length
      rw [List.length_cons, List.length_cons]
      omega
    · have e : mpop k (x :: P) = ([], x :: P) := if_neg c
      rw [e]
      show ([] : List Int).length + (x :: P).length = _
      rw [List.length_nil]
      omega
theorem mC.drop {X : zX} {dep : Nat} {h0 g : zH} {b : Int → Int} {sz j o : Int} {P T : List Int} (k : Int) (a : mC h0 b sz P T j o g) (hP : mPi P) (h40 : P.length ≤ 40) (hl : P.length + T.length ≤ 120) (hdep : 1 ≤ dep) : zW mX11_writeDown X dep 0 0 239 0 (zar 0 [xR 169, xI k]) [] g (zQ0 (fun f => mC h0 b sz (mpop k P).2 (T ++ (mpop k P).1.map mos) j o f)) :=
  (f_X11_writeDown k hdep P T g a.2.2.2.2.1 hl (by omega) a.2.2.2.2.2.1 hP a.2.2.2.2.2.2).weaken (fun _ f _ q => ⟨q.1, q.2.1, a.dn q.2.2.1 q.2.2.2.2.1 q.2.2.2.2.2.1 q.2.2.2.2.2.2⟩)
section
variable {X : zX} {dep : Nat} {h0 : zH} {b : Int → Int} {sz n : Int}
/-- what one() answers -/
def mO1 (h0 : zH) (b : Int → Int) (sz n : Int) (r : zRes) (T : List Int) (j : Int) (v : Int) (g : zH) : Prop :=
  v = 0 ∧ (∃ e : Int × Int, r = .inl e ∧ mBd h0 b sz e g) ∨
  v = 1 ∧ ∃ (R : List mLev) (ob ab : Bool) (S : List Int) (j1 o1 : Int) (f1 : Nat), mC h0 b sz (mlv ob ab 0 ++ mpo R) (T ++ S) j1 o1 g ∧ mwo R ≤ 12 ∧ (j < j1 ∧ j1 ≤ n) ∧ (0 ≤ o1 ∧ o1 ≤ 60) ∧ n - j1 + 1 ≤ f1 ∧ (((T ++ S).length : Int) + (mlv ob ab 0 ++ mpo R).length + 1 ≤ 2 * o1) ∧ r = zSeq S (mRun (zTK b (min sz 300)) (zTW b (min sz 300)) (zTV b (min sz 300)) f1 false (mlv ob ab 0 ++ mpo R) j1 o1)
theorem mO1.lt {r : zRes} {T : List Int} {j j2 v : Int} {g : zH} (a : mO1 h0 b sz n r T j2 v g) (h : j ≤ j2) : mO1 h0 b sz n r T j v g := by
  rcases a with a | ⟨a, R, ob, ab, S, j1, o1, f1, b1, b2, b3, b4⟩
  · exact Or.inl a
  · exact Or.inr ⟨a, R, ob, ab, S, j1, o1, f1, b1, b2, ⟨by omega, b3.2⟩, b4⟩
def mQk (c : Int → Int → List Int → zRes) : zRes → zRes
  | .inl e => .inl e
  | .inr q => c q.1 q.2.1 q.2.2
theorem m_bad {dep : Nat} {g : zH} (k : Int) : zW mX11_bad X dep 0 0 239 0 (zar 0 [xR 169, xI k]) [] g (zQI (fun v f => v = 0 ∧ f = zst (zst g 169 53 k) 169 54 (g 169 50))) :=
  (zfI (f_X11_bad k)).weaken (fun _ _ _ q => ⟨q.1, q.2.choose, q.2.choose_spec.1, q.2.choose_spec.2.1, q.2.choose_spec.2.2.symm⟩)
theorem l_X11_one_196 (f : Nat) (R : List mLev) (ob ab : Bool) (nn : Nat) (T : List Int) (j j1 o x : Int) (g : zH) (r : zRes) (hb : nn + mwo R ≤ 12) (hj : j < j1 ∧ j1 ≤ n) (ho : 0 ≤ o ∧ o ≤ 60) (hf : n - j1 + 1 ≤ f) (hl : (T.length : Int) + 1 + (mlv ob ab nn ++ mpo R).length + 1 ≤ 2 * o) (a : mC h0 b sz (mlv ob ab nn ++ mpo R) (T ++ [x]) j1 o g) (hr : r = zSeq ([x] ++ (mpop 3 (mlv ob ab nn ++ mpo R)).1.map mos) (mRun (zTK b (min sz 300)) (zTW b (min sz 300)) (zTV b (min sz 300)) f false (mpop 3 (mlv ob ab nn ++ mpo R)).2 j1 o)) (hdep : 2 ≤ dep) :
    zW mX11_one X dep 0 0 239 196 [(0, xR 169)] [] g (zQI (mO1 h0 b sz n r T j)) := by
  have m3 := mpop3 ob ab nn R
  have ln := mpop_ln 3 (mlv ob ab nn ++ mpo R)
  have p := mpo_le R
  have l1 : (T ++ [x]).length = T.length + 1 := by rw [List.length_append, List.length_singleton]
  have l2 : (T ++ ([x] ++ (mpop 3 (mlv ob ab nn ++ mpo R)).1.map mos)).length = T.length + (1 + (mpop 3 (mlv ob ab nn ++ mpo R)).1.length) := by rw [List.length_append, List.length_append, List.length_map, List.length_singleton]
  refine bX11_one_196 (rX11_one_198 (a.drop 3 (mPi_all _ _ _ _) (mlv_bd _ _ _ _ hb) (by omega) (by omega)) (by omega) (fun f1 h1 => bX11_one_201 ⟨rfl, _, rfl, Or.inr ⟨rfl, R, ob, ab, [x] ++ (mpop 3 (mlv ob ab nn ++ mpo R)).1.map mos, j1, o, f, ?_, by omega, hj, ho, hf, ?_, ?_⟩⟩))
  · have e : (mpop 3 (mlv ob ab nn ++ mpo R)).2 = mlv ob ab 0 ++ mpo R := by rw [m3]
    rw [e, List.append_assoc] at h1
    exact h1
  · have e : (mpop 3 (mlv ob ab nn ++ mpo R)).2 = mlv ob ab 0 ++ mpo R := by rw [m3]
    rw [e] at ln
    omega
  · have e : (mpop 3 (mlv ob ab nn ++ mpo R)).2 = mlv ob ab 0 ++ mpo R := by rw [m3]
    rw [e] at hr
    exact hr
theorem l_X11_one_0 (hz : 0 ≤ sz ∧ sz ≤ 340) (hk : (zTK b (min sz 300)) n = 0) (hdep : 3 ≤ dep) : ∀ (f : Nat) (R : List mLev) (ob ab : Bool) (nn : Nat) (T : List Int) (j o : Int) (g : zH), nn + mwo R ≤ 12 → j ≤ n → 0 ≤ o ∧ o ≤ 60 → n - j + 1 ≤ f → (T.length : Int) + (mlv ob ab nn ++ mpo R).length ≤ 2 * o → mC h0 b sz (mlv ob ab nn ++ mpo R) T j o g →
    zW mX11_one X dep 0 0 239 0 [(0, xR 169)] [] g (zQI (mO1 h0 b sz n (mRun (zTK b (min sz 300)) (zTW b (min sz 300)) (zTV b (min sz 300)) f true (mlv ob ab nn ++ mpo R) j o) T j))
  | 0, R, ob, ab, nn, T, j, o, g, h1, h2, h3, h4, h5, a => by exfalso; omega
  | f + 1, R, ob, ab, nn, T, j, o, g, h1, h2, h3, h4, h5, a => by
    have nk : ∀ x : Int, (zTK b (min sz 300)) x ≠ 0 → x ≤ n → x < n := fun x hx hx2 => by
      rcases Int.lt_or_eq_of_le hx2 with q | q
      · exact q
      · rw [q] at hx; exact absurd hk hx
    have p40 := mlv_bd ob ab nn R h1
    have pw := mpo_le R
    have w7 := a.2.2.1.wd 7 (by decide) (c := 7237492) (by decide +kernel)
    have s40 := a.2.2.1.kd.2.2.2.2.1 40 (by decide)
    have ask : _ ∧ _ ∧ _ := mato_ask (b := b) (x := min sz 300) (j := j)
    have k1 := mTW_k1 (b := b) (x := min sz 300) (j := j)
    obtain ⟨ask1, ask2, ask3⟩ := ask
    have a48 := a.2.2.2.1
    rw [mRun_A]
    refine bX11_one_0 (by omega) (rX11_one_9 _ (f_X11_atom a.2.2.1 (by omega)) (by omega) (fun v g' hg => ?_))
    obtain ⟨rfl, rfl⟩ := hg
    have at36 : ¬ (¬ zAsk ((zTW b (min sz 300)) j) ∧ (zTW b (min sz 300)) j ≠ 1000007 ∧ (zTK b (min sz 300)) j ≠ 40) → zW mX11_one X dep 0 0 239 36 [(0, xR 169), (1, xI (zb (g' 169 49 = 1 ∧ g' 169 56 = 7237492))), (2, xI (mato ((zTW b (min sz 300)) j)))] [] g' (zQI (mO1 h0 b sz n (mStA (zTK b (min sz 300)) (zTW b (min sz 300)) (zTV b (min sz 300)) (mRun (zTK b (min sz 300)) (zTW b (min sz 300)) (zTV b (min sz 300)) f) (mlv ob ab nn ++ mpo R) j o) T j)) := by
      intro c1
      have kj : (zTK b (min sz 300)) j ≠ 0 := fun z => c1 ⟨fun y => by
        have := k1 (ask3 (ask1.mpr y)).1
        omega, fun y => by
        have := k1 (by omega)
        omega, by omega⟩
      have jn := nk j kj h2
      have b4 : (60 ≤ o ∨ 12 ≤ mOpn (mlv ob ab nn ++ mpo R)) → zW mX11_one X dep 0 0 239 54 [(0, xR 169)] [] g' (zQI (mO1 h0 b sz n (mStA (zTK b (min sz 300)) (zTW b (min sz 300)) (zTV b (min sz 300)) (mRun (zTK b (min sz 300)) (zTW b (min sz 300)) (zTV b (min sz 300)) f) (mlv ob ab nn ++ mpo R) j o) T j)) := fun c2 => by
        refine bX11_one_54 (rX11_one_56 (m_bad 4) (by omega) (fun v f1 hf1 => ?_))
        obtain ⟨rfl, rfl⟩ := hf1
        refine bX11_one_59 0 (Or.inl rfl) ⟨rfl, _, rfl, Or.inl ⟨rfl, (4, j), ?_, mBd.mk a.1 a.2.2.1 4⟩⟩
        unfold mStA
        rw [if_neg c1, if_pos c2]
      refine bX11_one_36 _ _ (fun c => b4 (Or.inl (by omega))) (fun c => ?_)
      refine rX11_one_46 _ _ (zfI (f_X11_open a.2.2.2.2.1 (by omega) a.2.2.2.2.2.1)) (by omega) (fun v g2 hg2 => ?_)
      obtain ⟨rfl, rfl⟩ := hg2
      have op : mOpn (mlv ob ab nn ++ mpo R) = nn + mwo R := by rw [mOpn_app, mOpn_lv, mOpn_po]
      refine bX11_one_49 _ _ _ (fun c2 => ?_) (fun c2 => b4 (Or.inr (by omega)))
      have c2' : ¬ (60 ≤ o ∨ 12 ≤ mOpn (mlv ob ab nn ++ mpo R)) := by omega
      have eA : mStA (zTK b (min sz 300)) (zTW b (min sz 300)) (zTV b (min sz 300)) (mRun (zTK b (min sz 300)) (zTW b (min sz 300)) (zTV b (min sz 300)) f) (mlv ob ab nn ++ mpo R) j o = if zAsk ((zTW b (min sz 300)) j) then mQk (fun j1 o1 S => zSeq (S ++ (mpop 3 (mlv ob ab nn ++ mpo R)).1.map mos) (mRun (zTK b (min sz 300)) (zTW b (min sz 300)) (zTV b (min sz 300)) f false (mpop 3 (mlv ob ab nn ++ mpo R)).2 j1 o1)) (zQn (zTK b (min sz 300)) (zTW b (min sz 300)) (zTV b (min sz 300)) j o)
        else if (zTW b (min sz 300)) j = 1000007 then mRun (zTK b (min sz 300)) (zTW b (min sz 300)) (zTV b (min sz 300)) f true (20 :: (mlv ob ab nn ++ mpo R)) (j + 1) (o + 1)
        else mRun (zTK b (min sz 300)) (zTW b (min sz 300)) (zTV b (min sz 300)) f true (23 :: (mlv ob ab nn ++ mpo R)) (j + 1) (o + 1) := by
        unfold mStA
        rw [if_neg c1, if_neg c2']
        generalize zQn (zTK b (min sz 300)) (zTW b (min sz 300)) (zTV b (min sz 300)) j o = Z
        cases Z <;> rfl
      rw [eA]
      refine bX11_one_60 _ _ (by omega) ?_
      have a1 := a.on
      refine rX11_one_71 _ _ (f_X11_nx hz a1.2.1 a1.2.2.1 kj (by omega)) (by omega) (fun g3 hg3 => ?_)
      have a2 := a1.nx hg3.1 hg3.2.1 hg3.2.2
      have p47 := a2.2.2.2.2.1
      refine bX11_one_74 _ _ (by omega) (fun c3 => ?_) (fun c3 => ?_)
      · have as := ask1.mp c3
        rw [if_pos as]
        refine bX11_one_111 _ (fun c4 => ?_) (fun c4 => ?_)
        · have hi := mato_hi c4
          have hn : ¬ zWn ((zTW b (min sz 300)) j) ≠ -1 := fun z => z (show zWn ((zTW b (min sz 300)) j) = -1 from hi.1)
          have kq := a2.2.2.1.kd.2.2.2.2.1
          have s60 := kq 60 (by decide)
          have s61 := kq 61 (by decide)
          have s62 := kq 62 (by decide)
          have at159 : ∀ s : Int, (s = 60 ∨ s = 61 ∨ s = 62) → (zTK b (min sz 300)) (j + 1) = s → g3 169 52 = s → zW mX11_one X dep 0 0 239 159 [(0, xR 169), (2, xI (mato ((zTW b (min sz 300)) j)))] [] g3 (zQI (mO1 h0 b sz n (mQk (fun j1 o1 S => zSeq (S ++ (mpop 3 (mlv ob ab nn ++ mpo R)).1.map mos) (mRun (zTK b (min sz 300)) (zTW b (min sz 300)) (zTV b (min sz 300)) f false (mpop 3 (mlv ob ab nn ++ mpo R)).2 j1 o1)) (zQn (zTK b (min sz 300)) (zTW b (min sz 300)) (zTV b (min sz 300)) j o)) T j)) := by
            intro s hs hs1 hs2
            have e1 : zQn (zTK b (min sz 300)) (zTW b (min sz 300)) (zTV b (min sz 300)) j o = if (zTK b (min sz 300)) (j + 2) ≠ 2 then .inl (1, j + 2) else .inr (j + 3, o + 1, [zqs (zWa ((zTW b (min sz 300)) j)) ((zTK b (min sz 300)) (j + 1)) ((zTV b (min sz 300)) (j + 2))]) := by
              unfold zQn
              rw [if_neg hn, if_neg (fun z => by clear hn hi; omega)]
            rw [e1]
            have k1' : (zTK b (min sz 300)) (j + 1) ≠ 0 := by rw [hs1]; clear hn hi e1; omega
            have jn1 := nk (j + 1) k1' jn
            refine bX11_one_159 _ (bX11_one_164 _ _ ?_)
            refine rX11_one_165 _ _ (f_X11_nx hz a2.2.1 a2.2.2.1 k1' (by clear hn hi e1; omega)) (by clear hn hi e1; omega) (fun g4 hg4 => ?_)
            have a3 := a2.nx hg4.1 hg4.2.1 hg4.2.2
            rw [show j + 1 + 1 = j + 2 from Int.add_assoc j 1 1] at a3
            have k2 := a3.2.2.1.kd.2.1
            have v2 := a3.2.2.1.kd.2.2.2.1
            refine bX11_one_168 _ _ (fun c5 => ?_) (fun c5 => ?_)
            · have k2' := k2.mp c5
              have vv := v2 k2'
              have vin := mVL_in k2'
              rw [if_neg (fun z => z k2')]
              refine bX11_one_182 _ _ (rX11_one_189 _ _ _ ((f_X11_write _ _ _ (by have q := a3.2.2.2.2.2.2; have q1 := q.1; clear hn hi e1; omega)).weaken (fun _ g _ q => ⟨q.1, q.2.2, q.2.1⟩)) (by clear hn hi e1; omega) (P := fun f1 => f1 = mwr g4 (mato ((zTW b (min sz 300)) j)) (g3 169 52) (g4 169 52)) (fun g5 hg5 => ?_))
              rw [hs2, vv] at hg5
              have a4 := a3.wr (hi.2 s ((zTV b (min sz 300)) (j + 2)) hs vin.1 vin.2)
              rw [← hg5] at a4
              have jn2 := nk (j + 2) (by rw [k2']; decide) (by clear hn hi e1; omega)
              refine bX11_one_192 _ _ (rX11_one_193 (f_X11_nx hz a4.2.1 a4.2.2.1 (by rw [k2']; decide) (by clear hn hi e1; omega)) (by clear hn hi e1; omega) (fun g6 hg6 => ?_))
              have a5 := a4.nx hg6.1 hg6.2.1 hg6.2.2
              rw [show j + 2 + 1 = j + 3 from Int.add_assoc j 2 1] at a5
              refine l_X11_one_196 f R ob ab nn T j (j + 3) (o + 1) _ g6 _ h1 (by clear hn hi e1; omega) (by clear hn hi e1; omega) (by clear hn hi e1; omega) (by clear hn hi e1; omega) a5 ?_ (by clear hn hi e1; omega)
              show zSeq ([zqs (zWa ((zTW b (min sz 300)) j)) ((zTK b (min sz 300)) (j + 1)) ((zTV b (min sz 300)) (j + 2))] ++ _) _ = _
              rw [hs1]
            · rw [if_pos (fun z => c5 (k2.mpr z))]
              refine bX11_one_176 (rX11_one_178 (m_bad 1) (by clear hn hi e1; omega) (fun v f1 hf1 => ?_))
              obtain ⟨rfl, rfl⟩ := hf1
              exact bX11_one_181 0 (Or.inl rfl) ⟨rfl, _, rfl, Or.inl ⟨rfl, (1, j + 2), rfl, mBd.mk a3.1 a3.2.2.1 1⟩⟩
          refine bX11_one_126 _ (by clear hn hi; omega) (fun c5 => at159 60 (Or.inl rfl) (s60.mp c5) c5.2) (fun _ c5 => at159 61 (Or.inr (Or.inl rfl)) (s61.mp c5) c5.2) (fun _ _ c5 => at159 62 (Or.inr (Or.inr rfl)) (s62.mp c5) c5.2) (fun c5 c6 c7 => ?_)
          have e1 : zQn (zTK b (min sz 300)) (zTW b (min sz 300)) (zTV b (min sz 300)) j o = .inl (1, j + 1) := by
            unfold zQn
            rw [if_neg hn, if_pos ⟨fun z => c5 (s60.mpr z), fun z => c6 (s61.mpr z), fun z => c7 (s62.mpr z)⟩]
          rw [e1]
          refine bX11_one_153 (rX11_one_155 (m_bad 1) (by clear hn hi e1; omega) (fun v f1 hf1 => ?_))
          obtain ⟨rfl, rfl⟩ := hf1
          exact bX11_one_158 0 (Or.inl rfl) ⟨rfl, _, rfl, Or.inl ⟨rfl, (1, j + 1), rfl, mBd.mk a2.1 a2.2.2.1 1⟩⟩
        · have lo := mato_lo c3 (by omega)
          have e1 : zQn (zTK b (min sz 300)) (zTW b (min sz 300)) (zTV b (min sz 300)) j o = .inr (j + 1, o + 1, [zqs (zWa ((zTW b (min sz 300)) j)) 61 (zWn ((zTW b (min sz 300)) j))]) := by
            unfold zQn
            exact if_pos lo.1
          rw [e1]
          have l2 := lo.2
          clear lo e1
          generalize zqs (zWa ((zTW b (min sz 300)) j)) 61 (zWn ((zTW b (min sz 300)) j)) = x at *
          have q46 := a2.2.2.2.2.2.2.1
          refine rX11_one_120 _ ((f_X11_write _ _ _ (by omega)).weaken (fun _ g _ q => ⟨q.1, q.2.2, q.2.1⟩)) (by omega) (P := fun f1 => f1 = mwr g3 (mato ((zTW b (min sz 300)) j)) 0 0) (fun g5 hg5 => ?_)
          have a4 := a2.wr l2
          rw [← hg5] at a4
          refine bX11_one_123 _ ?_
          exact l_X11_one_196 f R ob ab nn T j (j + 1) (o + 1) x g5 _ h1 (by omega) (by omega) (by omega) (by omega) a4 rfl (by omega)
      · have as : ¬ zAsk ((zTW b (min sz 300)) j) := fun z => c3 (ask1.mpr z)
        rw [if_neg as]
        by_cases c4 : (zTW b (min sz 300)) j = 1000007
        · rw [if_pos c4]
          rw [zb_t (w7.mpr c4)]
          rw [if_neg (by decide)]
          have a4 := a2.ps 20
          have z := l_X11_one_0 hz hk hdep f R ob ab (nn + 1) T (j + 1) (o + 1) _ (by omega) (by omega) (by omega) (by omega) (by rw [mlv_ln]; rw [mlv_ln] at h5; omega) a4
          exact z.weaken (fun _ _ _ q => ⟨q.1, q.2.choose, q.2.choose_spec.1, q.2.choose_spec.2.lt (by omega)⟩)
        · rw [if_neg c4]
          rw [zb_f (fun z => c4 (w7.mp z))]
          rw [if_pos rfl]
          have a4 := a2.ps 23
          have ln : ((mlv false false 0 ++ mpo ((ob, ab, nn) :: R)).length : Int) = (mlv ob ab nn ++ mpo R).length + 1 := by
            show ((23 :: (mlv ob ab nn ++ mpo R)).length : Int) = _
            rw [List.length_cons]
            omega
          have z := l_X11_one_0 hz hk hdep f ((ob, ab, nn) :: R) false false 0 T (j + 1) (o + 1) _ (by show ((0 : Nat) : Int) + (mwo R + nn + 1) ≤ 12; omega) (by omega) (by omega) (by omega) (by rw [ln]; omega) a4
          exact z.weaken (fun _ _ _ q => ⟨q.1, q.2.choose, q.2.choose_spec.1, q.2.choose_spec.2.lt (by omega)⟩)
    refine bX11_one_12 _ _ (by omega) (fun c => at36 (fun z => ?_)) (fun _ c => at36 (fun z => z.1 (ask1.mp c))) (fun _ _ c => at36 (fun z => z.2.2 (s40.mp c))) (fun c1 c2 c3 => ?_)
    · refine z.2.1 (w7.mp (Classical.byContradiction fun y => c (zb_f y)))
    · refine bX11_one_30 (rX11_one_32 (m_bad 1) (by omega) (fun v f1 hf1 => ?_))
      obtain ⟨rfl, rfl⟩ := hf1
      have n7 : (zTW b (min sz 300)) j ≠ 1000007 := fun z => by
        rw [zb_t (w7.mpr z)] at c1
        exact absurd c1 (by decide)
      refine bX11_one_35 0 (Or.inl rfl) ⟨rfl, _, rfl, Or.inl ⟨rfl, (1, j), ?_, mBd.mk a.1 a.2.2.1 1⟩⟩
      unfold mStA
      rw [if_pos ⟨fun z => c2 (ask1.mpr z), n7, fun z => c3 (s40.mpr z)⟩]
end
