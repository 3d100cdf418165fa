/-! the model reads a COND: its loop -/
section
variable {X : zX} {dep : Nat} {h0 : zH} {b : Int → Int} {sz n : Int}
/-- what cond() answers -/
def mO2 (h0 : zH) (b : Int → Int) (sz : Int) (r : zRes) (T : List Int) (v : Int) (g : zH) : Prop := match r with
  | .inl e => v = 0 ∧ mBd h0 b sz e g
  | .inr q => v = 1 ∧ mC h0 b sz [] (T ++ q.2.2) q.1 q.2.1 g
theorem mO2.seq {r : zRes} {T S : List Int} {v : Int} {g : zH} (a : mO2 h0 b sz r (T ++ S) v g) : mO2 h0 b sz (zSeq S r) T v g := by
  cases r with
  | inl e => exact a
  | inr q =>
    obtain ⟨a1, a2⟩ := a
    rw [List.append_assoc] at a2
    exact ⟨a1, a2⟩
/-- behind a ONE and before it, when n - j + 1 ≤ k -/
def mLA (X : zX) (dep : Nat) (h0 : zH) (b : Int → Int) (sz n : Int) (k : Nat) : Prop := ∀ (f : Nat) (R : List mLev) (ob ab : Bool) (T : List Int) (j o : Int) (g : zH), mwo R ≤ 12 → j ≤ n → 0 ≤ o ∧ o ≤ 60 → n - j + 1 ≤ f → n - j + 1 ≤ k → (T.length : Int) + (mlv ob ab 0 ++ mpo R).length ≤ 2 * o → mC h0 b sz (mlv ob ab 0 ++ mpo R) T j o g →
    zW mX11_cond X dep 0 0 239 5 [(0, xR 169)] [] g (zQI (mO2 h0 b sz (mRun (zTK b (min sz 300)) (zTW b (min sz 300)) (zTV b (min sz 300)) f true (mlv ob ab 0 ++ mpo R) j o) T))
def mLB (X : zX) (dep : Nat) (h0 : zH) (b : Int → Int) (sz n : Int) (k : Nat) : Prop := ∀ (f : Nat) (R : List mLev) (ob ab : Bool) (T : List Int) (j o : Int) (g : zH), mwo R ≤ 12 → j ≤ n → 0 ≤ o ∧ o ≤ 60 → n - j + 1 ≤ f → n - j + 1 ≤ k → (T.length : Int) + (mlv ob ab 0 ++ mpo R).length + 1 ≤ 2 * o → mC h0 b sz (mlv ob ab 0 ++ mpo R) T j o g →
    zW mX11_cond X dep 0 0 239 14 [(0, xR 169)] [] g (zQI (mO2 h0 b sz (mRun (zTK b (min sz 300)) (zTW b (min sz 300)) (zTV b (min sz 300)) f false (mlv ob ab 0 ++ mpo R) j o) T))
theorem l_X11_cond_A (hz : 0 ≤ sz ∧ sz ≤ 340) (hk : (zTK b (min sz 300)) n = 0) (hdep : 4 ≤ dep) {k : Nat} (ih : mLB X dep h0 b sz n k) : mLA X dep h0 b sz n (k + 1) := by
  intro f R ob ab T j o g h1 h2 h3 h4 h5 h6 a
  refine bX11_cond_5 (rX11_cond_6 (l_X11_one_0 hz hk (by omega) f R ob ab 0 T j o g (by omega) h2 h3 h4 h6 a) (by omega) (fun v g1 q => ?_))
  rcases q with ⟨rfl, e, he, bd⟩ | ⟨rfl, R1, ob1, ab1, S, j1, o1, f1, a1, b1, b2, b3, b4, b5, hr⟩
  · refine bX11_cond_9 0 (fun c => absurd rfl c) (fun _ => ⟨rfl, _, rfl, ?_⟩)
    rw [he]
    exact ⟨rfl, bd⟩
  · refine bX11_cond_9 1 (fun _ => ?_) (fun c => absurd c (by decide))
    rw [hr]
    exact (ih f1 R1 ob1 ab1 (T ++ S) j1 o1 g1 b1 b2.2 b3 b4 (by omega) b5 a1).weaken (fun _ _ _ q => ⟨q.1, q.2.choose, q.2.choose_spec.1, mO2.seq q.2.choose_spec.2⟩)
theorem l_X11_cond_B (hz : 0 ≤ sz ∧ sz ≤ 340) (hk : (zTK b (min sz 300)) n = 0) (hdep : 4 ≤ dep) {k : Nat} (ihA : mLA X dep h0 b sz n k) (ihB : mLB X dep h0 b sz n k) : mLB X dep h0 b sz n (k + 1) := by
  intro f R ob ab T j o g h1 h2 h3 h4 h5 h6 a
  cases f with
  | zero => exfalso; omega
  | succ f =>
    have nk : ∀ x : Int, (zTK b (min sz 300)) x ≠ 0 → x ≤ n → x < n := fun x hx hx2 => by
      rcases Int.lt_or_eq_of_le hx2 with q | q
      · exact q
      · rw [q] at hx; exact absurd hk hx
    have p40 := mlv_bd ob ab 0 R (by omega)
    have pi := mPi_all ob ab 0 R
    have w10 : _ ↔ (zTW b (min sz 300)) j = 1000010 := a.2.2.1.wd 10 (by decide) (c := 6385252) (by decide +kernel)
    have w9 : _ ↔ (zTW b (min sz 300)) j = 1000009 := a.2.2.1.wd 9 (by decide) (c := 28530) (by decide +kernel)
    have s41 := a.2.2.1.kd.2.2.2.2.1 41 (by decide)
    have k1 := mTW_k1 (b := b) (x := min sz 300) (j := j)
    have p47 := a.2.2.2.2.1
    rw [mRun_B]
    have at99 : ∀ (l kk x : Int) (ob1 ab1 : Bool), (if l = 0 then 1 else 2 : Int) = kk → (if l = 0 then 22 else 21 : Int) = x → (zTW b (min sz 300)) j ≠ -1 → x :: (mpop kk (mlv ob ab 0 ++ mpo R)).2 = mlv ob1 ab1 0 ++ mpo R → zW mX11_cond X dep 0 0 239 99 [(0, xR 169), (1, xI l)] [] g (zQI (mO2 h0 b sz (zSeq ((mpop kk (mlv ob ab 0 ++ mpo R)).1.map mos) (mRun (zTK b (min sz 300)) (zTW b (min sz 300)) (zTV b (min sz 300)) f true (x :: (mpop kk (mlv ob ab 0 ++ mpo R)).2) (j + 1) o)) T)) := by
      intro l kk x ob1 ab1 e1 e2 hw e3
      have kj : (zTK b (min sz 300)) j ≠ 0 := by rw [k1 hw]; decide
      have jn := nk j kj h2
      have ln := mpop_ln kk (mlv ob ab 0 ++ mpo R)
      have l2 : (T ++ (mpop kk (mlv ob ab 0 ++ mpo R)).1.map mos).length = T.length + (mpop kk (mlv ob ab 0 ++ mpo R)).1.length := by rw [List.length_append, List.length_map]
      have l3 : (x :: (mpop kk (mlv ob ab 0 ++ mpo R)).2).length = (mpop kk (mlv ob ab 0 ++ mpo R)).2.length + 1 := List.length_cons
      refine bX11_cond_99 l ?_
      rw [e1]
      refine rX11_cond_109 l kk (a.drop kk pi p40 (by omega) (by omega)) (by omega) (fun g1 a1 => ?_)
      have q47 := a1.2.2.2.2.1
      refine bX11_cond_112 l (by omega) ?_
      rw [e2]
      have a2 := a1.ps x
      refine rX11_cond_143 (f_X11_nx hz a2.2.1 a2.2.2.1 kj (by omega)) (by omega) (fun g2 hg2 => bX11_cond_146 ?_)
      have a3 := a2.nx hg2.1 hg2.2.1 hg2.2.2
      rw [e3] at a3 l3 ⊢
      exact (ihA f R ob1 ab1 _ (j + 1) o g2 h1 (by omega) h3 (by omega) (by omega) (by omega) a3).weaken (fun _ _ _ q => ⟨q.1, q.2.choose, q.2.choose_spec.1, mO2.seq q.2.choose_spec.2⟩)
    have at57 : ¬ ((zTK b (min sz 300)) j = 41 ∧ (23 : Int) ∈ mlv ob ab 0 ++ mpo R) → zW mX11_cond X dep 0 0 239 57 [(0, xR 169)] [] g (zQI (mO2 h0 b sz (mStB (zTK b (min sz 300)) (zTW b (min sz 300)) (zTV b (min sz 300)) (mRun (zTK b (min sz 300)) (zTW b (min sz 300)) (zTV b (min sz 300)) f) (mlv ob ab 0 ++ mpo R) j o) T)) := by
      intro c1
      have eB : mStB (zTK b (min sz 300)) (zTW b (min sz 300)) (zTV b (min sz 300)) (mRun (zTK b (min sz 300)) (zTW b (min sz 300)) (zTV b (min sz 300)) f) (mlv ob ab 0 ++ mpo R) j o = if (zTW b (min sz 300)) j = 1000010 then zSeq ((mpop 2 (mlv ob ab 0 ++ mpo R)).1.map mos) (mRun (zTK b (min sz 300)) (zTW b (min sz 300)) (zTV b (min sz 300)) f true (21 :: (mpop 2 (mlv ob ab 0 ++ mpo R)).2) (j + 1) o)
          else if (zTW b (min sz 300)) j = 1000009 then zSeq ((mpop 1 (mlv ob ab 0 ++ mpo R)).1.map mos) (mRun (zTK b (min sz 300)) (zTW b (min sz 300)) (zTV b (min sz 300)) f true (22 :: (mpop 1 (mlv ob ab 0 ++ mpo R)).2) (j + 1) o)
          else if (23 : Int) ∈ mlv ob ab 0 ++ mpo R then .inl (1, j) else .inr (j, o, (mpop 1 (mlv ob ab 0 ++ mpo R)).1.map mos) := by
        unfold mStB
        rw [if_neg c1]
      rw [eB]
      refine bX11_cond_57 (by omega) (fun c => ?_) (fun c c2 => ?_) (fun c c2 => ?_)
      · have e := w10.mp (Classical.byContradiction fun y => c (zb_f y))
        rw [if_pos e, zb_t (w10.mpr e)]
        refine at99 1 2 21 ob true (by decide) (by decide) (by rw [e]; decide) ?_
        rw [mpop2]
        cases ob <;> rfl
      · have e := w9.mp c2
        rw [if_neg (by omega), if_pos e, c]
        refine at99 0 1 22 true false (by decide) (by decide) (by rw [e]; decide) ?_
        rw [mpop1]
        rfl
      · have n10 : ¬ (zTW b (min sz 300)) j = 1000010 := fun z => by
          rw [zb_t (w10.mpr z)] at c
          exact absurd c (by decide)
        rw [if_neg n10, if_neg (fun z => c2 (w9.mpr z))]
        refine bX11_cond_79 (rX11_cond_80 (zfI (f_X11_isOpen p47 (by omega) a.2.2.2.2.2.1)) (by omega) (fun v g1 q => ?_))
        obtain ⟨rfl, rfl⟩ := q
        by_cases m : (23 : Int) ∈ mlv ob ab 0 ++ mpo R
        · rw [zb_t m, if_pos m]
          refine bX11_cond_83 1 (fun c => absurd c (by decide)) (fun _ => ?_)
          refine bX11_cond_86 (rX11_cond_88 (m_bad 1) (by omega) (fun v f1 hf1 => ?_))
          obtain ⟨rfl, rfl⟩ := hf1
          exact bX11_cond_91 0 (Or.inl rfl) ⟨rfl, _, rfl, rfl, mBd.mk a.1 a.2.2.1 1⟩
        · rw [zb_f m, if_neg m]
          refine bX11_cond_83 0 (fun _ => ?_) (fun c => absurd rfl c)
          refine bX11_cond_92 (rX11_cond_94 (a.drop 1 pi p40 (by omega) (by omega)) (by omega) (fun g2 a2 => ?_))
          refine bX11_cond_97 ⟨rfl, _, rfl, rfl, ?_⟩
          have e : R = [] := Classical.byContradiction fun z => m ((mem23 ob ab 0 R).mpr z)
          have e2 : (mpop 1 (mlv ob ab 0 ++ mpo R)).2 = [] := by rw [mpop1, e]; rfl
          rw [e2] at a2
          exact a2
    refine bX11_cond_14 (by omega) (fun c => at57 (fun z => c (s41.mpr z.1))) (fun c => ?_)
    refine rX11_cond_24 (zfI (f_X11_isOpen p47 (by omega) a.2.2.2.2.2.1)) (by omega) (fun v g1 q => ?_)
    obtain ⟨rfl, rfl⟩ := q
    by_cases m : (23 : Int) ∈ mlv ob ab 0 ++ mpo R
    · rw [zb_t m]
      refine bX11_cond_27 1 (fun c => absurd c (by decide)) (fun _ => ?_)
      have kd := s41.mp c
      have eB : mStB (zTK b (min sz 300)) (zTW b (min sz 300)) (zTV b (min sz 300)) (mRun (zTK b (min sz 300)) (zTW b (min sz 300)) (zTV b (min sz 300)) f) (mlv ob ab 0 ++ mpo R) j o = zSeq ((mpop 1 (mlv ob ab 0 ++ mpo R)).1.map mos ++ (mpop 3 (mpop 1 (mlv ob ab 0 ++ mpo R)).2.tail).1.map mos) (mRun (zTK b (min sz 300)) (zTW b (min sz 300)) (zTV b (min sz 300)) f false (mpop 3 (mpop 1 (mlv ob ab 0 ++ mpo R)).2.tail).2 (j + 1) o) := by
        unfold mStB
        rw [if_pos ⟨kd, m⟩]
      rw [eB]
      have jn := nk j (by omega) h2
      cases R with
      | nil => exact absurd rfl ((mem23 ob ab 0 []).mp m)
      | cons w R =>
        have ew : mwo (w :: R) = mwo R + w.2.2 + 1 := rfl
        have ln := mpop_ln 1 (mlv ob ab 0 ++ mpo (w :: R))
        have e2 : (mpop 1 (mlv ob ab 0 ++ mpo (w :: R))).2 = 23 :: (mlv w.1 w.2.1 w.2.2 ++ mpo R) := by rw [mpop1]; rfl
        refine rX11_cond_32 (a.drop 1 pi p40 (by omega) (by omega)) (by omega) (fun g2 a2 => ?_)
        generalize (mpop 1 (mlv ob ab 0 ++ mpo (w :: R))).1 = S1 at *
        rw [e2] at a2 ln ⊢
        have q47 := a2.2.2.2.2.1
        rw [List.length_cons] at q47 ln
        refine bX11_cond_35 (by omega) ?_
        have a3 := a2.pop
        have ln3 := mpop_ln 3 (mlv w.1 w.2.1 w.2.2 ++ mpo R)
        have e3 : (mpop 3 (mlv w.1 w.2.1 w.2.2 ++ mpo R)).2 = mlv w.1 w.2.1 0 ++ mpo R := by rw [mpop3]
        have pr := mpo_le R
        have l2 : (T ++ S1.map mos).length = T.length + S1.length := by rw [List.length_append, List.length_map]
        refine rX11_cond_47 (a3.drop 3 (mPi_all _ _ _ _) (mlv_bd _ _ _ _ (by omega)) (by omega) (by omega)) (by omega) (fun g4 a4 => ?_)
        show zW mX11_cond X dep 0 0 239 50 [(0, xR 169)] [] g4 (zQI (mO2 h0 b sz (zSeq (S1.map mos ++ (mpop 3 (mlv w.1 w.2.1 w.2.2 ++ mpo R)).1.map mos) (mRun (zTK b (min sz 300)) (zTW b (min sz 300)) (zTV b (min sz 300)) f false (mpop 3 (mlv w.1 w.2.1 w.2.2 ++ mpo R)).2 (j + 1) o)) T))
        rw [e3] at a4 ln3 ⊢
        generalize (mpop 3 (mlv w.1 w.2.1 w.2.2 ++ mpo R)).1 = S2 at *
        refine bX11_cond_50 (rX11_cond_51 (f_X11_nx hz a4.2.1 a4.2.2.1 (by omega) (by omega)) (by omega) (fun g5 hg5 => bX11_cond_54 ?_))
        have a5 := a4.nx hg5.1 hg5.2.1 hg5.2.2
        rw [List.append_assoc] at a5
        have l3 : (T ++ (S1.map mos ++ S2.map mos)).length = T.length + (S1.length + S2.length) := by rw [List.length_append, List.length_append, List.length_map, List.length_map]
        exact (ihB f R w.1 w.2.1 _ (j + 1) o g5 (by omega) (by omega) h3 (by omega) (by omega) (by omega) a5).weaken (fun _ _ _ q => ⟨q.1, q.2.choose, q.2.choose_spec.1, mO2.seq q.2.choose_spec.2⟩)
    · rw [zb_f m]
      refine bX11_cond_27 0 (fun _ => at57 (fun z => m z.2)) (fun c => absurd rfl c)
theorem l_X11_cond_AB (hz : 0 ≤ sz ∧ sz ≤ 340) (hk : (zTK b (min sz 300)) n = 0) (hdep : 4 ≤ dep) : ∀ k : Nat, mLA X dep h0 b sz n k ∧ mLB X dep h0 b sz n k
  | 0 => ⟨fun f R ob ab T j o g h1 h2 h3 h4 h5 h6 a => by exfalso; omega, fun f R ob ab T j o g h1 h2 h3 h4 h5 h6 a => by exfalso; omega⟩
  | k + 1 => by
    have i := l_X11_cond_AB hz hk hdep k
    exact ⟨l_X11_cond_A hz hk hdep i.2, l_X11_cond_B hz hk hdep i.1 i.2⟩
/-- a law's reading, outside a COND -/
def mD (h0 : zH) (b : Int → Int) (sz : Int) (T : List Int) (j o : Int) (g : zH) : Prop := mFx mFS h0 g ∧ mTx b sz g ∧ mAt b sz j g ∧ g 169 48 = o ∧ mSl g T
theorem f_X11_cond (hz : 0 ≤ sz ∧ sz ≤ 340) (hk : (zTK b (min sz 300)) n = 0) (hw : (zTW b (min sz 300)) n = -1) (hdep : 4 ≤ dep) (T : List Int) (j o : Int) {g : zH} (hj : j ≤ n) (ho : 0 ≤ o ∧ o ≤ 60) (hT : (T.length : Int) ≤ 2 * o) (a : mD h0 b sz T j o g) :
    zW mX11_cond X dep 0 0 239 0 (zar 0 [xR 169]) [] g (zQI (mO2 h0 b sz (zPx (zTK b (min sz 300)) (zTW b (min sz 300)) (zTV b (min sz 300)) 300 2 0 j o) T)) := by
  refine bX11_cond_0 ?_
  have fx : mFx [47] g (zst g 169 47 0) := (mFx.rf _ g).st (by decide) _
  have a1 : mC h0 b sz [] T j o (zst g 169 47 0) := by
    refine ⟨a.1.tr (fx.mono (by decide)), a.2.1.fx fx (by decide), a.2.2.1.cg (fun k hk => fx.2 k (fun z => ?_)), (fx.2 48 (by decide)).trans a.2.2.2.1, zst_self _ _ _ _, trivial, a.2.2.2.2.cg (fx.2 46 (by decide)) (fun p k hp => zst_ne (Or.inl (by omega)))⟩
    rw [List.mem_singleton.mp z] at hk
    exact absurd hk (by decide)
  rw [← mRun_cond hk hw (fun x hx => mTW_k1 hx) (n - j + 1).toNat j o hj ho.1 ho.2 (by omega)]
  exact (l_X11_cond_AB hz hk hdep (n - j + 1).toNat).1 (n - j + 1).toNat [] false false T j o _ (by decide) hj ho (by omega) (by omega) (by show (T.length : Int) + ((0 : Nat) : Int) ≤ 2 * o; omega) a1
end
