/-! the model's law() -/
/-- the law of a text of sz bytes b -/
noncomputable def mRdM (b : Int → Int) (sz : Int) : (Int × Int) ⊕ zLV := zLl (zTK b (min sz 300)) (zTW b (min sz 300)) (zTV b (min sz 300)) (if sz ≤ 300 then 0 else 1) 21 ([], [], 20, 25, 30) 0 0
/-- the tape taken -/
def mTk0 (h : zH) : zH := zst (zst (zst (zst h 169 0 0) 169 3 (h 169 2)) 169 2 0) 169 4 0
/-- the tape taken, no fault yet -/
def mTk1 (h : zH) : zH := zst (mTk0 h) 169 53 0
theorem f_X11_law {X : zX} {dep : Nat} (d : Int) {h : zH} (hz : 0 ≤ h 169 2 ∧ h 169 2 ≤ 340) (hw : 0 ≤ h 169 45 ∧ h 169 45 ≤ 8) (hb : ∀ k : Int, 160 ≤ k → k < 180 → 0 ≤ h 200 k ∧ h 200 k ≤ 1) (hdep : 8 ≤ dep) :
    zW mX11_law X dep 0 0 239 0 (zar 0 [xR 169, xI d]) [] h (zQI (fun v f => (h 169 45 = 8 ∨ ¬ (h 169 5 ≤ d ∧ d ≤ 3639)) ∧ v = -1000 ∧ f = mTk0 h ∨ ¬ (h 169 45 = 8 ∨ ¬ (h 169 5 ≤ d ∧ d ≤ 3639)) ∧ mO5 (mTk1 h) (mbt (mTk0 h)) (h 169 2) d (mRdM (mbt (mTk0 h)) (h 169 2)) v f)) := by
  refine bX11_law_0 d hw (by omega) (fun c => ⟨rfl, _, rfl, Or.inl ⟨Or.inl c, rfl, rfl⟩⟩) (fun c1 c2 => ?_) (fun c1 c2 => ⟨rfl, _, rfl, Or.inl ⟨Or.inr c2, rfl, rfl⟩⟩)
  have c : ¬ (h 169 45 = 8 ∨ ¬ (h 169 5 ≤ d ∧ d ≤ 3639)) := fun z => z.elim c1 (fun y => y c2)
  have e9 : ∀ k : Int, k ≠ 0 → k ≠ 3 → k ≠ 2 → k ≠ 4 → mTk0 h 169 k = h 169 k := fun k k0 k1 k2 k3 => by
    unfold mTk0
    rw [zst_ne (Or.inr k3), zst_ne (Or.inr k2), zst_ne (Or.inr k1), zst_ne (Or.inr k0)]
  have eo : ∀ o k : Int, o ≠ 169 → mTk0 h o k = h o k := fun o k ho => by
    unfold mTk0
    rw [zst_ne (Or.inl ho), zst_ne (Or.inl ho), zst_ne (Or.inl ho), zst_ne (Or.inl ho)]
  have e3 : mTk0 h 169 3 = h 169 2 := by
    unfold mTk0
    rw [zst_ne (Or.inr (by decide)), zst_ne (Or.inr (by decide)), zst_self]
  have e4 : mTk0 h 169 4 = 0 := zst_self _ _ _ _
  show zW mX11_law X dep 0 0 239 36 [(0, xR 169), (1, xI d)] [] (mTk0 h) _
  have w2 : 0 ≤ mTk0 h 169 45 ∧ mTk0 h 169 45 < 8 := by rw [e9 45 (by decide) (by decide) (by decide) (by decide)]; omega
  have hb2 : ∀ k : Int, 160 ≤ k → k < 180 → 0 ≤ mTk0 h 200 k ∧ mTk0 h 200 k ≤ 1 := fun k k0 k1 => by rw [eo 200 k (by decide)]; exact hb k k0 k1
  unfold mTk1
  generalize mTk0 h = h1 at *
  have tx1 : mTx (mbt h1) (h 169 2) h1 := ⟨e3, rfl⟩
  obtain ⟨n, hk, hwn⟩ := mn_ex tx1.out hz
  refine bX11_law_36 d ?_
  have fy : mFy mLS (zst h1 169 53 0) (zst (zst (zst (zst (zst (zst (zst (zst h1 169 53 0) 169 55 0) 169 46 0) 169 48 0) 195 8 0) 192 8 20) 193 8 25) 194 8 30) :=
    (((((((mFy.rf mLS (zst h1 169 53 0)).st (by decide) 0).st (by decide) 0).st (by decide) 0).sc (Or.inl ⟨by decide, by decide, rfl⟩) 0 (fun z => absurd z (by decide))).sc (Or.inl ⟨by decide, by decide, rfl⟩) 20 (fun z => absurd z (by decide))).sc (Or.inl ⟨by decide, by decide, rfl⟩) 25 (fun z => absurd z (by decide))).sc (Or.inl ⟨by decide, by decide, rfl⟩) 30 (fun z => absurd z (by decide))
  have r9 : ∀ k : Int, zst (zst (zst (zst (zst (zst (zst (zst h1 169 53 0) 169 55 0) 169 46 0) 169 48 0) 195 8 0) 192 8 20) 193 8 25) 194 8 30 169 k = zst (zst (zst (zst h1 169 53 0) 169 55 0) 169 46 0) 169 48 0 169 k := fun k => by
    rw [zst_ne (Or.inl (by decide)), zst_ne (Or.inl (by decide)), zst_ne (Or.inl (by decide)), zst_ne (Or.inl (by decide))]
  have s48 : zst (zst (zst (zst (zst (zst (zst (zst h1 169 53 0) 169 55 0) 169 46 0) 169 48 0) 195 8 0) 192 8 20) 193 8 25) 194 8 30 169 48 = 0 := by rw [r9, zst_self]
  have s46 : zst (zst (zst (zst (zst (zst (zst (zst h1 169 53 0) 169 55 0) 169 46 0) 169 48 0) 195 8 0) 192 8 20) 193 8 25) 194 8 30 169 46 = 0 := by rw [r9, zst_ne (Or.inr (by decide)), zst_self]
  have s55 : zst (zst (zst (zst (zst (zst (zst (zst h1 169 53 0) 169 55 0) 169 46 0) 169 48 0) 195 8 0) 192 8 20) 193 8 25) 194 8 30 169 55 = 0 := by rw [r9, zst_ne (Or.inr (by decide)), zst_ne (Or.inr (by decide)), zst_self]
  have s195 : zst (zst (zst (zst (zst (zst (zst (zst h1 169 53 0) 169 55 0) 169 46 0) 169 48 0) 195 8 0) 192 8 20) 193 8 25) 194 8 30 195 8 = 0 := by rw [zst_ne (Or.inl (by decide)), zst_ne (Or.inl (by decide)), zst_ne (Or.inl (by decide)), zst_self]
  have s192 : zst (zst (zst (zst (zst (zst (zst (zst h1 169 53 0) 169 55 0) 169 46 0) 169 48 0) 195 8 0) 192 8 20) 193 8 25) 194 8 30 192 8 = 20 := by rw [zst_ne (Or.inl (by decide)), zst_ne (Or.inl (by decide)), zst_self]
  have s193 : zst (zst (zst (zst (zst (zst (zst (zst h1 169 53 0) 169 55 0) 169 46 0) 169 48 0) 195 8 0) 192 8 20) 193 8 25) 194 8 30 193 8 = 25 := by rw [zst_ne (Or.inl (by decide)), zst_self]
  have s194 : zst (zst (zst (zst (zst (zst (zst (zst h1 169 53 0) 169 55 0) 169 46 0) 169 48 0) 195 8 0) 192 8 20) 193 8 25) 194 8 30 194 8 = 30 := zst_self _ _ _ _
  generalize zst (zst (zst (zst (zst (zst (zst (zst h1 169 53 0) 169 55 0) 169 46 0) 169 48 0) 195 8 0) 192 8 20) 193 8 25) 194 8 30 = g at *
  have g4 : g 169 4 = 0 := by
    have := r9 4
    rw [zst_ne (Or.inr (by decide)), zst_ne (Or.inr (by decide)), zst_ne (Or.inr (by decide)), zst_ne (Or.inr (by decide))] at this
    exact this.trans e4
  have g3 : g 169 3 = h 169 2 := (fy.2.1 3 (by decide)).trans ((zst_ne (Or.inr (by decide))).trans e3)
  have gb : mbt g = mbt h1 := by
    funext i
    unfold mbt
    rw [fy.2.1 3 (by decide), fy.1 170 i (by decide) (by decide) (by unfold mScr; omega), zst_ne (Or.inr (by decide)), zst_ne (Or.inl (by decide))]
  refine rX11_law_92 d (f_X11_next_ (by rw [g3]; exact hz) (by rw [g4]; decide) (by omega)) (by omega) (fun f hf => ?_)
  obtain ⟨lf, lx⟩ := hf
  rw [gb, g3, g4] at lx
  have tf : mTx (mbt h1) (h 169 2) f := ⟨(lf.2 3 (by decide)).trans g3, lf.bt.trans gb⟩
  have e : ∀ p k : Int, p ≠ 169 → f p k = g p k := fun p k hp => lf.1 p k (fun z => hp (List.mem_singleton.mp z))
  have ms : mLs (zst h1 169 53 0) (mbt h1) (h 169 2) ([], [], 20, 25, 30) 0 0 f := by
    refine ⟨fy.tr (lf.fx.fy (by decide)), tf, ⟨Int.le_refl _, msk_le tf.out 400 0 hz.1, lx⟩, (lf.2 48 (by decide)).trans s48, ⟨(lf.2 46 (by decide)).trans s46, fun k hk => absurd hk (Nat.not_lt_zero k)⟩, (e 195 8 (by decide)).trans s195, fun i hi => absurd hi (Nat.not_lt_zero i), ?_, (e 192 8 (by decide)).trans s192, (e 193 8 (by decide)).trans s193, (e 194 8 (by decide)).trans s194⟩
    rw [lf.2 55 (by decide), s55]
    refine ⟨⟨by decide, by decide⟩, fun k k0 k1 => ?_⟩
    have z : ∀ k : Nat, k < 6 → zand (zshr 0 (k : Int)) 1 = 0 := by decide +kernel
    have zk := z k.toNat (by omega)
    rw [Int.toNat_of_nonneg k0] at zk
    rw [zk]
    constructor
    · intro q; exact absurd q (by decide)
    · rintro (q | q)
      · cases q
      · omega
  refine (l_X11_law_95 (h0 := zst h1 169 53 0) d hz hk hwn (by rw [zst_ne (Or.inr (by decide))]; exact w2) (fun k k0 k1 => by rw [zst_ne (Or.inl (by decide))]; exact hb2 k k0 k1) (by omega) 21 ([], [], 20, 25, 30) 0 0 f rfl (by decide) ms (by omega) (by decide) (by decide) (fun x hx => by cases hx)).weaken (fun _ _ _ q => ⟨q.1, q.2.choose, q.2.choose_spec.1, Or.inr ⟨c, q.2.choose_spec.2⟩⟩)
