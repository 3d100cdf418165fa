/-! the model reads a LINE: its head -/
def mkl (W : Int) : Int := if W = 1000000 then 0 else if W = 1000002 then 1 else if W = 1000004 then 2 else if W = 1000005 then 3 else if W = 1000006 then 4 else if W = 1000008 then 5 else -1
theorem mkl_in (W : Int) : mkl W = -1 ∨ 0 ≤ mkl W ∧ mkl W ≤ 5 := by
  unfold mkl
  repeat' split
  all_goals omega
theorem mkl_wl0 : ∀ i : Nat, i < 22 → zWl (1000000 + i) = mkl (1000000 + i) := by decide +kernel
theorem mkl_wl {b : Int → Int} {x j : Int} (h : zTW b x j ≠ -1) : zIs (zWl (zTW b x j)) (mkl (zTW b x j)) := by
  rcases mTW_in b x j with e | ⟨i, hi, e⟩
  · exact absurd e h
  · rw [e]
    exact mkl_wl0 i hi
/-- reading a LINE but for its end -/
def mLq (kd wd vl : Int → Int) (K : Int) (V : zLV) (o : Int) : (Int × Int) ⊕ (Int × Int × Int × Int × Int) → zRl
  | .inl e => .inl e
  | .inr r => if K = 0 ∨ K = 5 then .inr (r.1, o, (V.1 ++ [(K, r.2.1, (V.2.1.length : Int), (V.2.1.length : Int))], V.2.1, r.2.2)) else mLt kd wd vl V.1 (K, r.2.1, (V.2.1.length : Int), (V.2.1.length : Int)) V.2.1 r.2.2 r.1 o
def mLr (kd wd vl : Int → Int) (K : Int) (V : zLV) (j o : Int) : zRl :=
  if K = -1 then .inl (1, j)
  else if 20 ≤ (V.1.length : Int) ∨ (K = 0 ∨ K = 5) ∧ V.1.any (fun x => decide (x.1 = K)) = true then .inl (3, j)
  else mLq kd wd vl K V o (zHd kd wd vl K V.2.2.1 V.2.2.2.1 V.2.2.2.2 (j + 1))
def mEn (kd : Int → Int) : zRl → zRl
  | .inl e => .inl e
  | .inr q => zEn kd q.1 q.2.1 q.2.2
theorem zLnK_mLr {kd wd vl : Int → Int} {K : Int} {V : zLV} {j o : Int} (h : ¬ wd j < 0) : zLnK kd wd vl K V j o = mEn kd (mLr kd wd vl K V j o) := by
  unfold zLnK mLr
  by_cases c1 : K = -1
  · rw [if_pos (Or.inr c1), if_pos c1]
    rfl
  · rw [if_neg (fun z => z.elim h c1), if_neg c1]
    by_cases c2 : 20 ≤ (V.1.length : Int) ∨ (K = 0 ∨ K = 5) ∧ V.1.any (fun x => decide (x.1 = K)) = true
    · rw [if_pos c2, if_pos c2]
      rfl
    · rw [if_neg c2, if_neg c2]
      cases zHd kd wd vl K V.2.2.1 V.2.2.2.1 V.2.2.2.2 (j + 1) with
      | inl e => rfl
      | inr r =>
        show (if ¬ (K = 0 ∨ K = 5) ∧ wd r.1 = 1000003 then _ else _) = mEn kd (if K = 0 ∨ K = 5 then _ else _)
        by_cases c3 : K = 0 ∨ K = 5
        · rw [if_neg (fun z => z.1 c3), if_pos c3]
          rfl
        · rw [if_neg c3]
          unfold mLt
          by_cases c4 : wd r.1 = 1000003
          · rw [if_pos ⟨c3, c4⟩, if_pos c4]
            cases zPx kd wd vl 300 2 0 (r.1 + 1) o with
            | inl e => rfl
            | inr q => rfl
          · rw [if_neg (fun z => c4 z.2), if_neg c4]
            rfl
theorem zLn_mLr {b : Int → Int} {x j o : Int} {V : zLV} : zLn (zTK b x) (zTW b x) (zTV b x) V j o = mEn (zTK b x) (mLr (zTK b x) (zTW b x) (zTV b x) (mkl (zTW b x j)) V j o) := by
  by_cases c : zTW b x j = -1
  · unfold zLn mLr
    rw [if_pos (Or.inl (by rw [c]; decide)), if_pos (by rw [c]; decide)]
    rfl
  · rw [zLn_K (mkl_wl c)]
    refine zLnK_mLr ?_
    rcases mTW_in b x j with e | ⟨i, hi, e⟩
    · exact absurd e c
    · rw [e]; omega
section
variable {X : zX} {dep : Nat} {h0 : zH} {b : Int → Int} {sz n : Int}
theorem l_X11_line_135 {V : zLV} {j o K : Int} {g : zH} (a : mLs h0 b sz V j o g) (hK : 0 ≤ K ∧ K ≤ 5) (hl : V.1.length < 20) : mMd h0 b sz V.1 (K, (if K = 4 then 1 else 0), (V.2.1.length : Int), (V.2.1.length : Int)) V.2.1 V.2.2.1 V.2.2.2.1 V.2.2.2.2 j o (zst (zst (zst (zst (zst (zst g 196 (160 + (V.1.length : Int)) K) 197 (160 + (V.1.length : Int)) 0) 200 (160 + (V.1.length : Int)) 0) 198 (160 + (V.1.length : Int)) (V.2.1.length : Int)) 199 (160 + (V.1.length : Int)) (V.2.1.length : Int)) 169 55 (zor (g 169 55) (zshl 1 K))) := by
  obtain ⟨a1, a2, a3, a4, a5, a6, a7, a8, a9, a10, a11⟩ := a
  have sc : ∀ p : Int, 196 ≤ p → p ≤ 200 → mScr p (160 + (V.1.length : Int)) := fun p p0 p1 => Or.inr (Or.inl ⟨p0, p1, by omega⟩)
  have f1 := (((((a1.sc (sc 196 (by decide) (by decide)) K (fun z => absurd z (by decide))).sc (sc 197 (by decide) (by decide)) 0 (fun z => absurd z (by decide))).sc (sc 200 (by decide) (by decide)) 0 (fun _ => ⟨by decide, by decide⟩)).sc (sc 198 (by decide) (by decide)) (V.2.1.length : Int) (fun z => absurd z (by decide))).sc (sc 199 (by decide) (by decide)) (V.2.1.length : Int) (fun z => absurd z (by decide))).st (k := 55) (by decide) (zor (g 169 55) (zshl 1 K))
  have t1 := ((((a2.sc (o := 196) (by decide) (160 + (V.1.length : Int)) K).sc (o := 197) (by decide) (160 + (V.1.length : Int)) 0).sc (o := 200) (by decide) (160 + (V.1.length : Int)) 0).sc (o := 198) (by decide) (160 + (V.1.length : Int)) (V.2.1.length : Int)).sc (o := 199) (by decide) (160 + (V.1.length : Int)) (V.2.1.length : Int)
  have q1 := ((((a3.sc (o := 196) (by decide) (160 + (V.1.length : Int)) K).sc (o := 197) (by decide) (160 + (V.1.length : Int)) 0).sc (o := 200) (by decide) (160 + (V.1.length : Int)) 0).sc (o := 198) (by decide) (160 + (V.1.length : Int)) (V.2.1.length : Int)).sc (o := 199) (by decide) (160 + (V.1.length : Int)) (V.2.1.length : Int)
  -- what the six stores leave
  have e9 : ∀ k : Int, k ≠ 55 → zst (zst (zst (zst (zst (zst g 196 (160 + (V.1.length : Int)) K) 197 (160 + (V.1.length : Int)) 0) 200 (160 + (V.1.length : Int)) 0) 198 (160 + (V.1.length : Int)) (V.2.1.length : Int)) 199 (160 + (V.1.length : Int)) (V.2.1.length : Int)) 169 55 (zor (g 169 55) (zshl 1 K)) 169 k = g 169 k := fun k hk => by
    rw [zst_ne (Or.inr hk), zst_ne (Or.inl (by decide)), zst_ne (Or.inl (by decide)), zst_ne (Or.inl (by decide)), zst_ne (Or.inl (by decide)), zst_ne (Or.inl (by decide))]
  have eo : ∀ p k : Int, p ≠ 169 → (p < 196 ∨ 200 < p ∨ k ≠ 160 + (V.1.length : Int)) → zst (zst (zst (zst (zst (zst g 196 (160 + (V.1.length : Int)) K) 197 (160 + (V.1.length : Int)) 0) 200 (160 + (V.1.length : Int)) 0) 198 (160 + (V.1.length : Int)) (V.2.1.length : Int)) 199 (160 + (V.1.length : Int)) (V.2.1.length : Int)) 169 55 (zor (g 169 55) (zshl 1 K)) p k = g p k := fun p k hp hk => by
    rw [zst_ne (Or.inl hp), zst_ne (by omega), zst_ne (by omega), zst_ne (by omega), zst_ne (by omega), zst_ne (by omega)]
  refine ⟨f1, ⟨(zst_ne (Or.inr (by decide))).trans t1.1, (funext fun i => mbt_st _ 169 55 _ i ⟨by decide, Or.inr (by decide)⟩).trans t1.2⟩, q1.cg (fun k hk => zst_ne (Or.inr (fun z => ?_))), (e9 48 (by decide)).trans a4, a5.cg (e9 46 (by decide)) (fun p k hp => eo p k (by omega) (by omega)), (eo 195 8 (by decide) (Or.inl (by decide))).trans a6, fun i hi => (a7 i hi).cg (fun p p0 p1 => eo p _ (by omega) (Or.inr (Or.inr (by omega)))), ?_, (eo 192 8 (by decide) (Or.inl (by decide))).trans a9, (eo 193 8 (by decide) (Or.inl (by decide))).trans a10, (eo 194 8 (by decide) (Or.inl (by decide))).trans a11, ⟨?_, fun z => ?_, ?_, ?_, ?_⟩⟩
  · rw [z] at hk
    exact absurd hk (by decide)
  · rw [zst_self]
    exact a8.or (by decide) hK
  · rw [zst_ne (Or.inl (by decide)), zst_ne (Or.inl (by decide)), zst_ne (Or.inl (by decide)), zst_ne (Or.inl (by decide)), zst_ne (Or.inl (by decide)), zst_self]
  · rw [zst_ne (Or.inl (by decide)), zst_ne (Or.inl (by decide)), zst_ne (Or.inl (by decide)), zst_ne (Or.inl (by decide)), zst_self]
    have z' : K = 3 := z
    show (0 : Int) = if K = 4 then 1 else 0
    rw [if_neg (by omega)]
  · rw [zst_ne (Or.inl (by decide)), zst_ne (Or.inl (by decide)), zst_ne (Or.inl (by decide)), zst_self]
    show (0 : Int) = if K = 4 ∧ (if K = 4 then (1 : Int) else 0) = 0 then 1 else 0
    by_cases c : K = 4
    · rw [if_pos c, if_neg (fun z => absurd z.2 (by decide))]
    · rw [if_neg c, if_neg (fun z => c z.1)]
  · rw [zst_ne (Or.inl (by decide)), zst_ne (Or.inl (by decide)), zst_self]
  · rw [zst_ne (Or.inl (by decide)), zst_self]
theorem f_X11_line {V : zLV} {j o : Int} {g : zH} (hz : 0 ≤ sz ∧ sz ≤ 340) (hk : (zTK b (min sz 300)) n = 0) (hw : (zTW b (min sz 300)) n = -1) (a : mLs h0 b sz V j o g) (hj : j ≤ n) (ho : 0 ≤ o ∧ o ≤ 60) (hT : (V.2.1.length : Int) ≤ 2 * o) (hl : V.1.length ≤ 20) (hdep : 6 ≤ dep) :
    zW mX11_line X dep 0 0 239 0 (zar 0 [xR 169]) [] g (zQI (mO3 h0 b sz V.1 (mLr (zTK b (min sz 300)) (zTW b (min sz 300)) (zTV b (min sz 300)) (mkl ((zTW b (min sz 300)) j)) V j o))) := by
  have w0 : _ ↔ (zTW b (min sz 300)) j = 1000000 := a.2.2.1.wd 0 (by decide) (c := 6383461) (by decide +kernel)
  have w2 : _ ↔ (zTW b (min sz 300)) j = 1000002 := a.2.2.1.wd 2 (by decide) (c := 1718773093) (by decide +kernel)
  have w4 : _ ↔ (zTW b (min sz 300)) j = 1000004 := a.2.2.1.wd 4 (by decide) (c := 465491486066) (by decide +kernel)
  have w5 : _ ↔ (zTW b (min sz 300)) j = 1000005 := a.2.2.1.wd 5 (by decide) (c := 427020088179) (by decide +kernel)
  have w6 : _ ↔ (zTW b (min sz 300)) j = 1000006 := a.2.2.1.wd 6 (by decide) (c := 1936027236) (by decide +kernel)
  have w8 : _ ↔ (zTW b (min sz 300)) j = 1000008 := a.2.2.1.wd 8 (by decide) (c := 107135549923692) (by decide +kernel)
  have k1 := mTW_k1 (b := b) (x := min sz 300) (j := j)
  have nk : ∀ z : Int, (zTK b (min sz 300)) z ≠ 0 → z ≤ n → z < n := fun z hx hx2 => by
    rcases Int.lt_or_eq_of_le hx2 with q | q
    · exact q
    · rw [q] at hx; exact absurd hk hx
  have at86 : ∀ K : Int, mkl ((zTW b (min sz 300)) j) = K → zW mX11_line X dep 0 0 239 86 [(0, xR 169), (1, xI K)] [] g (zQI (mO3 h0 b sz V.1 (mLr (zTK b (min sz 300)) (zTW b (min sz 300)) (zTV b (min sz 300)) (mkl ((zTW b (min sz 300)) j)) V j o))) := by
    intro K eK
    have kin := mkl_in ((zTW b (min sz 300)) j)
    rw [eK] at kin ⊢
    have a6 := a.2.2.2.2.2.1
    have a46 := a.2.2.2.2.1.1
    have bit := a.2.2.2.2.2.2.2.1.2 K
    refine bX11_line_86 K (fun c => ?_) (fun c => ?_)
    · have K1 : K ≠ -1 := by omega
      have kj : (zTK b (min sz 300)) j ≠ 0 := by
        rw [k1 (fun z => ?_)]
        · decide
        · rw [z] at eK
          exact K1 (eK.symm.trans (by decide))
      have jn := nk j kj hj
      have K5 : 0 ≤ K ∧ K ≤ 5 := by omega
      have at129 : (20 ≤ (V.1.length : Int) ∨ (K = 0 ∨ K = 5) ∧ V.1.any (fun x => decide (x.1 = K)) = true) → zW mX11_line X dep 0 0 239 129 [(0, xR 169)] [] g (zQI (mO3 h0 b sz V.1 (mLr (zTK b (min sz 300)) (zTW b (min sz 300)) (zTV b (min sz 300)) K V j o))) := fun c2 => by
        refine bX11_line_129 (rX11_line_131 (m_bad2 3) (by omega) (fun v f hf => ?_))
        obtain ⟨rfl, rfl⟩ := hf
        refine bX11_line_134 0 (Or.inl rfl) ⟨rfl, _, rfl, ?_⟩
        unfold mLr
        rw [if_neg K1, if_pos c2]
        exact ⟨rfl, mBe.mk a.1 a.2.2.1 3⟩
      have at135 : ¬ (20 ≤ (V.1.length : Int) ∨ (K = 0 ∨ K = 5) ∧ V.1.any (fun x => decide (x.1 = K)) = true) → zW mX11_line X dep 0 0 239 135 [(0, xR 169), (1, xI K)] [] g (zQI (mO3 h0 b sz V.1 (mLr (zTK b (min sz 300)) (zTW b (min sz 300)) (zTV b (min sz 300)) K V j o))) := fun c2 => by
        have l20 : V.1.length < 20 := by
          have : ¬ 20 ≤ (V.1.length : Int) := fun z => c2 (Or.inl z)
          omega
        have eL : mLr (zTK b (min sz 300)) (zTW b (min sz 300)) (zTV b (min sz 300)) K V j o = mLq (zTK b (min sz 300)) (zTW b (min sz 300)) (zTV b (min sz 300)) K V o (zHd (zTK b (min sz 300)) (zTW b (min sz 300)) (zTV b (min sz 300)) K V.2.2.1 V.2.2.2.1 V.2.2.2.2 (j + 1)) := by
          unfold mLr
          rw [if_neg K1, if_neg c2]
        rw [eL]
        clear c2 eL at129 bit eK
        have m0 := l_X11_line_135 a K5 l20
        refine bX11_line_135 K (by omega) ?_
        rw [a6, a46]
        refine zW.sub (lv' := [(0, xR 169), (1, xI K), (2, xI (160 + (V.1.length : Int)))]) [1, 2, 0] rfl ?_
        refine rX11_line_201 K _ (f_X11_nx hz m0.2.1 m0.2.2.1 kj (by omega)) (by omega) (fun g1 hg1 => ?_)
        have m1 := m0.nx hg1.1 hg1.2.1 hg1.2.2
        clear m0
        have b6 := m1.2.2.2.2.2.1
        have rn := fun (p q : Int) => f_X11_readNumber (X := X) (dep := dep - 1) (b := b) (sz := sz) p q (j := j + 1) (g := g1) hz m1.2.1 m1.2.2.1 (by rw [b6]; omega) (by omega)
        have go306 : ∀ (nm j1 : Int) (f : zH), mMd h0 b sz V.1 (K, nm, (V.2.1.length : Int), (V.2.1.length : Int)) V.2.1 V.2.2.1 V.2.2.2.1 V.2.2.2.2 j1 o f → j1 ≤ n → zW mX11_line X dep 0 0 239 306 [(0, xR 169), (2, xI (160 + (V.1.length : Int)))] [] f (zQI (mO3 h0 b sz V.1 (mLt (zTK b (min sz 300)) (zTW b (min sz 300)) (zTV b (min sz 300)) V.1 (K, nm, (V.2.1.length : Int), (V.2.1.length : Int)) V.2.1 V.2.2 j1 o))) := fun nm j1 f m hj1 => l_X11_line_306 hz hk hw l20 rfl m hj1 ho hT (by omega)
        rcases (show K = 0 ∨ K = 1 ∨ K = 2 ∨ K = 3 ∨ K = 4 ∨ K = 5 by omega) with rfl | rfl | rfl | rfl | rfl | rfl
        · refine bX11_line_204 _ _ (fun _ => ?_) (fun c => absurd c (by decide))
          refine bX11_line_237 _ _ (fun c => absurd rfl c) (fun _ => ?_)
          refine rX11_line_243 _ _ (f_X11_ages hz l20 rfl m1 (by omega)) (by omega) (fun v f hf => ?_)
          refine bX11_line_246 _ _ v hf.v ⟨rfl, _, rfl, ?_⟩
          cases hr : zHd (zTK b (min sz 300)) (zTW b (min sz 300)) (zTV b (min sz 300)) 0 V.2.2.1 V.2.2.2.1 V.2.2.2.2 (j + 1) with
          | inl e => rw [hr] at hf; exact hf
          | inr r => rw [hr] at hf; exact hf
        · refine bX11_line_204 _ _ (fun _ => ?_) (fun c => absurd c (by decide))
          refine bX11_line_237 _ _ (fun _ => ?_) (fun c => absurd c (by decide))
          refine bX11_line_247 _ _ (fun _ => ?_) (fun c => absurd c (by decide))
          refine bX11_line_263 _ _ (fun _ => ?_) (fun c => absurd c (by decide))
          refine bX11_line_280 _ _ (by omega) (by omega) (fun _ => ?_) (fun c => absurd c (by decide)) (fun c => absurd c (by decide))
          exact go306 0 (j + 1) g1 m1 jn
        · refine bX11_line_204 _ _ (fun _ => ?_) (fun c => absurd c (by decide))
          refine bX11_line_237 _ _ (fun _ => ?_) (fun c => absurd c (by decide))
          refine bX11_line_247 _ _ (fun c => absurd rfl c) (fun _ => ?_)
          refine rX11_line_257 _ _ (rn 1 3000) (by omega) (fun v f hf => ?_)
          unfold zHd
          rw [if_neg (by decide), if_pos rfl]
          rcases hf with ⟨e1, e2, rfl, e4, e5, e6⟩ | ⟨e1, rfl, rfl⟩ | ⟨e1, e2, rfl, rfl⟩
          · rw [if_neg (fun z => z e1), if_neg (by omega)]
            refine bX11_line_260 _ _ 1 (fun c => absurd c (by decide)) (fun _ => ?_)
            refine bX11_line_263 _ _ (fun _ => ?_) (fun c => absurd c (by decide))
            refine bX11_line_280 _ _ (by omega) (by omega) (fun _ => ?_) (fun c => absurd c (by decide)) (fun c => absurd c (by decide))
            have j1n := nk (j + 1) (by rw [e1]; decide) jn
            exact go306 0 (j + 1 + 1) f (m1.rd e4 e5 e6 (nm := 0) (fun z => absurd (show (2 : Int) = 3 from z) (by decide)) (fun z => absurd (show (2 : Int) = 4 from z) (by decide))).1 j1n
          · rw [if_pos e1]
            exact bX11_line_260 _ _ 0 (fun _ => ⟨rfl, _, rfl, rfl, mBe.mk m1.1 m1.2.2.1 1⟩) (fun c => absurd rfl c)
          · rw [if_neg (fun z => z e1), if_pos (by omega)]
            exact bX11_line_260 _ _ 0 (fun _ => ⟨rfl, _, rfl, rfl, mBe.mk m1.1 m1.2.2.1 2⟩) (fun c => absurd rfl c)
        · refine bX11_line_204 _ _ (fun _ => ?_) (fun c => absurd c (by decide))
          refine bX11_line_237 _ _ (fun _ => ?_) (fun c => absurd c (by decide))
          refine bX11_line_247 _ _ (fun _ => ?_) (fun c => absurd c (by decide))
          refine bX11_line_263 _ _ (fun c => absurd rfl c) (fun _ => ?_)
          refine rX11_line_272 _ _ (rn 0 8) (by omega) (fun v f hf => ?_)
          unfold zHd
          rw [if_neg (by decide), if_neg (by decide), if_pos rfl]
          rcases hf with ⟨e1, e2, rfl, e4, e5, e6⟩ | ⟨e1, rfl, rfl⟩ | ⟨e1, e2, rfl, rfl⟩
          · rw [if_neg (fun z => z e1), if_neg (by omega)]
            refine bX11_line_275 _ _ 1 (fun _ => ?_) (fun c => absurd c (by decide))
            refine bX11_line_280 _ _ (by omega) (by omega) (fun _ => ?_) (fun c => absurd c (by decide)) (fun c => absurd c (by decide))
            have j1n := nk (j + 1) (by rw [e1]; decide) jn
            exact go306 ((zTV b (min sz 300)) (j + 1)) (j + 1 + 1) f (m1.rd e4 e5 e6 (nm := (zTV b (min sz 300)) (j + 1)) (fun _ => rfl) (fun z => absurd (show (3 : Int) = 4 from z) (by decide))).1 j1n
          · rw [if_pos e1]
            exact bX11_line_275 _ _ 0 (fun c => absurd rfl c) (fun _ => ⟨rfl, _, rfl, rfl, mBe.mk m1.1 m1.2.2.1 1⟩)
          · rw [if_neg (fun z => z e1), if_pos (by omega)]
            exact bX11_line_275 _ _ 0 (fun c => absurd rfl c) (fun _ => ⟨rfl, _, rfl, rfl, mBe.mk m1.1 m1.2.2.1 2⟩)
        · have w7 : _ ↔ (zTW b (min sz 300)) (j + 1) = 1000007 := m1.2.2.1.wd 7 (by decide) (c := 7237492) (by decide +kernel)
          have k17 := mTW_k1 (b := b) (x := min sz 300) (j := j + 1)
          refine bX11_line_204 _ _ (fun _ => ?_) (fun c => absurd c (by decide))
          refine bX11_line_237 _ _ (fun _ => ?_) (fun c => absurd c (by decide))
          refine bX11_line_247 _ _ (fun _ => ?_) (fun c => absurd c (by decide))
          refine bX11_line_263 _ _ (fun _ => ?_) (fun c => absurd c (by decide))
          unfold zHd
          rw [if_neg (by decide), if_neg (by decide), if_neg (by decide), if_pos rfl]
          refine bX11_line_280 _ _ (by omega) (by omega) (fun c => absurd rfl c) (fun _ c => ?_) (fun _ c => ?_)
          · rw [if_neg (fun z => c (w7.mpr z))]
            exact go306 1 (j + 1) g1 m1 jn
          · have c' := w7.mp c
            rw [if_pos c']
            have kj1 : (zTK b (min sz 300)) (j + 1) ≠ 0 := by rw [k17 (by omega)]; decide
            have j1n := nk (j + 1) kj1 jn
            have a12 := m1.2.2.2.2.2.2.2.2.2.2.2
            have m2 : mMd h0 b sz V.1 (4, 0, (V.2.1.length : Int), (V.2.1.length : Int)) V.2.1 V.2.2.1 V.2.2.2.1 V.2.2.2.2 (j + 1) o (zst g1 200 (160 + (V.1.length : Int)) 1) := by
              refine m1.sc (x' := (4, 0, (V.2.1.length : Int), (V.2.1.length : Int))) (v := 1) (Or.inr ⟨Or.inr (Or.inr rfl), rfl⟩) (fun _ => ⟨by decide, by decide⟩) rfl ⟨(zst_ne (Or.inl (by decide))).trans a12.1, fun z => absurd (show (4 : Int) = 3 from z) (by decide), ?_, (zst_ne (Or.inl (by decide))).trans a12.2.2.2.1, (zst_ne (Or.inl (by decide))).trans a12.2.2.2.2⟩ ((zst_ne (Or.inl (by decide))).trans m1.2.2.2.2.2.2.2.2.1) ((zst_ne (Or.inl (by decide))).trans m1.2.2.2.2.2.2.2.2.2.1) ((zst_ne (Or.inl (by decide))).trans m1.2.2.2.2.2.2.2.2.2.2.1)
              rw [zst_self]
              rfl
            refine bX11_line_302 _ (rX11_line_303 _ (f_X11_nx hz m2.2.1 m2.2.2.1 kj1 (by omega)) (by omega) (fun g3 hg3 => ?_))
            exact go306 0 (j + 1 + 1) g3 (m2.nx hg3.1 hg3.2.1 hg3.2.2) j1n
        · refine bX11_line_204 _ _ (fun c => absurd rfl c) (fun _ => ?_)
          refine rX11_line_214 _ _ (rn 0 999) (by omega) (fun v f hf => ?_)
          unfold zHd
          rw [if_neg (by decide), if_neg (by decide), if_neg (by decide), if_neg (by decide), if_pos rfl]
          rcases hf with ⟨e1, e2, rfl, e4, e5, e6⟩ | ⟨e1, rfl, rfl⟩ | ⟨e1, e2, rfl, rfl⟩
          · rw [if_neg (fun z => z e1), if_neg (by omega)]
            obtain ⟨m2, f2⟩ := m1.rd e4 e5 e6 (nm := 0) (fun z => absurd (show (5 : Int) = 3 from z) (by decide)) (fun z => absurd (show (5 : Int) = 4 from z) (by decide))
            refine bX11_line_217 _ _ 1 (fun _ => ?_) (fun c => absurd c (by decide))
            refine bX11_line_222 _ (by omega) ⟨rfl, _, rfl, rfl, (5, 0, (V.2.1.length : Int), (V.2.1.length : Int)), rfl, ?_⟩
            rw [f2]
            exact m2.sc (Or.inl ⟨Or.inr (Or.inr rfl), rfl⟩) (fun z => absurd z (by decide)) rfl (m2.2.2.2.2.2.2.2.2.2.2.2.cg (fun p p0 p1 => zst_ne (Or.inl (by omega)))) ((zst_ne (Or.inl (by decide))).trans m2.2.2.2.2.2.2.2.2.1) ((zst_ne (Or.inl (by decide))).trans m2.2.2.2.2.2.2.2.2.2.1) (zst_self _ _ _ _)
          · rw [if_pos e1]
            exact bX11_line_217 _ _ 0 (fun c => absurd rfl c) (fun _ => ⟨rfl, _, rfl, rfl, mBe.mk m1.1 m1.2.2.1 1⟩)
          · rw [if_neg (fun z => z e1), if_pos (by omega)]
            exact bX11_line_217 _ _ 0 (fun c => absurd rfl c) (fun _ => ⟨rfl, _, rfl, rfl, mBe.mk m1.1 m1.2.2.1 2⟩)
      refine bX11_line_96 K (fun c2 => at129 (Or.inl (by omega))) (fun c2 c3 c4 => at135 (fun z => ?_)) (fun c2 c3 c4 => at129 (Or.inr ⟨Or.inl c3, ?_⟩)) (fun c2 c3 c4 => at135 (fun z => ?_)) (fun c2 c3 c4 c5 => at135 (fun z => ?_)) (fun c2 c3 c4 c5 => at129 (Or.inr ⟨Or.inr c4, ?_⟩))
      · rcases z with z | z
        · omega
        · exact c4 ((bit K5.1 K5.2).mpr (Or.inl z.2))
      · rcases (bit K5.1 K5.2).mp c4 with z | z
        · exact z
        · exact absurd z K1
      · rcases z with z | z
        · omega
        · exact z.1.elim c3 c4
      · rcases z with z | z
        · omega
        · exact c5 ((bit K5.1 K5.2).mpr (Or.inl z.2))
      · rcases (bit K5.1 K5.2).mp c5 with z | z
        · exact z
        · exact absurd z K1
    · refine bX11_line_90 (rX11_line_92 (m_bad2 1) (by omega) (fun v f hf => ?_))
      obtain ⟨rfl, rfl⟩ := hf
      refine bX11_line_95 0 (Or.inl rfl) ⟨rfl, _, rfl, ?_⟩
      unfold mLr
      rw [if_pos (show K = -1 by omega)]
      exact ⟨rfl, mBe.mk a.1 a.2.2.1 1⟩
  refine bX11_line_0 (by omega) (fun c0 c2 c4 c5 c6 c8 => at86 _ ?_) (fun c0 c2 c4 c5 c6 c8 => at86 _ ?_) (fun c0 c2 c4 c5 c6 => at86 _ ?_) (fun c0 c2 c4 c5 => at86 _ ?_) (fun c0 c2 c4 => at86 _ ?_) (fun c0 c2 => at86 _ ?_) (fun c0 => at86 _ ?_)
  · unfold mkl
    rw [if_neg (fun z => c0 (w0.mpr z)), if_neg (fun z => c2 (w2.mpr z)), if_neg (fun z => c4 (w4.mpr z)), if_neg (fun z => c5 (w5.mpr z)), if_neg (fun z => c6 (w6.mpr z)), if_neg (fun z => c8 (w8.mpr z))]
  · rw [w8.mp c8]; rfl
  · rw [w6.mp c6]; rfl
  · rw [w5.mp c5]; rfl
  · rw [w4.mp c4]; rfl
  · rw [w2.mp c2]; rfl
  · rw [w0.mp c0]; rfl
end
