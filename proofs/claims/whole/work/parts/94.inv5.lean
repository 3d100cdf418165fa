/-! the tape's bytes; feeding; a new man; a new lot -/
theorem zi2b_in (a : Int) : -128 ≤ zi2b a ∧ zi2b a ≤ 127 := by
  unfold zi2b
  rw [Int8.toInt_toInt32]
  have a1 := Int8.le_toInt (Int32.ofInt a).toInt8
  have a2 := Int8.toInt_lt (Int32.ofInt a).toInt8
  omega
theorem zby0 : ∀ n : Nat, n < 256 → zand ((n : Int) - 128) 255 = if 128 ≤ n then (n : Int) - 128 else (n : Int) + 128 := by decide +kernel
theorem zby {x : Int} (h : -128 ≤ x ∧ x ≤ 127) : zand x 255 = if 0 ≤ x then x else x + 256 := by
  have z := zby0 (x + 128).toNat (by omega)
  rw [show (((x + 128).toNat : Nat) : Int) - 128 = x by omega] at z
  rw [z]
  by_cases c : 0 ≤ x
  · rw [if_pos (by omega), if_pos c]
  · rw [if_neg (by omega), if_neg c]; omega
section
variable {h : zH}
theorem zput4_o {A O K a p : Int} (h1 : p ≠ A) (h2 : p ≠ O) : zput4 h A O K a p = h p := by
  unfold zput4
  rw [zfn h2, zfn h1, zfn h2, zfn h1, zfn h2, zfn h1, zfn h2, zfn h1]
theorem zput4_k {A O K a k : Int} (hn : A ≠ O) (hk : k ≠ K) : zput4 h A O K a O k = h O k := by
  unfold zput4
  rw [zst_ne (Or.inr hk), zst_ne (Or.inl hn.symm), zst_ne (Or.inr hk), zst_ne (Or.inl hn.symm), zst_ne (Or.inr hk), zst_ne (Or.inl hn.symm), zst_ne (Or.inr hk), zst_ne (Or.inl hn.symm)]
theorem zput4_a {A O K a i : Int} (hn : A ≠ O) : zput4 h A O K a A i = if i = h O K + 3 then zi2b (zi2b (zshr a 0)) else if i = h O K + 2 then zi2b (zi2b (zshr a 8)) else if i = h O K + 1 then zi2b (zi2b (zshr a 16)) else if i = h O K then zi2b (zi2b (zshr a 24)) else h A i := by
  unfold zput4
  rw [zst_ne (Or.inl hn)]
  by_cases c3 : i = h O K + 3
  · rw [if_pos c3, c3, zst_self]
  · rw [if_neg c3, zst_ne (Or.inr c3), zst_ne (Or.inl hn)]
    by_cases c2 : i = h O K + 2
    · rw [if_pos c2, c2, zst_self]
    · rw [if_neg c2, zst_ne (Or.inr c2), zst_ne (Or.inl hn)]
      by_cases c1 : i = h O K + 1
      · rw [if_pos c1, c1, zst_self]
      · rw [if_neg c1, zst_ne (Or.inr c1), zst_ne (Or.inl hn)]
        by_cases c0 : i = h O K
        · rw [if_pos c0, c0, zst_self]
        · rw [if_neg c0, zst_ne (Or.inr c0)]
end
/-- the class's tape in c is the model's in m -/
def vT2 (c m : zH) : Prop := 0 ≤ c 1 1 ∧ m 169 2 = c 1 1 ∧ ∀ i : Int, 0 ≤ i → i < c 1 1 → m 170 i = c 2 i ∧ -128 ≤ c 2 i ∧ c 2 i ≤ 127
theorem vT2.put {c m : zH} (t : vT2 c m) (a : Int) : vT2 (zput4 c 2 1 1 a) (zput4 m 170 169 2 a) := by
  obtain ⟨t0, t1, t2⟩ := t
  have e1 : zput4 c 2 1 1 a 1 1 = c 1 1 + 4 := zput4_len (by decide)
  have e2 : zput4 m 170 169 2 a 169 2 = m 169 2 + 4 := zput4_len (by decide)
  refine ⟨by omega, by omega, fun i i0 i1 => ?_⟩
  rw [zput4_a (by decide), zput4_a (by decide), t1]
  have z := zi2b_in
  by_cases c3 : i = c 1 1 + 3
  · rw [if_pos c3, if_pos c3]; exact ⟨rfl, z _⟩
  · rw [if_neg c3, if_neg c3]
    by_cases c2 : i = c 1 1 + 2
    · rw [if_pos c2, if_pos c2]; exact ⟨rfl, z _⟩
    · rw [if_neg c2, if_neg c2]
      by_cases c1 : i = c 1 1 + 1
      · rw [if_pos c1, if_pos c1]; exact ⟨rfl, z _⟩
      · rw [if_neg c1, if_neg c1]
        by_cases c0 : i = c 1 1
        · rw [if_pos c0, if_pos c0]; exact ⟨rfl, z _⟩
        · rw [if_neg c0, if_neg c0]
          exact t2 i i0 (by omega)
theorem vT2.fed {c m : zH} (t : vT2 c m) (a b x d e : Int) : vT2 (zfed c 2 1 1 a b x d e) (zfed m 170 169 2 a b x d e) := ((((t.put a).put b).put x).put d).put e
theorem zfed_o {h : zH} {A O K a b c d e p : Int} (h1 : p ≠ A) (h2 : p ≠ O) : zfed h A O K a b c d e p = h p := by
  unfold zfed
  rw [zput4_o h1 h2, zput4_o h1 h2, zput4_o h1 h2, zput4_o h1 h2, zput4_o h1 h2]
theorem zfed_k {h : zH} {A O K a b c d e k : Int} (hn : A ≠ O) (hk : k ≠ K) : zfed h A O K a b c d e O k = h O k := by
  unfold zfed
  rw [zput4_k hn hk, zput4_k hn hk, zput4_k hn hk, zput4_k hn hk, zput4_k hn hk]
section
variable {X : zX} {dep : Nat} {h : zH}
theorem v_feed (a b c d e : Int) (I : vI h) (hdep : 1 ≤ dep) : vP1 X dep mX10_feed mX11_feed [xI a, xI b, xI c, xI d, xI e] h := by
  have tp := I.1
  refine vP1.mk (f_X10_feed a b c d e tp.1 hdep) (fun v g p => ?_)
  rcases p with ⟨p1, rfl, rfl⟩ | ⟨p1, rfl, rfl⟩
  · have e2 : zfed h 2 1 1 a b c d e 169 2 = h 1 1 := by rw [zfed_o (by decide) (by decide)]; exact tp.2.1
    refine ⟨_, f_X11_feed a b c d e (by rw [e2]; exact tp.1) hdep, fun w f q => ?_⟩
    rw [e2] at q
    rcases q with ⟨q1, rfl, rfl⟩ | ⟨q1, -, -⟩
    · refine ⟨rfl, ?_⟩
      have t2 : vT2 h (zst (zfed h 2 1 1 a b c d e) 169 0 0) := by
        refine ⟨tp.1.1, ?_, fun i i0 i1 => ?_⟩
        · rw [zst_ne (Or.inr (by decide))]; exact e2
        · rw [zfn (by decide), zfed_o (by decide) (by decide)]
          exact tp.2.2 i i0 i1
      have t3 := t2.fed a b c d e
      have o1 : zfed (zst (zfed h 2 1 1 a b c d e) 169 0 0) 170 169 2 a b c d e 1 = zfed h 2 1 1 a b c d e 1 := by rw [zfed_o (by decide) (by decide), zfn (by decide)]
      have o2 : zfed (zst (zfed h 2 1 1 a b c d e) 169 0 0) 170 169 2 a b c d e 2 = zfed h 2 1 1 a b c d e 2 := by rw [zfed_o (by decide) (by decide), zfn (by decide)]
      have ln : zfed h 2 1 1 a b c d e 1 1 = h 1 1 + 20 := by
        unfold zfed
        rw [zput4_len (by decide), zput4_len (by decide), zput4_len (by decide), zput4_len (by decide), zput4_len (by decide)]
        omega
      refine I.tape ⟨?_, ?_, fun i i0 i1 => ?_⟩ (fun o h1 h2 h3 h4 => ?_) (fun k h1 h2 h3 h4 => ?_)
      · rw [o1, ln]
        have := tp.1
        omega
      · rw [o1]; exact t3.2.1
      · rw [o1] at i1
        rw [o2]
        exact t3.2.2 i i0 i1
      · rw [zfed_o h3 h4, zfn h4, zfed_o h2 h1]
      · rw [zfed_k (by decide) h2, zst_ne (Or.inr h1), zfed_o (by decide) (by decide)]
    · exact absurd p1 q1
  · refine ⟨_, f_X11_feed a b c d e (by rw [tp.2.1]; exact tp.1) hdep, fun w f q => ?_⟩
    rw [tp.2.1] at q
    rcases q with ⟨q1, -, -⟩ | ⟨q1, rfl, rfl⟩
    · exact absurd q1 p1
    · exact ⟨rfl, I.th⟩
theorem vI.tk (I : vI h) : vI (mTk (zst h 1 1 0)) := by
  have ne : ∀ k : Int, k ≠ 0 → k ≠ 2 → k ≠ 3 → k ≠ 4 → mTk (zst h 1 1 0) 169 k = h 169 k := fun k h0 h2 h3 h4 => by
    rw [mTk_ne _ _ (Or.inr ⟨h0, h2, h3, h4⟩), zst_ne (Or.inl (by decide))]
  have e1 : mTk (zst h 1 1 0) 1 1 = 0 := by
    rw [mTk_ne _ _ (Or.inl (by decide)), zst_self]
  refine I.tape ⟨by rw [e1]; decide, ?_, fun i i0 i1 => ?_⟩ (fun o h1 h2 h3 h4 => ?_) (fun k h0 h2 h3 h4 => ne k h0 h2 h3 h4)
  · rw [e1]
    show zst (zst _ 169 2 0) 169 4 0 169 2 = 0
    rw [zst_ne (Or.inr (by decide)), zst_self]
  · rw [e1] at i1; omega
  · funext k
    rw [mTk_ne _ _ (Or.inl h4), zst_ne (Or.inl h1)]
theorem v_name (I : vI h) {g : zH} (e2 : g 169 2 = h 169 2) (e : g 170 = h 170) : zName h ↔ mName g := by
  have tp := I.1
  unfold zName mName
  rw [e2, e, tp.2.1]
  refine and_congr_right fun l => forall_congr' fun i => forall_congr' fun i0 => forall_congr' fun i1 => ?_
  obtain ⟨b1, b2⟩ := tp.2.2 i i0 i1
  have z : zat h i = zand (h 2 i) 255 := if_pos ⟨i0, i1⟩
  rw [z, zby b2, b1]
  by_cases c : 0 ≤ h 2 i
  · rw [if_pos c]
  · rw [if_neg c]; omega
theorem v_man (p q : Int) (I : vI h) (hdep : 3 ≤ dep) : vP1 X dep mX10_man mX11_man [xI p, xI q] h := by
  have J := I
  obtain ⟨tp, nm, me, bi, fa, ex, sa, se, lw, lt, fl, md, bl⟩ := J
  have m25 := me.2.1
  have m3 := me.1
  refine vP1.mk (f_X10_man p q tp.1 m3 hdep) (fun v g P => ?_)
  rcases P with ⟨⟨c1, c2, c3, c4⟩, rfl, hg⟩ | ⟨c, rfl, rfl⟩
  · have go : ∀ o : Int, o ≠ 1 → o ≠ 3 → o ≠ 4 → o ≠ 5 → o ≠ 6 → g o = h o := fun o h1 h3 h4 h5 h6 => by rw [hg, zfn h3, zfn h6, zfn h5, zfn h4, zfn h1]
    have g25 : g 169 25 = h 3 0 := by rw [go 169 (by decide) (by decide) (by decide) (by decide) (by decide)]; exact m25
    have g2 : g 169 2 = h 1 1 := by rw [go 169 (by decide) (by decide) (by decide) (by decide) (by decide)]; exact tp.2.1
    have nmm := (v_name I (g := g) (by rw [go 169 (by decide) (by decide) (by decide) (by decide) (by decide)]) (go 170 (by decide) (by decide) (by decide) (by decide) (by decide))).mp c1
    refine ⟨_, f_X11_man p q (by rw [g25]; exact m3) (by rw [g2]; exact tp.1) (by omega), fun w f Q => ?_⟩
    rw [g25] at Q
    rcases Q with ⟨-, rfl, hf⟩ | ⟨c', -, -⟩
    · refine ⟨rfl, ?_⟩
      have g170 : g 170 0 = h 170 0 := by rw [go 170 (by decide) (by decide) (by decide) (by decide) (by decide)]
      rw [g170] at hf
      have fo : ∀ o : Int, o ≠ 169 → o ≠ 171 → o ≠ 172 → o ≠ 173 → f o = g o := fun o h1 h2 h3 h4 => by
        rw [hf, zfn h1, zfn h4, zfn h3, zfn h2]
        exact funext fun k => mTk_ne o k (Or.inl h1)
      have f9 : ∀ k : Int, k ≠ 0 → k ≠ 2 → k ≠ 3 → k ≠ 4 → k ≠ 25 → f 169 k = g 169 k := fun k h0 h2 h3 h4 h5 => by
        rw [hf, zst_ne (Or.inr h5), zst_ne (Or.inl (by decide)), zst_ne (Or.inl (by decide)), zst_ne (Or.inl (by decide)), mTk_ne _ _ (Or.inr ⟨h0, h2, h3, h4⟩)]
      have f25 : f 169 25 = h 3 0 + 1 := by rw [hf, zst_self]
      have f2 : f 169 2 = 0 := by
        rw [hf, zst_ne (Or.inr (by decide)), zst_ne (Or.inl (by decide)), zst_ne (Or.inl (by decide)), zst_ne (Or.inl (by decide))]
        show zst (zst _ 169 2 0) 169 4 0 169 2 = 0
        rw [zst_ne (Or.inr (by decide)), zst_self]
      have f171 : ∀ m : Int, f 171 m = if m = h 3 0 then h 170 0 - 97 else h 171 m := fun m => by
        rw [hf, zst_ne (Or.inl (by decide)), zst_ne (Or.inl (by decide)), zst_ne (Or.inl (by decide))]
        by_cases c : m = h 3 0
        · rw [if_pos c, c, zst_self]
        · rw [if_neg c, zst_ne (Or.inr c), mTk_ne _ _ (Or.inl (by decide)), go 171 (by decide) (by decide) (by decide) (by decide) (by decide)]
      have f172 : ∀ m : Int, f 172 m = if m = h 3 0 then p else h 172 m := fun m => by
        rw [hf, zst_ne (Or.inl (by decide)), zst_ne (Or.inl (by decide))]
        by_cases c : m = h 3 0
        · rw [if_pos c, c, zst_self]
        · rw [if_neg c, zst_ne (Or.inr c), zst_ne (Or.inl (by decide)), mTk_ne _ _ (Or.inl (by decide)), go 172 (by decide) (by decide) (by decide) (by decide) (by decide)]
      have f173 : ∀ m : Int, f 173 m = if m = h 3 0 then q else h 173 m := fun m => by
        rw [hf, zst_ne (Or.inl (by decide))]
        by_cases c : m = h 3 0
        · rw [if_pos c, c, zst_self]
        · rw [if_neg c, zst_ne (Or.inr c), zst_ne (Or.inl (by decide)), zst_ne (Or.inl (by decide)), mTk_ne _ _ (Or.inl (by decide)), go 173 (by decide) (by decide) (by decide) (by decide) (by decide)]
      have k30 : f 3 0 = h 3 0 + 1 := by rw [fo 3 (by decide) (by decide) (by decide) (by decide), hg, zst_self]
      have k4 : ∀ m : Int, f 4 m = if m = h 3 0 then p else h 4 m := fun m => by
        rw [fo 4 (by decide) (by decide) (by decide) (by decide), hg, zst_ne (Or.inl (by decide)), zst_ne (Or.inl (by decide)), zst_ne (Or.inl (by decide))]
        by_cases c : m = h 3 0
        · rw [if_pos c, c, zst_self]
        · rw [if_neg c, zst_ne (Or.inr c), zst_ne (Or.inl (by decide))]
      have k5 : ∀ m : Int, f 5 m = if m = h 3 0 then q else h 5 m := fun m => by
        rw [fo 5 (by decide) (by decide) (by decide) (by decide), hg, zst_ne (Or.inl (by decide)), zst_ne (Or.inl (by decide))]
        by_cases c : m = h 3 0
        · rw [if_pos c, c, zst_self]
        · rw [if_neg c, zst_ne (Or.inr c), zst_ne (Or.inl (by decide)), zst_ne (Or.inl (by decide))]
      have k6 : ∀ m : Int, f 6 m = if m = h 3 0 then zat h 0 - 97 else h 6 m := fun m => by
        rw [fo 6 (by decide) (by decide) (by decide) (by decide), hg, zst_ne (Or.inl (by decide))]
        by_cases c : m = h 3 0
        · rw [if_pos c, c, zst_self]
        · rw [if_neg c, zst_ne (Or.inr c), zst_ne (Or.inl (by decide)), zst_ne (Or.inl (by decide)), zst_ne (Or.inl (by decide))]
      have k1 : f 1 1 = 0 := by rw [fo 1 (by decide) (by decide) (by decide) (by decide), hg, zst_ne (Or.inl (by decide)), zst_ne (Or.inl (by decide)), zst_ne (Or.inl (by decide)), zst_ne (Or.inl (by decide)), zst_self]
      have eo : ∀ o : Int, o ≠ 1 ∧ (o < 3 ∨ 6 < o) ∧ o ≠ 169 ∧ (o < 171 ∨ 173 < o) → f o = h o := fun o ho => (fo o (by omega) (by omega) (by omega) (by omega)).trans (go o (by omega) (by omega) (by omega) (by omega) (by omega))
      have e9 : ∀ k : Int, (k ≠ 0 ∧ k ≠ 2 ∧ k ≠ 3 ∧ k ≠ 4) ∧ k ≠ 25 → f 169 k = h 169 k := fun k hk => (f9 k (by omega) (by omega) (by omega) (by omega) (by omega)).trans (by rw [go 169 (by decide) (by decide) (by decide) (by decide) (by decide)])
      have e3 : h 3 0 ≤ f 3 0 := by omega
      have e10 : h 0 10 ≤ f 0 10 := by rw [eo 0 (by omega)]; exact Int.le_refl _
      -- the first letter
      have z0 := c1.2 0 (by decide) (by have := c1.1; omega)
      have b0 := tp.2.2 0 (by decide) (by have := c1.1; omega)
      have za : zat h 0 = h 170 0 := by
        have z : zat h 0 = zand (h 2 0) 255 := if_pos ⟨by decide, by have := c1.1; omega⟩
        rw [z, zby b0.2] at z0
        rw [z, zby b0.2, b0.1]
        by_cases c : 0 ≤ h 2 0
        · rw [if_pos c]
        · rw [if_neg c] at z0; omega
      clear hf hg
      refine ⟨⟨by rw [k1]; decide, by rw [k1, f2], fun i i0 i1 => by rw [k1] at i1; omega⟩, nm.tr (fun k _ _ => by rw [eo 0 (by omega)]) (fun k hk => e9 k (by omega)), ⟨by omega, by omega, fun m h0 h1 => ?_⟩, bi.tr (eo 7 (by omega)) (eo 8 (by omega)) e3 (e9 26 (by omega)) (fun o _ _ => eo o (by omega)) e10, fa.tr (eo 9 (by omega)) (eo 10 (by omega)) e3 (e9 27 (by omega)) (fun o _ _ => eo o (by omega)) e10, ex.tr (eo 11 (by omega)) (eo 12 (by omega)) e3 (e9 28 (by omega)) (fun o _ _ => eo o (by omega)) e10, sa.tr (eo 13 (by omega)) (eo 14 (by omega)) e3 (e9 29 (by omega)) (fun o _ _ => eo o (by omega)) e10, se.tr (eo 15 (by omega)) (eo 16 (by omega)) e3 (e9 85 (by omega)) (fun o _ _ => eo o (by omega)) e10, lw.tr (by rw [eo 0 (by omega)]) e10 (e9 45 (by omega)) (fun o ho => eo o (by omega)) (fun o k _ _ _ => by rw [eo o (by omega)]), lt.tr (by rw [eo 0 (by omega)]) (e9 65 (by omega)) (fun o l _ _ ho => eo o (by omega)) (fun l q l0 l1 q0 q1 => by rw [eo (125 + 14 * l) (by omega), eo (113 + 14 * l) (by omega)]; exact lt.2.2.2.2.2 l q l0 l1 q0 q1), fl.tr (by rw [eo 44 (by omega)]) (e9 96 (by omega)) (fun o ho => eo o (by omega)), md.tr (by rw [eo 0 (by omega)]) (e9 89 (by omega)) (eo 64 (by omega)) (eo 228 (by omega)), fun k k0 k1 => by rw [eo 200 (by omega)]; exact bl k k0 k1⟩
      rw [k4, k5, k6, f171, f172, f173]
      by_cases c : m = h 3 0
      · rw [if_pos c, if_pos c, if_pos c, if_pos c, if_pos c, if_pos c, za]
        rw [za] at z0
        omega
      · rw [if_neg c, if_neg c, if_neg c, if_neg c, if_neg c, if_neg c]
        exact me.2.2 m h0 (by omega)
    · exact absurd ⟨by rw [g25]; omega, by omega, by omega, nmm⟩ c'
  · have g2 : zst h 1 1 0 169 2 = h 1 1 := (zst_ne (Or.inl (by decide))).trans tp.2.1
    have g25 : zst h 1 1 0 169 25 = h 3 0 := (zst_ne (Or.inl (by decide))).trans m25
    refine ⟨_, f_X11_man p q (by rw [g25]; exact m3) (by rw [g2]; exact tp.1) (by omega), fun w f Q => ?_⟩
    rcases Q with ⟨c', -, -⟩ | ⟨-, rfl, rfl⟩
    · exfalso
      obtain ⟨d1, d2, d3, d4⟩ := c'
      rw [g25] at d1
      exact c ⟨(v_name I (g := zst h 1 1 0) (zst_ne (Or.inl (by decide))) (zfn (by decide))).mpr d4, by omega, by omega, by omega⟩
    · exact ⟨rfl, I.tk⟩
end
