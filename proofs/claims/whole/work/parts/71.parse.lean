/-! reading with a pile is reading a COND -/
theorem zSeq_seq (A B : List Int) (r : zRes) : zSeq A (zSeq B r) = zSeq (A ++ B) r := by
  cases r with
  | inl e => rfl
  | inr q =>
    show Sum.inr (q.1, q.2.1, A ++ (B ++ q.2.2)) = Sum.inr (q.1, q.2.1, A ++ B ++ q.2.2)
    rw [List.append_assoc]
/-- how much fuel reading wants -/
def zPf : Nat → Int
  | 0 => 0
  | 1 => 1
  | 2 => 2
  | 3 => 1
  | _ => 2
theorem zPx_fu {kd wd vl : Int → Int} {n : Int} (hk : kd n = 0) (hw : wd n = -1) : ∀ (f f' : Nat) (m : Nat) (w j o : Int), j ≤ n → o ≤ 60 → m < 5 → 4 * (61 - o) + zPf m ≤ f → 4 * (61 - o) + zPf m ≤ f' → zPx kd wd vl f m w j o = zPx kd wd vl f' m w j o
  | 0, f', m, w, j, o, hj, ho, hm, h1, h2 => by
    exfalso
    have : 0 ≤ zPf m := by
      unfold zPf
      split <;> decide
    omega
  | f + 1, 0, m, w, j, o, hj, ho, hm, h1, h2 => by
    exfalso
    have : 0 ≤ zPf m := by
      unfold zPf
      split <;> decide
    omega
  | f + 1, f' + 1, m, w, j, o, hj, ho, hm, h1, h2 => by
    have ih := fun (m : Nat) (w j o : Int) => zPx_fu hk hw (vl := vl) f f' m w j o
    have ne : ∀ x : Int, wd x ≠ -1 → x ≤ n → x < n := fun x hx hx2 => by
      rcases Int.lt_or_eq_of_le hx2 with q | q
      · exact q
      · rw [q] at hx; exact absurd hw hx
    have nk : ∀ x : Int, kd x ≠ 0 → x ≤ n → x < n := fun x hx hx2 => by
      rcases Int.lt_or_eq_of_le hx2 with q | q
      · exact q
      · rw [q] at hx; exact absurd hk hx
    have gd := fun (m : Nat) (w j o : Int) => zPx_in hk hw (vl := vl) f m w j o
    rcases (show m = 0 ∨ m = 1 ∨ m = 2 ∨ m = 3 ∨ m = 4 by omega) with rfl | rfl | rfl | rfl | rfl
    · rw [zPx_0, zPx_0]
      have h1' : 4 * (61 - o) ≤ (f : Int) + 1 := by have : zPf 0 = 0 := rfl; omega
      have h2' : 4 * (61 - o) ≤ (f' : Int) + 1 := by have : zPf 0 = 0 := rfl; omega
      by_cases c1 : ¬ zAsk (wd j) ∧ wd j ≠ 1000007 ∧ kd j ≠ 40
      · rw [if_pos c1, if_pos c1]
      · rw [if_neg c1, if_neg c1]
        by_cases c2 : 60 ≤ o ∨ 12 ≤ w
        · rw [if_pos c2, if_pos c2]
        · rw [if_neg c2, if_neg c2]
          have jn : j < n := by
            by_cases a : wd j = -1
            · refine nk j (fun z => c1 ⟨fun q => q.1 (by omega), by omega, by omega⟩) hj
            · exact ne j a hj
          rw [ih 0 (w + 1) (j + 1) (o + 1) (by omega) (by omega) (by omega) (by have : zPf 0 = 0 := rfl; omega) (by have : zPf 0 = 0 := rfl; omega), ih 2 (w + 1) (j + 1) (o + 1) (by omega) (by omega) (by omega) (by have : zPf 2 = 2 := rfl; omega) (by have : zPf 2 = 2 := rfl; omega)]
    · rw [zPx_1, zPx_1]
      have p1 : zPf 1 = 1 := rfl
      have p0 : zPf 0 = 0 := rfl
      have p3 : zPf 3 = 1 := rfl
      rw [← ih 0 w j o hj ho (by omega) (by omega) (by omega)]
      have g := gd 0 w j o hj ho (by omega)
      cases hr : zPx kd wd vl f 0 w j o with
      | inl e => rfl
      | inr q =>
        rw [hr] at g
        have b : j + 1 ≤ q.1 ∧ q.1 ≤ n ∧ o + 1 ≤ q.2.1 ∧ q.2.1 ≤ 60 ∧ (q.2.2.length : Int) + 1 ≤ 2 * (q.2.1 - o) := g
        show zSeq q.2.2 (zPx kd wd vl f 3 w q.1 q.2.1) = zSeq q.2.2 (zPx kd wd vl f' 3 w q.1 q.2.1)
        rw [ih 3 w q.1 q.2.1 b.2.1 b.2.2.2.1 (by omega) (by omega) (by omega)]
    · rw [zPx_2, zPx_2]
      have p1 : zPf 1 = 1 := rfl
      have p2 : zPf 2 = 2 := rfl
      have p4 : zPf 4 = 2 := rfl
      rw [← ih 1 w j o hj ho (by omega) (by omega) (by omega)]
      have g := gd 1 w j o hj ho (by omega)
      cases hr : zPx kd wd vl f 1 w j o with
      | inl e => rfl
      | inr q =>
        rw [hr] at g
        have b : j + 1 ≤ q.1 ∧ q.1 ≤ n ∧ o + 1 ≤ q.2.1 ∧ q.2.1 ≤ 60 ∧ (q.2.2.length : Int) + 1 ≤ 2 * (q.2.1 - o) := g
        show zSeq q.2.2 (zPx kd wd vl f 4 w q.1 q.2.1) = zSeq q.2.2 (zPx kd wd vl f' 4 w q.1 q.2.1)
        rw [ih 4 w q.1 q.2.1 b.2.1 b.2.2.2.1 (by omega) (by omega) (by omega)]
    · rw [zPx_3, zPx_3]
      have p0 : zPf 0 = 0 := rfl
      have p3 : zPf 3 = 1 := rfl
      by_cases c : wd j = 1000010
      · rw [if_pos c, if_pos c]
        have jn := ne j (by omega) hj
        rw [← ih 0 w (j + 1) o (by omega) ho (by omega) (by omega) (by omega)]
        have g := gd 0 w (j + 1) o (by omega) ho (by omega)
        cases hr : zPx kd wd vl f 0 w (j + 1) o with
        | inl e => rfl
        | inr q =>
          rw [hr] at g
          have b : j + 1 + 1 ≤ q.1 ∧ q.1 ≤ n ∧ o + 1 ≤ q.2.1 ∧ q.2.1 ≤ 60 ∧ (q.2.2.length : Int) + 1 ≤ 2 * (q.2.1 - o) := g
          show zSeq (q.2.2 ++ [-1]) (zPx kd wd vl f 3 w q.1 q.2.1) = zSeq (q.2.2 ++ [-1]) (zPx kd wd vl f' 3 w q.1 q.2.1)
          rw [ih 3 w q.1 q.2.1 b.2.1 b.2.2.2.1 (by omega) (by omega) (by omega)]
      · rw [if_neg c, if_neg c]
    · rw [zPx_4, zPx_4]
      have p1 : zPf 1 = 1 := rfl
      have p4 : zPf 4 = 2 := rfl
      by_cases c : wd j = 1000009
      · rw [if_pos c, if_pos c]
        have jn := ne j (by omega) hj
        rw [← ih 1 w (j + 1) o (by omega) ho (by omega) (by omega) (by omega)]
        have g := gd 1 w (j + 1) o (by omega) ho (by omega)
        cases hr : zPx kd wd vl f 1 w (j + 1) o with
        | inl e => rfl
        | inr q =>
          rw [hr] at g
          have b : j + 1 + 1 ≤ q.1 ∧ q.1 ≤ n ∧ o + 1 ≤ q.2.1 ∧ q.2.1 ≤ 60 ∧ (q.2.2.length : Int) + 1 ≤ 2 * (q.2.1 - o) := g
          show zSeq (q.2.2 ++ [-2]) (zPx kd wd vl f 4 w q.1 q.2.1) = zSeq (q.2.2 ++ [-2]) (zPx kd wd vl f' 4 w q.1 q.2.1)
          rw [ih 4 w q.1 q.2.1 b.2.1 b.2.2.2.1 (by omega) (by omega) (by omega)]
      · rw [if_neg c, if_neg c]
/-- the pile, its top first: how much is open, what is popped -/
def mOpn : List Int → Int
  | [] => 0
  | x :: P => mOpn P + if x = 20 ∨ x = 23 then 1 else 0
abbrev mbn (x : Int) : Int := if x = 20 then 3 else if x = 21 then 2 else 1
def mpop (least : Int) : List Int → List Int × List Int
  | [] => ([], [])
  | x :: P => if x ≠ 23 ∧ least ≤ mbn x then (x :: (mpop least P).1, (mpop least P).2) else ([], x :: P)
def mos (x : Int) : Int := if x = 20 then -3 else if x = 21 then -1 else -2
/-- reading with a pile; true: a ONE is wanted, false: behind one -/
def mStA (kd wd vl : Int → Int) (R : Bool → List Int → Int → Int → zRes) (P : List Int) (j o : Int) : zRes :=
  if ¬ zAsk (wd j) ∧ wd j ≠ 1000007 ∧ kd j ≠ 40 then .inl (1, j)
    else if 60 ≤ o ∨ 12 ≤ mOpn P then .inl (4, j)
    else if zAsk (wd j) then (match zQn kd wd vl j o with
      | .inl e => .inl e
      | .inr q => zSeq (q.2.2 ++ (mpop 3 P).1.map mos) (R false (mpop 3 P).2 q.1 q.2.1))
    else if wd j = 1000007 then R true (20 :: P) (j + 1) (o + 1)
    else R true (23 :: P) (j + 1) (o + 1)
def mStB (kd wd vl : Int → Int) (R : Bool → List Int → Int → Int → zRes) (P : List Int) (j o : Int) : zRes :=
  if kd j = 41 ∧ (23 : Int) ∈ P then zSeq ((mpop 1 P).1.map mos ++ (mpop 3 (mpop 1 P).2.tail).1.map mos) (R false (mpop 3 (mpop 1 P).2.tail).2 (j + 1) o)
    else if wd j = 1000010 then zSeq ((mpop 2 P).1.map mos) (R true (21 :: (mpop 2 P).2) (j + 1) o)
    else if wd j = 1000009 then zSeq ((mpop 1 P).1.map mos) (R true (22 :: (mpop 1 P).2) (j + 1) o)
    else if (23 : Int) ∈ P then .inl (1, j) else .inr (j, o, (mpop 1 P).1.map mos)
def mRun (kd wd vl : Int → Int) : Nat → Bool → List Int → Int → Int → zRes
  | 0 => fun _ _ j _ => .inl (9, j)
  | f + 1 => fun b P j o => if b then mStA kd wd vl (mRun kd wd vl f) P j o else mStB kd wd vl (mRun kd wd vl f) P j o
abbrev mLev : Type := Bool × Bool × Nat
def mlv (ob ab : Bool) (n : Nat) : List Int := List.replicate n 20 ++ ((if ab then [21] else []) ++ (if ob then [22] else []))
def mpo : List mLev → List Int
  | [] => []
  | v :: r => 23 :: (mlv v.1 v.2.1 v.2.2 ++ mpo r)
def mwo : List mLev → Int
  | [] => 0
  | v :: r => mwo r + v.2.2 + 1
theorem mOpn_app (A B : List Int) : mOpn (A ++ B) = mOpn A + mOpn B := by
  induction A with
  | nil => show mOpn B = 0 + mOpn B; omega
  | cons x A ih =>
    show mOpn (A ++ B) + _ = mOpn A + _ + mOpn B
    rw [ih]
    omega
theorem mOpn_rep : ∀ n : Nat, mOpn (List.replicate n 20) = n
  | 0 => rfl
  | n + 1 => by
    show mOpn (List.replicate n 20) + (if (20 : Int) = 20 ∨ (20 : Int) = 23 then 1 else 0) = _
    rw [mOpn_rep n, if_pos (Or.inl rfl)]
    omega
theorem mOpn_lv (ob ab : Bool) (n : Nat) : mOpn (mlv ob ab n) = n := by
  unfold mlv
  rw [mOpn_app, mOpn_rep]
  cases ob <;> cases ab <;> simp [mOpn]
theorem mOpn_po : ∀ r : List mLev, mOpn (mpo r) = mwo r
  | [] => rfl
  | v :: r => by
    show mOpn (mlv v.1 v.2.1 v.2.2 ++ mpo r) + (if (23 : Int) = 20 ∨ (23 : Int) = 23 then 1 else 0) = mwo r + v.2.2 + 1
    rw [mOpn_app, mOpn_lv, mOpn_po r, if_pos (Or.inr rfl)]
    omega
/-- what is popped of a level -/
theorem mpop_po (k : Int) (r : List mLev) : mpop k (mpo r) = ([], mpo r) := by
  cases r with
  | nil => rfl
  | cons v r =>
    show (if (23 : Int) ≠ 23 ∧ k ≤ mbn 23 then _ else _) = _
    rw [if_neg (fun z => z.1 rfl)]
    rfl
theorem mpop_ops (k : Int) (hk : k = 1 ∨ k = 2 ∨ k = 3) (ob ab : Bool) (r : List mLev) : mpop k (((if ab then [21] else []) ++ (if ob then [22] else [])) ++ mpo r) = (if k = 1 then ((if ab then [21] else []) ++ (if ob then [22] else []), mpo r) else if k = 2 then (if ab then ([21], (if ob then [22] else []) ++ mpo r) else ([], (if ob then [22] else []) ++ mpo r)) else ([], ((if ab then [21] else []) ++ (if ob then [22] else [])) ++ mpo r)) := by
  rcases hk with rfl | rfl | rfl <;> cases ob <;> cases ab <;> simp [mpop, mpop_po, mbn]
theorem mpop_rep (ob ab : Bool) (r : List mLev) (X : List Int) (hX : mpop 3 X = ([], X)) : ∀ n : Nat, mpop 3 (List.replicate n 20 ++ X) = (List.replicate n 20, X)
  | 0 => hX
  | n + 1 => by
    show (if (20 : Int) ≠ 23 ∧ (3 : Int) ≤ mbn 20 then ((20 : Int) :: (mpop 3 (List.replicate n 20 ++ X)).1, (mpop 3 (List.replicate n 20 ++ X)).2) else _) = _
    rw [if_pos ⟨by decide, by decide⟩, mpop_rep ob ab r X hX n]
    rfl
theorem mpop3 (ob ab : Bool) (n : Nat) (r : List mLev) : mpop 3 (mlv ob ab n ++ mpo r) = (List.replicate n 20, mlv ob ab 0 ++ mpo r) := by
  unfold mlv
  rw [List.append_assoc, mpop_rep ob ab r _ (by rw [mpop_ops 3 (by decide)]; rfl)]
  rfl
theorem mpop1 (ob ab : Bool) (r : List mLev) : mpop 1 (mlv ob ab 0 ++ mpo r) = ((if ab then [21] else []) ++ (if ob then [22] else []), mpo r) := by
  refine Eq.trans (show mpop 1 (mlv ob ab 0 ++ mpo r) = _ from mpop_ops 1 (by decide) ob ab r) ?_
  rw [if_pos (show (1 : Int) = 1 from rfl)]
theorem mpop2 (ob ab : Bool) (r : List mLev) : mpop 2 (mlv ob ab 0 ++ mpo r) = ((if ab then [21] else []), (if ob then [22] else []) ++ mpo r) := by
  refine Eq.trans (show mpop 2 (mlv ob ab 0 ++ mpo r) = _ from mpop_ops 2 (by decide) ob ab r) ?_
  rw [if_neg (show ¬ (2 : Int) = 1 by decide), if_pos (show (2 : Int) = 2 from rfl)]
  cases ab <;> rfl
theorem mem23_lv (ob ab : Bool) (n : Nat) : (23 : Int) ∉ mlv ob ab n := by
  unfold mlv
  intro h
  rcases List.mem_append.mp h with q | q
  · have := List.eq_of_mem_replicate q
    exact absurd this (by decide)
  · revert q
    cases ob <;> cases ab <;> decide
theorem mem23 (ob ab : Bool) (n : Nat) (r : List mLev) : (23 : Int) ∈ mlv ob ab n ++ mpo r ↔ r ≠ [] := by
  cases r with
  | nil =>
    constructor
    · intro h
      rcases List.mem_append.mp h with q | q
      · exact absurd q (mem23_lv ob ab n)
      · cases q
    · intro h
      exact absurd rfl h
  | cons v r => exact ⟨fun _ h => (by cases h), fun _ => List.mem_append.mpr (Or.inr List.mem_cons_self)⟩
/-- what follows a ONE, a level's and the levels' around it -/
def mK (kd wd vl : Int → Int) : List mLev → Bool → Bool → Int → Int → zRes
  | [], ob, ab, j, o => zSeq (if ab then [-1] else []) (match zPx kd wd vl 300 3 0 j o with
    | .inl e => .inl e
    | .inr q => zSeq (q.2.2 ++ (if ob then [-2] else [])) (match zPx kd wd vl 300 4 0 q.1 q.2.1 with
      | .inl e => .inl e
      | .inr r => zSeq r.2.2 (.inr (r.1, r.2.1, []))))
  | v :: R, ob, ab, j, o => zSeq (if ab then [-1] else []) (match zPx kd wd vl 300 3 (mwo (v :: R)) j o with
    | .inl e => .inl e
    | .inr q => zSeq (q.2.2 ++ (if ob then [-2] else [])) (match zPx kd wd vl 300 4 (mwo (v :: R)) q.1 q.2.1 with
      | .inl e => .inl e
      | .inr r => zSeq r.2.2 (if kd r.1 = 41 then zSeq (List.replicate v.2.2 (-3)) (mK kd wd vl R v.1 v.2.1 (r.1 + 1) r.2.1) else .inl (1, r.1))))
/-- behind a level -/
def mE (kd wd vl : Int → Int) (R : List mLev) (r : Int × Int × List Int) : zRes := match R with
  | [] => .inr (r.1, r.2.1, [])
  | v :: R => if kd r.1 = 41 then zSeq (List.replicate v.2.2 (-3)) (mK kd wd vl R v.1 v.2.1 (r.1 + 1) r.2.1) else .inl (1, r.1)
theorem mK_eq (kd wd vl : Int → Int) (R : List mLev) (ob ab : Bool) (j o : Int) : mK kd wd vl R ob ab j o = zSeq (if ab then [-1] else []) (match zPx kd wd vl 300 3 (mwo R) j o with
    | .inl e => .inl e
    | .inr q => zSeq (q.2.2 ++ (if ob then [-2] else [])) (match zPx kd wd vl 300 4 (mwo R) q.1 q.2.1 with
      | .inl e => .inl e
      | .inr r => zSeq r.2.2 (mE kd wd vl R r))) := by
  cases R <;> rfl

section
variable {kd wd vl : Int → Int} {n : Int}
theorem zZ0 (hk : kd n = 0) (hw : wd n = -1) {w j o : Int} (hj : j ≤ n) (h0 : 0 ≤ o) (ho : o ≤ 60) : zPx kd wd vl 300 0 w j o = if ¬ zAsk (wd j) ∧ wd j ≠ 1000007 ∧ kd j ≠ 40 then .inl (1, j)
    else if 60 ≤ o ∨ 12 ≤ w then .inl (4, j)
    else if zAsk (wd j) then zQn kd wd vl j o
    else if wd j = 1000007 then (match zPx kd wd vl 300 0 (w + 1) (j + 1) (o + 1) with
      | .inl e => .inl e
      | .inr q => .inr (q.1, q.2.1, q.2.2 ++ [-3]))
    else (match zPx kd wd vl 300 2 (w + 1) (j + 1) (o + 1) with
      | .inl e => .inl e
      | .inr q => if kd q.1 = 41 then .inr (q.1 + 1, q.2.1, q.2.2) else .inl (1, q.1)) :=
  (zPx_fu hk hw 300 301 0 w j o hj ho (by omega) (by have : zPf 0 = 0 := rfl; omega) (by have : zPf 0 = 0 := rfl; omega)).trans (zPx_0 kd wd vl 300 w j o)
theorem zZ1 (hk : kd n = 0) (hw : wd n = -1) {w j o : Int} (hj : j ≤ n) (h0 : 0 ≤ o) (ho : o ≤ 60) : zPx kd wd vl 300 1 w j o = (match zPx kd wd vl 300 0 w j o with
      | .inl e => .inl e
      | .inr q => zSeq q.2.2 (zPx kd wd vl 300 3 w q.1 q.2.1)) :=
  (zPx_fu hk hw 300 301 1 w j o hj ho (by omega) (by have : zPf 1 = 1 := rfl; omega) (by have : zPf 1 = 1 := rfl; omega)).trans (zPx_1 kd wd vl 300 w j o)
theorem zZ2 (hk : kd n = 0) (hw : wd n = -1) {w j o : Int} (hj : j ≤ n) (h0 : 0 ≤ o) (ho : o ≤ 60) : zPx kd wd vl 300 2 w j o = (match zPx kd wd vl 300 1 w j o with
      | .inl e => .inl e
      | .inr q => zSeq q.2.2 (zPx kd wd vl 300 4 w q.1 q.2.1)) :=
  (zPx_fu hk hw 300 301 2 w j o hj ho (by omega) (by have : zPf 2 = 2 := rfl; omega) (by have : zPf 2 = 2 := rfl; omega)).trans (zPx_2 kd wd vl 300 w j o)
theorem zZ3 (hk : kd n = 0) (hw : wd n = -1) {w j o : Int} (hj : j ≤ n) (h0 : 0 ≤ o) (ho : o ≤ 60) : zPx kd wd vl 300 3 w j o = if wd j = 1000010 then (match zPx kd wd vl 300 0 w (j + 1) o with
      | .inl e => .inl e
      | .inr q => zSeq (q.2.2 ++ [-1]) (zPx kd wd vl 300 3 w q.1 q.2.1)) else .inr (j, o, []) :=
  (zPx_fu hk hw 300 301 3 w j o hj ho (by omega) (by have : zPf 3 = 1 := rfl; omega) (by have : zPf 3 = 1 := rfl; omega)).trans (zPx_3 kd wd vl 300 w j o)
theorem zZ4 (hk : kd n = 0) (hw : wd n = -1) {w j o : Int} (hj : j ≤ n) (h0 : 0 ≤ o) (ho : o ≤ 60) : zPx kd wd vl 300 4 w j o = if wd j = 1000009 then (match zPx kd wd vl 300 1 w (j + 1) o with
      | .inl e => .inl e
      | .inr q => zSeq (q.2.2 ++ [-2]) (zPx kd wd vl 300 4 w q.1 q.2.1)) else .inr (j, o, []) :=
  (zPx_fu hk hw 300 301 4 w j o hj ho (by omega) (by have : zPf 4 = 2 := rfl; omega) (by have : zPf 4 = 2 := rfl; omega)).trans (zPx_4 kd wd vl 300 w j o)
theorem mRun_A (f : Nat) (P : List Int) (j o : Int) : mRun kd wd vl (f + 1) true P j o = mStA kd wd vl (mRun kd wd vl f) P j o :=
  (if_pos rfl : (if (true : Bool) = true then mStA kd wd vl (mRun kd wd vl f) P j o else mStB kd wd vl (mRun kd wd vl f) P j o) = _)
theorem mRun_B (f : Nat) (P : List Int) (j o : Int) : mRun kd wd vl (f + 1) false P j o = mStB kd wd vl (mRun kd wd vl f) P j o :=
  (if_neg (by decide) : (if (false : Bool) = true then mStA kd wd vl (mRun kd wd vl f) P j o else mStB kd wd vl (mRun kd wd vl f) P j o) = _)
theorem mos_rep (m : Nat) : (List.replicate m (20 : Int)).map mos = List.replicate m (-3) := by
  rw [List.map_replicate]
  rfl
theorem mos_ab (ab : Bool) : (if ab then [(21 : Int)] else []).map mos = if ab then [-1] else [] := by cases ab <;> rfl
theorem mos_ob (ob : Bool) : (if ob then [(22 : Int)] else []).map mos = if ob then [-2] else [] := by cases ob <;> rfl
/-- behind a ONE that was read -/
def mA (kd wd vl : Int → Int) (R : List mLev) (ob ab : Bool) (nn : Nat) (r : zRes) : zRes := match r with
  | .inl e => .inl e
  | .inr q => zSeq (q.2.2 ++ List.replicate nn (-3)) (mK kd wd vl R ob ab q.1 q.2.1)
theorem mRun_eq (hk : kd n = 0) (hw : wd n = -1) (ht : ∀ x : Int, wd x ≠ -1 → kd x = 1) : ∀ f : Nat,
    (∀ (R : List mLev) (ob ab : Bool) (nn : Nat) (j o : Int), j ≤ n → 0 ≤ o → o ≤ 60 → n - j + 1 ≤ f → mRun kd wd vl f true (mlv ob ab nn ++ mpo R) j o = mA kd wd vl R ob ab nn (zPx kd wd vl 300 0 (nn + mwo R) j o)) ∧
    ∀ (R : List mLev) (ob ab : Bool) (j o : Int), j ≤ n → 0 ≤ o → o ≤ 60 → n - j + 1 ≤ f → mRun kd wd vl f false (mlv ob ab 0 ++ mpo R) j o = mK kd wd vl R ob ab j o
  | 0 => ⟨fun R ob ab nn j o h1 h2 h3 h4 => by exfalso; omega, fun R ob ab j o h1 h2 h3 h4 => by exfalso; omega⟩
  | f + 1 => by
    obtain ⟨ihA, ihB⟩ := mRun_eq hk hw ht f
    have ne : ∀ x : Int, wd x ≠ -1 → x ≤ n → x < n := fun x hx hx2 => by
      rcases Int.lt_or_eq_of_le hx2 with q | q
      · exact q
      · rw [q] at hx; exact absurd hw hx
    have nk : ∀ x : Int, kd x ≠ 0 → x ≤ n → x < n := fun x hx hx2 => by
      rcases Int.lt_or_eq_of_le hx2 with q | q
      · exact q
      · rw [q] at hx; exact absurd hk hx
    refine ⟨fun R ob ab nn j o hj h0 ho hf => ?_, fun R ob ab j o hj h0 ho hf => ?_⟩
    · have g := zPx_in hk hw (vl := vl) 300 0 (nn + mwo R) j o hj ho (by omega)
      rw [zZ0 hk hw hj h0 ho] at g
      rw [mRun_A, zZ0 hk hw hj h0 ho]
      unfold mStA
      rw [mOpn_app, mOpn_lv, mOpn_po]
      by_cases c1 : ¬ zAsk (wd j) ∧ wd j ≠ 1000007 ∧ kd j ≠ 40
      · rw [if_pos c1, if_pos c1]
        rfl
      · rw [if_neg c1] at g
        rw [if_neg c1, if_neg c1]
        by_cases c2 : 60 ≤ o ∨ 12 ≤ (nn : Int) + mwo R
        · rw [if_pos c2, if_pos c2]
          rfl
        · rw [if_neg c2] at g
          rw [if_neg c2, if_neg c2]
          have jn : j < n := by
            by_cases a : wd j = -1
            · refine nk j (fun z => c1 ⟨fun q => q.1 (by omega), by omega, by omega⟩) hj
            · exact ne j a hj
          by_cases c3 : zAsk (wd j)
          · rw [if_pos c3] at g
            rw [if_pos c3, if_pos c3, mpop3]
            generalize hq : zQn kd wd vl j o = Z at g
            cases Z with
            | inl e => rfl
            | inr q =>
              have b : j + 1 ≤ q.1 ∧ q.1 ≤ n ∧ o + 1 ≤ q.2.1 ∧ q.2.1 ≤ 60 ∧ (q.2.2.length : Int) + 1 ≤ 2 * (q.2.1 - o) := g
              show zSeq (q.2.2 ++ (List.replicate nn (20 : Int)).map mos) (mRun kd wd vl f false (mlv ob ab 0 ++ mpo R) q.1 q.2.1) = zSeq (q.2.2 ++ List.replicate nn (-3)) (mK kd wd vl R ob ab q.1 q.2.1)
              rw [mos_rep, ihB R ob ab q.1 q.2.1 b.2.1 (by omega) b.2.2.2.1 (by omega)]
          · rw [if_neg c3, if_neg c3]
            by_cases c4 : wd j = 1000007
            · rw [if_pos c4, if_pos c4]
              have e := ihA R ob ab (nn + 1) (j + 1) (o + 1) (by omega) (by omega) (by omega) (by omega)
              rw [show ((nn + 1 : Nat) : Int) + mwo R = nn + mwo R + 1 by omega] at e
              refine Eq.trans (show mRun kd wd vl f true (20 :: (mlv ob ab nn ++ mpo R)) (j + 1) (o + 1) = _ from e) ?_
              cases hr : zPx kd wd vl 300 0 (nn + mwo R + 1) (j + 1) (o + 1) with
              | inl e => rfl
              | inr q =>
                show zSeq (q.2.2 ++ List.replicate (nn + 1) (-3)) (mK kd wd vl R ob ab q.1 q.2.1) = zSeq ((q.2.2 ++ [-3]) ++ List.replicate nn (-3)) (mK kd wd vl R ob ab q.1 q.2.1)
                rw [List.append_assoc]
                rfl
            · rw [if_neg c4, if_neg c4]
              have e := ihA ((ob, ab, nn) :: R) false false 0 (j + 1) (o + 1) (by omega) (by omega) (by omega) (by omega)
              rw [show ((0 : Nat) : Int) + mwo ((ob, ab, nn) :: R) = nn + mwo R + 1 by show ((0 : Nat) : Int) + (mwo R + nn + 1) = _; omega] at e
              refine Eq.trans (show mRun kd wd vl f true (23 :: (mlv ob ab nn ++ mpo R)) (j + 1) (o + 1) = _ from e) ?_
              have g0 := zPx_in hk hw (vl := vl) 300 0 (nn + mwo R + 1) (j + 1) (o + 1) (by omega) (by omega) (by omega)
              rw [zZ2 hk hw (show j + 1 ≤ n by omega) (by omega) (by omega), zZ1 hk hw (show j + 1 ≤ n by omega) (by omega) (by omega)]
              cases hr : zPx kd wd vl 300 0 (nn + mwo R + 1) (j + 1) (o + 1) with
              | inl e => rfl
              | inr q =>
                show zSeq (q.2.2 ++ []) (mK kd wd vl ((ob, ab, nn) :: R) false false q.1 q.2.1) = mA kd wd vl R ob ab nn (match (match zSeq q.2.2 (zPx kd wd vl 300 3 (nn + mwo R + 1) q.1 q.2.1) with
                  | .inl e => (.inl e : zRes)
                  | .inr q => zSeq q.2.2 (zPx kd wd vl 300 4 (nn + mwo R + 1) q.1 q.2.1)) with
                  | .inl e => (.inl e : zRes)
                  | .inr q => if kd q.1 = 41 then .inr (q.1 + 1, q.2.1, q.2.2) else .inl (1, q.1))
                rw [mK_eq, show mwo ((ob, ab, nn) :: R) = nn + mwo R + 1 by show mwo R + nn + 1 = _; omega]
                cases h3 : zPx kd wd vl 300 3 (nn + mwo R + 1) q.1 q.2.1 with
                | inl e => rfl
                | inr r =>
                  show zSeq (q.2.2 ++ []) (zSeq [] (zSeq (r.2.2 ++ []) (match zPx kd wd vl 300 4 (nn + mwo R + 1) r.1 r.2.1 with
                    | .inl e => (.inl e : zRes)
                    | .inr t => zSeq t.2.2 (mE kd wd vl ((ob, ab, nn) :: R) t)))) = mA kd wd vl R ob ab nn (match zSeq (q.2.2 ++ r.2.2) (zPx kd wd vl 300 4 (nn + mwo R + 1) r.1 r.2.1) with
                    | .inl e => (.inl e : zRes)
                    | .inr q => if kd q.1 = 41 then .inr (q.1 + 1, q.2.1, q.2.2) else .inl (1, q.1))
                  cases h4 : zPx kd wd vl 300 4 (nn + mwo R + 1) r.1 r.2.1 with
                  | inl e => rfl
                  | inr t =>
                    show zSeq (q.2.2 ++ []) (zSeq [] (zSeq (r.2.2 ++ []) (zSeq t.2.2 (if kd t.1 = 41 then zSeq (List.replicate nn (-3)) (mK kd wd vl R ob ab (t.1 + 1) t.2.1) else .inl (1, t.1))))) = mA kd wd vl R ob ab nn (if kd t.1 = 41 then .inr (t.1 + 1, t.2.1, (q.2.2 ++ r.2.2) ++ t.2.2) else .inl (1, t.1))
                    by_cases c5 : kd t.1 = 41
                    · rw [if_pos c5, if_pos c5]
                      show _ = zSeq (((q.2.2 ++ r.2.2) ++ t.2.2) ++ List.replicate nn (-3)) (mK kd wd vl R ob ab (t.1 + 1) t.2.1)
                      simp only [zSeq_seq, List.append_assoc, List.append_nil, List.nil_append]
                    · rw [if_neg c5, if_neg c5]
                      rfl
    · have z3 := zZ3 (vl := vl) (w := mwo R) hk hw hj h0 ho
      have z4 := zZ4 (vl := vl) (w := mwo R) hk hw hj h0 ho
      rw [mRun_B, mK_eq]
      unfold mStB
      by_cases c1 : kd j = 41
      · have wn : wd j = -1 := Classical.byContradiction fun z => by
          have := ht j z
          omega
        have jn := nk j (by omega) hj
        rw [if_neg (show ¬ wd j = 1000010 by omega)] at z3
        rw [z3]
        show _ = zSeq (if ab then [-1] else []) (zSeq ([] ++ (if ob then [-2] else [])) (match zPx kd wd vl 300 4 (mwo R) j o with
          | .inl e => (.inl e : zRes)
          | .inr r => zSeq r.2.2 (mE kd wd vl R r)))
        rw [if_neg (show ¬ wd j = 1000009 by omega)] at z4
        rw [z4]
        show _ = zSeq (if ab then [-1] else []) (zSeq ([] ++ (if ob then [-2] else [])) (zSeq [] (mE kd wd vl R (j, o, []))))
        cases R with
        | nil =>
          rw [if_neg (fun z => (mem23 ob ab 0 []).mp z.2 rfl), if_neg (by omega), if_neg (by omega), if_neg (fun z => (mem23 ob ab 0 []).mp z rfl), mpop1]
          show Sum.inr (j, o, ((if ab then [(21 : Int)] else []) ++ (if ob then [22] else [])).map mos) = zSeq (if ab then [-1] else []) (zSeq ([] ++ (if ob then [-2] else [])) (zSeq [] (.inr (j, o, []))))
          rw [List.map_append, mos_ab, mos_ob]
          simp only [zSeq, List.append_assoc, List.append_nil, List.nil_append]
        | cons v R =>
          rw [if_pos ⟨c1, (mem23 ob ab 0 (v :: R)).mpr (fun z => by cases z)⟩, mpop1]
          show zSeq (((if ab then [(21 : Int)] else []) ++ (if ob then [22] else [])).map mos ++ (mpop 3 (mlv v.1 v.2.1 v.2.2 ++ mpo R)).1.map mos) (mRun kd wd vl f false (mpop 3 (mlv v.1 v.2.1 v.2.2 ++ mpo R)).2 (j + 1) o) = zSeq (if ab then [-1] else []) (zSeq ([] ++ (if ob then [-2] else [])) (zSeq [] (if kd j = 41 then zSeq (List.replicate v.2.2 (-3)) (mK kd wd vl R v.1 v.2.1 (j + 1) o) else .inl (1, j))))
          rw [if_pos c1, mpop3]
          show zSeq (((if ab then [(21 : Int)] else []) ++ (if ob then [22] else [])).map mos ++ (List.replicate v.2.2 (20 : Int)).map mos) (mRun kd wd vl f false (mlv v.1 v.2.1 0 ++ mpo R) (j + 1) o) = _
          rw [mos_rep, List.map_append, mos_ab, mos_ob, ihB R v.1 v.2.1 (j + 1) o (by omega) h0 ho (by omega)]
          simp only [zSeq_seq, List.append_assoc, List.append_nil, List.nil_append]
      · rw [if_neg (fun z => c1 z.1)]
        by_cases c2 : wd j = 1000010
        · have jn := ne j (by omega) hj
          rw [if_pos c2] at z3
          rw [if_pos c2, z3, mpop2]
          have e := ihA R ob true 0 (j + 1) o (by omega) h0 ho (by omega)
          rw [show ((0 : Nat) : Int) + mwo R = mwo R by omega] at e
          refine Eq.trans (congrArg (zSeq ((if ab then [(21 : Int)] else []).map mos)) (show mRun kd wd vl f true (21 :: ((if ob then [22] else []) ++ mpo R)) (j + 1) o = _ from e)) ?_
          rw [mos_ab]
          cases hr : zPx kd wd vl 300 0 (mwo R) (j + 1) o with
          | inl e => rfl
          | inr q =>
            show zSeq (if ab then [-1] else []) (zSeq (q.2.2 ++ []) (mK kd wd vl R ob true q.1 q.2.1)) = zSeq (if ab then [-1] else []) (match zSeq (q.2.2 ++ [-1]) (zPx kd wd vl 300 3 (mwo R) q.1 q.2.1) with
              | .inl e => (.inl e : zRes)
              | .inr q => zSeq (q.2.2 ++ (if ob then [-2] else [])) (match zPx kd wd vl 300 4 (mwo R) q.1 q.2.1 with
                | .inl e => (.inl e : zRes)
                | .inr r => zSeq r.2.2 (mE kd wd vl R r)))
            rw [mK_eq]
            cases h3 : zPx kd wd vl 300 3 (mwo R) q.1 q.2.1 with
            | inl e => rfl
            | inr r =>
              show zSeq (if ab then [-1] else []) (zSeq (q.2.2 ++ []) (zSeq [-1] (zSeq (r.2.2 ++ (if ob then [-2] else [])) (match zPx kd wd vl 300 4 (mwo R) r.1 r.2.1 with
                | .inl e => (.inl e : zRes)
                | .inr r => zSeq r.2.2 (mE kd wd vl R r))))) = zSeq (if ab then [-1] else []) (zSeq (((q.2.2 ++ [-1]) ++ r.2.2) ++ (if ob then [-2] else [])) (match zPx kd wd vl 300 4 (mwo R) r.1 r.2.1 with
                | .inl e => (.inl e : zRes)
                | .inr r => zSeq r.2.2 (mE kd wd vl R r)))
              simp only [zSeq_seq, List.append_assoc, List.append_nil, List.nil_append]
        · rw [if_neg c2] at z3
          rw [if_neg c2, z3]
          show _ = zSeq (if ab then [-1] else []) (zSeq ([] ++ (if ob then [-2] else [])) (match zPx kd wd vl 300 4 (mwo R) j o with
            | .inl e => (.inl e : zRes)
            | .inr r => zSeq r.2.2 (mE kd wd vl R r)))
          by_cases c3 : wd j = 1000009
          · have jn := ne j (by omega) hj
            rw [if_pos c3, zZ1 hk hw (show j + 1 ≤ n by omega) h0 ho] at z4
            rw [if_pos c3, z4, mpop1]
            have e := ihA R true false 0 (j + 1) o (by omega) h0 ho (by omega)
            rw [show ((0 : Nat) : Int) + mwo R = mwo R by omega] at e
            refine Eq.trans (congrArg (zSeq (((if ab then [(21 : Int)] else []) ++ (if ob then [22] else [])).map mos)) (show mRun kd wd vl f true (22 :: mpo R) (j + 1) o = _ from e)) ?_
            rw [List.map_append, mos_ab, mos_ob]
            cases hr : zPx kd wd vl 300 0 (mwo R) (j + 1) o with
            | inl e => rfl
            | inr q =>
              show zSeq ((if ab then [-1] else []) ++ (if ob then [-2] else [])) (zSeq (q.2.2 ++ []) (mK kd wd vl R true false q.1 q.2.1)) = zSeq (if ab then [-1] else []) (zSeq ([] ++ (if ob then [-2] else [])) (match (match zSeq q.2.2 (zPx kd wd vl 300 3 (mwo R) q.1 q.2.1) with
                | .inl e => (.inl e : zRes)
                | .inr q => zSeq (q.2.2 ++ [-2]) (zPx kd wd vl 300 4 (mwo R) q.1 q.2.1)) with
                | .inl e => (.inl e : zRes)
                | .inr r => zSeq r.2.2 (mE kd wd vl R r)))
              rw [mK_eq]
              cases h3 : zPx kd wd vl 300 3 (mwo R) q.1 q.2.1 with
              | inl e => rfl
              | inr r =>
                show zSeq ((if ab then [-1] else []) ++ (if ob then [-2] else [])) (zSeq (q.2.2 ++ []) (zSeq [] (zSeq (r.2.2 ++ [-2]) (match zPx kd wd vl 300 4 (mwo R) r.1 r.2.1 with
                  | .inl e => (.inl e : zRes)
                  | .inr r => zSeq r.2.2 (mE kd wd vl R r))))) = zSeq (if ab then [-1] else []) (zSeq ([] ++ (if ob then [-2] else [])) (match zSeq ((q.2.2 ++ r.2.2) ++ [-2]) (zPx kd wd vl 300 4 (mwo R) r.1 r.2.1) with
                  | .inl e => (.inl e : zRes)
                  | .inr r => zSeq r.2.2 (mE kd wd vl R r)))
                cases h4 : zPx kd wd vl 300 4 (mwo R) r.1 r.2.1 with
                | inl e => rfl
                | inr t =>
                  show zSeq ((if ab then [-1] else []) ++ (if ob then [-2] else [])) (zSeq (q.2.2 ++ []) (zSeq [] (zSeq (r.2.2 ++ [-2]) (zSeq t.2.2 (mE kd wd vl R t))))) = zSeq (if ab then [-1] else []) (zSeq ([] ++ (if ob then [-2] else [])) (zSeq (((q.2.2 ++ r.2.2) ++ [-2]) ++ t.2.2) (mE kd wd vl R t)))
                  simp only [zSeq_seq, List.append_assoc, List.append_nil, List.nil_append]
          · rw [if_neg c3] at z4
            rw [if_neg c3, z4]
            show _ = zSeq (if ab then [-1] else []) (zSeq ([] ++ (if ob then [-2] else [])) (zSeq [] (mE kd wd vl R (j, o, []))))
            cases R with
            | nil =>
              rw [if_neg (fun z => (mem23 ob ab 0 []).mp z rfl), mpop1]
              show Sum.inr (j, o, ((if ab then [(21 : Int)] else []) ++ (if ob then [22] else [])).map mos) = zSeq (if ab then [-1] else []) (zSeq ([] ++ (if ob then [-2] else [])) (zSeq [] (.inr (j, o, []))))
              rw [List.map_append, mos_ab, mos_ob]
              simp only [zSeq, List.append_assoc, List.append_nil, List.nil_append]
            | cons v R =>
              rw [if_pos ((mem23 ob ab 0 (v :: R)).mpr (fun z => by cases z))]
              show Sum.inl (1, j) = zSeq (if ab then [-1] else []) (zSeq ([] ++ (if ob then [-2] else [])) (zSeq [] (if kd j = 41 then zSeq (List.replicate v.2.2 (-3)) (mK kd wd vl R v.1 v.2.1 (j + 1) o) else .inl (1, j))))
              rw [if_neg c1]
              rfl
/-- reading with a pile reads as reading a COND does -/
theorem mRun_cond (hk : kd n = 0) (hw : wd n = -1) (ht : ∀ x : Int, wd x ≠ -1 → kd x = 1) (f : Nat) (j o : Int) (hj : j ≤ n) (h0 : 0 ≤ o) (ho : o ≤ 60) (hf : n - j + 1 ≤ f) : mRun kd wd vl f true [] j o = zPx kd wd vl 300 2 0 j o := by
  have e := (mRun_eq (vl := vl) hk hw ht f).1 [] false false 0 j o hj h0 ho hf
  refine Eq.trans (show mRun kd wd vl f true [] j o = _ from e) ?_
  rw [zZ2 hk hw hj h0 ho, zZ1 hk hw hj h0 ho, show ((0 : Nat) : Int) + mwo [] = 0 from rfl]
  cases hr : zPx kd wd vl 300 0 0 j o with
  | inl e => rfl
  | inr q =>
    show zSeq (q.2.2 ++ []) (mK kd wd vl [] false false q.1 q.2.1) = ((match zSeq q.2.2 (zPx kd wd vl 300 3 0 q.1 q.2.1) with
      | .inl e => (.inl e : zRes)
      | .inr q => zSeq q.2.2 (zPx kd wd vl 300 4 0 q.1 q.2.1)) : zRes)
    rw [mK_eq, show mwo [] = 0 from rfl]
    cases h3 : zPx kd wd vl 300 3 0 q.1 q.2.1 with
    | inl e => rfl
    | inr r =>
      show zSeq (q.2.2 ++ []) (zSeq [] (zSeq (r.2.2 ++ []) (match zPx kd wd vl 300 4 0 r.1 r.2.1 with
        | .inl e => (.inl e : zRes)
        | .inr r => zSeq r.2.2 (mE kd wd vl [] r)))) = zSeq (q.2.2 ++ r.2.2) (zPx kd wd vl 300 4 0 r.1 r.2.1)
      cases h4 : zPx kd wd vl 300 4 0 r.1 r.2.1 with
      | inl e => rfl
      | inr t =>
        show zSeq (q.2.2 ++ []) (zSeq [] (zSeq (r.2.2 ++ []) (zSeq t.2.2 (.inr (t.1, t.2.1, []))))) = zSeq (q.2.2 ++ r.2.2) (Sum.inr t)
        simp only [zSeq, List.append_assoc, List.append_nil, List.nil_append]
end
