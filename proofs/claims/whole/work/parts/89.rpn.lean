/-! a COND's steps leave one answer, and never want one that is not there -/
def zgo : Int → List Int → Prop
  | _, [] => True
  | d, x :: S => (0 ≤ x ∧ zgo (d + 1) S) ∨ (x = -3 ∧ 1 ≤ d ∧ zgo d S) ∨ ((x = -1 ∨ x = -2) ∧ 2 ≤ d ∧ zgo (d - 1) S)
def zfi : Int → List Int → Int
  | d, [] => d
  | d, x :: S => zfi (if 0 ≤ x then d + 1 else if x = -3 then d else d - 1) S
theorem zfi_app : ∀ (A B : List Int) (d : Int), zfi d (A ++ B) = zfi (zfi d A) B
  | [], B, d => rfl
  | x :: A, B, d => zfi_app A B _
theorem zgo_app : ∀ (A B : List Int) (d : Int), zgo d A → zgo (zfi d A) B → zgo d (A ++ B)
  | [], B, d, _, b => b
  | x :: A, B, d, a, b => by
    rcases a with ⟨a1, a2⟩ | ⟨a1, a2, a3⟩ | ⟨a1, a2, a3⟩
    · have b' : zgo (zfi (if 0 ≤ x then d + 1 else if x = -3 then d else d - 1) A) B := b
      rw [if_pos a1] at b'
      exact Or.inl ⟨a1, zgo_app A B _ a2 b'⟩
    · have b' : zgo (zfi (if 0 ≤ x then d + 1 else if x = -3 then d else d - 1) A) B := b
      rw [if_neg (by omega), if_pos a1] at b'
      exact Or.inr (Or.inl ⟨a1, a2, zgo_app A B _ a3 b'⟩)
    · have b' : zgo (zfi (if 0 ≤ x then d + 1 else if x = -3 then d else d - 1) A) B := b
      rw [if_neg (by omega), if_neg (by omega)] at b'
      exact Or.inr (Or.inr ⟨a1, a2, zgo_app A B _ a3 b'⟩)
def zXr (S : List Int) : Prop := ∀ d : Int, 0 ≤ d → zgo d S ∧ zfi d S = d + 1
def zXc (S : List Int) : Prop := ∀ d : Int, 1 ≤ d → zgo d S ∧ zfi d S = d
theorem zXr.one {x : Int} (h : 0 ≤ x) : zXr [x] := fun d _ => ⟨Or.inl ⟨h, trivial⟩, by show (if 0 ≤ x then d + 1 else _) = d + 1; rw [if_pos h]⟩
theorem zXr.no {S : List Int} (h : zXr S) : zXr (S ++ [-3]) := fun d d0 => by
  obtain ⟨a, b⟩ := h d d0
  refine ⟨zgo_app S [-3] d a ?_, ?_⟩
  · rw [b]; exact Or.inr (Or.inl ⟨rfl, by omega, trivial⟩)
  · rw [zfi_app, b]; rfl
theorem zXr.co {A B : List Int} (h : zXr A) (k : zXc B) : zXr (A ++ B) := fun d d0 => by
  obtain ⟨a, b⟩ := h d d0
  obtain ⟨a', b'⟩ := k (d + 1) (by omega)
  refine ⟨zgo_app A B d a ?_, ?_⟩
  · rw [b]; exact a'
  · rw [zfi_app, b]; exact b'
theorem zXc.nil : zXc [] := fun _ _ => ⟨trivial, rfl⟩
theorem zXc.op {A B : List Int} {x : Int} (hx : x = -1 ∨ x = -2) (h : zXr A) (k : zXc B) : zXc ((A ++ [x]) ++ B) := fun d d1 => by
  obtain ⟨a, b⟩ := h d (by omega)
  obtain ⟨a', b'⟩ := k d d1
  have f1 : zfi (d + 1) [x] = d := by
    show (if 0 ≤ x then d + 1 + 1 else if x = -3 then d + 1 else d + 1 - 1) = d
    rw [if_neg (by omega), if_neg (by omega)]
    omega
  have g1 : zgo d (A ++ [x]) := zgo_app A [x] d a (by rw [b]; exact Or.inr (Or.inr ⟨hx, by omega, trivial⟩))
  have f2 : zfi d (A ++ [x]) = d := by rw [zfi_app, b, f1]
  refine ⟨zgo_app (A ++ [x]) B d g1 (by rw [f2]; exact a'), ?_⟩
  rw [zfi_app, f2]; exact b'
def zRp (m : Nat) : zRes → Prop
  | .inl _ => True
  | .inr q => (m < 3 → zXr q.2.2) ∧ (3 ≤ m → zXc q.2.2)
theorem zRp.seq {m : Nat} {A : List Int} {r : zRes} (h : zRp 3 r) (hA : ∀ B, zXc B → ((m < 3 → zXr (A ++ B)) ∧ (3 ≤ m → zXc (A ++ B)))) : zRp m (zSeq A r) := by
  cases r with
  | inl e => exact trivial
  | inr q => exact hA _ (h.2 (by decide))
theorem zPx_rpn {kd wd vl : Int → Int} (hq : ∀ (j o : Int) (q : Int × Int × List Int), zAsk (wd j) → zQn kd wd vl j o = .inr q → zXr q.2.2) : ∀ (f m : Nat) (w j o : Int), m < 5 → zRp m (zPx kd wd vl f m w j o)
  | 0, m, w, j, o, hm => trivial
  | f + 1, m, w, j, o, hm => by
    have ih := fun (m : Nat) (w j o : Int) (hm : m < 5) => zPx_rpn hq f m w j o hm
    rcases (show m = 0 ∨ m = 1 ∨ m = 2 ∨ m = 3 ∨ m = 4 by omega) with rfl | rfl | rfl | rfl | rfl
    · rw [zPx_0]
      by_cases c1 : ¬ zAsk (wd j) ∧ wd j ≠ 1000007 ∧ kd j ≠ 40
      · rw [if_pos c1]; exact trivial
      · rw [if_neg c1]
        by_cases c2 : 60 ≤ o ∨ 12 ≤ w
        · rw [if_pos c2]; exact trivial
        · rw [if_neg c2]
          by_cases c3 : zAsk (wd j)
          · rw [if_pos c3]
            have z := hq j o
            generalize zQn kd wd vl j o = Z at z
            cases Z with
            | inl e => exact trivial
            | inr q => exact ⟨fun _ => z q c3 rfl, fun y => absurd y (by decide)⟩
          · rw [if_neg c3]
            by_cases c4 : wd j = 1000007
            · rw [if_pos c4]
              have z := ih 0 (w + 1) (j + 1) (o + 1) (by decide)
              cases hr : zPx kd wd vl f 0 (w + 1) (j + 1) (o + 1) with
              | inl e => exact trivial
              | inr q =>
                rw [hr] at z
                exact ⟨fun _ => (z.1 (by decide)).no, fun y => absurd y (by decide)⟩
            · rw [if_neg c4]
              have z := ih 2 (w + 1) (j + 1) (o + 1) (by decide)
              cases hr : zPx kd wd vl f 2 (w + 1) (j + 1) (o + 1) with
              | inl e => exact trivial
              | inr q =>
                rw [hr] at z
                show zRp 0 (if kd q.1 = 41 then _ else _)
                by_cases c5 : kd q.1 = 41
                · rw [if_pos c5]
                  exact ⟨fun _ => z.1 (by decide), fun y => absurd y (by decide)⟩
                · rw [if_neg c5]; exact trivial
    · rw [zPx_1]
      have z := ih 0 w j o (by decide)
      cases hr : zPx kd wd vl f 0 w j o with
      | inl e => exact trivial
      | inr q =>
        rw [hr] at z
        exact (ih 3 w q.1 q.2.1 (by decide)).seq (fun B k => ⟨fun _ => (z.1 (by decide)).co k, fun y => absurd y (by decide)⟩)
    · rw [zPx_2]
      have z := ih 1 w j o (by decide)
      cases hr : zPx kd wd vl f 1 w j o with
      | inl e => exact trivial
      | inr q =>
        rw [hr] at z
        have y := ih 4 w q.1 q.2.1 (by decide)
        refine zRp.seq (r := zPx kd wd vl f 4 w q.1 q.2.1) ?_ (fun B k => ⟨fun _ => (z.1 (by decide)).co k, fun y => absurd y (by decide)⟩)
        cases hr2 : zPx kd wd vl f 4 w q.1 q.2.1 with
        | inl e => exact trivial
        | inr t => rw [hr2] at y; exact ⟨fun x => absurd x (by decide), fun _ => y.2 (by decide)⟩
    · rw [zPx_3]
      by_cases c : wd j = 1000010
      · rw [if_pos c]
        have z := ih 0 w (j + 1) o (by decide)
        cases hr : zPx kd wd vl f 0 w (j + 1) o with
        | inl e => exact trivial
        | inr q =>
          rw [hr] at z
          exact (ih 3 w q.1 q.2.1 (by decide)).seq (fun B k => ⟨fun y => absurd y (by decide), fun _ => zXc.op (Or.inl rfl) (z.1 (by decide)) k⟩)
      · rw [if_neg c]
        exact ⟨fun y => absurd y (by decide), fun _ => zXc.nil⟩
    · rw [zPx_4]
      by_cases c : wd j = 1000009
      · rw [if_pos c]
        have z := ih 1 w (j + 1) o (by decide)
        cases hr : zPx kd wd vl f 1 w (j + 1) o with
        | inl e => exact trivial
        | inr q =>
          rw [hr] at z
          have y := ih 4 w q.1 q.2.1 (by decide)
          refine zRp.seq (r := zPx kd wd vl f 4 w q.1 q.2.1) ?_ (fun B k => ⟨fun y => absurd y (by decide), fun _ => zXc.op (Or.inr rfl) (z.1 (by decide)) k⟩)
          cases hr2 : zPx kd wd vl f 4 w q.1 q.2.1 with
          | inl e => exact trivial
          | inr t => rw [hr2] at y; exact ⟨fun x => absurd x (by decide), fun _ => y.2 (by decide)⟩
      · rw [if_neg c]
        exact ⟨fun y => absurd y (by decide), fun _ => zXc.nil⟩
/-- every LINE's steps are a COND's, or none -/
def zVrp (V : zLV) : Prop := ∀ x ∈ V.1, x.2.2.1 = x.2.2.2 ∨ ∃ A S B : List Int, V.2.1 = A ++ S ++ B ∧ x.2.2.1 = A.length ∧ x.2.2.2 = (A.length : Int) + S.length ∧ zXr S
theorem zVrp.add {V : zLV} (h : zVrp V) (k num : Int) (S : List Int) (R : Int × Int × Int) (hS : S = [] ∨ zXr S) : zVrp (V.1 ++ [(k, num, (V.2.1.length : Int), (V.2.1.length : Int) + S.length)], V.2.1 ++ S, R) := by
  intro x hx
  rcases List.mem_append.mp hx with q | q
  · rcases h x q with z | ⟨A, S', B, z1, z2, z3, z4⟩
    · exact Or.inl z
    · refine Or.inr ⟨A, S', B ++ S, ?_, z2, z3, z4⟩
      show V.2.1 ++ S = _
      rw [z1, List.append_assoc]
  · rw [List.mem_singleton.mp q]
    rcases hS with z | z
    · left
      rw [z]
      show (V.2.1.length : Int) = (V.2.1.length : Int) + (([] : List Int).length : Int)
      rw [List.length_nil]; omega
    · refine Or.inr ⟨V.2.1, S, [], ?_, rfl, rfl, z⟩
      show V.2.1 ++ S = V.2.1 ++ S ++ []
      rw [List.append_nil]
theorem zLn_rpn {kd wd vl : Int → Int} (hq : ∀ (j o : Int) (q : Int × Int × List Int), zAsk (wd j) → zQn kd wd vl j o = .inr q → zXr q.2.2) {V : zLV} {j o : Int} (h : zVrp V) {q : Int × Int × zLV} (hr : zLn kd wd vl V j o = .inr q) : zVrp q.2.2 := by
  have en : ∀ (j1 o1 : Int) (W : zLV), zVrp W → zEn kd j1 o1 W = .inr q → zVrp q.2.2 := fun j1 o1 W hW e => by
    unfold zEn at e
    by_cases c : kd j1 = 59
    · rw [if_pos c] at e
      rw [← Sum.inr.inj e]
      exact hW
    · rw [if_neg c] at e
      cases e
  unfold zLn at hr
  generalize zWl (wd j) = K at hr
  by_cases c1 : wd j < 0 ∨ K = -1
  · rw [if_pos c1] at hr; cases hr
  · rw [if_neg c1] at hr
    by_cases c2 : 20 ≤ (V.1.length : Int) ∨ (K = 0 ∨ K = 5) ∧ V.1.any (fun x => decide (x.1 = K)) = true
    · rw [if_pos c2] at hr; cases hr
    · rw [if_neg c2] at hr
      cases hd : zHd kd wd vl K V.2.2.1 V.2.2.2.1 V.2.2.2.2 (j + 1) with
      | inl e => rw [hd] at hr; cases hr
      | inr r =>
        rw [hd] at hr
        have hr' : (if ¬ (K = 0 ∨ K = 5) ∧ wd r.1 = 1000003 then (match zPx kd wd vl 300 2 0 (r.1 + 1) o with
          | .inl e => (.inl e : zRl)
          | .inr q => zEn kd q.1 q.2.1 (V.1 ++ [(K, r.2.1, (V.2.1.length : Int), (V.2.1.length : Int) + q.2.2.length)], V.2.1 ++ q.2.2, r.2.2))
          else zEn kd r.1 o (V.1 ++ [(K, r.2.1, (V.2.1.length : Int), (V.2.1.length : Int))], V.2.1, r.2.2)) = .inr q := hr
        by_cases c3 : ¬ (K = 0 ∨ K = 5) ∧ wd r.1 = 1000003
        · rw [if_pos c3] at hr'
          have z := zPx_rpn hq 300 2 0 (r.1 + 1) o (by decide)
          cases hp : zPx kd wd vl 300 2 0 (r.1 + 1) o with
          | inl e => rw [hp] at hr'; cases hr'
          | inr t =>
            rw [hp] at hr' z
            exact en _ _ _ (h.add K r.2.1 t.2.2 r.2.2 (Or.inr (z.1 (by decide)))) hr'
        · rw [if_neg c3] at hr'
          refine en _ _ _ ?_ hr'
          have z := h.add K r.2.1 [] r.2.2 (Or.inl rfl)
          rw [List.append_nil, List.length_nil, show (V.2.1.length : Int) + ((0 : Nat) : Int) = V.2.1.length by omega] at z
          exact z
theorem zLl_rpn {kd wd vl : Int → Int} (hq : ∀ (j o : Int) (q : Int × Int × List Int), zAsk (wd j) → zQn kd wd vl j o = .inr q → zXr q.2.2) (tl : Int) : ∀ (f : Nat) (V : zLV) (j o : Int) (W : zLV), zVrp V → zLl kd wd vl tl f V j o = .inr W → zVrp W
  | 0, V, j, o, W, h, e => by cases e
  | f + 1, V, j, o, W, h, e => by
    rw [zLl_s] at e
    by_cases c : kd j = 0
    · rw [if_pos c] at e
      by_cases c2 : tl = 0
      · rw [if_pos c2] at e
        rw [← Sum.inr.inj e]; exact h
      · rw [if_neg c2] at e; cases e
    · rw [if_neg c] at e
      cases hr : zLn kd wd vl V j o with
      | inl d => rw [hr] at e; cases e
      | inr q =>
        rw [hr] at e
        exact zLl_rpn hq tl f q.2.2 q.1 q.2.1 W (zLn_rpn hq h hr) e
/-- what is asked is a step from 0 on -/
theorem mQn_rpn {b : Int → Int} {x : Int} (j o : Int) (q : Int × Int × List Int) (ha : zAsk (zTW b x j)) (e : zQn (zTK b x) (zTW b x) (zTV b x) j o = .inr q) : zXr q.2.2 := by
  have ask := (show _ ∧ _ ∧ _ from mato_ask (b := b) (x := x) (j := j))
  have m0 := ask.1.mpr ha
  have lo := mato_lo (b := b) (x := x) (j := j) m0
  have hi := mato_hi (b := b) (x := x) (j := j)
  have pos : ∀ w s n y : Int, 0 ≤ w → w ≤ 11 → mStq w s n y → 0 ≤ y := fun w s n y w0 w1 h => by
    rcases h with h | h | h | h | h | h | h | ⟨h1, h2, h3, h4⟩
    · omega
    · omega
    · omega
    · rw [h.2]; decide
    · rw [h.2]; decide
    · rw [h.2]; decide
    · rw [h.2]; decide
    · rw [h4]
      refine (zqs_dec (a := mtb w) ?_ ?_ (by omega) (by omega) h3.1 (by omega)).1
      · unfold mtb; repeat' split
        all_goals omega
      · unfold mtb; repeat' split
        all_goals omega
  by_cases c : mato (zTW b x j) < 4
  · have l := lo c
    have e1 : zQn (zTK b x) (zTW b x) (zTV b x) j o = .inr (j + 1, o + 1, [zqs (zWa (zTW b x j)) 61 (zWn (zTW b x j))]) := by
      unfold zQn
      exact if_pos l.1
    rw [e1] at e
    rw [← Sum.inr.inj e]
    exact zXr.one (pos _ _ _ _ m0 ask.2.1 l.2)
  · have l := hi (by omega)
    have hn : ¬ zWn (zTW b x j) ≠ -1 := fun z => z (show zWn (zTW b x j) = -1 from l.1)
    unfold zQn at e
    rw [if_neg hn] at e
    clear hn lo
    by_cases c1 : zTK b x (j + 1) ≠ 60 ∧ zTK b x (j + 1) ≠ 61 ∧ zTK b x (j + 1) ≠ 62
    · rw [if_pos c1] at e; cases e
    · rw [if_neg c1] at e
      by_cases c2 : zTK b x (j + 2) ≠ 2
      · rw [if_pos c2] at e; cases e
      · rw [if_neg c2] at e
        rw [← Sum.inr.inj e]
        have v := mVL_in (Classical.byContradiction c2)
        have s3 : zTK b x (j + 1) = 60 ∨ zTK b x (j + 1) = 61 ∨ zTK b x (j + 1) = 62 := by omega
        exact zXr.one (pos _ _ _ _ m0 ask.2.1 (l.2 _ _ s3 v.1 v.2))
/-! the model's evaluation finds what it wants -/
def zat1 : List Int → Int
  | [] => 0
  | x :: S => zat1 S + if 0 ≤ x then 1 else 0
theorem zat1_in : ∀ S : List Int, 0 ≤ zat1 S
  | [] => Int.le_refl _
  | x :: S => by
    have := zat1_in S
    show 0 ≤ zat1 S + if 0 ≤ x then 1 else 0
    split <;> omega
theorem zat1_app : ∀ A B : List Int, zat1 (A ++ B) = zat1 A + zat1 B
  | [], B => by show zat1 B = 0 + zat1 B; omega
  | x :: A, B => by
    show zat1 (A ++ B) + _ = zat1 A + _ + zat1 B
    rw [zat1_app A B]; omega
theorem zfi_le : ∀ (S : List Int) (d : Int), zfi d S ≤ d + zat1 S
  | [], d => by show d ≤ d + 0; omega
  | x :: S, d => by
    have := zfi_le S (if 0 ≤ x then d + 1 else if x = -3 then d else d - 1)
    show zfi _ S ≤ d + (zat1 S + if 0 ≤ x then 1 else 0)
    by_cases c : 0 ≤ x
    · rw [if_pos c] at this ⊢
      rw [if_pos c]; omega
    · rw [if_neg c] at this ⊢
      rw [if_neg c]
      by_cases c3 : x = -3
      · rw [if_pos c3] at this ⊢; omega
      · rw [if_neg c3] at this ⊢; omega
theorem zfi_ge : ∀ (S : List Int) (d : Int), d + 2 * zat1 S - S.length ≤ zfi d S
  | [], d => by show d + 2 * 0 - ((0 : Nat) : Int) ≤ d; omega
  | x :: S, d => by
    have := zfi_ge S (if 0 ≤ x then d + 1 else if x = -3 then d else d - 1)
    show d + 2 * (zat1 S + if 0 ≤ x then 1 else 0) - ((S.length + 1 : Nat) : Int) ≤ zfi _ S
    by_cases c : 0 ≤ x
    · rw [if_pos c] at this ⊢
      rw [if_pos c]; omega
    · rw [if_neg c] at this ⊢
      rw [if_neg c]
      by_cases c3 : x = -3
      · rw [if_pos c3] at this ⊢; omega
      · rw [if_neg c3] at this ⊢; omega
theorem zgo_0 : ∀ (S : List Int) (d : Int), 0 ≤ d → zgo d S → 0 ≤ zfi d S
  | [], d, d0, _ => d0
  | x :: S, d, d0, g => by
    rcases g with ⟨a1, a2⟩ | ⟨a1, a2, a3⟩ | ⟨a1, a2, a3⟩
    · show 0 ≤ zfi (if 0 ≤ x then d + 1 else _) S
      rw [if_pos a1]; exact zgo_0 S _ (by omega) a2
    · show 0 ≤ zfi (if 0 ≤ x then d + 1 else if x = -3 then d else _) S
      rw [if_neg (by omega), if_pos a1]; exact zgo_0 S _ d0 a3
    · show 0 ≤ zfi (if 0 ≤ x then d + 1 else if x = -3 then d else d - 1) S
      rw [if_neg (by omega), if_neg (by omega)]; exact zgo_0 S _ (by omega) a3
theorem zgo_split : ∀ (A B : List Int) (d : Int), zgo d (A ++ B) → zgo d A ∧ zgo (zfi d A) B
  | [], B, d, g => ⟨trivial, g⟩
  | x :: A, B, d, g => by
    rcases g with ⟨a1, a2⟩ | ⟨a1, a2, a3⟩ | ⟨a1, a2, a3⟩
    · obtain ⟨b1, b2⟩ := zgo_split A B _ a2
      refine ⟨Or.inl ⟨a1, b1⟩, ?_⟩
      show zgo (zfi (if 0 ≤ x then d + 1 else _) A) B
      rw [if_pos a1]; exact b2
    · obtain ⟨b1, b2⟩ := zgo_split A B _ a3
      refine ⟨Or.inr (Or.inl ⟨a1, a2, b1⟩), ?_⟩
      show zgo (zfi (if 0 ≤ x then d + 1 else if x = -3 then d else _) A) B
      rw [if_neg (by omega), if_pos a1]; exact b2
    · obtain ⟨b1, b2⟩ := zgo_split A B _ a3
      refine ⟨Or.inr (Or.inr ⟨a1, a2, b1⟩), ?_⟩
      show zgo (zfi (if 0 ≤ x then d + 1 else if x = -3 then d else d - 1) A) B
      rw [if_neg (by omega), if_neg (by omega)]; exact b2
theorem mStq.kd {w s n x : Int} (h : mStq w s n x) : w = 20 ∧ x = -3 ∨ w = 21 ∧ x = -1 ∨ w = 22 ∧ x = -2 ∨ (0 ≤ w ∧ w < 12) ∧ 0 ≤ x := by
  rcases h with h | h | h | h | h | h | h | ⟨h1, h2, h3, h4⟩
  · exact Or.inl h
  · exact Or.inr (Or.inl h)
  · exact Or.inr (Or.inr (Or.inl h))
  · exact Or.inr (Or.inr (Or.inr ⟨by omega, by rw [h.2]; decide⟩))
  · exact Or.inr (Or.inr (Or.inr ⟨by omega, by rw [h.2]; decide⟩))
  · exact Or.inr (Or.inr (Or.inr ⟨by omega, by rw [h.2]; decide⟩))
  · exact Or.inr (Or.inr (Or.inr ⟨by omega, by rw [h.2]; decide⟩))
  · refine Or.inr (Or.inr (Or.inr ⟨by omega, ?_⟩))
    rw [h4]
    refine (zqs_dec (a := mtb w) ?_ ?_ (by omega) (by omega) h3.1 (by omega)).1
    · unfold mtb; repeat' split
      all_goals omega
    · unfold mtb; repeat' split
      all_goals omega
theorem mdp_zfi {f : zH} {a : Int} {S : List Int} (h : ∀ k : Nat, k < S.length → mStq (f 201 (a + k)) (f 202 (a + k)) (f 203 (a + k)) (S.getD k 0)) : ∀ j : Nat, j ≤ S.length → mdp f a j = zfi 0 (S.take j)
  | 0, _ => by rw [List.take_zero]; rfl
  | j + 1, hj => by
    have k := (h j (by omega)).kd
    have e : S.take (j + 1) = S.take j ++ [S.getD j 0] := by
      rw [List.take_add_one, List.getD_eq_getElem?_getD, List.getElem?_eq_getElem (show j < S.length by omega)]
      rfl
    rw [e, zfi_app, ← mdp_zfi h j (by omega)]
    show mdp f a j + _ = (if 0 ≤ S.getD j 0 then mdp f a j + 1 else if S.getD j 0 = -3 then mdp f a j else mdp f a j - 1)
    rcases k with ⟨k1, k2⟩ | ⟨k1, k2⟩ | ⟨k1, k2⟩ | ⟨k1, k2⟩
    · rw [if_pos k1, if_neg (by omega), if_pos k2]; omega
    · rw [if_neg (by omega), if_pos (Or.inl k1), if_neg (by omega), if_neg (by omega)]; omega
    · rw [if_neg (by omega), if_pos (Or.inr k1), if_neg (by omega), if_neg (by omega)]; omega
    · rw [if_neg (by omega), if_neg (by omega), if_pos k2]
theorem mGood_rpn {f : zH} {a : Int} {S : List Int} (hl : S.length ≤ 120) (hS : zXr S) (h : ∀ k : Nat, k < S.length → mStq (f 201 (a + k)) (f 202 (a + k)) (f 203 (a + k)) (S.getD k 0)) : mGood f a S.length := by
  intro j hj
  obtain ⟨g, e⟩ := hS 0 (Int.le_refl _)
  have at60 : 2 * zat1 S ≤ 121 := by
    have := zfi_ge S 0
    omega
  have sp : S = S.take j ++ S.drop j := (List.take_append_drop j S).symm
  rw [sp] at g
  obtain ⟨g1, g2⟩ := zgo_split _ _ _ g
  have le := zfi_le (S.take j) 0
  have ge := zgo_0 _ 0 (Int.le_refl _) g1
  have a1 : zat1 S = zat1 (S.take j) + zat1 (S.drop j) := by rw [← zat1_app, ← sp]
  have a2 := zat1_in (S.drop j)
  rw [mdp_zfi h j (by omega)]
  have k := (h j hj).kd
  rw [List.drop_eq_getElem_cons hj] at g2
  have ex : S.getD j 0 = S[j] := by rw [List.getD_eq_getElem?_getD, List.getElem?_eq_getElem hj]; rfl
  rw [ex] at k
  refine ⟨by omega, ?_⟩
  rcases g2 with ⟨b1, -⟩ | ⟨b1, b2, -⟩ | ⟨b1, b2, -⟩
  · rcases k with ⟨k1, k2⟩ | ⟨k1, k2⟩ | ⟨k1, k2⟩ | ⟨k1, k2⟩
    · omega
    · omega
    · omega
    · exact Or.inr (Or.inr ⟨k1.1, k1.2, by omega⟩)
  · rcases k with ⟨k1, k2⟩ | ⟨k1, k2⟩ | ⟨k1, k2⟩ | ⟨k1, k2⟩
    · exact Or.inl ⟨k1, b2⟩
    · omega
    · omega
    · omega
  · rcases k with ⟨k1, k2⟩ | ⟨k1, k2⟩ | ⟨k1, k2⟩ | ⟨k1, k2⟩
    · omega
    · exact Or.inr (Or.inl ⟨Or.inl k1, b2⟩)
    · exact Or.inr (Or.inl ⟨Or.inr k1, b2⟩)
    · omega
theorem mLOK_of {f : zH} {w : Int} {V : zLV} (a : mLwr f w V) (h20 : V.1.length ≤ 20) (h120 : V.2.1.length ≤ 120) (ok : zVok V) (rp : zVrp V) : mLOK f w := by
  obtain ⟨a1, a2, a3, a4, a5, a6⟩ := a
  refine ⟨by omega, fun i i0 i1 => ?_⟩
  rw [a1] at i1
  have hi : i.toNat < V.1.length := by omega
  have r := a5 i.toNat hi
  rw [Int.toNat_of_nonneg i0] at r
  have hx : V.1.getD i.toNat (0, 0, 0, 0) ∈ V.1 := by
    rw [List.getD_eq_getElem?_getD, List.getElem?_eq_getElem hi]
    exact List.getElem_mem _
  generalize V.1.getD i.toNat (0, 0, 0, 0) = x at r hx
  have o := ok x hx
  obtain ⟨r1, r2, r3, r4, r5⟩ := r
  rw [r4, r5]
  refine ⟨by omega, ?_⟩
  rcases rp x hx with z | ⟨A, S, B, z1, z2, z3, z4⟩
  · rw [z, Int.sub_self]
    intro j hj
    exact absurd hj (Nat.not_lt_zero j)
  · have ln : V.2.1.length = A.length + S.length + B.length := by rw [z1, List.length_append, List.length_append]
    have en : (x.2.2.2 - x.2.2.1).toNat = S.length := by omega
    rw [en]
    refine mGood_rpn (by omega) z4 (fun k hk => ?_)
    have q := a6 (A.length + k) (by omega)
    have eg : V.2.1.getD (A.length + k) 0 = S.getD k 0 := by
      rw [z1, List.append_assoc, List.getD_eq_getElem?_getD, List.getElem?_append_right (by omega), Nat.add_sub_cancel_left, List.getElem?_append_left hk, ← List.getD_eq_getElem?_getD]
    rw [eg] at q
    rw [z2, Int.add_assoc, show (A.length : Int) + (k : Int) = ((A.length + k : Nat) : Int) by omega]
    exact q
