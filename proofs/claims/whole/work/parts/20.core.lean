/-! Z: the machine seen as a small one over whole numbers. A value is (tag, number): 0 int, 1 long, 2 reference (below 0: null). The heap is a function: object, place, number. -/
abbrev zV : Type := Nat × Int
abbrev zH : Type := Int → Int → Int
abbrev xI (x : Int) : zV := (0, x)
abbrev xL (x : Int) : zV := (1, x)
abbrev xR (x : Int) : zV := (2, x)
def zrf (ad : Nat → Nat) (x : Int) : Option Nat := if x < 0 then none else some (ad x.toNat)
def zcv (ad : Nat → Nat) (v : zV) : Value := match v.1 with
  | 0 => .int (Int32.ofInt v.2)
  | 1 => .long (Int64.ofInt v.2)
  | _ => va_rf (zrf ad v.2)
def zi32 (x : Int) : Prop := -2147483648 ≤ x ∧ x < 2147483648
def zi64 (x : Int) : Prop := -9223372036854775808 ≤ x ∧ x < 9223372036854775808
/-- a number that its tag can hold, with n objects made; the constants of the enum are 1000000 and on -/
def zok (n : Nat) (v : zV) : Prop := match v.1 with
  | 0 => zi32 v.2
  | 1 => zi64 v.2
  | _ => v.2 = -1 ∨ (0 ≤ v.2 ∧ v.2 < n) ∨ 1000000 ≤ v.2
def w32 (x : Int) : Int := (Int32.ofInt x).toInt
def w64 (x : Int) : Int := (Int64.ofInt x).toInt
theorem w32_in (x : Int) : zi32 (w32 x) := ⟨Int32.le_toInt _, Int32.toInt_lt _⟩
theorem w64_in (x : Int) : zi64 (w64 x) := ⟨Int64.le_toInt _, Int64.toInt_lt _⟩
theorem w32_of (x : Int) : Int32.ofInt (w32 x) = Int32.ofInt x := Int32.ofInt_toInt _
theorem w64_of (x : Int) : Int64.ofInt (w64 x) = Int64.ofInt x := Int64.ofInt_toInt _
theorem w32_id {x : Int} (h1 : -2147483648 ≤ x) (h2 : x < 2147483648) : w32 x = x := Int32.toInt_ofInt_of_le h1 h2
theorem w64_id {x : Int} (h1 : -9223372036854775808 ≤ x) (h2 : x < 9223372036854775808) : w64 x = x := Int64.toInt_ofInt_of_le h1 h2
theorem zi32_to {x : Int} (h : zi32 x) : (Int32.ofInt x).toInt = x := Int32.toInt_ofInt_of_le h.1 h.2
theorem zi64_to {x : Int} (h : zi64 x) : (Int64.ofInt x).toInt = x := Int64.toInt_ofInt_of_le h.1 h.2
theorem zi32_inj {x y : Int} (hx : zi32 x) (hy : zi32 y) : Int32.ofInt x = Int32.ofInt y ↔ x = y := by
  rw [← Int32.toInt_inj, zi32_to hx, zi32_to hy]
theorem zi32_lt {x y : Int} (hx : zi32 x) (hy : zi32 y) : Int32.ofInt x < Int32.ofInt y ↔ x < y := by
  rw [Int32.lt_iff_toInt_lt, zi32_to hx, zi32_to hy]
theorem zi32_le {x y : Int} (hx : zi32 x) (hy : zi32 y) : Int32.ofInt x ≤ Int32.ofInt y ↔ x ≤ y := by
  rw [Int32.le_iff_toInt_le, zi32_to hx, zi32_to hy]
theorem zi64_inj {x y : Int} (hx : zi64 x) (hy : zi64 y) : Int64.ofInt x = Int64.ofInt y ↔ x = y := by
  rw [← Int64.toInt_inj, zi64_to hx, zi64_to hy]
theorem zi64_lt {x y : Int} (hx : zi64 x) (hy : zi64 y) : Int64.ofInt x < Int64.ofInt y ↔ x < y := by
  rw [Int64.lt_iff_toInt_lt, zi64_to hx, zi64_to hy]
theorem zi32_0 : zi32 0 := ⟨by omega, by omega⟩
theorem zI0 : Int32.ofInt 0 = 0 := by decide
/-- the shape of each object: (0, class, its fields) or (1 int, 2 long, 3 boolean, 4 byte, 5 of enum constants, 6 of int arrays, 7 of Laws, 8 of Rolls; -, length) -/
def zcls : List vw_C := [(RX0, TX0, 3), (RX1, TX1, 13), (RX2, TX2, 3), (RX3, TX3, 6), (RX4, TX4, 17), (RX5, TX5, 8), (RX6, TX6, 13), (RX7, TX7, 2), (RX8, TX8, 6), (RX7, TX7, 2), (RX10, TX10, 17), (RX11, TX11, 97)]
def zfty (c : Nat) : Nat → FieldType := match c with
  | 0 => tyX0
  | 1 => tyX1
  | 2 => tyX2
  | 3 => tyX3
  | 4 => tyX4
  | 5 => tyX5
  | 6 => tyX6
  | 7 => tyX7
  | 8 => tyX8
  | 9 => tyX7
  | 10 => tyX10
  | _ => tyX11
def ztag (t : FieldType) : Nat := match t with
  | .long => 1
  | .object _ => 2
  | .array _ => 2
  | _ => 0
def zety (k : Nat) : FieldType := match k with
  | 1 => .int
  | 2 => .long
  | 3 => .boolean
  | 4 => .byte
  | 5 => .object RX9
  | 6 => .array .int
  | 7 => .object RX1
  | _ => .object RX6
/-- the tag of a place of an object of a shape -/
def zsty (sh : Nat × Nat × Nat) (k : Nat) : Nat := match sh.1 with
  | 0 => ztag (zfty sh.2.1 k)
  | t + 1 => ztag (zety (t + 1))
def zcell (sh : Nat × Nat × Nat) (ad : Nat → Nat) (cA : ClassId) (f : Int → Int) : va_E := match sh.1 with
  | 0 => .inr (sh.2.1, (List.range sh.2.2).map fun k => zcv ad (ztag (zfty sh.2.1 k), f k))
  | 1 => .inl (cA, sh.2.2, .inl fun j => Int32.ofInt (f j))
  | 2 => .inl (cA, sh.2.2, .inr (.inl fun j => Int64.ofInt (f j)))
  | 3 => .inl (cA, sh.2.2, .inl fun j => Int32.ofInt (f j))
  | 4 => .inl (cA, sh.2.2, .inl fun j => Int32.ofInt (f j))
  | _ => .inl (cA, sh.2.2, .inr (.inr (.inr (.inr fun j => zrf ad (f j)))))
/-- the objects in the order of their making -/
def zSL : List (Nat × Nat × Nat) := [(0, 10, 17), (0, 7, 2), (4, 0, 340), (0, 4, 17), (1, 0, 60), (1, 0, 60), (1, 0, 60), (0, 2, 3), (1, 0, 600), (0, 2, 3), (1, 0, 1440), (0, 2, 3), (1, 0, 360), (0, 2, 3), (1, 0, 240), (0, 2, 3), (1, 0, 360), (1, 0, 60), (3, 0, 60), (1, 0, 60), (3, 0, 60), (1, 0, 60), (1, 0, 8), (3, 0, 60), (0, 5, 8), (0, 8, 6), (1, 0, 301), (1, 0, 301), (1, 0, 301), (5, 0, 301), (0, 1, 13), (1, 0, 20), (1, 0, 20), (1, 0, 20), (1, 0, 20), (1, 0, 120), (0, 1, 13), (1, 0, 20), (1, 0, 20), (1, 0, 20), (1, 0, 20), (1, 0, 120), (7, 0, 8), (8, 0, 4), (0, 0, 3), (6, 0, 8), (1, 0, 12), (1, 0, 12), (1, 0, 12), (1, 0, 12), (1, 0, 12), (1, 0, 12), (1, 0, 12), (1, 0, 12), (6, 0, 8), (1, 0, 12), (1, 0, 12), (1, 0, 12), (1, 0, 12), (1, 0, 12), (1, 0, 12), (1, 0, 12), (1, 0, 12), (3, 0, 60), (1, 0, 60), (0, 1, 13), (1, 0, 20), (1, 0, 20), (1, 0, 20), (1, 0, 20), (1, 0, 120), (0, 1, 13), (1, 0, 20), (1, 0, 20), (1, 0, 20), (1, 0, 20), (1, 0, 120), (0, 1, 13), (1, 0, 20), (1, 0, 20), (1, 0, 20), (1, 0, 20), (1, 0, 120), (0, 1, 13), (1, 0, 20), (1, 0, 20), (1, 0, 20), (1, 0, 20), (1, 0, 120), (0, 1, 13), (1, 0, 20), (1, 0, 20), (1, 0, 20), (1, 0, 20), (1, 0, 120), (0, 1, 13), (1, 0, 20), (1, 0, 20), (1, 0, 20), (1, 0, 20), (1, 0, 120), (0, 1, 13), (1, 0, 20), (1, 0, 20), (1, 0, 20), (1, 0, 20), (1, 0, 120), (0, 1, 13), (1, 0, 20), (1, 0, 20), (1, 0, 20), (1, 0, 20), (1, 0, 120), (0, 6, 13), (0, 3, 6), (1, 0, 52), (1, 0, 26), (1, 0, 660), (1, 0, 60), (1, 0, 60), (1, 0, 60), (1, 0, 60), (1, 0, 8), (1, 0, 8), (1, 0, 8), (1, 0, 60), (3, 0, 60), (0, 6, 13), (0, 3, 6), (1, 0, 52), (1, 0, 26), (1, 0, 660), (1, 0, 60), (1, 0, 60), (1, 0, 60), (1, 0, 60), (1, 0, 8), (1, 0, 8), (1, 0, 8), (1, 0, 60), (3, 0, 60), (0, 6, 13), (0, 3, 6), (1, 0, 52), (1, 0, 26), (1, 0, 660), (1, 0, 60), (1, 0, 60), (1, 0, 60), (1, 0, 60), (1, 0, 8), (1, 0, 8), (1, 0, 8), (1, 0, 60), (3, 0, 60), (0, 6, 13), (0, 3, 6), (1, 0, 52), (1, 0, 26), (1, 0, 660), (1, 0, 60), (1, 0, 60), (1, 0, 60), (1, 0, 60), (1, 0, 8), (1, 0, 8), (1, 0, 8), (1, 0, 60), (3, 0, 60), (0, 11, 97), (4, 0, 340), (1, 0, 60), (1, 0, 60), (1, 0, 60), (1, 0, 100), (1, 0, 100), (1, 0, 100), (1, 0, 240), (1, 0, 240), (1, 0, 240), (1, 0, 240), (1, 0, 240), (1, 0, 240), (1, 0, 60), (1, 0, 60), (1, 0, 60), (1, 0, 60), (1, 0, 40), (1, 0, 40), (1, 0, 40), (1, 0, 9), (1, 0, 9), (1, 0, 9), (1, 0, 9), (1, 0, 9), (1, 0, 9), (1, 0, 180), (1, 0, 180), (1, 0, 180), (1, 0, 180), (3, 0, 180), (1, 0, 1170), (1, 0, 1170), (1, 0, 1170), (1, 0, 80), (1, 0, 4), (1, 0, 4), (1, 0, 208), (1, 0, 208), (1, 0, 104), (3, 0, 4), (3, 0, 4), (3, 0, 64), (1, 0, 60), (1, 0, 60), (3, 0, 60), (3, 0, 60), (1, 0, 360), (1, 0, 60), (1, 0, 240), (1, 0, 240), (1, 0, 240), (1, 0, 60), (1, 0, 32), (1, 0, 60), (1, 0, 60), (1, 0, 60), (1, 0, 60), (1, 0, 60), (1, 0, 240), (3, 0, 240), (3, 0, 80), (1, 0, 8), (3, 0, 60), (2, 0, 2), (1, 0, 96), (1, 0, 96), (1, 0, 12), (2, 0, 1)]
def zS (o : Nat) : Nat × Nat × Nat := zSL.getD o (9, 0, 0)
/-- the references that stay: object, place, object -/
def zRT : List (Int × Int × Int) := [(0, 0, 1), (0, 1, 3), (0, 2, 24), (0, 3, 36), (0, 4, 42), (0, 5, 43), (0, 6, 44), (0, 7, 63), (0, 8, 64), (1, 0, 2), (3, 1, 4), (3, 2, 5), (3, 3, 6), (3, 4, 7), (3, 5, 9), (3, 6, 11), (3, 7, 13), (3, 8, 15), (3, 10, 17), (3, 11, 18), (3, 12, 19), (3, 13, 20), (3, 14, 21), (3, 15, 22), (3, 16, 23), (7, 0, 8), (9, 0, 10), (11, 0, 12), (13, 0, 14), (15, 0, 16), (24, 0, 25), (25, 0, 26), (25, 1, 27), (25, 2, 28), (25, 3, 29), (30, 7, 31), (30, 8, 32), (30, 9, 33), (30, 10, 34), (30, 11, 35), (36, 7, 37), (36, 8, 38), (36, 9, 39), (36, 10, 40), (36, 11, 41), (42, 0, 65), (42, 1, 71), (42, 2, 77), (42, 3, 83), (42, 4, 89), (42, 5, 95), (42, 6, 101), (42, 7, 107), (43, 0, 113), (43, 1, 127), (43, 2, 141), (43, 3, 155), (44, 0, 45), (44, 1, 54), (45, 0, 46), (45, 1, 47), (45, 2, 48), (45, 3, 49), (45, 4, 50), (45, 5, 51), (45, 6, 52), (45, 7, 53), (54, 0, 55), (54, 1, 56), (54, 2, 57), (54, 3, 58), (54, 4, 59), (54, 5, 60), (54, 6, 61), (54, 7, 62), (65, 7, 66), (65, 8, 67), (65, 9, 68), (65, 10, 69), (65, 11, 70), (71, 7, 72), (71, 8, 73), (71, 9, 74), (71, 10, 75), (71, 11, 76), (77, 7, 78), (77, 8, 79), (77, 9, 80), (77, 10, 81), (77, 11, 82), (83, 7, 84), (83, 8, 85), (83, 9, 86), (83, 10, 87), (83, 11, 88), (89, 7, 90), (89, 8, 91), (89, 9, 92), (89, 10, 93), (89, 11, 94), (95, 7, 96), (95, 8, 97), (95, 9, 98), (95, 10, 99), (95, 11, 100), (101, 7, 102), (101, 8, 103), (101, 9, 104), (101, 10, 105), (101, 11, 106), (107, 7, 108), (107, 8, 109), (107, 9, 110), (107, 10, 111), (107, 11, 112), (113, 1, 114), (113, 2, 117), (113, 3, 118), (113, 4, 119), (113, 5, 120), (113, 6, 121), (113, 7, 122), (113, 8, 123), (113, 9, 124), (113, 11, 125), (113, 12, 126), (114, 4, 115), (114, 5, 116), (127, 1, 128), (127, 2, 131), (127, 3, 132), (127, 4, 133), (127, 5, 134), (127, 6, 135), (127, 7, 136), (127, 8, 137), (127, 9, 138), (127, 11, 139), (127, 12, 140), (128, 4, 129), (128, 5, 130), (141, 1, 142), (141, 2, 145), (141, 3, 146), (141, 4, 147), (141, 5, 148), (141, 6, 149), (141, 7, 150), (141, 8, 151), (141, 9, 152), (141, 11, 153), (141, 12, 154), (142, 4, 143), (142, 5, 144), (155, 1, 156), (155, 2, 159), (155, 3, 160), (155, 4, 161), (155, 5, 162), (155, 6, 163), (155, 7, 164), (155, 8, 165), (155, 9, 166), (155, 11, 167), (155, 12, 168), (156, 4, 157), (156, 5, 158), (169, 1, 170), (169, 6, 171), (169, 7, 172), (169, 8, 173), (169, 9, 174), (169, 10, 175), (169, 11, 176), (169, 12, 177), (169, 13, 178), (169, 14, 179), (169, 15, 180), (169, 16, 181), (169, 17, 182), (169, 18, 183), (169, 19, 184), (169, 20, 185), (169, 21, 186), (169, 22, 187), (169, 23, 188), (169, 24, 189), (169, 30, 190), (169, 31, 191), (169, 32, 192), (169, 33, 193), (169, 34, 194), (169, 35, 195), (169, 36, 196), (169, 37, 197), (169, 38, 198), (169, 39, 199), (169, 40, 200), (169, 41, 201), (169, 42, 202), (169, 43, 203), (169, 44, 204), (169, 57, 205), (169, 58, 206), (169, 59, 207), (169, 60, 208), (169, 61, 209), (169, 62, 210), (169, 63, 211), (169, 64, 212), (169, 66, 213), (169, 67, 214), (169, 68, 215), (169, 69, 216), (169, 70, 217), (169, 71, 218), (169, 72, 219), (169, 73, 220), (169, 74, 221), (169, 75, 222), (169, 76, 223), (169, 77, 224), (169, 78, 225), (169, 79, 226), (169, 80, 227), (169, 81, 228), (169, 82, 229), (169, 83, 230), (169, 84, 231), (169, 86, 232), (169, 88, 233), (169, 92, 234), (169, 93, 235), (169, 94, 236), (169, 95, 237)]
def zRF (o k : Int) : Option Int := (zRT.find? (fun e => e.1 == o && e.2.1 == k)).map (fun e => e.2.2)
def zRefOK (h : zH) : Prop := ∀ o k v : Int, zRF o k = some v → h o k = v
theorem zRF_mem {o k v : Int} (h : zRF o k = some v) : (o, k, v) ∈ zRT := by
  obtain ⟨e, he, rfl⟩ := Option.map_eq_some_iff.mp h
  have h1 := List.find?_some he
  simp only [Bool.and_eq_true, beq_iff_eq] at h1
  rw [← h1.1, ← h1.2]
  exact List.mem_of_find?_eq_some he
/-- final fields and rows of arrays alone are such -/
def zfin (sh : Nat × Nat × Nat) (k : Nat) : Bool := match sh.1 with
  | 0 => ((zcls.getD sh.2.1 ("", fun _ => ("", "", "", false), 0)).2.1 k).2.2.2
  | 1 => false
  | 2 => false
  | 3 => false
  | 4 => false
  | 5 => false
  | _ => true
theorem zRT_fin : ∀ e ∈ zRT, zfin (zS e.1.toNat) e.2.1.toNat = true := by decide +kernel
theorem zRF_none {o k : Int} (h : zfin (zS o.toNat) k.toNat = false) : zRF o k = none := by
  cases hz : zRF o k with
  | none => rfl
  | some v =>
    have := zRT_fin _ (zRF_mem hz)
    rw [h] at this
    cases this
theorem zRefOK.zst {h : zH} {o k x : Int} (hr : zRefOK h) (hn : zRF o k = none) : zRefOK (fun o' k' => if o' = o ∧ k' = k then x else h o' k') := by
  intro o' k' v hv
  show (if o' = o ∧ k' = k then x else h o' k') = v
  by_cases hc : o' = o ∧ k' = k
  · rw [hc.1, hc.2, hn] at hv
    cases hv
  · rw [if_neg hc]
    exact hr o' k' v hv
/-- the surroundings: classes' ids and slots, addresses, arrays' classes, the list of arrays' classes -/
abbrev zE : Type := va_G × (Nat → Nat) × (Nat → ClassId) × List (ClassId × FieldType)
abbrev zad (E : zE) : Nat → Nat := E.2.1
def zws (E : zE) (n : Nat) (h : zH) : va_W := (List.range n).map fun o => (E.2.1 o, zcell (zS o) E.2.1 (E.2.2.1 o) (h o))
theorem zws_len (E : zE) (n : Nat) (h : zH) : (zws E n h).length = n := by simp [zws]
theorem zws_at {E : zE} {n : Nat} {h : zH} {o : Nat} (ho : o < n) : (zws E n h)[o]? = some (E.2.1 o, zcell (zS o) E.2.1 (E.2.2.1 o) (h o)) := by
  simp [zws, ho]
def zst (h : zH) (o k x : Int) : zH := fun o' k' => if o' = o ∧ k' = k then x else h o' k'
theorem zst_self (h : zH) (o k x : Int) : zst h o k x o k = x := by simp [zst]
theorem zst_ne {h : zH} {o k x o' k' : Int} (hn : o' ≠ o ∨ k' ≠ k) : zst h o k x o' k' = h o' k' := by
  unfold zst
  rw [if_neg]
  rintro ⟨a, b⟩
  rcases hn with z | z
  · exact z a
  · exact z b
theorem zws_set {E : zE} {n : Nat} {h : zH} {o : Nat} (h' : zH) (ho : o < n) (hoth : ∀ o' : Nat, o' ≠ o → h' o' = h o') : (zws E n h).set o (E.2.1 o, zcell (zS o) E.2.1 (E.2.2.1 o) (h' o)) = zws E n h' := by
  apply List.ext_getElem?
  intro i
  by_cases hi : i = o
  · subst hi
    rw [List.getElem?_set_self (by rw [zws_len]; exact ho), zws_at ho]
  · rw [List.getElem?_set_ne (Ne.symm hi)]
    by_cases hn : i < n
    · rw [zws_at hn, zws_at hn, hoth i hi]
    · rw [List.getElem?_eq_none (by rw [zws_len]; omega), List.getElem?_eq_none (by rw [zws_len]; omega)]
theorem zst_oth (h : zH) (o : Nat) (k x : Int) : ∀ o' : Nat, o' ≠ o → zst h o k x o' = h o' := by
  intro o' ho'
  funext k'
  exact zst_ne (Or.inl (by omega))
/-- what stands in the heap: the objects made so far, apart, their classes known, their numbers held by their tags -/
def zRep (E : zE) (n : Nat) (h : zH) (s : State) (H : Heap) (A : Nat → Prop) : Prop :=
  va_P E.1 zcls (zws E n h) H ∧ va_K E.1 zcls E.2.2.2 s ∧ va_D A (zws E n h) ∧ (∀ o : Nat, o < n → (zS o).1 ≠ 0 → ∃ t : Nat, E.2.2.2[t]? = some (E.2.2.1 o, zety (zS o).1)) ∧ (∀ o k : Nat, o < n → zok n (zsty (zS o) k, h o k)) ∧ n < 1000000 ∧ (239 ≤ n → zRefOK h)
/-- later surroundings: what was made stays where it is -/
def zEx (E E' : zE) (n n' : Nat) : Prop := n ≤ n' ∧ E'.1 = E.1 ∧ (∀ o, o < n ∨ 1000000 ≤ o → zad E' o = zad E o) ∧ (∀ o, o < n → E'.2.2.1 o = E.2.2.1 o)
theorem zEx.rf (E : zE) (n : Nat) : zEx E E n n := ⟨Nat.le_refl _, rfl, fun _ _ => rfl, fun _ _ => rfl⟩
theorem zEx.tr {E E' E'' : zE} {n n' n'' : Nat} (h1 : zEx E E' n n') (h2 : zEx E' E'' n' n'') : zEx E E'' n n'' :=
  ⟨Nat.le_trans h1.1 h2.1, h2.2.1.trans h1.2.1, fun o ho => (h2.2.2.1 o (by rcases ho with h | h; exact Or.inl (Nat.lt_of_lt_of_le h h1.1); exact Or.inr h)).trans (h1.2.2.1 o ho), fun o ho => (h2.2.2.2 o (Nat.lt_of_lt_of_le ho h1.1)).trans (h1.2.2.2 o ho)⟩
theorem zok_mono {n n' : Nat} {v : zV} (h : zok n v) (hn : n ≤ n') : zok n' v := by
  obtain ⟨t, x⟩ := v
  unfold zok at h ⊢
  split at h <;> simp_all
  omega
theorem zcv_ex {E E' : zE} {n n' : Nat} {v : zV} (h : zok n v) (hx : zEx E E' n n') : zcv E'.2.1 v = zcv E.2.1 v := by
  obtain ⟨t, x⟩ := v
  match t with
  | 0 => rfl
  | 1 => rfl
  | t + 2 =>
    show va_rf (zrf E'.2.1 x) = va_rf (zrf E.2.1 x)
    unfold zrf
    by_cases h0 : x < 0
    · rw [if_pos h0, if_pos h0]
    · have h9 : x = -1 ∨ (0 ≤ x ∧ x < n) ∨ 1000000 ≤ x := h
      have h8 : E'.2.1 x.toNat = E.2.1 x.toNat := hx.2.2.1 x.toNat (by omega)
      rw [if_neg h0, if_neg h0, h8]
