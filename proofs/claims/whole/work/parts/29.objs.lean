/-! the objects by their classes: where their references go -/
def zLawO (o : Int) : Prop := zOb 239 o (0, 1, 13) ∧ zOb 239 (o + 1) (1, 0, 20) ∧ zOb 239 (o + 2) (1, 0, 20) ∧ zOb 239 (o + 3) (1, 0, 20) ∧ zOb 239 (o + 4) (1, 0, 20) ∧ zOb 239 (o + 5) (1, 0, 120) ∧ zRF o 7 = some (o + 1) ∧ zRF o 8 = some (o + 2) ∧ zRF o 9 = some (o + 3) ∧ zRF o 10 = some (o + 4) ∧ zRF o 11 = some (o + 5)
def zRollO (o : Int) : Prop := zOb 239 o (0, 6, 13) ∧ zOb 239 (o + 1) (0, 3, 6) ∧ zOb 239 (o + 2) (1, 0, 52) ∧ zOb 239 (o + 3) (1, 0, 26) ∧ zOb 239 (o + 4) (1, 0, 660) ∧ zOb 239 (o + 5) (1, 0, 60) ∧ zOb 239 (o + 6) (1, 0, 60) ∧ zOb 239 (o + 7) (1, 0, 60) ∧ zOb 239 (o + 8) (1, 0, 60) ∧ zOb 239 (o + 9) (1, 0, 8) ∧ zOb 239 (o + 10) (1, 0, 8) ∧ zOb 239 (o + 11) (1, 0, 8) ∧ zOb 239 (o + 12) (1, 0, 60) ∧ zOb 239 (o + 13) (3, 0, 60) ∧ zRF o 1 = some (o + 1) ∧ zRF o 2 = some (o + 4) ∧ zRF o 3 = some (o + 5) ∧ zRF o 4 = some (o + 6) ∧ zRF o 5 = some (o + 7) ∧ zRF o 6 = some (o + 8) ∧ zRF o 7 = some (o + 9) ∧ zRF o 8 = some (o + 10) ∧ zRF o 9 = some (o + 11) ∧ zRF o 11 = some (o + 12) ∧ zRF o 12 = some (o + 13) ∧ zRF (o + 1) 4 = some (o + 2) ∧ zRF (o + 1) 5 = some (o + 3)
def zLotO (o : Int) : Prop := zOb 239 o (0, 3, 6) ∧ zOb 239 (o + 1) (1, 0, 52) ∧ zOb 239 (o + 2) (1, 0, 26) ∧ zRF o 4 = some (o + 1) ∧ zRF o 5 = some (o + 2)
def zLedO (o : Int) (N : Nat) : Prop := zOb 239 o (0, 2, 3) ∧ zOb 239 (o + 1) (1, 0, N) ∧ zRF o 0 = some (o + 1)
def zLawOb (o : Int) : Bool := (decide (0 ≤ o) && decide ((o).toNat < 239) && decide (zS (o).toNat = (0, 1, 13))) && (decide (0 ≤ (o + 1)) && decide (((o + 1)).toNat < 239) && decide (zS ((o + 1)).toNat = (1, 0, 20))) && (decide (0 ≤ (o + 2)) && decide (((o + 2)).toNat < 239) && decide (zS ((o + 2)).toNat = (1, 0, 20))) && (decide (0 ≤ (o + 3)) && decide (((o + 3)).toNat < 239) && decide (zS ((o + 3)).toNat = (1, 0, 20))) && (decide (0 ≤ (o + 4)) && decide (((o + 4)).toNat < 239) && decide (zS ((o + 4)).toNat = (1, 0, 20))) && (decide (0 ≤ (o + 5)) && decide (((o + 5)).toNat < 239) && decide (zS ((o + 5)).toNat = (1, 0, 120))) && decide (zRF o 7 = some (o + 1)) && decide (zRF o 8 = some (o + 2)) && decide (zRF o 9 = some (o + 3)) && decide (zRF o 10 = some (o + 4)) && decide (zRF o 11 = some (o + 5))
theorem zLawO_of {o : Int} (h : zLawOb o = true) : zLawO o := by
  unfold zLawOb at h
  have hb : ∀ a b : Bool, (a && b) = true → a = true ∧ b = true := fun a b q => by simpa using q
  obtain ⟨h, h10⟩ := hb _ _ h
  obtain ⟨h, h9⟩ := hb _ _ h
  obtain ⟨h, h8⟩ := hb _ _ h
  obtain ⟨h, h7⟩ := hb _ _ h
  obtain ⟨h, h6⟩ := hb _ _ h
  obtain ⟨h, h5⟩ := hb _ _ h
  obtain ⟨h, h4⟩ := hb _ _ h
  obtain ⟨h, h3⟩ := hb _ _ h
  obtain ⟨h, h2⟩ := hb _ _ h
  obtain ⟨h, h1⟩ := hb _ _ h
  exact ⟨zOb.lit h, zOb.lit h1, zOb.lit h2, zOb.lit h3, zOb.lit h4, zOb.lit h5, of_decide_eq_true h6, of_decide_eq_true h7, of_decide_eq_true h8, of_decide_eq_true h9, of_decide_eq_true h10⟩
def zRollOb (o : Int) : Bool := (decide (0 ≤ o) && decide ((o).toNat < 239) && decide (zS (o).toNat = (0, 6, 13))) && (decide (0 ≤ (o + 1)) && decide (((o + 1)).toNat < 239) && decide (zS ((o + 1)).toNat = (0, 3, 6))) && (decide (0 ≤ (o + 2)) && decide (((o + 2)).toNat < 239) && decide (zS ((o + 2)).toNat = (1, 0, 52))) && (decide (0 ≤ (o + 3)) && decide (((o + 3)).toNat < 239) && decide (zS ((o + 3)).toNat = (1, 0, 26))) && (decide (0 ≤ (o + 4)) && decide (((o + 4)).toNat < 239) && decide (zS ((o + 4)).toNat = (1, 0, 660))) && (decide (0 ≤ (o + 5)) && decide (((o + 5)).toNat < 239) && decide (zS ((o + 5)).toNat = (1, 0, 60))) && (decide (0 ≤ (o + 6)) && decide (((o + 6)).toNat < 239) && decide (zS ((o + 6)).toNat = (1, 0, 60))) && (decide (0 ≤ (o + 7)) && decide (((o + 7)).toNat < 239) && decide (zS ((o + 7)).toNat = (1, 0, 60))) && (decide (0 ≤ (o + 8)) && decide (((o + 8)).toNat < 239) && decide (zS ((o + 8)).toNat = (1, 0, 60))) && (decide (0 ≤ (o + 9)) && decide (((o + 9)).toNat < 239) && decide (zS ((o + 9)).toNat = (1, 0, 8))) && (decide (0 ≤ (o + 10)) && decide (((o + 10)).toNat < 239) && decide (zS ((o + 10)).toNat = (1, 0, 8))) && (decide (0 ≤ (o + 11)) && decide (((o + 11)).toNat < 239) && decide (zS ((o + 11)).toNat = (1, 0, 8))) && (decide (0 ≤ (o + 12)) && decide (((o + 12)).toNat < 239) && decide (zS ((o + 12)).toNat = (1, 0, 60))) && (decide (0 ≤ (o + 13)) && decide (((o + 13)).toNat < 239) && decide (zS ((o + 13)).toNat = (3, 0, 60))) && decide (zRF o 1 = some (o + 1)) && decide (zRF o 2 = some (o + 4)) && decide (zRF o 3 = some (o + 5)) && decide (zRF o 4 = some (o + 6)) && decide (zRF o 5 = some (o + 7)) && decide (zRF o 6 = some (o + 8)) && decide (zRF o 7 = some (o + 9)) && decide (zRF o 8 = some (o + 10)) && decide (zRF o 9 = some (o + 11)) && decide (zRF o 11 = some (o + 12)) && decide (zRF o 12 = some (o + 13)) && decide (zRF (o + 1) 4 = some (o + 2)) && decide (zRF (o + 1) 5 = some (o + 3))
theorem zRollO_of {o : Int} (h : zRollOb o = true) : zRollO o := by
  unfold zRollOb at h
  have hb : ∀ a b : Bool, (a && b) = true → a = true ∧ b = true := fun a b q => by simpa using q
  obtain ⟨h, h26⟩ := hb _ _ h
  obtain ⟨h, h25⟩ := hb _ _ h
  obtain ⟨h, h24⟩ := hb _ _ h
  obtain ⟨h, h23⟩ := hb _ _ h
  obtain ⟨h, h22⟩ := hb _ _ h
  obtain ⟨h, h21⟩ := hb _ _ h
  obtain ⟨h, h20⟩ := hb _ _ h
  obtain ⟨h, h19⟩ := hb _ _ h
  obtain ⟨h, h18⟩ := hb _ _ h
  obtain ⟨h, h17⟩ := hb _ _ h
  obtain ⟨h, h16⟩ := hb _ _ h
  obtain ⟨h, h15⟩ := hb _ _ h
  obtain ⟨h, h14⟩ := hb _ _ h
  obtain ⟨h, h13⟩ := hb _ _ h
  obtain ⟨h, h12⟩ := hb _ _ h
  obtain ⟨h, h11⟩ := hb _ _ h
  obtain ⟨h, h10⟩ := hb _ _ h
  obtain ⟨h, h9⟩ := hb _ _ h
  obtain ⟨h, h8⟩ := hb _ _ h
  obtain ⟨h, h7⟩ := hb _ _ h
  obtain ⟨h, h6⟩ := hb _ _ h
  obtain ⟨h, h5⟩ := hb _ _ h
  obtain ⟨h, h4⟩ := hb _ _ h
  obtain ⟨h, h3⟩ := hb _ _ h
  obtain ⟨h, h2⟩ := hb _ _ h
  obtain ⟨h, h1⟩ := hb _ _ h
  exact ⟨zOb.lit h, zOb.lit h1, zOb.lit h2, zOb.lit h3, zOb.lit h4, zOb.lit h5, zOb.lit h6, zOb.lit h7, zOb.lit h8, zOb.lit h9, zOb.lit h10, zOb.lit h11, zOb.lit h12, zOb.lit h13, of_decide_eq_true h14, of_decide_eq_true h15, of_decide_eq_true h16, of_decide_eq_true h17, of_decide_eq_true h18, of_decide_eq_true h19, of_decide_eq_true h20, of_decide_eq_true h21, of_decide_eq_true h22, of_decide_eq_true h23, of_decide_eq_true h24, of_decide_eq_true h25, of_decide_eq_true h26⟩
def zLotOb (o : Int) : Bool := (decide (0 ≤ o) && decide ((o).toNat < 239) && decide (zS (o).toNat = (0, 3, 6))) && (decide (0 ≤ (o + 1)) && decide (((o + 1)).toNat < 239) && decide (zS ((o + 1)).toNat = (1, 0, 52))) && (decide (0 ≤ (o + 2)) && decide (((o + 2)).toNat < 239) && decide (zS ((o + 2)).toNat = (1, 0, 26))) && decide (zRF o 4 = some (o + 1)) && decide (zRF o 5 = some (o + 2))
theorem zLotO_of {o : Int} (h : zLotOb o = true) : zLotO o := by
  unfold zLotOb at h
  have hb : ∀ a b : Bool, (a && b) = true → a = true ∧ b = true := fun a b q => by simpa using q
  obtain ⟨h, h4⟩ := hb _ _ h
  obtain ⟨h, h3⟩ := hb _ _ h
  obtain ⟨h, h2⟩ := hb _ _ h
  obtain ⟨h, h1⟩ := hb _ _ h
  exact ⟨zOb.lit h, zOb.lit h1, zOb.lit h2, of_decide_eq_true h3, of_decide_eq_true h4⟩
def zLedOb (o : Int) (N : Nat) : Bool := (decide (0 ≤ o) && decide ((o).toNat < 239) && decide (zS (o).toNat = (0, 2, 3))) && (decide (0 ≤ (o + 1)) && decide (((o + 1)).toNat < 239) && decide (zS ((o + 1)).toNat = (1, 0, N))) && decide (zRF o 0 = some (o + 1))
theorem zLedO_of {o : Int} {N : Nat} (h : zLedOb o N = true) : zLedO o N := by
  unfold zLedOb at h
  have hb : ∀ a b : Bool, (a && b) = true → a = true ∧ b = true := fun a b q => by simpa using q
  obtain ⟨h, h2⟩ := hb _ _ h
  obtain ⟨h, h1⟩ := hb _ _ h
  exact ⟨zOb.lit h, zOb.lit h1, of_decide_eq_true h2⟩
theorem zRF_laws {i : Int} (h0 : 0 ≤ i) (h1 : i < 8) : zRF 42 i = some (65 + 6 * i) := by
  rcases (show i = 0 ∨ i = 1 ∨ i = 2 ∨ i = 3 ∨ i = 4 ∨ i = 5 ∨ i = 6 ∨ i = 7 by omega) with rfl | rfl | rfl | rfl | rfl | rfl | rfl | rfl
  all_goals exact (by decide +kernel)
theorem zRF_rolls {i : Int} (h0 : 0 ≤ i) (h1 : i < 4) : zRF 43 i = some (113 + 14 * i) := by
  rcases (show i = 0 ∨ i = 1 ∨ i = 2 ∨ i = 3 by omega) with rfl | rfl | rfl | rfl
  all_goals exact (by decide +kernel)
theorem zRF_hands {i : Int} (h0 : 0 ≤ i) (h1 : i < 8) : zRF 45 i = some (46 + i) := by
  rcases (show i = 0 ∨ i = 1 ∨ i = 2 ∨ i = 3 ∨ i = 4 ∨ i = 5 ∨ i = 6 ∨ i = 7 by omega) with rfl | rfl | rfl | rfl | rfl | rfl | rfl | rfl
  all_goals exact (by decide +kernel)
theorem zRF_gone {i : Int} (h0 : 0 ≤ i) (h1 : i < 8) : zRF 54 i = some (55 + i) := by
  rcases (show i = 0 ∨ i = 1 ∨ i = 2 ∨ i = 3 ∨ i = 4 ∨ i = 5 ∨ i = 6 ∨ i = 7 by omega) with rfl | rfl | rfl | rfl | rfl | rfl | rfl | rfl
  all_goals exact (by decide +kernel)
theorem zLawO_laws {i : Int} (h0 : 0 ≤ i) (h1 : i < 8) : zLawO (65 + 6 * i) := by
  rcases (show i = 0 ∨ i = 1 ∨ i = 2 ∨ i = 3 ∨ i = 4 ∨ i = 5 ∨ i = 6 ∨ i = 7 by omega) with rfl | rfl | rfl | rfl | rfl | rfl | rfl | rfl
  all_goals exact zLawO_of (by decide +kernel)
theorem zRollO_rolls {i : Int} (h0 : 0 ≤ i) (h1 : i < 4) : zRollO (113 + 14 * i) := by
  rcases (show i = 0 ∨ i = 1 ∨ i = 2 ∨ i = 3 by omega) with rfl | rfl | rfl | rfl
  all_goals exact zRollO_of (by decide +kernel)
theorem zOb_hands {i : Int} (h0 : 0 ≤ i) (h1 : i < 8) : zOb 239 (46 + i) (1, 0, 12) := by
  rcases (show i = 0 ∨ i = 1 ∨ i = 2 ∨ i = 3 ∨ i = 4 ∨ i = 5 ∨ i = 6 ∨ i = 7 by omega) with rfl | rfl | rfl | rfl | rfl | rfl | rfl | rfl
  all_goals exact zOb.lit (by decide +kernel)
theorem zOb_gone {i : Int} (h0 : 0 ≤ i) (h1 : i < 8) : zOb 239 (55 + i) (1, 0, 12) := by
  rcases (show i = 0 ∨ i = 1 ∨ i = 2 ∨ i = 3 ∨ i = 4 ∨ i = 5 ∨ i = 6 ∨ i = 7 by omega) with rfl | rfl | rfl | rfl | rfl | rfl | rfl | rfl
  all_goals exact zOb.lit (by decide +kernel)
theorem zLawO_no : zLawO 36 := zLawO_of (by decide +kernel)
theorem zLawO_rd : zLawO 30 := zLawO_of (by decide +kernel)
theorem zLedO_7 : zLedO 7 600 := zLedO_of (by decide +kernel)
theorem zLedO_9 : zLedO 9 1440 := zLedO_of (by decide +kernel)
theorem zLedO_11 : zLedO 11 360 := zLedO_of (by decide +kernel)
theorem zLedO_13 : zLedO 13 240 := zLedO_of (by decide +kernel)
theorem zLedO_15 : zLedO 15 360 := zLedO_of (by decide +kernel)
/-- the numbers of the enum's constants -/
def zWl (x : Int) : Int := (zWln.getD (x.toNat - 1000000) 0).toInt
def zWa (x : Int) : Int := (zWas.getD (x.toNat - 1000000) 0).toInt
def zWn (x : Int) : Int := (zWan.getD (x.toNat - 1000000) 0).toInt
