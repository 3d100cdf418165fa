section ZN
variable {d : zMd} {X : zX} {dep bc bs n pc : Nat} {lv : List (Nat × zV)} {st : List zV} {h : zH} {Q : Nat → zH → List zV → Prop}
theorem zcat (ad : Nat → Nat) (v : zV) : ((zcv ad v).category == 2) = (v.1 == 1) := by
  obtain ⟨t, x⟩ := v
  match t with
  | 0 => rfl
  | 1 => rfl
  | t + 2 =>
    show ((va_rf (zrf ad x)).category == 2) = _
    unfold zrf
    by_cases h0 : x < 0
    · rw [if_pos h0]; rfl
    · rw [if_neg h0]; rfl
theorem zfil1 (ad : Nat → Nat) (i : Nat) (lv : List (Nat × zV)) : (lv.map fun q => (q.1, zcv ad q.2)).filter (fun q => !(q.1 == i) && !(q.1 + 1 == i && q.2.category == 2)) = (lv.filter fun q => !(q.1 == i) && !(q.1 + 1 == i && q.2.1 == 1)).map fun q => (q.1, zcv ad q.2) := by
  rw [List.filter_map]
  congr 1
  apply List.filter_congr
  intro q _
  show (!(q.1 == i) && !(q.1 + 1 == i && (zcv ad q.2).category == 2)) = _
  rw [zcat]
theorem zfil2 (ad : Nat → Nat) (i : Nat) (lv : List (Nat × zV)) : (lv.map fun q => (q.1, zcv ad q.2)).filter (fun q => !(q.1 == i) && (!(q.1 == i + 1) && !(q.1 + 1 == i && q.2.category == 2))) = (lv.filter fun q => !(q.1 == i) && (!(q.1 == i + 1) && !(q.1 + 1 == i && q.2.1 == 1))).map fun q => (q.1, zcv ad q.2) := by
  rw [List.filter_map]
  congr 1
  apply List.filter_congr
  intro q _
  show (!(q.1 == i) && (!(q.1 == i + 1) && !(q.1 + 1 == i && (zcv ad q.2).category == 2))) = _
  rw [zcat]
theorem zok_fil {P : Nat × zV → Bool} {i : Nat} {v : zV} (h1 : zok n v) (h2 : ∀ q ∈ lv, zok n q.2) : ∀ q ∈ (i, v) :: lv.filter P, zok n q.2 := fun q hq => (List.mem_cons.mp hq).elim (fun e => e ▸ h1) (fun h => h2 q (List.mem_filter.mp h).1)
theorem zcvN {ad : Nat → Nat} {x : Int} (h : x < 0) : zcv ad (xR x) = .null := by
  show va_rf (zrf ad x) = _
  unfold zrf
  rw [if_pos h]; rfl
theorem zcvR {ad : Nat → Nat} {x : Int} (h : ¬ x < 0) : zcv ad (xR x) = .ref (ad x.toNat) := by
  show va_rf (zrf ad x) = _
  unfold zrf
  rw [if_neg h]; rfl
theorem zi32_i (x : Int32) : zi32 x.toInt := ⟨Int32.le_toInt x, Int32.toInt_lt x⟩
theorem zi64_i (x : Int64) : zi64 x.toInt := ⟨Int64.le_toInt x, Int64.toInt_lt x⟩
theorem zi32_ne {y : Int} (hy : zi32 y) (h : y ≠ 0) : ¬ Int32.ofInt y = 0 := fun e => h ((zi32_inj hy zi32_0).mp (e.trans zI0.symm))
theorem zi64_0 : zi64 0 := ⟨by omega, by omega⟩
theorem zi64_ne {y : Int} (hy : zi64 y) (h : y ≠ 0) : ¬ Int64.ofInt y = 0 := fun e => h ((zi64_inj hy zi64_0).mp (e.trans (by decide)))
theorem z0_inj {x : Int} (hx : zi32 x) : Int32.ofInt x = 0 ↔ x = 0 := by rw [← zI0]; exact zi32_inj hx zi32_0
theorem z0_lt {x : Int} (hx : zi32 x) : Int32.ofInt x < 0 ↔ x < 0 := by rw [← zI0]; exact zi32_lt hx zi32_0
theorem z0_gt {x : Int} (hx : zi32 x) : 0 < Int32.ofInt x ↔ 0 < x := by rw [← zI0]; exact zi32_lt zi32_0 hx
theorem z0_le {x : Int} (hx : zi32 x) : Int32.ofInt x ≤ 0 ↔ x ≤ 0 := by rw [← zI0]; exact zi32_le hx zi32_0
theorem z0_ge {x : Int} (hx : zi32 x) : 0 ≤ Int32.ofInt x ↔ 0 ≤ x := by rw [← zI0]; exact zi32_le zi32_0 hx
/-- what the machine's arithmetic makes of whole numbers -/
def zdiv (a b : Int) : Int := (Int32.ofInt a / Int32.ofInt b).toInt
def zrem (a b : Int) : Int := (Int32.ofInt a - Int32.ofInt a / Int32.ofInt b * Int32.ofInt b).toInt
def zand (a b : Int) : Int := (Int32.ofInt a &&& Int32.ofInt b).toInt
def zor (a b : Int) : Int := (Int32.ofInt a ||| Int32.ofInt b).toInt
def zxor (a b : Int) : Int := (Int32.ofInt a ^^^ Int32.ofInt b).toInt
def zshl (a b : Int) : Int := (Int32.ofInt a <<< (Int32.ofInt b &&& 31)).toInt
def zshr (a b : Int) : Int := (Int32.ofInt a >>> (Int32.ofInt b &&& 31)).toInt
def zldiv (a b : Int) : Int := (Int64.ofInt a / Int64.ofInt b).toInt
def zlrem (a b : Int) : Int := (Int64.ofInt a - Int64.ofInt a / Int64.ofInt b * Int64.ofInt b).toInt
def zland (a b : Int) : Int := (Int64.ofInt a &&& Int64.ofInt b).toInt
def zlor (a b : Int) : Int := (Int64.ofInt a ||| Int64.ofInt b).toInt
def zlxor (a b : Int) : Int := (Int64.ofInt a ^^^ Int64.ofInt b).toInt
def zlshl (a b : Int) : Int := (Int64.ofInt a <<< ((Int32.ofInt b).toInt64 &&& 63)).toInt
def zlshr (a b : Int) : Int := (Int64.ofInt a >>> ((Int32.ofInt b).toInt64 &&& 63)).toInt
def zi2b (a : Int) : Int := (Int32.ofInt a).toInt8.toInt32.toInt
def zi2c (a : Int) : Int := (Int32.ofInt a).toUInt32.toUInt16.toUInt32.toInt32.toInt
theorem z_iload_n {i : Fin 4} {x : Int} (j : Nat) (hdg : decode d.by pc = .ok (.iload_n i, 1)) (hk : lv[j]? = some ((i : Nat), xI x)) (k : zW d X dep bc bs n (pc + 1) lv (xI x :: st) h Q) : zW d X dep bc bs n pc lv st h Q := by
  intro p l e R s m args below meth c H locs cells slots A E ls Z hF h1 h2 hD hE
  obtain ⟨a1, a2⟩ := hD.at j hk
  exact lv_iload_n hF.1 hF.2.1 hdg rfl a1 (k p l e R s m args below meth c H locs cells slots A E ls Z hF h1 h2 (hD.stk _ (zok_c1 a2 hD.2.2.2.2.2.2)) hE)
theorem z_iload {i : Nat} {x : Int} (j : Nat) (hdg : decode d.by pc = .ok (.iload i, 2)) (hk : lv[j]? = some (i, xI x)) (k : zW d X dep bc bs n (pc + 2) lv (xI x :: st) h Q) : zW d X dep bc bs n pc lv st h Q := by
  intro p l e R s m args below meth c H locs cells slots A E ls Z hF h1 h2 hD hE
  obtain ⟨a1, a2⟩ := hD.at j hk
  exact lv_iload hF.1 hF.2.1 hdg a1 (k p l e R s m args below meth c H locs cells slots A E ls Z hF h1 h2 (hD.stk _ (zok_c1 a2 hD.2.2.2.2.2.2)) hE)
theorem z_lload_n {i : Fin 4} {x : Int} (j : Nat) (hdg : decode d.by pc = .ok (.lload_n i, 1)) (hk : lv[j]? = some ((i : Nat), xL x)) (k : zW d X dep bc bs n (pc + 1) lv (xL x :: st) h Q) : zW d X dep bc bs n pc lv st h Q := by
  intro p l e R s m args below meth c H locs cells slots A E ls Z hF h1 h2 hD hE
  obtain ⟨a1, a2⟩ := hD.at j hk
  exact lv_lload_n hF.1 hF.2.1 hdg rfl a1 (k p l e R s m args below meth c H locs cells slots A E ls Z hF h1 h2 (hD.stk _ (zok_c1 a2 hD.2.2.2.2.2.2)) hE)
theorem z_lload {i : Nat} {x : Int} (j : Nat) (hdg : decode d.by pc = .ok (.lload i, 2)) (hk : lv[j]? = some (i, xL x)) (k : zW d X dep bc bs n (pc + 2) lv (xL x :: st) h Q) : zW d X dep bc bs n pc lv st h Q := by
  intro p l e R s m args below meth c H locs cells slots A E ls Z hF h1 h2 hD hE
  obtain ⟨a1, a2⟩ := hD.at j hk
  exact lv_lload hF.1 hF.2.1 hdg a1 (k p l e R s m args below meth c H locs cells slots A E ls Z hF h1 h2 (hD.stk _ (zok_c1 a2 hD.2.2.2.2.2.2)) hE)
theorem z_aload_n {i : Fin 4} {x : Int} (j : Nat) (hdg : decode d.by pc = .ok (.aload_n i, 1)) (hk : lv[j]? = some ((i : Nat), xR x)) (k : zW d X dep bc bs n (pc + 1) lv (xR x :: st) h Q) : zW d X dep bc bs n pc lv st h Q := by
  intro p l e R s m args below meth c H locs cells slots A E ls Z hF h1 h2 hD hE
  obtain ⟨a1, a2⟩ := hD.at j hk
  have kk := k p l e R s m args below meth c H locs cells slots A E ls Z hF h1 h2 (hD.stk _ (zok_c1 a2 hD.2.2.2.2.2.2)) hE
  rw [List.map_cons] at kk
  by_cases h0 : x < 0
  · rw [zcvN h0] at a1 kk
    exact lv_aload_nN hF.1 hF.2.1 hdg rfl a1 kk
  · rw [zcvR h0] at a1 kk
    exact lv_aload_n hF.1 hF.2.1 hdg rfl a1 kk
theorem z_aload {i : Nat} {x : Int} (j : Nat) (hdg : decode d.by pc = .ok (.aload i, 2)) (hk : lv[j]? = some (i, xR x)) (k : zW d X dep bc bs n (pc + 2) lv (xR x :: st) h Q) : zW d X dep bc bs n pc lv st h Q := by
  intro p l e R s m args below meth c H locs cells slots A E ls Z hF h1 h2 hD hE
  obtain ⟨a1, a2⟩ := hD.at j hk
  have kk := k p l e R s m args below meth c H locs cells slots A E ls Z hF h1 h2 (hD.stk _ (zok_c1 a2 hD.2.2.2.2.2.2)) hE
  rw [List.map_cons] at kk
  by_cases h0 : x < 0
  · rw [zcvN h0] at a1 kk
    exact lv_aloadN hF.1 hF.2.1 hdg a1 kk
  · rw [zcvR h0] at a1 kk
    exact lv_aload hF.1 hF.2.1 hdg a1 kk
theorem z_istore_n {i : Fin 4} {x : Int} {lv' : List (Nat × zV)} (hdg : decode d.by pc = .ok (.istore_n i, 1)) (hi : (i : Nat) < d.nl) (hl : ((i : Nat), xI x) :: lv.filter (fun q => !(q.1 == (i : Nat)) && !(q.1 + 1 == (i : Nat) && q.2.1 == 1)) = lv') (k : zW d X dep bc bs n (pc + 1) lv' st h Q) : zW d X dep bc bs n pc lv (xI x :: st) h Q := by
  intro p l e R s m args below meth c H locs cells slots A E ls Z hF h1 h2 hD hE
  exact lv_istore_n hF.1 hF.2.1 hdg rfl hD.2.2.2.2.1 hi (by rw [zfil1, ← hl]; rfl) (fun ls' hl' => k p l e R s m args below meth c H locs cells slots A E ls' Z hF h1 h2 (hD.lvs lv' st ls' hl' (by rw [← hl]; exact zok_fil hD.hd hD.2.2.2.2.2.1) hD.tl) hE)
theorem z_istore {i : Nat} {x : Int} {lv' : List (Nat × zV)} (hdg : decode d.by pc = .ok (.istore i, 2)) (hi : i < d.nl) (hl : (i, xI x) :: lv.filter (fun q => !(q.1 == i) && !(q.1 + 1 == i && q.2.1 == 1)) = lv') (k : zW d X dep bc bs n (pc + 2) lv' st h Q) : zW d X dep bc bs n pc lv (xI x :: st) h Q := by
  intro p l e R s m args below meth c H locs cells slots A E ls Z hF h1 h2 hD hE
  exact lv_istore hF.1 hF.2.1 hdg hD.2.2.2.2.1 hi (by rw [zfil1, ← hl]; rfl) (fun ls' hl' => k p l e R s m args below meth c H locs cells slots A E ls' Z hF h1 h2 (hD.lvs lv' st ls' hl' (by rw [← hl]; exact zok_fil hD.hd hD.2.2.2.2.2.1) hD.tl) hE)
theorem z_lstore_n {i : Fin 4} {x : Int} {lv' : List (Nat × zV)} (hdg : decode d.by pc = .ok (.lstore_n i, 1)) (hi : (i : Nat) + 1 < d.nl) (hl : ((i : Nat), xL x) :: lv.filter (fun q => !(q.1 == (i : Nat)) && (!(q.1 == (i : Nat) + 1) && !(q.1 + 1 == (i : Nat) && q.2.1 == 1))) = lv') (k : zW d X dep bc bs n (pc + 1) lv' st h Q) : zW d X dep bc bs n pc lv (xL x :: st) h Q := by
  intro p l e R s m args below meth c H locs cells slots A E ls Z hF h1 h2 hD hE
  exact lv_lstore_n hF.1 hF.2.1 hdg rfl hD.2.2.2.2.1 hi (by rw [zfil2, ← hl]; rfl) (fun ls' hl' => k p l e R s m args below meth c H locs cells slots A E ls' Z hF h1 h2 (hD.lvs lv' st ls' hl' (by rw [← hl]; exact zok_fil hD.hd hD.2.2.2.2.2.1) hD.tl) hE)
theorem z_lstore {i : Nat} {x : Int} {lv' : List (Nat × zV)} (hdg : decode d.by pc = .ok (.lstore i, 2)) (hi : i + 1 < d.nl) (hl : (i, xL x) :: lv.filter (fun q => !(q.1 == i) && (!(q.1 == i + 1) && !(q.1 + 1 == i && q.2.1 == 1))) = lv') (k : zW d X dep bc bs n (pc + 2) lv' st h Q) : zW d X dep bc bs n pc lv (xL x :: st) h Q := by
  intro p l e R s m args below meth c H locs cells slots A E ls Z hF h1 h2 hD hE
  exact lv_lstore hF.1 hF.2.1 hdg hD.2.2.2.2.1 hi (by rw [zfil2, ← hl]; rfl) (fun ls' hl' => k p l e R s m args below meth c H locs cells slots A E ls' Z hF h1 h2 (hD.lvs lv' st ls' hl' (by rw [← hl]; exact zok_fil hD.hd hD.2.2.2.2.2.1) hD.tl) hE)
theorem z_astore_n {i : Fin 4} {x : Int} {lv' : List (Nat × zV)} (hdg : decode d.by pc = .ok (.astore_n i, 1)) (hi : (i : Nat) < d.nl) (hl : ((i : Nat), xR x) :: lv.filter (fun q => !(q.1 == (i : Nat)) && !(q.1 + 1 == (i : Nat) && q.2.1 == 1)) = lv') (k : zW d X dep bc bs n (pc + 1) lv' st h Q) : zW d X dep bc bs n pc lv (xR x :: st) h Q := by
  intro p l e R s m args below meth c H locs cells slots A E ls Z hF h1 h2 hD hE
  rw [List.map_cons]
  by_cases h0 : x < 0
  · rw [zcvN h0]
    exact lv_astore_nN hF.1 hF.2.1 hdg rfl hD.2.2.2.2.1 hi (by rw [zfil1, ← zcvN (ad := E.2.1) h0, ← hl]; rfl) (fun ls' hl' => k p l e R s m args below meth c H locs cells slots A E ls' Z hF h1 h2 (hD.lvs lv' st ls' hl' (by rw [← hl]; exact zok_fil hD.hd hD.2.2.2.2.2.1) hD.tl) hE)
  · rw [zcvR h0]
    exact lv_astore_n hF.1 hF.2.1 hdg rfl hD.2.2.2.2.1 hi (by rw [zfil1, ← zcvR (ad := E.2.1) h0, ← hl]; rfl) (fun ls' hl' => k p l e R s m args below meth c H locs cells slots A E ls' Z hF h1 h2 (hD.lvs lv' st ls' hl' (by rw [← hl]; exact zok_fil hD.hd hD.2.2.2.2.2.1) hD.tl) hE)
theorem z_astore {i : Nat} {x : Int} {lv' : List (Nat × zV)} (hdg : decode d.by pc = .ok (.astore i, 2)) (hi : i < d.nl) (hl : (i, xR x) :: lv.filter (fun q => !(q.1 == i) && !(q.1 + 1 == i && q.2.1 == 1)) = lv') (k : zW d X dep bc bs n (pc + 2) lv' st h Q) : zW d X dep bc bs n pc lv (xR x :: st) h Q := by
  intro p l e R s m args below meth c H locs cells slots A E ls Z hF h1 h2 hD hE
  rw [List.map_cons]
  by_cases h0 : x < 0
  · rw [zcvN h0]
    exact lv_astoreN hF.1 hF.2.1 hdg hD.2.2.2.2.1 hi (by rw [zfil1, ← zcvN (ad := E.2.1) h0, ← hl]; rfl) (fun ls' hl' => k p l e R s m args below meth c H locs cells slots A E ls' Z hF h1 h2 (hD.lvs lv' st ls' hl' (by rw [← hl]; exact zok_fil hD.hd hD.2.2.2.2.2.1) hD.tl) hE)
  · rw [zcvR h0]
    exact lv_astore hF.1 hF.2.1 hdg hD.2.2.2.2.1 hi (by rw [zfil1, ← zcvR (ad := E.2.1) h0, ← hl]; rfl) (fun ls' hl' => k p l e R s m args below meth c H locs cells slots A E ls' Z hF h1 h2 (hD.lvs lv' st ls' hl' (by rw [← hl]; exact zok_fil hD.hd hD.2.2.2.2.2.1) hD.tl) hE)
theorem z_iinc {i : Nat} {x c0 : Int} {lv' : List (Nat × zV)} (j : Nat) (hdg : decode d.by pc = .ok (.iinc i c0, 3)) (hk : lv[j]? = some (i, xI x)) (hi : i < d.nl) (hl : (i, xI (w32 (x + c0))) :: lv.filter (fun q => !(q.1 == i) && !(q.1 + 1 == i && q.2.1 == 1)) = lv') (k : zW d X dep bc bs n (pc + 3) lv' st h Q) : zW d X dep bc bs n pc lv st h Q := by
  intro p l e R s m args below meth c H locs cells slots A E ls Z hF h1 h2 hD hE
  exact lv_iinc (k := j) hF.1 hF.2.1 hdg hD.2.2.2.2.1 (by rw [List.getElem?_map, hk]; rfl) rfl hi (by rw [zfil1, ← hl, List.map_cons]; congr 2; show Value.int _ = Value.int _; rw [w32_of, Int32.ofInt_add]) (fun ls' hl' => k p l e R s m args below meth c H locs cells slots A E ls' Z hF h1 h2 (hD.lvs lv' st ls' hl' (by rw [← hl]; exact zok_fil (w32_in _) hD.2.2.2.2.2.1) hD.2.2.2.2.2.2) hE)
theorem z_lconst {v : Fin 2} (hdg : decode d.by pc = .ok (.lconst v, 1)) (k : zW d X dep bc bs n (pc + 1) lv (xL (v : Nat) :: st) h Q) : zW d X dep bc bs n pc lv st h Q := by
  intro p l e R s m args below meth c H locs cells slots A E ls Z hF h1 h2 hD hE
  exact lv_lconst hF.1 hF.2.1 hdg (by rw [Int64.ofInt_eq_ofNat]) (k p l e R s m args below meth c H locs cells slots A E ls Z hF h1 h2 (hD.stk _ (zok_c1 (show zi64 ((v : Nat) : Int) from ⟨by omega, by omega⟩) hD.2.2.2.2.2.2)) hE)
theorem z_iadd {a b : Int} (hdg : decode d.by pc = .ok (.iadd, 1)) (k : zW d X dep bc bs n (pc + 1) lv (xI (w32 (a + b)) :: st) h Q) : zW d X dep bc bs n pc lv (xI b :: xI a :: st) h Q := by
  intro p l e R s m args below meth c H locs cells slots A E ls Z hF h1 h2 hD hE
  have kk := k p l e R s m args below meth c H locs cells slots A E ls Z hF h1 h2 (hD.stk (xI (w32 (a + b)) :: st) (zok_c1 (w32_in _) (fun w hw => hD.tl w (List.mem_cons_of_mem _ hw)))) hE
  rw [List.map_cons, show zcv E.2.1 (xI (w32 (a + b))) = .int (Int32.ofInt a + Int32.ofInt b) from congrArg Value.int (by rw [w32_of, Int32.ofInt_add])] at kk
  exact lv_iadd hF.1 hF.2.1 hdg kk
theorem z_isub {a b : Int} (hdg : decode d.by pc = .ok (.isub, 1)) (k : zW d X dep bc bs n (pc + 1) lv (xI (w32 (a - b)) :: st) h Q) : zW d X dep bc bs n pc lv (xI b :: xI a :: st) h Q := by
  intro p l e R s m args below meth c H locs cells slots A E ls Z hF h1 h2 hD hE
  have kk := k p l e R s m args below meth c H locs cells slots A E ls Z hF h1 h2 (hD.stk (xI (w32 (a - b)) :: st) (zok_c1 (w32_in _) (fun w hw => hD.tl w (List.mem_cons_of_mem _ hw)))) hE
  rw [List.map_cons, show zcv E.2.1 (xI (w32 (a - b))) = .int (Int32.ofInt a - Int32.ofInt b) from congrArg Value.int (by rw [w32_of, Int32.ofInt_sub])] at kk
  exact lv_isub hF.1 hF.2.1 hdg kk
theorem z_imul {a b : Int} (hdg : decode d.by pc = .ok (.imul, 1)) (k : zW d X dep bc bs n (pc + 1) lv (xI (w32 (a * b)) :: st) h Q) : zW d X dep bc bs n pc lv (xI b :: xI a :: st) h Q := by
  intro p l e R s m args below meth c H locs cells slots A E ls Z hF h1 h2 hD hE
  have kk := k p l e R s m args below meth c H locs cells slots A E ls Z hF h1 h2 (hD.stk (xI (w32 (a * b)) :: st) (zok_c1 (w32_in _) (fun w hw => hD.tl w (List.mem_cons_of_mem _ hw)))) hE
  rw [List.map_cons, show zcv E.2.1 (xI (w32 (a * b))) = .int (Int32.ofInt a * Int32.ofInt b) from congrArg Value.int (by rw [w32_of, Int32.ofInt_mul])] at kk
  exact lv_imul hF.1 hF.2.1 hdg kk
theorem z_idiv {a b : Int} (hdg : decode d.by pc = .ok (.idiv, 1)) (hne : b ≠ 0) (k : zW d X dep bc bs n (pc + 1) lv (xI (zdiv a b) :: st) h Q) : zW d X dep bc bs n pc lv (xI b :: xI a :: st) h Q := by
  intro p l e R s m args below meth c H locs cells slots A E ls Z hF h1 h2 hD hE
  have kk := k p l e R s m args below meth c H locs cells slots A E ls Z hF h1 h2 (hD.stk (xI (zdiv a b) :: st) (zok_c1 (zi32_i _) (fun w hw => hD.tl w (List.mem_cons_of_mem _ hw)))) hE
  rw [List.map_cons, show zcv E.2.1 (xI (zdiv a b)) = .int (Int32.ofInt a / Int32.ofInt b) from congrArg Value.int (Int32.ofInt_toInt _)] at kk
  exact lv_idiv hF.1 hF.2.1 hdg (zi32_ne hD.hd hne) kk
theorem z_irem {a b : Int} (hdg : decode d.by pc = .ok (.irem, 1)) (hne : b ≠ 0) (k : zW d X dep bc bs n (pc + 1) lv (xI (zrem a b) :: st) h Q) : zW d X dep bc bs n pc lv (xI b :: xI a :: st) h Q := by
  intro p l e R s m args below meth c H locs cells slots A E ls Z hF h1 h2 hD hE
  have kk := k p l e R s m args below meth c H locs cells slots A E ls Z hF h1 h2 (hD.stk (xI (zrem a b) :: st) (zok_c1 (zi32_i _) (fun w hw => hD.tl w (List.mem_cons_of_mem _ hw)))) hE
  rw [List.map_cons, show zcv E.2.1 (xI (zrem a b)) = .int (Int32.ofInt a - Int32.ofInt a / Int32.ofInt b * Int32.ofInt b) from congrArg Value.int (Int32.ofInt_toInt _)] at kk
  exact lv_irem hF.1 hF.2.1 hdg (zi32_ne hD.hd hne) kk
theorem z_iand {a b : Int} (hdg : decode d.by pc = .ok (.iand, 1)) (k : zW d X dep bc bs n (pc + 1) lv (xI (zand a b) :: st) h Q) : zW d X dep bc bs n pc lv (xI b :: xI a :: st) h Q := by
  intro p l e R s m args below meth c H locs cells slots A E ls Z hF h1 h2 hD hE
  have kk := k p l e R s m args below meth c H locs cells slots A E ls Z hF h1 h2 (hD.stk (xI (zand a b) :: st) (zok_c1 (zi32_i _) (fun w hw => hD.tl w (List.mem_cons_of_mem _ hw)))) hE
  rw [List.map_cons, show zcv E.2.1 (xI (zand a b)) = .int (Int32.ofInt a &&& Int32.ofInt b) from congrArg Value.int (Int32.ofInt_toInt _)] at kk
  exact lv_iand hF.1 hF.2.1 hdg kk
theorem z_ior {a b : Int} (hdg : decode d.by pc = .ok (.ior, 1)) (k : zW d X dep bc bs n (pc + 1) lv (xI (zor a b) :: st) h Q) : zW d X dep bc bs n pc lv (xI b :: xI a :: st) h Q := by
  intro p l e R s m args below meth c H locs cells slots A E ls Z hF h1 h2 hD hE
  have kk := k p l e R s m args below meth c H locs cells slots A E ls Z hF h1 h2 (hD.stk (xI (zor a b) :: st) (zok_c1 (zi32_i _) (fun w hw => hD.tl w (List.mem_cons_of_mem _ hw)))) hE
  rw [List.map_cons, show zcv E.2.1 (xI (zor a b)) = .int (Int32.ofInt a ||| Int32.ofInt b) from congrArg Value.int (Int32.ofInt_toInt _)] at kk
  exact lv_ior hF.1 hF.2.1 hdg kk
theorem z_ixor {a b : Int} (hdg : decode d.by pc = .ok (.ixor, 1)) (k : zW d X dep bc bs n (pc + 1) lv (xI (zxor a b) :: st) h Q) : zW d X dep bc bs n pc lv (xI b :: xI a :: st) h Q := by
  intro p l e R s m args below meth c H locs cells slots A E ls Z hF h1 h2 hD hE
  have kk := k p l e R s m args below meth c H locs cells slots A E ls Z hF h1 h2 (hD.stk (xI (zxor a b) :: st) (zok_c1 (zi32_i _) (fun w hw => hD.tl w (List.mem_cons_of_mem _ hw)))) hE
  rw [List.map_cons, show zcv E.2.1 (xI (zxor a b)) = .int (Int32.ofInt a ^^^ Int32.ofInt b) from congrArg Value.int (Int32.ofInt_toInt _)] at kk
  exact lv_ixor hF.1 hF.2.1 hdg kk
theorem z_ishl {a b : Int} (hdg : decode d.by pc = .ok (.ishl, 1)) (k : zW d X dep bc bs n (pc + 1) lv (xI (zshl a b) :: st) h Q) : zW d X dep bc bs n pc lv (xI b :: xI a :: st) h Q := by
  intro p l e R s m args below meth c H locs cells slots A E ls Z hF h1 h2 hD hE
  have kk := k p l e R s m args below meth c H locs cells slots A E ls Z hF h1 h2 (hD.stk (xI (zshl a b) :: st) (zok_c1 (zi32_i _) (fun w hw => hD.tl w (List.mem_cons_of_mem _ hw)))) hE
  rw [List.map_cons, show zcv E.2.1 (xI (zshl a b)) = .int (Int32.ofInt a <<< (Int32.ofInt b &&& 31)) from congrArg Value.int (Int32.ofInt_toInt _)] at kk
  exact lv_ishl hF.1 hF.2.1 hdg kk
theorem z_ishr {a b : Int} (hdg : decode d.by pc = .ok (.ishr, 1)) (k : zW d X dep bc bs n (pc + 1) lv (xI (zshr a b) :: st) h Q) : zW d X dep bc bs n pc lv (xI b :: xI a :: st) h Q := by
  intro p l e R s m args below meth c H locs cells slots A E ls Z hF h1 h2 hD hE
  have kk := k p l e R s m args below meth c H locs cells slots A E ls Z hF h1 h2 (hD.stk (xI (zshr a b) :: st) (zok_c1 (zi32_i _) (fun w hw => hD.tl w (List.mem_cons_of_mem _ hw)))) hE
  rw [List.map_cons, show zcv E.2.1 (xI (zshr a b)) = .int (Int32.ofInt a >>> (Int32.ofInt b &&& 31)) from congrArg Value.int (Int32.ofInt_toInt _)] at kk
  exact lv_ishr hF.1 hF.2.1 hdg kk
theorem z_ladd {a b : Int} (hdg : decode d.by pc = .ok (.ladd, 1)) (k : zW d X dep bc bs n (pc + 1) lv (xL (w64 (a + b)) :: st) h Q) : zW d X dep bc bs n pc lv (xL b :: xL a :: st) h Q := by
  intro p l e R s m args below meth c H locs cells slots A E ls Z hF h1 h2 hD hE
  have kk := k p l e R s m args below meth c H locs cells slots A E ls Z hF h1 h2 (hD.stk (xL (w64 (a + b)) :: st) (zok_c1 (w64_in _) (fun w hw => hD.tl w (List.mem_cons_of_mem _ hw)))) hE
  rw [List.map_cons, show zcv E.2.1 (xL (w64 (a + b))) = .long (Int64.ofInt a + Int64.ofInt b) from congrArg Value.long (by rw [w64_of, Int64.ofInt_add])] at kk
  exact lv_ladd hF.1 hF.2.1 hdg kk
theorem z_lsub {a b : Int} (hdg : decode d.by pc = .ok (.lsub, 1)) (k : zW d X dep bc bs n (pc + 1) lv (xL (w64 (a - b)) :: st) h Q) : zW d X dep bc bs n pc lv (xL b :: xL a :: st) h Q := by
  intro p l e R s m args below meth c H locs cells slots A E ls Z hF h1 h2 hD hE
  have kk := k p l e R s m args below meth c H locs cells slots A E ls Z hF h1 h2 (hD.stk (xL (w64 (a - b)) :: st) (zok_c1 (w64_in _) (fun w hw => hD.tl w (List.mem_cons_of_mem _ hw)))) hE
  rw [List.map_cons, show zcv E.2.1 (xL (w64 (a - b))) = .long (Int64.ofInt a - Int64.ofInt b) from congrArg Value.long (by rw [w64_of, Int64.ofInt_sub])] at kk
  exact lv_lsub hF.1 hF.2.1 hdg kk
theorem z_lmul {a b : Int} (hdg : decode d.by pc = .ok (.lmul, 1)) (k : zW d X dep bc bs n (pc + 1) lv (xL (w64 (a * b)) :: st) h Q) : zW d X dep bc bs n pc lv (xL b :: xL a :: st) h Q := by
  intro p l e R s m args below meth c H locs cells slots A E ls Z hF h1 h2 hD hE
  have kk := k p l e R s m args below meth c H locs cells slots A E ls Z hF h1 h2 (hD.stk (xL (w64 (a * b)) :: st) (zok_c1 (w64_in _) (fun w hw => hD.tl w (List.mem_cons_of_mem _ hw)))) hE
  rw [List.map_cons, show zcv E.2.1 (xL (w64 (a * b))) = .long (Int64.ofInt a * Int64.ofInt b) from congrArg Value.long (by rw [w64_of, Int64.ofInt_mul])] at kk
  exact lv_lmul hF.1 hF.2.1 hdg kk
theorem z_ldiv {a b : Int} (hdg : decode d.by pc = .ok (.ldiv, 1)) (hne : b ≠ 0) (k : zW d X dep bc bs n (pc + 1) lv (xL (zldiv a b) :: st) h Q) : zW d X dep bc bs n pc lv (xL b :: xL a :: st) h Q := by
  intro p l e R s m args below meth c H locs cells slots A E ls Z hF h1 h2 hD hE
  have kk := k p l e R s m args below meth c H locs cells slots A E ls Z hF h1 h2 (hD.stk (xL (zldiv a b) :: st) (zok_c1 (zi64_i _) (fun w hw => hD.tl w (List.mem_cons_of_mem _ hw)))) hE
  rw [List.map_cons, show zcv E.2.1 (xL (zldiv a b)) = .long (Int64.ofInt a / Int64.ofInt b) from congrArg Value.long (Int64.ofInt_toInt _)] at kk
  exact lv_ldiv hF.1 hF.2.1 hdg (zi64_ne hD.hd hne) kk
theorem z_lrem {a b : Int} (hdg : decode d.by pc = .ok (.lrem, 1)) (hne : b ≠ 0) (k : zW d X dep bc bs n (pc + 1) lv (xL (zlrem a b) :: st) h Q) : zW d X dep bc bs n pc lv (xL b :: xL a :: st) h Q := by
  intro p l e R s m args below meth c H locs cells slots A E ls Z hF h1 h2 hD hE
  have kk := k p l e R s m args below meth c H locs cells slots A E ls Z hF h1 h2 (hD.stk (xL (zlrem a b) :: st) (zok_c1 (zi64_i _) (fun w hw => hD.tl w (List.mem_cons_of_mem _ hw)))) hE
  rw [List.map_cons, show zcv E.2.1 (xL (zlrem a b)) = .long (Int64.ofInt a - Int64.ofInt a / Int64.ofInt b * Int64.ofInt b) from congrArg Value.long (Int64.ofInt_toInt _)] at kk
  exact lv_lrem hF.1 hF.2.1 hdg (zi64_ne hD.hd hne) kk
theorem z_land {a b : Int} (hdg : decode d.by pc = .ok (.land, 1)) (k : zW d X dep bc bs n (pc + 1) lv (xL (zland a b) :: st) h Q) : zW d X dep bc bs n pc lv (xL b :: xL a :: st) h Q := by
  intro p l e R s m args below meth c H locs cells slots A E ls Z hF h1 h2 hD hE
  have kk := k p l e R s m args below meth c H locs cells slots A E ls Z hF h1 h2 (hD.stk (xL (zland a b) :: st) (zok_c1 (zi64_i _) (fun w hw => hD.tl w (List.mem_cons_of_mem _ hw)))) hE
  rw [List.map_cons, show zcv E.2.1 (xL (zland a b)) = .long (Int64.ofInt a &&& Int64.ofInt b) from congrArg Value.long (Int64.ofInt_toInt _)] at kk
  exact lv_land hF.1 hF.2.1 hdg kk
theorem z_lor {a b : Int} (hdg : decode d.by pc = .ok (.lor, 1)) (k : zW d X dep bc bs n (pc + 1) lv (xL (zlor a b) :: st) h Q) : zW d X dep bc bs n pc lv (xL b :: xL a :: st) h Q := by
  intro p l e R s m args below meth c H locs cells slots A E ls Z hF h1 h2 hD hE
  have kk := k p l e R s m args below meth c H locs cells slots A E ls Z hF h1 h2 (hD.stk (xL (zlor a b) :: st) (zok_c1 (zi64_i _) (fun w hw => hD.tl w (List.mem_cons_of_mem _ hw)))) hE
  rw [List.map_cons, show zcv E.2.1 (xL (zlor a b)) = .long (Int64.ofInt a ||| Int64.ofInt b) from congrArg Value.long (Int64.ofInt_toInt _)] at kk
  exact lv_lor hF.1 hF.2.1 hdg kk
theorem z_lxor {a b : Int} (hdg : decode d.by pc = .ok (.lxor, 1)) (k : zW d X dep bc bs n (pc + 1) lv (xL (zlxor a b) :: st) h Q) : zW d X dep bc bs n pc lv (xL b :: xL a :: st) h Q := by
  intro p l e R s m args below meth c H locs cells slots A E ls Z hF h1 h2 hD hE
  have kk := k p l e R s m args below meth c H locs cells slots A E ls Z hF h1 h2 (hD.stk (xL (zlxor a b) :: st) (zok_c1 (zi64_i _) (fun w hw => hD.tl w (List.mem_cons_of_mem _ hw)))) hE
  rw [List.map_cons, show zcv E.2.1 (xL (zlxor a b)) = .long (Int64.ofInt a ^^^ Int64.ofInt b) from congrArg Value.long (Int64.ofInt_toInt _)] at kk
  exact lv_lxor hF.1 hF.2.1 hdg kk
theorem z_lshl {a b : Int} (hdg : decode d.by pc = .ok (.lshl, 1)) (k : zW d X dep bc bs n (pc + 1) lv (xL (zlshl a b) :: st) h Q) : zW d X dep bc bs n pc lv (xI b :: xL a :: st) h Q := by
  intro p l e R s m args below meth c H locs cells slots A E ls Z hF h1 h2 hD hE
  have kk := k p l e R s m args below meth c H locs cells slots A E ls Z hF h1 h2 (hD.stk (xL (zlshl a b) :: st) (zok_c1 (zi64_i _) (fun w hw => hD.tl w (List.mem_cons_of_mem _ hw)))) hE
  rw [List.map_cons, show zcv E.2.1 (xL (zlshl a b)) = .long (Int64.ofInt a <<< ((Int32.ofInt b).toInt64 &&& 63)) from congrArg Value.long (Int64.ofInt_toInt _)] at kk
  exact lv_lshl hF.1 hF.2.1 hdg rfl kk
theorem z_lshr {a b : Int} (hdg : decode d.by pc = .ok (.lshr, 1)) (k : zW d X dep bc bs n (pc + 1) lv (xL (zlshr a b) :: st) h Q) : zW d X dep bc bs n pc lv (xI b :: xL a :: st) h Q := by
  intro p l e R s m args below meth c H locs cells slots A E ls Z hF h1 h2 hD hE
  have kk := k p l e R s m args below meth c H locs cells slots A E ls Z hF h1 h2 (hD.stk (xL (zlshr a b) :: st) (zok_c1 (zi64_i _) (fun w hw => hD.tl w (List.mem_cons_of_mem _ hw)))) hE
  rw [List.map_cons, show zcv E.2.1 (xL (zlshr a b)) = .long (Int64.ofInt a >>> ((Int32.ofInt b).toInt64 &&& 63)) from congrArg Value.long (Int64.ofInt_toInt _)] at kk
  exact lv_lshr hF.1 hF.2.1 hdg rfl kk
theorem z_i2l {a : Int} (hdg : decode d.by pc = .ok (.i2l, 1)) (k : zW d X dep bc bs n (pc + 1) lv (xL a :: st) h Q) : zW d X dep bc bs n pc lv (xI a :: st) h Q := by
  intro p l e R s m args below meth c H locs cells slots A E ls Z hF h1 h2 hD hE
  have ha : zi32 a := hD.hd
  exact lv_i2l hF.1 hF.2.1 hdg (v := Int64.ofInt a) (by rw [← Int64.toInt_inj, Int32.toInt_toInt64, zi32_to ha, zi64_to ⟨by have := ha.1; omega, by have := ha.2; omega⟩]) (k p l e R s m args below meth c H locs cells slots A E ls Z hF h1 h2 (hD.stk (xL a :: st) (zok_c1 (show zi64 a from ⟨by have := ha.1; omega, by have := ha.2; omega⟩) hD.tl)) hE)
theorem z_i2b {a : Int} (hdg : decode d.by pc = .ok (.i2b, 1)) (k : zW d X dep bc bs n (pc + 1) lv (xI (zi2b a) :: st) h Q) : zW d X dep bc bs n pc lv (xI a :: st) h Q := by
  intro p l e R s m args below meth c H locs cells slots A E ls Z hF h1 h2 hD hE
  exact lv_i2b hF.1 hF.2.1 hdg (v := Int32.ofInt (zi2b a)) (Int32.ofInt_toInt _).symm (k p l e R s m args below meth c H locs cells slots A E ls Z hF h1 h2 (hD.stk (xI (zi2b a) :: st) (zok_c1 (zi32_i _) hD.tl)) hE)
theorem z_i2c {a : Int} (hdg : decode d.by pc = .ok (.i2c, 1)) (k : zW d X dep bc bs n (pc + 1) lv (xI (zi2c a) :: st) h Q) : zW d X dep bc bs n pc lv (xI a :: st) h Q := by
  intro p l e R s m args below meth c H locs cells slots A E ls Z hF h1 h2 hD hE
  exact lv_i2c hF.1 hF.2.1 hdg (v := Int32.ofInt (zi2c a)) (Int32.ofInt_toInt _).symm (k p l e R s m args below meth c H locs cells slots A E ls Z hF h1 h2 (hD.stk (xI (zi2c a) :: st) (zok_c1 (zi32_i _) hD.tl)) hE)
theorem z_dup {v : zV} (hdg : decode d.by pc = .ok (.dup, 1)) (hv : v.1 ≠ 1) (k : zW d X dep bc bs n (pc + 1) lv (v :: v :: st) h Q) : zW d X dep bc bs n pc lv (v :: st) h Q := by
  intro p l e R s m args below meth c H locs cells slots A E ls Z hF h1 h2 hD hE
  exact lv_dup hF.1 hF.2.1 hdg (by have := zcat E.2.1 v; rcases lv_cat (zcv E.2.1 v) with h9 | h9; exact h9; rw [h9] at this; exact absurd (by simpa using this.symm) hv) (k p l e R s m args below meth c H locs cells slots A E ls Z hF h1 h2 (hD.stk (v :: v :: st) (zok_c1 hD.hd hD.2.2.2.2.2.2)) hE)
theorem z_pop {v : zV} (hdg : decode d.by pc = .ok (.pop, 1)) (hv : v.1 ≠ 1) (k : zW d X dep bc bs n (pc + 1) lv st h Q) : zW d X dep bc bs n pc lv (v :: st) h Q := by
  intro p l e R s m args below meth c H locs cells slots A E ls Z hF h1 h2 hD hE
  exact lv_pop hF.1 hF.2.1 hdg (by have := zcat E.2.1 v; rcases lv_cat (zcv E.2.1 v) with h9 | h9; exact h9; rw [h9] at this; exact absurd (by simpa using this.symm) hv) (k p l e R s m args below meth c H locs cells slots A E ls Z hF h1 h2 (hD.stk st hD.tl) hE)
theorem zcat1 {ad : Nat → Nat} {v : zV} (hv : v.1 ≠ 1) : (zcv ad v).category = 1 := by
  have := zcat ad v
  rcases lv_cat (zcv ad v) with h9 | h9
  · exact h9
  · rw [h9] at this
    exact absurd (by simpa using this.symm) hv
theorem z_dup2 {v w : zV} (hdg : decode d.by pc = .ok (.dup2, 1)) (hv : v.1 ≠ 1) (hw : w.1 ≠ 1) (k : zW d X dep bc bs n (pc + 1) lv (v :: w :: v :: w :: st) h Q) : zW d X dep bc bs n pc lv (v :: w :: st) h Q := by
  intro p l e R s m args below meth c H locs cells slots A E ls Z hF h1 h2 hD hE
  exact lv_dup2_11 hF.1 hF.2.1 hdg (zcat1 hv) (zcat1 hw) (k p l e R s m args below meth c H locs cells slots A E ls Z hF h1 h2 (hD.stk (v :: w :: v :: w :: st) (zok_c1 hD.hd (zok_c1 (hD.tl w List.mem_cons_self) hD.2.2.2.2.2.2))) hE)
theorem z_icmp_eq {a b off : Int} {tgt : Nat} (hdg : decode d.by pc = .ok (.if_icmp .eq off, 3)) (ht : (pc : Int) + off = (tgt : Int)) (kt : a = b → zW d X dep bc bs n tgt lv st h Q) (kf : ¬ (a = b) → zW d X dep bc bs n (pc + 3) lv st h Q) : zW d X dep bc bs n pc lv (xI b :: xI a :: st) h Q := by
  intro p l e R s m args below meth c H locs cells slots A E ls Z hF h1 h2 hD hE
  have hb : zi32 b := hD.hd
  have ha : zi32 a := hD.tl _ List.mem_cons_self
  have hst := hD.stk st (fun w hw => hD.tl w (List.mem_cons_of_mem _ hw))
  exact lv_icmp_eq hF.1 hF.2.1 hdg ht (fun q => kt ((zi32_inj ha hb).mp q) p l e R s m args below meth c H locs cells slots A E ls Z hF h1 h2 hst hE) (fun q => kf (fun z => q ((zi32_inj ha hb).mpr z)) p l e R s m args below meth c H locs cells slots A E ls Z hF h1 h2 hst hE)
theorem z_if_eq {a off : Int} {tgt : Nat} (hdg : decode d.by pc = .ok (.ifCond .eq off, 3)) (ht : (pc : Int) + off = (tgt : Int)) (kt : a = 0 → zW d X dep bc bs n tgt lv st h Q) (kf : ¬ (a = 0) → zW d X dep bc bs n (pc + 3) lv st h Q) : zW d X dep bc bs n pc lv (xI a :: st) h Q := by
  intro p l e R s m args below meth c H locs cells slots A E ls Z hF h1 h2 hD hE
  have ha : zi32 a := hD.hd
  have hb : zi32 0 := zi32_0
  have hst := hD.stk st hD.tl
  exact lv_if_eq hF.1 hF.2.1 hdg ht (fun q => kt ((z0_inj ha).mp q) p l e R s m args below meth c H locs cells slots A E ls Z hF h1 h2 hst hE) (fun q => kf (fun z => q ((z0_inj ha).mpr z)) p l e R s m args below meth c H locs cells slots A E ls Z hF h1 h2 hst hE)
theorem z_icmp_ne {a b off : Int} {tgt : Nat} (hdg : decode d.by pc = .ok (.if_icmp .ne off, 3)) (ht : (pc : Int) + off = (tgt : Int)) (kt : ¬ a = b → zW d X dep bc bs n tgt lv st h Q) (kf : a = b → zW d X dep bc bs n (pc + 3) lv st h Q) : zW d X dep bc bs n pc lv (xI b :: xI a :: st) h Q := by
  intro p l e R s m args below meth c H locs cells slots A E ls Z hF h1 h2 hD hE
  have hb : zi32 b := hD.hd
  have ha : zi32 a := hD.tl _ List.mem_cons_self
  have hst := hD.stk st (fun w hw => hD.tl w (List.mem_cons_of_mem _ hw))
  exact lv_icmp_ne hF.1 hF.2.1 hdg ht (fun q => kt (fun z => q ((zi32_inj ha hb).mpr z)) p l e R s m args below meth c H locs cells slots A E ls Z hF h1 h2 hst hE) (fun q => kf ((zi32_inj ha hb).mp q) p l e R s m args below meth c H locs cells slots A E ls Z hF h1 h2 hst hE)
theorem z_if_ne {a off : Int} {tgt : Nat} (hdg : decode d.by pc = .ok (.ifCond .ne off, 3)) (ht : (pc : Int) + off = (tgt : Int)) (kt : ¬ a = 0 → zW d X dep bc bs n tgt lv st h Q) (kf : a = 0 → zW d X dep bc bs n (pc + 3) lv st h Q) : zW d X dep bc bs n pc lv (xI a :: st) h Q := by
  intro p l e R s m args below meth c H locs cells slots A E ls Z hF h1 h2 hD hE
  have ha : zi32 a := hD.hd
  have hb : zi32 0 := zi32_0
  have hst := hD.stk st hD.tl
  exact lv_if_ne hF.1 hF.2.1 hdg ht (fun q => kt (fun z => q ((z0_inj ha).mpr z)) p l e R s m args below meth c H locs cells slots A E ls Z hF h1 h2 hst hE) (fun q => kf ((z0_inj ha).mp q) p l e R s m args below meth c H locs cells slots A E ls Z hF h1 h2 hst hE)
theorem z_icmp_lt {a b off : Int} {tgt : Nat} (hdg : decode d.by pc = .ok (.if_icmp .lt off, 3)) (ht : (pc : Int) + off = (tgt : Int)) (kt : a < b → zW d X dep bc bs n tgt lv st h Q) (kf : ¬ (a < b) → zW d X dep bc bs n (pc + 3) lv st h Q) : zW d X dep bc bs n pc lv (xI b :: xI a :: st) h Q := by
  intro p l e R s m args below meth c H locs cells slots A E ls Z hF h1 h2 hD hE
  have hb : zi32 b := hD.hd
  have ha : zi32 a := hD.tl _ List.mem_cons_self
  have hst := hD.stk st (fun w hw => hD.tl w (List.mem_cons_of_mem _ hw))
  exact lv_icmp_lt hF.1 hF.2.1 hdg ht (fun q => kt ((zi32_lt ha hb).mp q) p l e R s m args below meth c H locs cells slots A E ls Z hF h1 h2 hst hE) (fun q => kf (fun z => q ((zi32_lt ha hb).mpr z)) p l e R s m args below meth c H locs cells slots A E ls Z hF h1 h2 hst hE)
theorem z_if_lt {a off : Int} {tgt : Nat} (hdg : decode d.by pc = .ok (.ifCond .lt off, 3)) (ht : (pc : Int) + off = (tgt : Int)) (kt : a < 0 → zW d X dep bc bs n tgt lv st h Q) (kf : ¬ (a < 0) → zW d X dep bc bs n (pc + 3) lv st h Q) : zW d X dep bc bs n pc lv (xI a :: st) h Q := by
  intro p l e R s m args below meth c H locs cells slots A E ls Z hF h1 h2 hD hE
  have ha : zi32 a := hD.hd
  have hb : zi32 0 := zi32_0
  have hst := hD.stk st hD.tl
  exact lv_if_lt hF.1 hF.2.1 hdg ht (fun q => kt ((z0_lt ha).mp q) p l e R s m args below meth c H locs cells slots A E ls Z hF h1 h2 hst hE) (fun q => kf (fun z => q ((z0_lt ha).mpr z)) p l e R s m args below meth c H locs cells slots A E ls Z hF h1 h2 hst hE)
theorem z_icmp_ge {a b off : Int} {tgt : Nat} (hdg : decode d.by pc = .ok (.if_icmp .ge off, 3)) (ht : (pc : Int) + off = (tgt : Int)) (kt : b ≤ a → zW d X dep bc bs n tgt lv st h Q) (kf : ¬ (b ≤ a) → zW d X dep bc bs n (pc + 3) lv st h Q) : zW d X dep bc bs n pc lv (xI b :: xI a :: st) h Q := by
  intro p l e R s m args below meth c H locs cells slots A E ls Z hF h1 h2 hD hE
  have hb : zi32 b := hD.hd
  have ha : zi32 a := hD.tl _ List.mem_cons_self
  have hst := hD.stk st (fun w hw => hD.tl w (List.mem_cons_of_mem _ hw))
  exact lv_icmp_ge hF.1 hF.2.1 hdg ht (fun q => kt ((zi32_le hb ha).mp q) p l e R s m args below meth c H locs cells slots A E ls Z hF h1 h2 hst hE) (fun q => kf (fun z => q ((zi32_le hb ha).mpr z)) p l e R s m args below meth c H locs cells slots A E ls Z hF h1 h2 hst hE)
theorem z_if_ge {a off : Int} {tgt : Nat} (hdg : decode d.by pc = .ok (.ifCond .ge off, 3)) (ht : (pc : Int) + off = (tgt : Int)) (kt : 0 ≤ a → zW d X dep bc bs n tgt lv st h Q) (kf : ¬ (0 ≤ a) → zW d X dep bc bs n (pc + 3) lv st h Q) : zW d X dep bc bs n pc lv (xI a :: st) h Q := by
  intro p l e R s m args below meth c H locs cells slots A E ls Z hF h1 h2 hD hE
  have ha : zi32 a := hD.hd
  have hb : zi32 0 := zi32_0
  have hst := hD.stk st hD.tl
  exact lv_if_ge hF.1 hF.2.1 hdg ht (fun q => kt ((z0_ge ha).mp q) p l e R s m args below meth c H locs cells slots A E ls Z hF h1 h2 hst hE) (fun q => kf (fun z => q ((z0_ge ha).mpr z)) p l e R s m args below meth c H locs cells slots A E ls Z hF h1 h2 hst hE)
theorem z_icmp_gt {a b off : Int} {tgt : Nat} (hdg : decode d.by pc = .ok (.if_icmp .gt off, 3)) (ht : (pc : Int) + off = (tgt : Int)) (kt : b < a → zW d X dep bc bs n tgt lv st h Q) (kf : ¬ (b < a) → zW d X dep bc bs n (pc + 3) lv st h Q) : zW d X dep bc bs n pc lv (xI b :: xI a :: st) h Q := by
  intro p l e R s m args below meth c H locs cells slots A E ls Z hF h1 h2 hD hE
  have hb : zi32 b := hD.hd
  have ha : zi32 a := hD.tl _ List.mem_cons_self
  have hst := hD.stk st (fun w hw => hD.tl w (List.mem_cons_of_mem _ hw))
  exact lv_icmp_gt hF.1 hF.2.1 hdg ht (fun q => kt ((zi32_lt hb ha).mp q) p l e R s m args below meth c H locs cells slots A E ls Z hF h1 h2 hst hE) (fun q => kf (fun z => q ((zi32_lt hb ha).mpr z)) p l e R s m args below meth c H locs cells slots A E ls Z hF h1 h2 hst hE)
theorem z_if_gt {a off : Int} {tgt : Nat} (hdg : decode d.by pc = .ok (.ifCond .gt off, 3)) (ht : (pc : Int) + off = (tgt : Int)) (kt : 0 < a → zW d X dep bc bs n tgt lv st h Q) (kf : ¬ (0 < a) → zW d X dep bc bs n (pc + 3) lv st h Q) : zW d X dep bc bs n pc lv (xI a :: st) h Q := by
  intro p l e R s m args below meth c H locs cells slots A E ls Z hF h1 h2 hD hE
  have ha : zi32 a := hD.hd
  have hb : zi32 0 := zi32_0
  have hst := hD.stk st hD.tl
  exact lv_if_gt hF.1 hF.2.1 hdg ht (fun q => kt ((z0_gt ha).mp q) p l e R s m args below meth c H locs cells slots A E ls Z hF h1 h2 hst hE) (fun q => kf (fun z => q ((z0_gt ha).mpr z)) p l e R s m args below meth c H locs cells slots A E ls Z hF h1 h2 hst hE)
theorem z_icmp_le {a b off : Int} {tgt : Nat} (hdg : decode d.by pc = .ok (.if_icmp .le off, 3)) (ht : (pc : Int) + off = (tgt : Int)) (kt : a ≤ b → zW d X dep bc bs n tgt lv st h Q) (kf : ¬ (a ≤ b) → zW d X dep bc bs n (pc + 3) lv st h Q) : zW d X dep bc bs n pc lv (xI b :: xI a :: st) h Q := by
  intro p l e R s m args below meth c H locs cells slots A E ls Z hF h1 h2 hD hE
  have hb : zi32 b := hD.hd
  have ha : zi32 a := hD.tl _ List.mem_cons_self
  have hst := hD.stk st (fun w hw => hD.tl w (List.mem_cons_of_mem _ hw))
  exact lv_icmp_le hF.1 hF.2.1 hdg ht (fun q => kt ((zi32_le ha hb).mp q) p l e R s m args below meth c H locs cells slots A E ls Z hF h1 h2 hst hE) (fun q => kf (fun z => q ((zi32_le ha hb).mpr z)) p l e R s m args below meth c H locs cells slots A E ls Z hF h1 h2 hst hE)
theorem z_if_le {a off : Int} {tgt : Nat} (hdg : decode d.by pc = .ok (.ifCond .le off, 3)) (ht : (pc : Int) + off = (tgt : Int)) (kt : a ≤ 0 → zW d X dep bc bs n tgt lv st h Q) (kf : ¬ (a ≤ 0) → zW d X dep bc bs n (pc + 3) lv st h Q) : zW d X dep bc bs n pc lv (xI a :: st) h Q := by
  intro p l e R s m args below meth c H locs cells slots A E ls Z hF h1 h2 hD hE
  have ha : zi32 a := hD.hd
  have hb : zi32 0 := zi32_0
  have hst := hD.stk st hD.tl
  exact lv_if_le hF.1 hF.2.1 hdg ht (fun q => kt ((z0_le ha).mp q) p l e R s m args below meth c H locs cells slots A E ls Z hF h1 h2 hst hE) (fun q => kf (fun z => q ((z0_le ha).mpr z)) p l e R s m args below meth c H locs cells slots A E ls Z hF h1 h2 hst hE)
theorem z_goto {off : Int} {tgt : Nat} (hdg : decode d.by pc = .ok (.goto off, 3)) (ht : (pc : Int) + off = (tgt : Int)) (k : zW d X dep bc bs n tgt lv st h Q) : zW d X dep bc bs n pc lv st h Q := by
  intro p l e R s m args below meth c H locs cells slots A E ls Z hF h1 h2 hD hE
  exact lv_goto hF.1 hF.2.1 hdg ht (k p l e R s m args below meth c H locs cells slots A E ls Z hF h1 h2 hD hE)
end ZN
