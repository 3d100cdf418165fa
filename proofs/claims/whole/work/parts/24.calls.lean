/-! references' branches, the enum's constants, switches, ends of methods, calls -/
section ZC
variable {d : zMd} {X : zX} {dep bc bs n pc : Nat} {lv : List (Nat × zV)} {st : List zV} {h : zH} {Q : Nat → zH → List zV → Prop}
theorem z_ifnull {x off : Int} {tgt : Nat} (hdg : decode d.by pc = .ok (.ifnull off, 3)) (ht : (pc : Int) + off = (tgt : Int)) (kt : x < 0 → zW d X dep bc bs n tgt lv st h Q) (kf : ¬ x < 0 → zW d X dep bc bs n (pc + 3) lv st h Q) : zW d X dep bc bs n pc lv (xR x :: st) h Q := by
  intro p l e R s m args below meth c H locs cells slots A E ls Z hF h1 h2 hD hE
  rw [List.map_cons]
  by_cases h0 : x < 0
  · rw [zcvN h0]
    exact lv_ifnullN hF.1 hF.2.1 hdg ht (kt h0 p l e R s m args below meth c H locs cells slots A E ls Z hF h1 h2 (hD.stk st hD.tl) hE)
  · rw [zcvR h0]
    exact lv_ifnull hF.1 hF.2.1 hdg (kf h0 p l e R s m args below meth c H locs cells slots A E ls Z hF h1 h2 (hD.stk st hD.tl) hE)
theorem z_ifnonnull {x off : Int} {tgt : Nat} (hdg : decode d.by pc = .ok (.ifnonnull off, 3)) (ht : (pc : Int) + off = (tgt : Int)) (kt : ¬ x < 0 → zW d X dep bc bs n tgt lv st h Q) (kf : x < 0 → zW d X dep bc bs n (pc + 3) lv st h Q) : zW d X dep bc bs n pc lv (xR x :: st) h Q := by
  intro p l e R s m args below meth c H locs cells slots A E ls Z hF h1 h2 hD hE
  rw [List.map_cons]
  by_cases h0 : x < 0
  · rw [zcvN h0]
    exact lv_ifnonnullN hF.1 hF.2.1 hdg (kf h0 p l e R s m args below meth c H locs cells slots A E ls Z hF h1 h2 (hD.stk st hD.tl) hE)
  · rw [zcvR h0]
    exact lv_ifnonnull hF.1 hF.2.1 hdg ht (kt h0 p l e R s m args below meth c H locs cells slots A E ls Z hF h1 h2 (hD.stk st hD.tl) hE)
/-- null or one of the enum's constants -/
def zWd (x : Int) : Prop := x = -1 ∨ (1000000 ≤ x ∧ x < 1000022)
theorem zFo.apart {E : zE} {s : State} {A : Nat → Prop} {H : Heap} (hf : zFo E X s A H) {a b : Int} (ha : zWd a) (hb : zWd b) : zrf E.2.1 a = zrf E.2.1 b ↔ a = b := by
  constructor
  · intro hh
    unfold zrf at hh
    rcases ha with rfl | ha <;> rcases hb with rfl | hb
    · rfl
    · rw [if_pos (by decide), if_neg (by omega)] at hh; cases hh
    · rw [if_pos (show (-1 : Int) < 0 by decide), if_neg (by omega)] at hh; cases hh
    · rw [if_neg (by omega), if_neg (by omega)] at hh
      have hh2 := Option.some.inj hh
      have := hf.1.2 (a.toNat - 1000000) (b.toNat - 1000000) (show _ < 22 by omega) (show _ < 22 by omega) (by rw [← zWad_eq E ha.1, ← zWad_eq E hb.1]; exact hh2)
      omega
  · rintro rfl
    rfl
theorem z_acmp_eq {a b off : Int} {tgt : Nat} (hdg : decode d.by pc = .ok (.if_acmp .eq off, 3)) (ht : (pc : Int) + off = (tgt : Int)) (ha : zWd a) (hb : zWd b) (kt : a = b → zW d X dep bc bs n tgt lv st h Q) (kf : ¬ a = b → zW d X dep bc bs n (pc + 3) lv st h Q) : zW d X dep bc bs n pc lv (xR b :: xR a :: st) h Q := by
  intro p l e R s m args below meth c H locs cells slots A E ls Z hF h1 h2 hD hE
  have hst := hD.stk st (fun w hw => hD.tl w (List.mem_cons_of_mem _ hw))
  exact lv_acmp_eq hF.1 hF.2.1 hdg ht (fun q => kt ((hD.2.2.1.apart ha hb).mp q) p l e R s m args below meth c H locs cells slots A E ls Z hF h1 h2 hst hE) (fun q => kf (fun z => q ((hD.2.2.1.apart ha hb).mpr z)) p l e R s m args below meth c H locs cells slots A E ls Z hF h1 h2 hst hE)
theorem z_acmp_ne {a b off : Int} {tgt : Nat} (hdg : decode d.by pc = .ok (.if_acmp .ne off, 3)) (ht : (pc : Int) + off = (tgt : Int)) (ha : zWd a) (hb : zWd b) (kt : ¬ a = b → zW d X dep bc bs n tgt lv st h Q) (kf : a = b → zW d X dep bc bs n (pc + 3) lv st h Q) : zW d X dep bc bs n pc lv (xR b :: xR a :: st) h Q := by
  intro p l e R s m args below meth c H locs cells slots A E ls Z hF h1 h2 hD hE
  have hst := hD.stk st (fun w hw => hD.tl w (List.mem_cons_of_mem _ hw))
  exact lv_acmp_ne hF.1 hF.2.1 hdg ht (fun q => kt (fun z => q ((hD.2.2.1.apart ha hb).mpr z)) p l e R s m args below meth c H locs cells slots A E ls Z hF h1 h2 hst hE) (fun q => kf ((hD.2.2.1.apart ha hb).mp q) p l e R s m args below meth c H locs cells slots A E ls Z hF h1 h2 hst hE)
/-- a constant of the enum -/
theorem z_getW {index : Nat} (i : Nat) (hi : i < 22) (hdg : decode d.by pc = .ok (.getstatic index, 3)) (hl : Cond.fieldLink d.1.cls index RX9 (zNmW.getD i "") "LLotOffice$Word;" ∈ zBIG) (kk : zW d X dep bc bs n (pc + 3) lv (xR (1000000 + i) :: st) h Q) : zW d X dep bc bs n pc lv st h Q := by
  intro p l e R s m args below meth c H locs cells slots A E ls Z hF h1 h2 hD hE
  have kk1 := kk p l e R s m args below meth c H locs cells slots A E ls Z hF h1 h2 (hD.stk (xR (1000000 + i) :: st) (zok_c1 (show _ ∨ _ ∨ _ from Or.inr (Or.inr (show (1000000 : Int) ≤ 1000000 + (i : Int) by omega))) hD.2.2.2.2.2.2)) hE
  rw [List.map_cons, zcvR (by omega), zWad_eq E (by omega), show (1000000 + (i : Int)).toNat - 1000000 = i by omega] at kk1
  exact va_gets hF.1 hF.2.1 (hD.2.2.1.1.1 i hi).1 hD.1 hF.2.2.2.1 (hF.2.2.2.2.1 _ hl) (fun _ h9 => h9) hdg kk1
/-- a number of a constant of the enum -/
theorem z_getWf {index : Nat} {x : Int} (q : String × String × String × List Int32) (hq : q ∈ zFW) (hx : 1000000 ≤ x ∧ x < 1000022) (hdg : decode d.by pc = .ok (.getfield index, 3)) (hl : Cond.fieldLink d.1.cls index q.1 q.2.1 q.2.2.1 ∈ zBIG) (kk : zW d X dep bc bs n (pc + 3) lv (xI (q.2.2.2.getD (x.toNat - 1000000) 0).toInt :: st) h Q) : zW d X dep bc bs n pc lv (xR x :: st) h Q := by
  intro p l e R s m args below meth c H locs cells slots A E ls Z hF h1 h2 hD hE
  have kk1 := kk p l e R s m args below meth c H locs cells slots A E ls Z hF h1 h2 (hD.stk (xI (q.2.2.2.getD (x.toNat - 1000000) 0).toInt :: st) (zok_c1 (zi32_i _) hD.tl)) hE
  rw [List.map_cons, show zcv E.2.1 (xI (q.2.2.2.getD (x.toNat - 1000000) 0).toInt) = .int (q.2.2.2.getD (x.toNat - 1000000) 0) from congrArg Value.int (Int32.ofInt_toInt _)] at kk1
  rw [List.map_cons, zcvR (by omega), zWad_eq E hx.1]
  exact va_getE hF.1 hF.2.1 hD.2.2.1.1 (show x.toNat - 1000000 < 22 by omega) hD.1 hF.2.2.2.1 hq (hF.2.2.2.2.1 _ hl) (fun _ h9 => h9) hdg kk1
def zcmp (a b : Int) : Int := if b < a then 1 else if a = b then 0 else -1
theorem z_lcmp {a b : Int} (hdg : decode d.by pc = .ok (.lcmp, 1)) (k : zW d X dep bc bs n (pc + 1) lv (xI (zcmp a b) :: st) h Q) : zW d X dep bc bs n pc lv (xL b :: xL a :: st) h Q := by
  intro p l e R s m args below meth c H locs cells slots A E ls Z hF h1 h2 hD hE
  have hb : zi64 b := hD.hd
  have ha : zi64 a := hD.tl _ List.mem_cons_self
  have hz : zi32 (zcmp a b) := by
    unfold zcmp
    split
    · exact ⟨by omega, by omega⟩
    · split <;> exact ⟨by omega, by omega⟩
  have kk1 := k p l e R s m args below meth c H locs cells slots A E ls Z hF h1 h2 (hD.stk (xI (zcmp a b) :: st) (zok_c1 hz (fun w hw => hD.tl w (List.mem_cons_of_mem _ hw)))) hE
  have e9 : zcv E.2.1 (xI (zcmp a b)) = .int (lg_cmp (Int64.ofInt a) (Int64.ofInt b)) := by
    refine congrArg Value.int ?_
    unfold zcmp lg_cmp
    by_cases q1 : b < a
    · rw [if_pos q1, if_pos (show Int64.ofInt b < Int64.ofInt a from (zi64_lt hb ha).mpr q1)]; rfl
    · rw [if_neg q1, if_neg (fun z => q1 ((zi64_lt hb ha).mp z))]
      by_cases q2 : a = b
      · rw [if_pos q2, if_pos (by rw [q2])]; rfl
      · rw [if_neg q2, if_neg (fun z => q2 ((zi64_inj ha hb).mp z))]; rfl
  rw [List.map_cons, e9] at kk1
  exact W.lcmp hF.1 hF.2.1 hdg kk1
theorem z_ldc2 {index : Nat} {v : Int} (hv : zi64 v) (hdg : decode d.by pc = .ok (.ldc2_w index, 3)) (hl : Cond.constantLong d.1.cls index (Int64.ofInt v) ∈ zBIG) (k : zW d X dep bc bs n (pc + 3) lv (xL v :: st) h Q) : zW d X dep bc bs n pc lv st h Q := by
  intro p l e R s m args below meth c H locs cells slots A E ls Z hF h1 h2 hD hE
  exact lv_ldc2 hF.1 hF.2.1 hF.2.2.2.1 (hF.2.2.2.2.1 _ hl) hdg (k p l e R s m args below meth c H locs cells slots A E ls Z hF h1 h2 (hD.stk (xL v :: st) (zok_c1 hv hD.2.2.2.2.2.2)) hE)
theorem z_tsOut {dflt lo hi x : Int} {offs : Array Int} {len tgt : Nat} (hdg : decode d.by pc = .ok (.tableswitch dflt lo hi offs, len)) (hx : x < lo ∨ hi < x) (ht : (pc : Int) + dflt = (tgt : Int)) (k : zW d X dep bc bs n tgt lv st h Q) : zW d X dep bc bs n pc lv (xI x :: st) h Q := by
  intro p l e R s m args below meth c H locs cells slots A E ls Z hF h1 h2 hD hE
  have hi9 : (Int32.ofInt x).toInt = x := zi32_to hD.hd
  exact lv_tableOut hF.1 hF.2.1 hdg (by show (Int32.ofInt x).toInt < lo ∨ hi < (Int32.ofInt x).toInt; rw [hi9]; exact hx) ht (k p l e R s m args below meth c H locs cells slots A E ls Z hF h1 h2 (hD.stk st hD.tl) hE)
theorem z_tsIn {dflt lo hi x off : Int} {offs : Array Int} {len tgt : Nat} (hdg : decode d.by pc = .ok (.tableswitch dflt lo hi offs, len)) (hx1 : lo ≤ x) (hx2 : x ≤ hi) (ho : offs[(x - lo).toNat]? = some off) (ht : (pc : Int) + off = (tgt : Int)) (k : zW d X dep bc bs n tgt lv st h Q) : zW d X dep bc bs n pc lv (xI x :: st) h Q := by
  intro p l e R s m args below meth c H locs cells slots A E ls Z hF h1 h2 hD hE
  have hi9 : (Int32.ofInt x).toInt = x := zi32_to hD.hd
  exact lv_tableIn hF.1 hF.2.1 hdg (by rw [hi9]; omega) (by rw [hi9]; omega) (by rw [hi9]; exact ho) ht (k p l e R s m args below meth c H locs cells slots A E ls Z hF h1 h2 (hD.stk st hD.tl) hE)
theorem z_lsw {dflt x off : Int} {ps : Array (Int × Int)} {len tgt : Nat} (hdg : decode d.by pc = .ok (.lookupswitch dflt ps, len)) (hp : (ps.toList.zip (ps.toList.drop 1)).all (fun (a, next) => a.1 < next.1) = true) (ho : Op.lookupswitch.offset ps.toList dflt x = off) (ht : (pc : Int) + off = (tgt : Int)) (k : zW d X dep bc bs n tgt lv st h Q) : zW d X dep bc bs n pc lv (xI x :: st) h Q := by
  intro p l e R s m args below meth c H locs cells slots A E ls Z hF h1 h2 hD hE
  have hi9 : (Int32.ofInt x).toInt = x := zi32_to hD.hd
  exact lv_lookup hF.1 hF.2.1 hdg hp (by rw [hi9]; exact ho) ht (k p l e R s m args below meth c H locs cells slots A E ls Z hF h1 h2 (hD.stk st hD.tl) hE)
/-- ends -/
theorem zDyn.end {s : State} {H : Heap} {locs : List Loc} {A : Nat → Prop} {E : zE} {ls : Array Slot} (hD : zDyn X d n lv st h s H locs A E ls) (rs : List zV) (hr : ∀ v ∈ rs, zok n v) : zDyn X d n [] rs h s H locs A E ls :=
  hD.lvs [] rs ls ⟨hD.2.2.2.2.1.1, hD.2.2.2.2.1.2.1, fun q hq => absurd hq List.not_mem_nil⟩ (fun q hq => absurd hq List.not_mem_nil) hr
theorem z_iret {x : Int} (hdg : decode d.by pc = .ok (.ireturn, 1)) (hrt : d.rt = some .int) (q : Q n h [xI x]) : zW d X dep bc bs n pc lv [xI x] h Q := by
  intro p l e R s m args below meth c H locs cells slots A E ls Z hF h1 h2 hD hE
  exact hE H locs cells slots E ls n h pc [xI x] [xI x] .ireturn 1 (by omega) (by omega) (hD.end _ hD.2.2.2.2.2.2) (zEx.rf E n) q hdg (Or.inl ⟨rfl, rfl, rfl, x, rfl, Or.inl hrt⟩)
theorem z_zret {x : Int} (hdg : decode d.by pc = .ok (.ireturn, 1)) (hrt : d.rt = some .boolean) (hx : x = 0 ∨ x = 1) (q : Q n h [xI x]) : zW d X dep bc bs n pc lv [xI x] h Q := by
  intro p l e R s m args below meth c H locs cells slots A E ls Z hF h1 h2 hD hE
  exact hE H locs cells slots E ls n h pc [xI x] [xI x] .ireturn 1 (by omega) (by omega) (hD.end _ hD.2.2.2.2.2.2) (zEx.rf E n) q hdg (Or.inl ⟨rfl, rfl, rfl, x, rfl, Or.inr ⟨.boolean, hrt, by rcases hx with rfl | rfl <;> decide⟩⟩)
theorem z_nret {x : Int} {ty : FieldType} (hdg : decode d.by pc = .ok (.ireturn, 1)) (hrt : d.rt = some ty) (hn : narrow ty (.int (Int32.ofInt x)) = .int (Int32.ofInt x)) (q : Q n h [xI x]) : zW d X dep bc bs n pc lv [xI x] h Q := by
  intro p l e R s m args below meth c H locs cells slots A E ls Z hF h1 h2 hD hE
  exact hE H locs cells slots E ls n h pc [xI x] [xI x] .ireturn 1 (by omega) (by omega) (hD.end _ hD.2.2.2.2.2.2) (zEx.rf E n) q hdg (Or.inl ⟨rfl, rfl, rfl, x, rfl, Or.inr ⟨ty, hrt, hn⟩⟩)
theorem z_lret {x : Int} (hdg : decode d.by pc = .ok (.lreturn, 1)) (hrt : d.rt = some .long) (q : Q n h [xL x]) : zW d X dep bc bs n pc lv [xL x] h Q := by
  intro p l e R s m args below meth c H locs cells slots A E ls Z hF h1 h2 hD hE
  exact hE H locs cells slots E ls n h pc [xL x] [xL x] .lreturn 1 (by omega) (by omega) (hD.end _ hD.2.2.2.2.2.2) (zEx.rf E n) q hdg (Or.inr (Or.inl ⟨rfl, rfl, rfl, hrt, x, rfl⟩))
theorem z_aret {x : Int} {C : String} (hdg : decode d.by pc = .ok (.areturn, 1)) (hrt : d.rt = some (.object C)) (q : Q n h [xR x]) : zW d X dep bc bs n pc lv [xR x] h Q := by
  intro p l e R s m args below meth c H locs cells slots A E ls Z hF h1 h2 hD hE
  exact hE H locs cells slots E ls n h pc [xR x] [xR x] .areturn 1 (by omega) (by omega) (hD.end _ hD.2.2.2.2.2.2) (zEx.rf E n) q hdg (Or.inr (Or.inr (Or.inl ⟨rfl, rfl, rfl, ⟨C, hrt⟩, x, rfl⟩)))
theorem z_ret (hdg : decode d.by pc = .ok (.return_, 1)) (hrt : d.rt = none) (q : Q n h []) : zW d X dep bc bs n pc lv [] h Q := by
  intro p l e R s m args below meth c H locs cells slots A E ls Z hF h1 h2 hD hE
  exact hE H locs cells slots E ls n h pc [] [] .return_ 1 (by omega) (by omega) (hD.end _ hD.2.2.2.2.2.2) (zEx.rf E n) q hdg (Or.inr (Or.inr (Or.inr (Or.inl ⟨rfl, rfl, rfl, rfl, hrt⟩))))
theorem z_oinit {o : Int} {index : Nat} (hdg : decode d.by pc = .ok (.invokespecial index, 3)) (h0 : 0 ≤ o) (hdep : 1 ≤ dep) (l1 : Cond.methodLink d.1.cls index objectInit ∈ zBIG) (l2 : Cond.instanceMethod objectInit ∈ zBIG) (l3 : Cond.code objectInit ⟨#[0xb1]⟩ 1 none ∈ zBIG) (k : zW d X dep bc bs n (pc + 3) lv [] h Q) : zW d X dep bc bs n pc lv [xR o] h Q := by
  intro p l e R s m args below meth c H locs cells slots A E ls Z hF h1 h2 hD hE
  rw [List.map_cons, zcvR (by omega)]
  have hw := hF.2.2.2.2.1
  refine W.objInit hF.1 hF.2.1 hF.2.2.2.1 (hw _ l1) (hw _ l2) (hw _ l3) rfl (by show ls.size = _; rw [hF.2.2.1]; exact hD.2.2.2.2.1.1) rfl hdg (by have := hF.2.2.2.2.2.1; omega) (by show 2 * 0 + 0 + 12 ≤ _; have := hF.2.2.2.2.2.2.1; omega) ?_
  exact k p l e R s m args below meth c H locs cells slots A E ls Z hF h1 h2 (hD.stk [] (fun v hv => absurd hv List.not_mem_nil)) hE
end ZC
