/-! methods that throw, and the two that catch -/
theorem zThW_is {w : Cond} (hw : w ∈ zThW) : (∃ x, w = .declares x) ∨ ∃ C T, w = .castable C T := by
  have h : zThW.all (fun w => match w with | .declares _ => true | .castable _ _ => true | _ => false) = true := by decide +kernel
  have h1 := List.all_eq_true.mp h w hw
  cases w <;> simp at h1
  · exact Or.inl ⟨_, rfl⟩
  · exact Or.inr ⟨_, _, rfl⟩
theorem zThW_on {w : Cond} (hw : w ∈ zThW) : w.onTables = true := by
  rcases zThW_is hw with ⟨x, rfl⟩ | ⟨C, T, rfl⟩ <;> rfl
theorem zThW_warm {s U : State} (hW : s.WarmedH U.vm) (h : ∀ w ∈ zThW, va_Nw w s) : ∀ w ∈ zThW, va_Nw w U := fun w hw => by
  have h1 := h w hw
  rcases zThW_is hw with ⟨x, rfl⟩ | ⟨C, T, rfl⟩
  · exact va_Nw.warmD hW h1
  · exact va_Nw.warmC hW h1
theorem zThW_cast : Cond.castable zThC zThC ∈ zThW := by decide +kernel
def xPc (E : zE) (X : zX) (n : Nat) (h : zH) (as : List zV) (sz : Nat) : Array Value → State → Prop :=
  va_Pc (as.map (zcv E.2.1)) (fun U => U.heap.size = sz ∧ zRep E n h U U.heap (fun _ => True) ∧ zFo E X U (va_A (zws E n h) sz) U.heap ∧ (∀ w ∈ zThW, va_Nw w U) ∧ vx_Zq Bundle.tN "UNASSIGNED_STACK" Bundle.steD (va_A (zws E n h) sz) U U.heap ∧ vx_Zq Bundle.tN "SUPPRESSED_SENTINEL" Bundle.listD (va_A (zws E n h) sz) U U.heap)
theorem xPc_blind {E : zE} {X : zX} {n : Nat} {h : zH} {as : List zV} {sz : Nat} : FrameBlind (xPc E X n h as sz) := fun a U g mk q => by
  obtain ⟨q0, q1, qR, qF, qW, qU, qS⟩ := q
  exact ⟨q0, q1, qR.moved (u := U) (U := U.calling g mk a) (Vm.Alike.refl U.vm), qF.moved (u := U) (U := U.calling g mk a) (Vm.Alike.refl U.vm), fun w hw => va_Nw.same (u := U) (U := U.calling g mk a) (zThW_on hw) rfl (qW w hw), qU.moved (u := U) (U := U.calling g mk a) (Vm.Alike.refl U.vm), qS.moved (u := U) (U := U.calling g mk a) (Vm.Alike.refl U.vm)⟩
theorem xPc_of {Ψ : Code → Prop} {d : zMd} {X : zX} {n : Nat} {lv : List (Nat × zV)} {st : List zV} {h : zH} {l : Launch} {c : Code} {s : State} {H : Heap} {locs : List Loc} {A : Nat → Prop} {E : zE} {ls : Array Slot} {as : List zV} (hD : zDyn X d n lv st h s H locs A E ls) (hO : xO Ψ l s A c) : ∀ U : State, U.heap = H → s.WarmedH U.vm → xPc E X n h as H.size (as.map (zcv E.2.1)).toArray U := fun U hU hW => by
  have hAA := zws_A hD.2.2.2.1 hD.1 hD.2.1
  refine ⟨rfl, by rw [hU], ?_, ?_, zThW_warm hW hO.2.2.1, ?_, ?_⟩
  · rw [hU]
    have hR := hD.2.2.2.1.moved hW.alike
    exact ⟨hR.1, hR.2.1, hR.2.2.1.weaken (fun _ _ _ _ => trivial), hR.2.2.2⟩
  · rw [hU]
    exact ((hD.2.2.1.kept hD.1.2.1).narrow hAA).moved hW.alike
  · rw [hU]
    exact ((hO.2.2.2.1.kept hD.1.2.1).narrow hAA).moved hW.alike
  · rw [hU]
    exact ((hO.2.2.2.2.kept hD.1.2.1).narrow hAA).moved hW.alike
def zXC (E : zE) (n : Nat) (Q : Nat → zH → List zV → Prop) (A : Nat → Prop) : String → State → State → Prop :=
  vx_X (fun u : zE × Nat × zH => zEx E u.1 n u.2.1 ∧ Q u.2.1 u.2.2 [(9, 0)]) (fun cls u t => cls = zThC ∧ zRep u.1 u.2.1 u.2.2 t t.heap A) A
theorem zRep.grow {E : zE} {n : Nat} {h : zH} {s : State} {H H1 : Heap} {A : Nat → Prop} (hR : zRep E n h s H A) (hq : ∀ q : Nat, q < H.size → H1[q]? = H[q]?) : zRep E n h s H1 A :=
  ⟨hR.1.kept (fun k q hk => hq q.1 (vx_lt hR.1 hk)), hR.2⟩
theorem zTh_in : ∀ w ∈ vx_at0 "LotOffice" 266 zThC zThN, w ∈ lw_tbl := by
  have h : (vx_at0 "LotOffice" 266 zThC zThN).all (fun w => decide (w ∈ lw_tbl)) = true := by decide +kernel
  exact fun w hw => of_decide_eq_true (List.all_eq_true.mp h w hw)
theorem zTh_ot : ∀ w ∈ Cond.classLink "LotOffice" 264 zThC :: Cond.initialized zThC :: vx_at0 "LotOffice" 266 zThC zThN, vx_ot w = true := by
  have h : (Cond.classLink "LotOffice" 264 zThC :: Cond.initialized zThC :: vx_at0 "LotOffice" 266 zThC zThN).all vx_ot = true := by decide +kernel
  exact fun w hw => List.all_eq_true.mp h w hw
def zNt (Q : Nat → zH → List zV → Prop) : Nat → zH → List zV → Prop := fun n h rs => Q n h rs ∧ rs ≠ [(9, 0)]
/-- a method that throws: it answers or throws -/
theorem xMet0 {d : zMd} {X : zX} {dep n pcT : Nat} {as : List zV} {h : zH} {Q : Nat → zH → List zV → Prop} (hZ : zW d X dep 0 0 n 0 (zar 0 as) [] h Q) (hdep : 6 ≤ dep) (hnew : ∀ pc' j, decode d.by pc' = .ok (.new j, 3) → pc' = pcT ∧ j = 264) (d3 : decode d.by (pcT + 3) = .ok (.dup, 1)) (d4 : decode d.by (pcT + 4) = .ok (.invokespecial 266, 3)) (d7 : decode d.by (pcT + 7) = .ok (.athrow, 1))
    (hcls : d.1.cls = "LotOffice") (hy : plainName d.1.cls = true) (hnl : zsz as ≤ d.nl) (hok : ∀ v ∈ as, zok n v) (l : Launch) (hlf : l.stackTraces = false) (E : zE) (sz : Nat) :
    vx_Met l d.1 (zwd d) (zrm dep 1 6) (xPc E X n h as sz) (zQc E n (zNt Q) (va_A (zws E n h) sz)) (zXC E n Q (va_A (zws E n h) sz)) 1 6 (va_A (zws E n h) sz) := by
  refine vx_ofW (cc := d.by) (maxL := d.nl) (ret := d.rt) hy rfl ?_
  intro p e s m args below meth c s₁ B hml htab hv
  obtain ⟨rfl, hsz, hR, hFo, hTW, hTU, hTS⟩ := hv
  subst hsz
  have hts := atoms_spec (ws := zwd d) B.pre
  have hown : s.vm.findClass d.1.cls = some m.cls := findClass_of_methodNamed B.named
  have hname : meth.name = d.1.name := (name_of_methodNamed B.named B.method).1
  have hl := lv_entry (as.map (zcv E.2.1)) (n := d.nl) (by rw [zsz_eq]; exact hnl)
  have hlocks : meth.locks = false := B.notSynchronized
  rw [lg_entry_eq]
  generalize (lg_sl (as.map (zcv E.2.1)) ++ List.replicate (d.nl - (lg_sl (as.map (zcv E.2.1))).length) Slot.unset).toArray = ls at hl ⊢
  rw [← zar_map] at hl
  generalize hAe : va_A (zws E n h) s.heap.size = A at hFo hTU hTS ⊢
  have hD : va_D A (zws E n h) := by rw [← hAe]; exact hR.2.2.1.self
  have hA : ∀ q : Nat, s.heap.size ≤ q → A q := fun q hq => by rw [← hAe]; exact Or.inr hq
  have hz : ∀ w ∈ zBIG, w.before (as.map (zcv E.2.1)).toArray s = true := fun w hw => hts w (List.mem_cons_of_mem _ hw)
  have hF : zFix d dep p (zrm dep 1 6) s m (as.map (zcv E.2.1)).toArray meth c := ⟨B.exec, B.bytes, hml, hown, hz, Nat.le_refl _, Nat.le_refl _, B.returns, hlocks, hname⟩
  refine hZ p l e (zrm dep 1 6) s m (as.map (zcv E.2.1)).toArray below meth c s.heap [] 0 0 A E ls _ hF (Nat.zero_le _) (Nat.zero_le _) ⟨va_S.rf, hA, hFo, ⟨hR.1, hR.2.1, hD, hR.2.2.2⟩, hl, zar_ok hok 0, fun v hv => absurd hv List.not_mem_nil⟩ ?_
  intro H' locs' cells' slots' E' ls' n' h' pc' rs vs i k hc hs hD' hx hq hdg hend
  have hS' := hD'.1
  rcases hend with ⟨rfl, rfl, rfl, x, rfl, hrt⟩ | ⟨rfl, rfl, rfl, hrt, x, rfl⟩ | ⟨rfl, rfl, rfl, ⟨C, hrt⟩, x, rfl⟩ | ⟨rfl, rfl, rfl, rfl, hrt⟩ | ⟨⟨j, rfl⟩, rfl, rfl, rfl⟩
  · have hqc : ∀ t : State, t.heap = H' → s.WarmedH t.vm → zQc E n (zNt Q) A (as.map (zcv E.2.1)).toArray s (.returned (some (zcv E'.2.1 (xI x)))) t := fun t ht hW => ⟨⟨E', n', h', [xI x], Or.inr ⟨_, rfl, rfl⟩, by rw [ht]; exact hD'.2.2.2.1.moved hW.alike, hx, hD'.2.2.2.2.2.2, hq, fun z => zne_I z⟩, hS'.F ht⟩
    refine vx_ret (W.widen (k := 1) (n := 6) (by omega) (by omega) ?_)
    rcases hrt with hrt | ⟨ty, hrt, h01⟩
    · exact W.iret (v := Int32.ofInt x) B.exec B.bytes (B.returns.trans hrt) hqc hS'.2.2 hdg
    · exact W.zret (v := Int32.ofInt x) (ty := ty) B.exec B.bytes (B.returns.trans hrt) h01 hqc hS'.2.2 hdg
  · refine vx_ret (W.widen (k := 1) (n := 6) (by omega) (by omega) ?_)
    exact W.lret (v := Int64.ofInt x) B.exec B.bytes (B.returns.trans hrt) (fun t ht hW => ⟨⟨E', n', h', [xL x], Or.inr ⟨_, rfl, rfl⟩, by rw [ht]; exact hD'.2.2.2.1.moved hW.alike, hx, hD'.2.2.2.2.2.2, hq, fun z => zne_L z⟩, hS'.F ht⟩) hS'.2.2 hdg
  · refine vx_ret (W.widen (k := 1) (n := 6) (by omega) (by omega) ?_)
    exact W.aret (v := zcv E'.2.1 (xR x)) (rt := .object C) B.exec B.bytes (B.returns.trans hrt) (Or.inl ⟨C, rfl⟩) (by by_cases h0 : x < 0; exact Or.inl (zcvN h0); exact Or.inr ⟨_, zcvR h0⟩) (fun t ht hW => ⟨⟨E', n', h', [xR x], Or.inr ⟨_, rfl, rfl⟩, by rw [ht]; exact hD'.2.2.2.1.moved hW.alike, hx, hD'.2.2.2.2.2.2, hq, fun z => zne_R z⟩, hS'.F ht⟩) hS'.2.2 hdg
  · refine vx_ret (W.widen (k := 1) (n := 6) (by omega) (by omega) ?_)
    exact W.vret B.exec B.bytes (B.returns.trans hrt) (fun t ht hW => ⟨⟨E', n', h', [], Or.inl ⟨rfl, rfl⟩, by rw [ht]; exact hD'.2.2.2.1.moved hW.alike, hx, hD'.2.2.2.2.2.2, hq, fun z => nomatch z⟩, hS'.F ht⟩) hS'.2.2 hdg
  · obtain ⟨rfl, rfl⟩ := hnew _ _ hdg
    have hown' : s.vm.findClass "LotOffice" = some m.cls := by rw [← hcls]; exact hown
    refine vx_throw0 (own := "LotOffice") (cls := zThC) (names := zThN) (ik := 264) (ic := 266) (A := A) B.exec B.bytes hlf hown' (by decide +kernel) (by decide +kernel) (hz _ zb_1037) (hz _ zb_104) (fun w hw => ?_) zTh_ot hTU hTS hS' (hD'.2.2.2.2.1.1.trans hml.symm) hdg d3 d4 d7 (fun x hx => (htab x hx).elim) ?_ ?_ ?_ ?_ hlocks (fun t ht1 ht2 ht3 => ?_) hS'.2.2 (by omega) (by omega)
    · by_cases g : goodWord w = true
      · exact hz w (zBIG_in (zTh_in w hw) g)
      · have hw2 : w ∈ zThW := List.mem_filter.mpr ⟨hw, by simpa using g⟩
        exact va_Nw.use (zThW_on hw2) (hTW w hw2)
    · show 2 + 3 < dep
      omega
    · show 0 + (13 * (2 + 1) + 42) ≤ 40 * dep
      omega
    · show cells' + 1 ≤ 1
      omega
    · show slots' + 6 ≤ 6
      omega
    · refine ⟨(E', n', h'), ⟨hx, hq⟩, ⟨rfl, (hD'.2.2.2.1.moved ht1).grow ht3⟩, Nat.le_trans hS'.1 ht2, fun q q1 q2 => ?_⟩
      rw [ht3 q (Nat.lt_of_lt_of_le q1 hS'.1)]
      exact hS'.2.1 q q1 q2
