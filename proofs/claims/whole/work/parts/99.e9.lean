/-! a call that may throw, caught here; a call of a method that catches -/
def zwh (d : zMd) (hh : List (Nat × Nat × Nat × Nat)) : List Cond := .codeWith d.1 d.by d.nl d.rt hh :: zBIG
abbrev xT (hh : List (Nat × Nat × Nat × Nat)) : Code → Prop := fun c => c.exceptionTable.toList = tableOf hh
theorem xMetH {d : zMd} {hh : List (Nat × Nat × Nat × Nat)} {X : zX} {dep bc bs n : Nat} {as : List zV} {h : zH} {Q : Nat → zH → List zV → Prop} (hZ : xW (xT hh) d X dep bc bs n 0 (zar 0 as) [] h Q) (hnt : ∀ n' h', ¬ Q n' h' [(9, 0)]) (hy : plainName d.1.cls = true) (hnl : zsz as ≤ d.nl) (hok : ∀ v ∈ as, zok n v) (l : Launch) (hlf : l.stackTraces = false) (E : zE) (sz : Nat) :
    vx_Met l d.1 (zwh d hh) (zrm dep bc bs) (xPc E X n h as sz) (zQc E n Q (va_A (zws E n h) sz)) (fun _ _ _ => False) bc bs (va_A (zws E n h) sz) := by
  refine vx_ofWH (cc := d.by) (maxL := d.nl) (ret := d.rt) (hh := hh) hy rfl ?_
  intro p e s m args below meth c s₁ B hml hv
  obtain ⟨rfl, hsz, hR, hFo, hTW, hTU, hTS⟩ := hv
  subst hsz
  have hts := atoms_spec (ws := zwh d hh) B.pre
  have hown : s.vm.findClass d.1.cls = some m.cls := findClass_of_methodNamed B.named
  have hname : meth.name = d.1.name := (name_of_methodNamed B.named B.method).1
  have hl := lv_entry (as.map (zcv E.2.1)) (n := d.nl) (by rw [zsz_eq]; exact hnl)
  have hlocks : meth.locks = false := B.notSynchronized
  have htab : xT hh c := vx_table (x := d.1) B (hts _ List.mem_cons_self)
  rw [lg_entry_eq]
  generalize (lg_sl (as.map (zcv E.2.1)) ++ List.replicate (d.nl - (lg_sl (as.map (zcv E.2.1))).length) Slot.unset).toArray = ls at hl ⊢
  rw [← zar_map] at hl
  generalize hAe : va_A (zws E n h) s.heap.size = A at hFo hTU hTS ⊢
  have hD : va_D A (zws E n h) := by rw [← hAe]; exact hR.2.2.1.self
  have hA : ∀ q : Nat, s.heap.size ≤ q → A q := fun q hq => by rw [← hAe]; exact Or.inr hq
  have hz : ∀ w ∈ zBIG, w.before (as.map (zcv E.2.1)).toArray s = true := fun w hw => hts w (List.mem_cons_of_mem _ hw)
  have hF : zFix d dep p (zrm dep bc bs) s m (as.map (zcv E.2.1)).toArray meth c := ⟨B.exec, B.bytes, hml, hown, hz, Nat.le_refl _, Nat.le_refl _, B.returns, hlocks, hname⟩
  refine hZ p l e (zrm dep bc bs) s m (as.map (zcv E.2.1)).toArray below meth c s.heap [] 0 0 A E ls _ ⟨hF, htab, hlf, hTW, hTU, hTS⟩ (Nat.le_of_eq (Nat.zero_add bc)) (Nat.le_of_eq (Nat.zero_add bs)) ⟨va_S.rf, hA, hFo, ⟨hR.1, hR.2.1, hD, hR.2.2.2⟩, hl, zar_ok hok 0, fun v hv => absurd hv List.not_mem_nil⟩ ?_
  intro H' locs' cells' slots' E' ls' n' h' pc' rs vs i k hc hs hD' hx hq hdg hend
  refine vx_ret (W.widen (k := bc) (n := bs) (by omega) (by omega) ?_)
  have hS' := hD'.1
  rcases hend with ⟨rfl, rfl, rfl, x, rfl, hrt⟩ | ⟨rfl, rfl, rfl, hrt, x, rfl⟩ | ⟨rfl, rfl, rfl, ⟨C, hrt⟩, x, rfl⟩ | ⟨rfl, rfl, rfl, rfl, hrt⟩ | ⟨-, -, -, rfl⟩
  · have hqc : ∀ t : State, t.heap = H' → s.WarmedH t.vm → zQc E n Q A (as.map (zcv E.2.1)).toArray s (.returned (some (zcv E'.2.1 (xI x)))) t := fun t ht hW => ⟨⟨E', n', h', [xI x], Or.inr ⟨_, rfl, rfl⟩, by rw [ht]; exact hD'.2.2.2.1.moved hW.alike, hx, hD'.2.2.2.2.2.2, hq⟩, hS'.F ht⟩
    rcases hrt with hrt | ⟨ty, hrt, h01⟩
    · exact W.iret (v := Int32.ofInt x) B.exec B.bytes (B.returns.trans hrt) hqc hS'.2.2 hdg
    · exact W.zret (v := Int32.ofInt x) (ty := ty) B.exec B.bytes (B.returns.trans hrt) h01 hqc hS'.2.2 hdg
  · exact W.lret (v := Int64.ofInt x) B.exec B.bytes (B.returns.trans hrt) (fun t ht hW => ⟨⟨E', n', h', [xL x], Or.inr ⟨_, rfl, rfl⟩, by rw [ht]; exact hD'.2.2.2.1.moved hW.alike, hx, hD'.2.2.2.2.2.2, hq⟩, hS'.F ht⟩) hS'.2.2 hdg
  · exact W.aret (v := zcv E'.2.1 (xR x)) (rt := .object C) B.exec B.bytes (B.returns.trans hrt) (Or.inl ⟨C, rfl⟩) (by by_cases h0 : x < 0; exact Or.inl (zcvN h0); exact Or.inr ⟨_, zcvR h0⟩) (fun t ht hW => ⟨⟨E', n', h', [xR x], Or.inr ⟨_, rfl, rfl⟩, by rw [ht]; exact hD'.2.2.2.1.moved hW.alike, hx, hD'.2.2.2.2.2.2, hq⟩, hS'.F ht⟩) hS'.2.2 hdg
  · exact W.vret B.exec B.bytes (B.returns.trans hrt) (fun t ht hW => ⟨⟨E', n', h', [], Or.inl ⟨rfl, rfl⟩, by rw [ht]; exact hD'.2.2.2.1.moved hW.alike, hx, hD'.2.2.2.2.2.2, hq⟩, hS'.F ht⟩) hS'.2.2 hdg
  · exact absurd hq (hnt n' h')
section XCALL
variable {Ψ : Code → Prop} {d d' : zMd} {X : zX} {dep dep' bc bc' bs bs' n pc index N : Nat} {lv : List (Nat × zV)} {st as : List zV} {h : zH} {Q Q' : Nat → zH → List zV → Prop} {o : Int}
/-- behind a call that may throw -/
theorem x_runT {p : Program} {l : Launch} {e : Env} {R : Room} {s : State} {m : MethodId} {args : Array Value} {below : List Frame} {meth : Method} {c : Code} {H : Heap} {locs : List Loc} {cells slots : Nat} {A : Nat → Prop} {E : zE} {ls : Array Slot} {Z : State → Prop} {a : Array Value} {st0 : List Value} {XC : String → State → State → Prop}
    (hF : xFix Ψ d dep p l R s m args meth c A) (h1 : cells + bc ≤ R.cells) (h2 : slots + bs ≤ R.slots) (hbc : bc' ≤ bc) (hbs : bs' ≤ bs) (hst : ∀ v ∈ st, zok n v) {st1 : List zV} (hD : zDyn X d n lv st1 h s H locs A E ls)
    (hE : ∀ (H' : Heap) (locs' : List Loc) (cells' slots' : Nat) (E' : zE) (ls' : Array Slot) (n' : Nat) (h' : zH) (pc' : Nat) (rs vs : List zV) (i : Instr) (k : Nat),
      cells' ≤ cells + bc → slots' ≤ slots + bs → zDyn X d n' [] rs h' s H' locs' A E' ls' → zEx E E' n n' → Q n' h' rs → decode d.by pc' = .ok (i, k) → zEnd d i k rs vs →
      W p l e R s m args below meth c H' locs' cells' slots' Z (F0 m pc' ls' (vs.map (zcv E'.2.1))))
    (hr : vx_Run p l e R s m args below meth c H locs cells slots bc' bs' (F0 m pc ls st0) (st.map (zcv E.2.1)) (zQc E n Q' (va_A (zws E n h) H.size) a) XC (va_A (zws E n h) H.size))
    (k : ∀ n' h' rs, Q' n' h' rs → n ≤ n' → xW Ψ d X dep (bc - bc') (bs - bs') n' (pc + 3) lv (rs ++ st) h' Q)
    (kx : ∀ (q : Addr) (E9 : String) (ce : Cell) (s0 t : State) (H1 : Heap) (locs1 : List Loc), t.heap = H1 → s0.heap = H → s.vm.Alike t.vm → XC E9 s0 t → H1[q]? = some ce → ce.vm = .none → s.vm.findClass E9 = some ce.cls → (∀ z ∈ locs1, A z.base) →
      vx_W p l e R s m args below meth c H1 locs1 (cells + bc') (slots + bs') Z (F0 m pc ls (st.map (zcv E.2.1))) q) : W p l e R s m args below meth c H locs cells slots Z (F0 m pc ls st0) := by
  intro T hT X0
  have hAA := zws_A hD.2.2.2.1 hD.1 hD.2.1
  rcases hr T hT X0 with ⟨v, s0, t, T', L, e0, X', hL, e1, e2, ⟨⟨E', n', h', rs, hv, hR, hx, hok, hq⟩, hz, hk⟩, step⟩ | ⟨q, s0, t, T', L, E9, ce, e0, X', hL, e1, e2, hxc, hce, hcv, hcl, step⟩
  · rw [e0] at hz hk
    have hvm : s.vm.Alike t.vm := by rw [← e2]; exact X'.warmed.alike
    have hS1 : va_S A s.heap T'.heap (locs ++ L) := ⟨Nat.le_trans hD.1.1 (by rw [e1]; exact hz), fun q q1 q2 => by
      rw [e1, hk q (Nat.lt_of_lt_of_le q1 hD.1.1) (fun z => q2 (hAA q z))]
      exact hD.1.2.1 q q1 q2, fun q hq => by
        rcases List.mem_append.mp hq with z | z
        · exact hD.1.2.2 q z
        · exact hAA _ (hL q z)⟩
    have hR1 : zRep E' n' h' s T'.heap A := by
      have h9 := hR.moved hvm.symm
      rw [e1]
      exact ⟨h9.1, h9.2.1, h9.2.2.1.weaken (fun _ q _ z => hAA q.1 z), h9.2.2.2⟩
    have hlv : (lv.map fun q => (q.1, zcv E'.2.1 q.2)) = lv.map fun q => (q.1, zcv E.2.1 q.2) := List.map_congr_left fun q hq => by rw [zcv_ex (hD.2.2.2.2.2.1 q hq) hx]
    have hsv : st.map (zcv E'.2.1) = st.map (zcv E.2.1) := List.map_congr_left fun q hq => zcv_ex (hst q hq) hx
    have hD1 : zDyn X d n' lv (rs ++ st) h' s T'.heap (locs ++ L) A E' ls := ⟨hS1, hD.2.1, hD.2.2.1.ex hx, hR1, by rw [hlv]; exact hD.2.2.2.2.1, fun q hq => zok_mono (hD.2.2.2.2.2.1 q hq) hx.1, fun w hw => by
      rcases List.mem_append.mp hw with z | z
      · exact hok w z
      · exact zok_mono (hst w z) hx.1⟩
    have K := k n' h' rs hq hx.1 p l e R s m args below meth c T'.heap (locs ++ L) (cells + bc') (slots + bs') A E' ls Z hF (by omega) (by omega) hD1
      (fun H' locs' cells' slots' E'' ls' n'' h'' pc' rs' vs i k' a1 a2 a3 a4 a5 a6 a7 => hE H' locs' cells' slots' E'' ls' n'' h'' pc' rs' vs i k' (by omega) (by omega) a3 (hx.tr a4) a5 a6 a7)
    obtain ⟨t2, b1, b2⟩ := K T' rfl X'
    refine ⟨t2, step t2 ?_, b2⟩
    have e9 : v.toList ++ st.map (zcv E.2.1) = (rs ++ st).map (zcv E'.2.1) := by
      rw [List.map_append, hsv]
      rcases hv with ⟨rfl, hv⟩ | ⟨w, rfl, hv⟩
      · cases hv; rfl
      · cases hv; rfl
    show Steps p.tables e below (T'.setTop (F0 m (pc + 3) ls (v.toList ++ st.map (zcv E.2.1)))) t2
    rw [e9]
    exact b1
  · have hvm : s.vm.Alike t.vm := by rw [← e2]; exact X'.warmed.alike
    obtain ⟨t2, b1, b2⟩ := kx q E9 ce s0 t T'.heap (locs ++ L) e1.symm e0 hvm hxc (by rw [e1]; exact hce) hcv hcl (fun z hz => by
      rcases List.mem_append.mp hz with y | y
      · exact hD.1.2.2 z y
      · exact hAA _ (hL z y)) T' rfl X'
    exact ⟨t2, step.trans b1, b2⟩
/-- a call of a method that may throw; what it throws is caught here, and stored -/
theorem x_invT {ci pcT hpc j : Nat} {x : ExceptionTableEntry} (hΨ : ∀ c, Ψ c → c.exceptionTable.toList = [x]) (hx1 : covers x pc = true) (hx2 : x.catchType = 13) (hx3 : x.handlerPc = hpc) (hh : decode d.by hpc = .ok (.astore j, 2)) (hj : j < d.nl) (lk : Cond.classLink d.1.cls 13 zThC ∈ zBIG)
    (hZ : zW d' X dep' 0 0 n 0 (zar 0 (xR o :: as)) [] h Q') (hdep : 6 ≤ dep') (hnew : ∀ pc' j, decode d'.by pc' = .ok (.new j, 3) → pc' = pcT ∧ j = 264) (d3 : decode d'.by (pcT + 3) = .ok (.dup, 1)) (d4 : decode d'.by (pcT + 4) = .ok (.invokespecial 266, 3)) (d7 : decode d'.by (pcT + 7) = .ok (.athrow, 1))
    (hcls : d'.1.cls = "LotOffice") (hdg : decode d.by pc = .ok (.invokevirtual index, 3)) (hm : zNm d' as.length) (l1 : Cond.methodLink d.1.cls index d'.1 ∈ zBIG) (l2 : Cond.instanceMethod d'.1 ∈ zBIG) (l3 : Cond.selects d'.1.cls d'.1 d'.1 ∈ zBIG) (l4 : Cond.initialized d'.1.cls ∈ zBIG) (ho : zOb n o (0, ci, N)) (hci : (zcls[ci]?).map (fun r => r.1) = some d'.1.cls)
    (hd : dep' + 1 ≤ dep) (hbc : 1 ≤ bc) (hbs : 6 ≤ bs) (hsz : zsz (xR o :: as) ≤ d'.nl) (hst : zsz st ≤ 8) {ra : List zV} (hra : ra = as.reverse) (k : ∀ n' h' rs, Q' n' h' rs ∧ rs ≠ [(9, 0)] → n ≤ n' → xW Ψ d X dep (bc - 1) (bs - 6) n' (pc + 3) lv (rs ++ st) h' Q)
    (kc : ∀ n' h', Q' n' h' [(9, 0)] → n ≤ n' → xW Ψ d X dep (bc - 1) (bs - 6) n' (hpc + 2) [] [] h' Q) : xW Ψ d X dep bc bs n pc lv (ra ++ xR o :: st) h Q := by
  subst hra
  intro p l e R s m args below meth c H locs cells slots A E ls Z hF h1 h2 hD hE
  have hall := hD.2.2.2.2.2.2
  have hstk : ∀ v ∈ st, zok n v := fun w hw => hall w (List.mem_append_right _ (List.mem_cons_of_mem _ hw))
  have hok : ∀ v ∈ xR o :: as, zok n v := fun w hw => by
    rcases List.mem_cons.mp hw with rfl | hw
    · exact hall _ (List.mem_append_right _ List.mem_cons_self)
    · exact hall _ (List.mem_append_left _ (List.mem_reverse.mpr hw))
  obtain ⟨hm1, hm2, hm3, hm4, hm5, hm6⟩ := hm
  obtain ⟨r, hr0, hr1⟩ := Option.map_eq_some_iff.mp hci
  have hw := hF.1.2.2.2.2.1
  have ho1 : zcv E.2.1 (xR o) = .ref (E.2.1 o.toNat) := zcvR (by have := ho.1; omega)
  have e0 : (as.reverse ++ xR o :: st).map (zcv E.2.1) = (as.map (zcv E.2.1)).reverse ++ .ref (E.2.1 o.toNat) :: st.map (zcv E.2.1) := by rw [List.map_append, List.map_cons, List.map_reverse, ho1]
  have hM := xMet0 hZ hdep hnew d3 d4 d7 hcls (by rw [hcls]; decide +kernel) hsz hok l hF.2.2.1 E H.size
  have hPc := xPc_of (as := xR o :: as) hD hF.2
  have hAA := zws_A hD.2.2.2.1 hD.1 hD.2.1
  rw [e0]
  refine x_runT (Q' := zNt Q') (XC := zXC E n Q' (va_A (zws E n h) H.size)) (a := (Value.ref (E.2.1 o.toNat) :: as.map (zcv E.2.1)).toArray) (bc' := 1) (bs' := 6) hF h1 h2 hbc hbs hstk hD hE ?_ k ?_
  · refine vx_runV (own := d.1.cls) (C := d'.1.cls) (nL := d.nl) (cc := d.by) (Ts := zBIG) (ws := zwd d') (b := E.2.1 o.toNat) (As := as.map (zcv E.2.1)) ⟨hF.1.1, hF.1.2.1, hF.1.2.2.1, hF.1.2.2.2.1, hw⟩ hM (cwV as.length hw (zgoodV hm6 l1 l2 l3 l4) rfl rfl rfl ⟨rfl, hm2, hm3, hm4⟩ (zroom hd hm5 hF.1.2.2.2.2.2.1 hF.1.2.2.2.2.2.2.1)) ⟨xPc_blind, ?_, fun U hU hW => ?_⟩ rfl (by simp) hD.2.2.2.2.1.1 rfl (lv_room (ls := ls) (zcsum hst)) hdg ⟨by show cells + 1 ≤ _; omega, by show slots + 6 ≤ _; omega⟩
    · have hrc := va_recv hD.2.2.2.1.2.1 hD.2.2.2.1.1 hr0 (hD.2.2.2.1.at ho)
      rw [hr1] at hrc
      exact hrc
    · have h9 := hPc U hU hW
      rw [List.map_cons, ho1] at h9
      exact h9
  · rintro q E9 ce s0 t H1 locs1 e1 es hvm ⟨⟨E', n', h'⟩, ⟨hx, hq⟩, ⟨rfl, hR⟩, hz, hk⟩ hce hcv hcl hlocs
    rw [es, e1] at hz hk
    have hS1 : va_S A s.heap H1 locs1 := ⟨Nat.le_trans hD.1.1 hz, fun q q1 q2 => by
      rw [hk q (Nat.lt_of_lt_of_le q1 hD.1.1) (fun z => q2 (hAA q z))]
      exact hD.1.2.1 q q1 q2, hlocs⟩
    have hR1 : zRep E' n' h' s H1 A := by
      have h9 := hR.moved hvm.symm
      rw [e1] at h9
      exact ⟨h9.1, h9.2.1, h9.2.2.1.weaken (fun _ q _ z => hAA q.1 z), h9.2.2.2⟩
    have hT := hΨ c hF.2.1
    refine vx_catch (own := d.1.cls) (name := zThC) hF.1.2.2.2.1 [] x [] hT (fun z hz => absurd hz List.not_mem_nil) hx1 (by rw [hx2]; decide) (by rw [hx2]; exact hw _ lk) (va_Nw.use rfl (hF.2.2.2.1 _ zThW_cast)) hce hcv hcl ?_
    rw [hx3]
    have hl0 : lv_has ls d.nl [] := ⟨hD.2.2.2.2.1.1, hD.2.2.2.2.1.2.1, fun q hq => absurd hq List.not_mem_nil⟩
    refine lv_astore hF.1.1 hF.1.2.1 hh hl0 hj rfl (fun ls' hl' => ?_)
    exact kc n' h' hq hx.1 p l e R s m args below meth c H1 locs1 (cells + 1) (slots + 6) A E' ls' Z hF (by omega) (by omega) ⟨hS1, hD.2.1, hD.2.2.1.ex hx, hR1, ⟨hl'.1, hl'.2.1, fun q hq => absurd hq List.not_mem_nil⟩, fun q hq => absurd hq List.not_mem_nil, fun q hq => absurd hq List.not_mem_nil⟩
      (fun H' locs' cells' slots' E'' ls' n'' h'' pc' rs' vs i k' a1 a2 a3 a4 a5 a6 a7 => hE H' locs' cells' slots' E'' ls' n'' h'' pc' rs' vs i k' (by omega) (by omega) a3 (hx.tr a4) a5 a6 a7)
theorem zgoodH {own : String} {hh : List (Nat × Nat × Nat × Nat)} (hc : Cond.codeWith d'.1 d'.by d'.nl d'.rt hh ∈ zBIG) (l1 : Cond.methodLink own index d'.1 ∈ zBIG) (l2 : Cond.static d'.1 ∈ zBIG) (l4 : Cond.initialized d'.1.cls ∈ zBIG) : GoodIn zBIG (va_wsS own index d'.1 (zwh d' hh)) := by
  intro w hw
  unfold va_wsS at hw
  rcases List.mem_append.mp hw with hw | hw
  · simp only [List.mem_cons, List.not_mem_nil, or_false] at hw
    rcases hw with rfl | rfl | rfl
    · exact ⟨l1, zBIG_good l1⟩
    · exact ⟨l2, zBIG_good l2⟩
    · exact ⟨l4, zBIG_good l4⟩
  · rcases List.mem_cons.mp hw with rfl | hw
    · exact ⟨hc, zBIG_good hc⟩
    · exact ⟨hw, zBIG_good hw⟩
/-- a static call of a method that catches -/
theorem x_invH {hh : List (Nat × Nat × Nat × Nat)} (hZ : xW (xT hh) d' X dep' bc' bs' n 0 (zar 0 as) [] h Q') (hnt : ∀ n' h', ¬ Q' n' h' [(9, 0)]) (hdg : decode d.by pc = .ok (.invokestatic index, 3)) (hy : plainName d'.1.cls = true) (hm2 : d'.1.cls ≠ "java/lang/invoke/MethodHandle" ∧ d'.1.cls ≠ "java/lang/invoke/VarHandle" ∧ (parseMethodDescriptor d'.1.desc).map (fun d => d.parameters.length) = some as.length) (hm5 : d'.nl ≤ 21) (hc : Cond.codeWith d'.1 d'.by d'.nl d'.rt hh ∈ zBIG) (l1 : Cond.methodLink d.1.cls index d'.1 ∈ zBIG) (l2 : Cond.static d'.1 ∈ zBIG) (l4 : Cond.initialized d'.1.cls ∈ zBIG)
    (hd : dep' + 1 ≤ dep) (hbc : bc' ≤ bc) (hbs : bs' ≤ bs) (hsz : zsz as ≤ d'.nl) (hst : zsz st ≤ 8) {ra : List zV} (hra : ra = as.reverse) (k : ∀ n' h' rs, Q' n' h' rs → n ≤ n' → xW Ψ d X dep (bc - bc') (bs - bs') n' (pc + 3) lv (rs ++ st) h' Q) : xW Ψ d X dep bc bs n pc lv (ra ++ st) h Q := by
  subst hra
  intro p l e R s m args below meth c H locs cells slots A E ls Z hF h1 h2 hD hE
  have hall := hD.2.2.2.2.2.2
  have hstk : ∀ v ∈ st, zok n v := fun w hw => hall w (List.mem_append_right _ hw)
  have hok : ∀ v ∈ as, zok n v := fun w hw => hall _ (List.mem_append_left _ (List.mem_reverse.mpr hw))
  have hw := hF.1.2.2.2.2.1
  have e0 : (as.reverse ++ st).map (zcv E.2.1) = (as.map (zcv E.2.1)).reverse ++ st.map (zcv E.2.1) := by rw [List.map_append, List.map_reverse]
  have hM := xMetH hZ hnt hy hsz hok l hF.2.2.1 E H.size
  have hPc := xPc_of (as := as) hD hF.2
  rw [e0]
  refine x_runT (XC := fun _ _ _ => False) (a := (as.map (zcv E.2.1)).toArray) hF h1 h2 hbc hbs hstk hD hE ?_ k (fun q E9 ce s0 t H1 locs1 _ _ _ hxc => hxc.elim)
  exact vx_runSX (own := d.1.cls) (nL := d.nl) (cc := d.by) (Ts := zBIG) (ws := zwh d' hh) (As := as.map (zcv E.2.1)) ⟨hF.1.1, hF.1.2.1, hF.1.2.2.1, hF.1.2.2.2.1, hw⟩ hM (vx_cwSW as.length hw (zgoodH hc l1 l2 l4) rfl rfl rfl hm2 (zroom hd hm5 hF.1.2.2.2.2.2.1 hF.1.2.2.2.2.2.2.1)) ⟨xPc_blind, hPc⟩ rfl (by simp) hD.2.2.2.2.1.1 rfl (lv_room (ls := ls) (zcsum hst)) hdg ⟨by show cells + bc' ≤ _; omega, by show slots + bs' ≤ _; omega⟩
end XCALL
