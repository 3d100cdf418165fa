/-! a walk from a method's entry is its contract; calls by contract -/
def zar : Nat → List zV → List (Nat × zV)
  | _, [] => []
  | i, v :: vs => (i, v) :: zar (if v.1 = 1 then i + 2 else i + 1) vs
theorem zar_map (ad : Nat → Nat) : ∀ (i : Nat) (vs : List zV), (zar i vs).map (fun q => (q.1, zcv ad q.2)) = lv_args i (vs.map (zcv ad))
  | _, [] => rfl
  | i, v :: vs => by
    show (i, zcv ad v) :: (zar (if v.1 = 1 then i + 2 else i + 1) vs).map (fun q => (q.1, zcv ad q.2)) = (i, zcv ad v) :: lv_args (if (zcv ad v).category = 2 then i + 2 else i + 1) (vs.map (zcv ad))
    rw [zar_map ad _ vs]
    have hc := zcat ad v
    by_cases h : v.1 = 1
    · rw [if_pos h, if_pos (by rw [show (v.1 == 1) = true by simpa using h] at hc; simpa using hc)]
    · rw [if_neg h, if_neg (by rw [show (v.1 == 1) = false by simpa using h] at hc; simpa using hc)]
theorem zar_ok {n : Nat} {vs : List zV} (h : ∀ v ∈ vs, zok n v) : ∀ (i : Nat), ∀ q ∈ zar i vs, zok n q.2 := by
  induction vs with
  | nil => intro i q hq; exact absurd hq List.not_mem_nil
  | cons v vs ih =>
    intro i q hq
    rcases List.mem_cons.mp hq with rfl | hq
    · exact h _ List.mem_cons_self
    · exact ih (fun w hw => h w (List.mem_cons_of_mem _ hw)) _ q hq
/-- how many places the arguments take -/
def zsz : List zV → Nat
  | [] => 0
  | v :: vs => (if v.1 = 1 then 2 else 1) + zsz vs
theorem zsz_eq (ad : Nat → Nat) : ∀ vs : List zV, (lg_sl (vs.map (zcv ad))).length = zsz vs
  | [] => rfl
  | v :: vs => by
    have ih := zsz_eq ad vs
    unfold lg_sl at ih ⊢
    rw [List.map_cons, List.flatMap_cons, List.length_append, ih]
    have hc := zcat ad v
    show _ = (if v.1 = 1 then 2 else 1) + zsz vs
    by_cases h : v.1 = 1
    · rw [if_pos h, if_pos (by rw [show (v.1 == 1) = true by simpa using h] at hc; simpa using hc)]; rfl
    · rw [if_neg h, if_neg (by rw [show (v.1 == 1) = false by simpa using h] at hc; simpa using hc)]; rfl
def zwd (d : zMd) : List Cond := .code d.1 d.by d.nl d.rt :: zBIG
def zrm (dep bc bs : Nat) : Room := { frames := dep, cells := bc, slots := bs, locals := 40 * dep }
def zPc (E : zE) (X : zX) (n : Nat) (h : zH) (as : List zV) (sz : Nat) : Array Value → State → Prop :=
  va_Pc (as.map (zcv E.2.1)) (fun U => U.heap.size = sz ∧ zRep E n h U U.heap (fun _ => True) ∧ zFo E X U (va_A (zws E n h) sz) U.heap)
def zQc (E : zE) (n : Nat) (Q : Nat → zH → List zV → Prop) (A : Nat → Prop) : Array Value → State → Outcome → State → Prop := fun _ st oc t =>
  (∃ (E' : zE) (n' : Nat) (h' : zH) (rs : List zV), (rs = [] ∧ oc = .returned none ∨ ∃ v, rs = [v] ∧ oc = .returned (some (zcv E'.2.1 v))) ∧ zRep E' n' h' t t.heap A ∧ zEx E E' n n' ∧ (∀ v ∈ rs, zok n' v) ∧ Q n' h' rs) ∧ va_F A st t
theorem zRep.moved {E : zE} {n : Nat} {h : zH} {u U : State} {H : Heap} {A : Nat → Prop} (hvm : u.vm.Alike U.vm) (hR : zRep E n h u H A) : zRep E n h U H A := ⟨hR.1, va_K.moved hvm hR.2.1, hR.2.2⟩
theorem zTxt.moved {E : zE} {u U : State} {H : Heap} {A : Nat → Prop} (hvm : u.vm.Alike U.vm) (h : zTxt E u A H) : zTxt E U A H := by
  obtain ⟨h1, h2, h3, h4, h5, x, h6, h7⟩ := h
  exact ⟨vk_S.moved hvm h1, fun i hi => va_OF.moved hvm (h2 i hi), va_Z.moved hvm h3, va_T.moved hvm h4, va_Z.moved hvm h5, x, h6, va_Z.moved hvm h7⟩
theorem zTxt.kept {E : zE} {U : State} {H H1 : Heap} {A : Nat → Prop} (h : zTxt E U A H) (hq : ∀ a : Nat, a < H.size → ¬ A a → H1[a]? = H[a]?) : zTxt E U A H1 := by
  obtain ⟨h1, h2, h3, h4, h5, x, h6, h7⟩ := h
  exact ⟨h1.kept hq, fun i hi => (h2 i hi).kept hq, h3.kept hq, h4.kept hq, h5.kept hq, x, h6, h7.kept hq⟩
theorem zTxt.narrow {E : zE} {U : State} {H : Heap} {A B : Nat → Prop} (h : zTxt E U A H) (hAB : ∀ q, B q → A q) : zTxt E U B H := by
  obtain ⟨h1, h2, h3, h4, h5, x, h6, h7⟩ := h
  exact ⟨h1.narrow hAB, fun i hi => (h2 i hi).narrow hAB, h3.narrow hAB, h4.narrow hAB, h5.narrow hAB, x, h6, h7.narrow hAB⟩
theorem zTxt.ex {E E' : zE} {U : State} {H : Heap} {A : Nat → Prop} {n n' : Nat} (h : zTxt E U A H) (hx : zEx E E' n n') : zTxt E' U A H := by
  obtain ⟨h1, h2, h3, h4, h5, x, h6, h7⟩ := h
  have e : ∀ o, 1000000 ≤ o → E'.2.1 o = E.2.1 o := fun o ho => hx.2.2.1 o (Or.inr ho)
  have e1 : zWad E' = zWad E := funext fun i => e _ (by omega)
  have e2 : (fun i => E'.2.1 (1000100 + i)) = fun i => E.2.1 (1000100 + i) := funext fun i => e _ (by omega)
  have e3 : (fun i => E'.2.1 (1000300 + i)) = fun i => E.2.1 (1000300 + i) := funext fun i => e _ (by omega)
  refine ⟨by rw [e2, e3]; exact h1, fun i hi => by rw [e1, e _ (by omega)]; exact h2 i hi, by rw [e _ (by omega)]; exact h3, by rw [e1, e _ (by omega)]; exact h4, h5, x, h6, ?_⟩
  rw [zcv_ex (n := n) (v := xR x) (show x = -1 ∨ (0 ≤ x ∧ x < n) ∨ 1000000 ≤ x by omega) hx]
  exact h7
theorem zFo.moved {E : zE} {X : zX} {u U : State} {H : Heap} {A : Nat → Prop} (hvm : u.vm.Alike U.vm) (hf : zFo E X u A H) : zFo E X U A H := ⟨va_En.moved hvm hf.1, ⟨va_X.moved hvm hf.2.1.1, hf.2.1.2⟩, hf.2.2.moved hvm⟩
theorem zFo.kept {E : zE} {X : zX} {U : State} {H H1 : Heap} {A : Nat → Prop} (hf : zFo E X U A H) (hq : ∀ a : Nat, a < H.size → ¬ A a → H1[a]? = H[a]?) : zFo E X U A H1 := ⟨va_En.kept hf.1 hq, ⟨va_X.kept hf.2.1.1 (by
  obtain ⟨scr, g1, -⟩ := hf.2.1.1
  exact hq _ (Array.getElem?_eq_some_iff.mp g1).1 hf.2.1.2), hf.2.1.2⟩, hf.2.2.kept hq⟩
theorem zFo.narrow {E : zE} {X : zX} {U : State} {H : Heap} {A B : Nat → Prop} (hf : zFo E X U A H) (hAB : ∀ q, B q → A q) : zFo E X U B H := ⟨va_En.narrow hf.1 hAB, ⟨hf.2.1.1, fun z => hf.2.1.2 (hAB _ z)⟩, hf.2.2.narrow hAB⟩
theorem zFo.ex {E E' : zE} {X : zX} {U : State} {H : Heap} {A : Nat → Prop} {n n' : Nat} (hf : zFo E X U A H) (hx : zEx E E' n n') : zFo E' X U A H := by
  have e1 : zWad E' = zWad E := funext fun i => hx.2.2.1 _ (Or.inr (by omega))
  have e2 : E'.2.1 2000000 = E.2.1 2000000 := hx.2.2.1 _ (Or.inr (by omega))
  refine ⟨?_, ?_, hf.2.2.ex hx⟩
  · rw [e1]; exact hf.1
  · rw [e2]; exact hf.2.1
theorem zws_A {E : zE} {n : Nat} {h : zH} {s : State} {H : Heap} {A : Nat → Prop} {H0 : Heap} {locs : List Loc} (hR : zRep E n h s H A) (hS : va_S A H0 H locs) (hA : ∀ q, H0.size ≤ q → A q) : ∀ q, va_A (zws E n h) H.size q → A q := by
  rintro q (⟨k, e, hk⟩ | hq)
  · exact hR.2.2.1.2 k (q, e) hk
  · exact hA q (Nat.le_trans hS.1 hq)
/-- a contract out of a walk, of a method that nothing is run in the place of -/
theorem zofW {l : Launch} {y : MethodName} {ws ws' : List Cond} {rm : Room} {Pc : Array Value → State → Prop} {Qc : Array Value → State → Outcome → State → Prop} {mc ms : Nat} {free : Addr → Prop} {cc : ByteArray} {maxL : Nat} {ret : Option FieldType}
    (hy : plainFor y = true) (hw : ws = Cond.code y cc maxL ret :: ws')
    (walk : ∀ p e s m args below meth c s₁, BodyLoose p l y (headSpec ws rm) cc maxL ret e s m args below meth c s₁ → c.maxLocals = maxL → Pc args s →
      W p l e (headSpec ws rm).room s m args below meth c s.heap [] 0 0 (MQ below Qc args s mc ms free) (entryFrame m args maxL)) : Met l y ws rm Pc Qc mc ms free := by
  have hcw : Cond.code y cc maxL ret ∈ ws := by rw [hw]; exact List.mem_cons_self
  refine MetFree.of_bodySF (code := cc) (maxLocals := maxL) (ret := ret) hy (fun args s m hp hn => ?_) (fun p e s m args below meth c s₁ B hml hP _ => ?_)
  · obtain ⟨meth, c, g1, g2, g3, g4, g5, g6, -, -⟩ := Cond.code_spec hn (atoms_spec (ws := ws) hp _ hcw)
    exact ⟨meth, c, g1, g2, g3, g4, g5, g6⟩
  · have e0 : s₁.heap = s.heap := by rw [B.state]; rfl
    obtain ⟨t, q1, o, q2, q3, q4⟩ := walk p e s m args below meth c s₁ B hml hP s₁ e0 (Stand.of_body B)
    exact ⟨t, o, q1, q2, q3, q4.1, q4.2⟩
theorem zMet {d : zMd} {X : zX} {dep bc bs n : Nat} {as : List zV} {h : zH} {Q : Nat → zH → List zV → Prop} (hZ : zW d X dep bc bs n 0 (zar 0 as) [] h Q) (hnt : ∀ n' h', ¬ Q n' h' [(9, 0)]) (hy : plainFor d.1 = true) (hnl : zsz as ≤ d.nl) (hok : ∀ v ∈ as, zok n v) (l : Launch) (E : zE) (sz : Nat) :
    Met l d.1 (zwd d) (zrm dep bc bs) (zPc E X n h as sz) (zQc E n Q (va_A (zws E n h) sz)) bc bs (va_A (zws E n h) sz) := by
  refine zofW (cc := d.by) (maxL := d.nl) (ret := d.rt) hy rfl ?_
  intro p e s m args below meth c s₁ B hml hv
  obtain ⟨rfl, hsz, hR, hFo⟩ := hv
  subst hsz
  have hts := atoms_spec (ws := zwd d) B.pre
  have hown : s.vm.findClass d.1.cls = some m.cls := findClass_of_methodNamed B.named
  have hname : meth.name = d.1.name := (name_of_methodNamed B.named B.method).1
  have hl := lv_entry (as.map (zcv E.2.1)) (n := d.nl) (by rw [zsz_eq]; exact hnl)
  have hlocks : meth.locks = false := B.notSynchronized
  rw [lg_entry_eq]
  generalize (lg_sl (as.map (zcv E.2.1)) ++ List.replicate (d.nl - (lg_sl (as.map (zcv E.2.1))).length) Slot.unset).toArray = ls at hl ⊢
  rw [← zar_map] at hl
  generalize hAe : va_A (zws E n h) s.heap.size = A at hFo ⊢
  have hD : va_D A (zws E n h) := by rw [← hAe]; exact hR.2.2.1.self
  have hA : ∀ q : Nat, s.heap.size ≤ q → A q := fun q hq => by rw [← hAe]; exact Or.inr hq
  have hF : zFix d dep p (zrm dep bc bs) s m (as.map (zcv E.2.1)).toArray meth c := ⟨B.exec, B.bytes, hml, hown, fun w hw => hts w (List.mem_cons_of_mem _ hw), Nat.le_refl _, Nat.le_refl _, B.returns, hlocks, hname⟩
  refine hZ p l e (zrm dep bc bs) s m (as.map (zcv E.2.1)).toArray below meth c s.heap [] 0 0 A E ls _ hF (Nat.le_of_eq (Nat.zero_add bc)) (Nat.le_of_eq (Nat.zero_add bs)) ⟨va_S.rf, hA, hFo, ⟨hR.1, hR.2.1, hD, hR.2.2.2⟩, hl, zar_ok hok 0, fun v hv => absurd hv List.not_mem_nil⟩ ?_
  intro H' locs' cells' slots' E' ls' n' h' pc' rs vs i k hc hs hD' hx hq hdg hend
  refine W.widen (k := bc) (n := bs) (by omega) (by omega) ?_
  have hS' := hD'.1
  rcases hend with ⟨rfl, rfl, rfl, x, rfl, hrt⟩ | ⟨rfl, rfl, rfl, hrt, x, rfl⟩ | ⟨rfl, rfl, rfl, ⟨C, hrt⟩, x, rfl⟩ | ⟨rfl, rfl, rfl, rfl, hrt⟩ | ⟨-, -, -, rfl⟩
  · have hqc : ∀ t : State, t.heap = H' → s.WarmedH t.vm → zQc E n Q A (as.map (zcv E.2.1)).toArray s (.returned (some (zcv E'.2.1 (xI x)))) t := fun t ht hW => ⟨⟨E', n', h', [xI x], Or.inr ⟨_, rfl, rfl⟩, by rw [ht]; exact hD'.2.2.2.1.moved hW.alike, hx, hD'.2.2.2.2.2.2, hq⟩, hS'.F ht⟩
    rcases hrt with hrt | ⟨ty, hrt, h01⟩
    · exact W.iret (v := Int32.ofInt x) B.exec B.bytes (B.returns.trans hrt) hqc hS'.2.2 hdg
    · exact W.zret (v := Int32.ofInt x) (ty := ty) B.exec B.bytes (B.returns.trans hrt) h01 hqc hS'.2.2 hdg
  · exact W.lret (v := Int64.ofInt x) B.exec B.bytes (B.returns.trans hrt) (fun t ht hW => ⟨⟨E', n', h', [xL x], Or.inr ⟨_, rfl, rfl⟩, by rw [ht]; exact hD'.2.2.2.1.moved hW.alike, hx, hD'.2.2.2.2.2.2, hq⟩, hS'.F ht⟩) hS'.2.2 hdg
  · exact W.aret (v := zcv E'.2.1 (xR x)) (rt := .object C) B.exec B.bytes (B.returns.trans hrt) (Or.inl ⟨C, rfl⟩) (by by_cases h0 : x < 0; exact Or.inl (zcvN h0); exact Or.inr ⟨_, zcvR h0⟩) (fun t ht hW => ⟨⟨E', n', h', [xR x], Or.inr ⟨_, rfl, rfl⟩, by rw [ht]; exact hD'.2.2.2.1.moved hW.alike, hx, hD'.2.2.2.2.2.2, hq⟩, hS'.F ht⟩) hS'.2.2 hdg
  · exact W.vret B.exec B.bytes (B.returns.trans hrt) (fun t ht hW => ⟨⟨E', n', h', [], Or.inl ⟨rfl, rfl⟩, by rw [ht]; exact hD'.2.2.2.1.moved hW.alike, hx, hD'.2.2.2.2.2.2, hq⟩, hS'.F ht⟩) hS'.2.2 hdg
  · exact absurd hq (hnt n' h')

section ZCALL
variable {d : zMd} {X : zX} {dep bc bs n pc : Nat} {lv : List (Nat × zV)} {st : List zV} {h : zH} {Q : Nat → zH → List zV → Prop}
theorem zPc_blind {E : zE} {X : zX} {n : Nat} {h : zH} {as : List zV} {sz : Nat} : FrameBlind (zPc E X n h as sz) := fun a U g mk q => by
  obtain ⟨q0, q1, qR, qF⟩ := q
  exact ⟨q0, q1, qR.moved (u := U) (U := U.calling g mk a) (Vm.Alike.refl U.vm), qF.moved (u := U) (U := U.calling g mk a) (Vm.Alike.refl U.vm)⟩
theorem zPc_of {s : State} {H : Heap} {locs : List Loc} {A : Nat → Prop} {E : zE} {ls : Array Slot} {as : List zV} (hD : zDyn X d n lv st h s H locs A E ls) : ∀ U : State, U.heap = H → s.WarmedH U.vm → zPc E X n h as H.size (as.map (zcv E.2.1)).toArray U := fun U hU hW => by
  refine ⟨rfl, by rw [hU], ?_, ?_⟩
  · rw [hU]
    have hR := hD.2.2.2.1.moved hW.alike
    exact ⟨hR.1, hR.2.1, hR.2.2.1.weaken (fun _ _ _ _ => trivial), hR.2.2.2⟩
  · rw [hU]
    exact ((hD.2.2.1.kept hD.1.2.1).narrow (zws_A hD.2.2.2.1 hD.1 hD.2.1)).moved hW.alike
/-- behind a call -/
theorem zrun {p : Program} {l : Launch} {e : Env} {R : Room} {s : State} {m : MethodId} {args : Array Value} {below : List Frame} {meth : Method} {c : Code} {H : Heap} {locs : List Loc} {cells slots bc' bs' : Nat} {A : Nat → Prop} {E : zE} {ls : Array Slot} {Z : State → Prop} {Q' : Nat → zH → List zV → Prop} {a : Array Value} {st0 : List Value}
    (hF : zFix d dep p R s m args meth c) (h1 : cells + bc ≤ R.cells) (h2 : slots + bs ≤ R.slots) (hbc : bc' ≤ bc) (hbs : bs' ≤ bs) (hst : ∀ v ∈ st, zok n v) {st1 : List zV} (hD : zDyn X d n lv st1 h s H locs A E ls)
    (hE : ∀ (H' : Heap) (locs' : List Loc) (cells' slots' : Nat) (E' : zE) (ls' : Array Slot) (n' : Nat) (h' : zH) (pc' : Nat) (rs vs : List zV) (i : Instr) (k : Nat),
      cells' ≤ cells + bc → slots' ≤ slots + bs → zDyn X d n' [] rs h' s H' locs' A E' ls' → zEx E E' n n' → Q n' h' rs → decode d.by pc' = .ok (i, k) → zEnd d i k rs vs →
      W p l e R s m args below meth c H' locs' cells' slots' Z (F0 m pc' ls' (vs.map (zcv E'.2.1))))
    (hr : va_Run p l e R s m args below meth c H locs cells slots bc' bs' (F0 m pc ls st0) (st.map (zcv E.2.1)) (zQc E n Q' (va_A (zws E n h) H.size) a) (va_A (zws E n h) H.size))
    (k : ∀ n' h' rs, Q' n' h' rs → n ≤ n' → zW d X dep (bc - bc') (bs - bs') n' (pc + 3) lv (rs ++ st) h' Q) : W p l e R s m args below meth c H locs cells slots Z (F0 m pc ls st0) := by
  intro T hT X0
  obtain ⟨v, s0, t, T', L, e0, X', hL, e1, e2, ⟨⟨E', n', h', rs, hv, hR, hx, hok, hq⟩, hz, hk⟩, step⟩ := hr T hT X0
  rw [e0] at hz hk
  have hAA := zws_A hD.2.2.2.1 hD.1 hD.2.1
  have hvm : s.vm.Alike t.vm := by rw [← e2]; exact X'.warmed.alike
  have hS1 : va_S A s.heap T'.heap (locs ++ L) := ⟨Nat.le_trans hD.1.1 (by rw [e1]; exact hz), fun q q1 q2 => by
    rw [e1, hk q (Nat.lt_of_lt_of_le q1 hD.1.1) (fun z => q2 (hAA q z))]
    exact hD.1.2.1 q q1 q2, fun q hq => by
      rcases List.mem_append.mp hq with z | z
      · exact hD.1.2.2 q z
      · exact hAA _ (hL q z)⟩
  have hR1 : zRep E' n' h' s T'.heap A := by
    have h9 := hR.moved hvm.symm
    rw [e1]
    exact ⟨h9.1, h9.2.1, h9.2.2.1.weaken (fun _ q _ z => hAA q.1 z), h9.2.2.2⟩
  have hlv : (lv.map fun q => (q.1, zcv E'.2.1 q.2)) = lv.map fun q => (q.1, zcv E.2.1 q.2) := List.map_congr_left fun q hq => by rw [zcv_ex (hD.2.2.2.2.2.1 q hq) hx]
  have hsv : st.map (zcv E'.2.1) = st.map (zcv E.2.1) := List.map_congr_left fun q hq => zcv_ex (hst q hq) hx
  have hD1 : zDyn X d n' lv (rs ++ st) h' s T'.heap (locs ++ L) A E' ls := ⟨hS1, hD.2.1, hD.2.2.1.ex hx, hR1, by rw [hlv]; exact hD.2.2.2.2.1, fun q hq => zok_mono (hD.2.2.2.2.2.1 q hq) hx.1, fun w hw => by
    rcases List.mem_append.mp hw with z | z
    · exact hok w z
    · exact zok_mono (hst w z) hx.1⟩
  have K := k n' h' rs hq hx.1 p l e R s m args below meth c T'.heap (locs ++ L) (cells + bc') (slots + bs') A E' ls Z hF (by omega) (by omega) hD1
    (fun H' locs' cells' slots' E'' ls' n'' h'' pc' rs' vs i k' a1 a2 a3 a4 a5 a6 a7 => hE H' locs' cells' slots' E'' ls' n'' h'' pc' rs' vs i k' (by omega) (by omega) a3 (hx.tr a4) a5 a6 a7)
  obtain ⟨t2, b1, b2⟩ := K T' rfl X'
  refine ⟨t2, step t2 ?_, b2⟩
  have e9 : v.toList ++ st.map (zcv E.2.1) = (rs ++ st).map (zcv E'.2.1) := by
    rw [List.map_append, hsv]
    rcases hv with ⟨rfl, hv⟩ | ⟨w, rfl, hv⟩
    · cases hv; rfl
    · cases hv; rfl
  show Steps p.tables e below (T'.setTop (F0 m (pc + 3) ls (v.toList ++ st.map (zcv E.2.1)))) t2
  rw [e9]
  exact b1
end ZCALL
