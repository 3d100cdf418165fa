/-! the walk where objects are made: besides all else, its states know the arrays' classes -/
def va_AOA (ty : FieldType) (U : State) : Prop := (Cond.arrayOver (.array ty)).before #[] U = true
theorem va_AOA.of {ty : FieldType} {A : Array Value} {U : State} (h : (Cond.arrayOver (.array ty)).before A U = true) : va_AOA ty U := h
theorem va_AOA.use {ty : FieldType} {A : Array Value} {U : State} (h : va_AOA ty U) : (Cond.arrayOver (.array ty)).before A U = true := h
def zisA (comp : ClassId) (x : Class) : Bool := match x.kind with | .array component _ => component == comp | _ => false
theorem zisA_bare (vm : Vm) (comp : ClassId) : vm.bare.classes.findIdx? (zisA comp) = vm.classes.findIdx? (zisA comp) := by
  simp only [Vm.bare, Array.findIdx?_map]
  rfl
theorem va_AOA.told {ty : FieldType} {U : State} (h : va_AOA ty U) : ∃ comp c k, U.vm.findClass (FieldType.array ty).toString = some comp ∧ U.vm.classes.findIdx? (zisA comp) = some c ∧ U.vm.classes[c]? = some k ∧ k.kind = .array comp (.array ty) ∧ U.vm.findClass ("[" ++ (FieldType.array ty).toString) = some c := by
  unfold va_AOA Cond.before at h
  simp only [Cond.holds, Cond.value, beq_iff_eq] at h
  match hf : U.vm.findClass (FieldType.array ty).toString with
  | none => rw [hf] at h; cases h
  | some comp =>
    rw [hf, Option.bind_some] at h
    obtain ⟨c, hi, h⟩ := Option.bind_eq_some_iff.mp h
    obtain ⟨k, hk, hq⟩ := Option.map_eq_some_iff.mp h
    obtain ⟨hlt, hp, -⟩ := Array.findIdx?_eq_some_iff_getElem.mp hi
    rw [(Array.getElem?_eq_some_iff.mp hk).2] at hp
    have hi : U.vm.classes.findIdx? (zisA comp) = some c := hi
    have hp : zisA comp k = true := hp
    refine ⟨comp, c, k, rfl, hi, hk, ?_⟩
    match hkk : k.kind with
    | .array comp2 ty2 =>
      rw [hkk] at hq
      unfold zisA at hp
      rw [hkk] at hp
      simp only [beq_iff_eq, Bool.and_eq_true, decide_eq_true_eq] at hp hq
      exact ⟨by rw [hp, hq.1], hq.2⟩
    | .ordinary => rw [hkk] at hq; cases hq
    | .primitive _ => rw [hkk] at hq; cases hq
theorem va_AOA.moved {ty : FieldType} {u U : State} (hvm : u.vm.Alike U.vm) (h : va_AOA ty u) : va_AOA ty U := by
  obtain ⟨comp, c, k, h1, h2, h3, h4, h5⟩ := h.told
  obtain ⟨k', hk', he⟩ := hvm.2.2 _ _ h3
  have hi : U.vm.classes.findIdx? (zisA comp) = some c := by
    rw [← zisA_bare]
    first | rw [hvm.bare_eq] | rw [← hvm.bare_eq]
    rw [zisA_bare]
    exact h2
  have hkind : k'.kind = .array comp (.array ty) := by rw [he]; exact h4
  have f1 : U.vm.findClass (FieldType.array ty).toString = some comp := by rw [hvm.findClass]; exact h1
  have f2 : U.vm.findClass ("[" ++ (FieldType.array ty).toString) = some c := by rw [hvm.findClass]; exact h5
  unfold va_AOA Cond.before Cond.holds
  simp only [Cond.value]
  rw [f1, Option.bind_some]
  refine (congrArg (fun o : Option Nat => (o.bind (fun c => (U.vm.classes[c]?).map fun (k : Class) => match k.kind with | .array _ t => decide (t = FieldType.array ty) && decide (U.vm.findClass ("[" ++ (FieldType.array ty).toString) = some c) | _ => false) == some true)) hi).trans ?_
  simp [hk', hkind, f2]
/-- the private constructors that are called from a nest mate -/
def zNest (w : Cond) : Prop := ∃ (a : String) (i : Nat) (x : MethodName) (b : String), w = .methodLinkNest a i x b ∧ w ∈ lw_tbl
def zAO (s : State) : Prop := va_AO RX1 s ∧ va_AO RX6 s ∧ va_AO RX9 s ∧ va_AOA .int s ∧ ∀ w, zNest w → va_Nw w s
theorem zAO.warm {u U : State} (hW : u.WarmedH U.vm) (h : zAO u) : zAO U := ⟨h.1.moved hW.alike, h.2.1.moved hW.alike, h.2.2.1.moved hW.alike, h.2.2.2.1.moved hW.alike, fun w hw => by
  obtain ⟨a, i, x, b, rfl, hm⟩ := hw
  exact va_Nw.warmM hW (h.2.2.2.2 _ ⟨a, i, x, b, rfl, hm⟩)⟩
theorem zAO.same {u U : State} (e : u.vm = U.vm) (h : zAO u) : zAO U := ⟨h.1.moved (e ▸ Vm.Alike.refl u.vm), h.2.1.moved (e ▸ Vm.Alike.refl u.vm), h.2.2.1.moved (e ▸ Vm.Alike.refl u.vm), h.2.2.2.1.moved (e ▸ Vm.Alike.refl u.vm), fun w hw => by
  obtain ⟨a, i, x, b, rfl, hm⟩ := hw
  exact va_Nw.same rfl e (h.2.2.2.2 _ ⟨a, i, x, b, rfl, hm⟩)⟩
def yFix (d : zMd) (dep : Nat) (p : Program) (R : Room) (s : State) (m : MethodId) (args : Array Value) (meth : Method) (c : Code) : Prop :=
  p.tables.exec = Jvm.exec ∧ c.code = d.by ∧ c.maxLocals = d.nl ∧ s.vm.findClass d.1.cls = some m.cls ∧ (∀ w ∈ zBIG, w.before args s = true) ∧ dep ≤ R.frames ∧ 40 * dep ≤ R.locals ∧ meth.sig.returnType = d.rt ∧ meth.locks = false ∧ meth.name = d.1.name ∧ zAO s
def yW (d : zMd) (X : zX) (dep bc bs n pc : Nat) (lv : List (Nat × zV)) (st : List zV) (h : zH) (Q : Nat → zH → List zV → Prop) : Prop :=
  ∀ (p : Program) (l : Launch) (e : Env) (R : Room) (s : State) (m : MethodId) (args : Array Value) (below : List Frame) (meth : Method) (c : Code) (H : Heap) (locs : List Loc) (cells slots : Nat) (A : Nat → Prop) (E : zE) (ls : Array Slot) (Z : State → Prop),
    yFix d dep p R s m args meth c → cells + bc ≤ R.cells → slots + bs ≤ R.slots → zDyn X d n lv st h s H locs A E ls →
    (∀ (H' : Heap) (locs' : List Loc) (cells' slots' : Nat) (E' : zE) (ls' : Array Slot) (n' : Nat) (h' : zH) (pc' : Nat) (rs vs : List zV) (i : Instr) (k : Nat),
      cells' ≤ cells + bc → slots' ≤ slots + bs → zDyn X d n' [] rs h' s H' locs' A E' ls' → zEx E E' n n' → Q n' h' rs → decode d.by pc' = .ok (i, k) → zEnd d i k rs vs →
      W p l e R s m args below meth c H' locs' cells' slots' Z (F0 m pc' ls' (vs.map (zcv E'.2.1)))) →
    W p l e R s m args below meth c H locs cells slots Z (F0 m pc ls (st.map (zcv E.2.1)))
section YR
variable {d : zMd} {X : zX} {dep bc bs n pc : Nat} {lv : List (Nat × zV)} {st : List zV} {h : zH} {Q : Nat → zH → List zV → Prop}
theorem yW.of (k : zW d X dep bc bs n pc lv st h Q) : yW d X dep bc bs n pc lv st h Q := by
  intro p l e R s m args below meth c H locs cells slots A E ls Z hF h1 h2 hD hE
  exact k p l e R s m args below meth c H locs cells slots A E ls Z ⟨hF.1, hF.2.1, hF.2.2.1, hF.2.2.2.1, hF.2.2.2.2.1, hF.2.2.2.2.2.1, hF.2.2.2.2.2.2.1, hF.2.2.2.2.2.2.2.1, hF.2.2.2.2.2.2.2.2.1, hF.2.2.2.2.2.2.2.2.2.1⟩ h1 h2 hD hE
theorem y_iconst {v : Int} (hdg : decode d.by pc = .ok (.iconst v, 1)) (hv : zi32 v) (k : yW d X dep bc bs n (pc + 1) lv (xI v :: st) h Q) : yW d X dep bc bs n pc lv st h Q := by
  intro p l e R s m args below meth c H locs cells slots A E ls Z hF h1 h2 hD hE
  exact lv_iconst hF.1 hF.2.1 hdg rfl (k p l e R s m args below meth c H locs cells slots A E ls Z hF h1 h2 (hD.stk _ (zok_c1 hv hD.2.2.2.2.2.2)) hE)
theorem y_bipush {v : Int} (hdg : decode d.by pc = .ok (.bipush v, 2)) (hv : zi32 v) (he : (Int8.ofInt v).toInt32 = Int32.ofInt v) (k : yW d X dep bc bs n (pc + 2) lv (xI v :: st) h Q) : yW d X dep bc bs n pc lv st h Q := by
  intro p l e R s m args below meth c H locs cells slots A E ls Z hF h1 h2 hD hE
  exact lv_bipush hF.1 hF.2.1 hdg he (k p l e R s m args below meth c H locs cells slots A E ls Z hF h1 h2 (hD.stk _ (zok_c1 hv hD.2.2.2.2.2.2)) hE)
theorem y_sipush {v : Int} (hdg : decode d.by pc = .ok (.sipush v, 3)) (hv : zi32 v) (he : (Int16.ofInt v).toInt32 = Int32.ofInt v) (k : yW d X dep bc bs n (pc + 3) lv (xI v :: st) h Q) : yW d X dep bc bs n pc lv st h Q := by
  intro p l e R s m args below meth c H locs cells slots A E ls Z hF h1 h2 hD hE
  exact lv_sipush hF.1 hF.2.1 hdg he (k p l e R s m args below meth c H locs cells slots A E ls Z hF h1 h2 (hD.stk _ (zok_c1 hv hD.2.2.2.2.2.2)) hE)
theorem yW.sub {lv' : List (Nat × zV)} (ks : List Nat) (hl : ks.filterMap (fun k => lv[k]?) = lv') (k : yW d X dep bc bs n pc lv' st h Q) : yW d X dep bc bs n pc lv st h Q := by
  intro p l e R s m args below meth c H locs cells slots A E ls Z hF h1 h2 hD hE
  refine k p l e R s m args below meth c H locs cells slots A E ls Z hF h1 h2 (hD.lvs lv' st ls ⟨hD.2.2.2.2.1.1, hD.2.2.2.2.1.2.1, fun q hq => ?_⟩ (fun q hq => ?_) hD.2.2.2.2.2.2) hE
  · obtain ⟨r, hr, rfl⟩ := List.mem_map.mp hq
    rw [← hl] at hr
    obtain ⟨k, -, hk⟩ := List.mem_filterMap.mp hr
    exact (hD.at k hk).1
  · rw [← hl] at hq
    obtain ⟨k, -, hk⟩ := List.mem_filterMap.mp hq
    exact (hD.at k hk).2
theorem yW.weaken {Q' : Nat → zH → List zV → Prop} (k : yW d X dep bc bs n pc lv st h Q') (hq : ∀ n' h' rs, Q' n' h' rs → Q n' h' rs) : yW d X dep bc bs n pc lv st h Q := by
  intro p l e R s m args below meth c H locs cells slots A E ls Z hF h1 h2 hD hE
  exact k p l e R s m args below meth c H locs cells slots A E ls Z hF h1 h2 hD (fun H' locs' cells' slots' E' ls' n' h' pc' rs vs i k a1 a2 a3 a4 a5 a6 a7 => hE H' locs' cells' slots' E' ls' n' h' pc' rs vs i k a1 a2 a3 a4 (hq _ _ _ a5) a6 a7)
theorem y_iload_n {i : Fin 4} {x : Int} (j : Nat) (hdg : decode d.by pc = .ok (.iload_n i, 1)) (hk : lv[j]? = some ((i : Nat), xI x)) (k : yW d X dep bc bs n (pc + 1) lv (xI x :: st) h Q) : yW d X dep bc bs n pc lv st h Q := by
  intro p l e R s m args below meth c H locs cells slots A E ls Z hF h1 h2 hD hE
  obtain ⟨a1, a2⟩ := hD.at j hk
  exact lv_iload_n hF.1 hF.2.1 hdg rfl a1 (k p l e R s m args below meth c H locs cells slots A E ls Z hF h1 h2 (hD.stk _ (zok_c1 a2 hD.2.2.2.2.2.2)) hE)
theorem y_aload_n {i : Fin 4} {x : Int} (j : Nat) (hdg : decode d.by pc = .ok (.aload_n i, 1)) (hk : lv[j]? = some ((i : Nat), xR x)) (k : yW d X dep bc bs n (pc + 1) lv (xR x :: st) h Q) : yW d X dep bc bs n pc lv st h Q := by
  intro p l e R s m args below meth c H locs cells slots A E ls Z hF h1 h2 hD hE
  obtain ⟨a1, a2⟩ := hD.at j hk
  have kk := k p l e R s m args below meth c H locs cells slots A E ls Z hF h1 h2 (hD.stk _ (zok_c1 a2 hD.2.2.2.2.2.2)) hE
  rw [List.map_cons] at kk
  by_cases h0 : x < 0
  · rw [zcvN h0] at a1 kk
    exact lv_aload_nN hF.1 hF.2.1 hdg rfl a1 kk
  · rw [zcvR h0] at a1 kk
    exact lv_aload_n hF.1 hF.2.1 hdg rfl a1 kk
theorem y_istore_n {i : Fin 4} {x : Int} {lv' : List (Nat × zV)} (hdg : decode d.by pc = .ok (.istore_n i, 1)) (hi : (i : Nat) < d.nl) (hl : ((i : Nat), xI x) :: lv.filter (fun q => !(q.1 == (i : Nat)) && !(q.1 + 1 == (i : Nat) && q.2.1 == 1)) = lv') (k : yW d X dep bc bs n (pc + 1) lv' st h Q) : yW d X dep bc bs n pc lv (xI x :: st) h Q := by
  intro p l e R s m args below meth c H locs cells slots A E ls Z hF h1 h2 hD hE
  exact lv_istore_n hF.1 hF.2.1 hdg rfl hD.2.2.2.2.1 hi (by rw [zfil1, ← hl]; rfl) (fun ls' hl' => k p l e R s m args below meth c H locs cells slots A E ls' Z hF h1 h2 (hD.lvs lv' st ls' hl' (by rw [← hl]; exact zok_fil hD.hd hD.2.2.2.2.2.1) hD.tl) hE)
theorem y_iinc {i : Nat} {x c0 : Int} {lv' : List (Nat × zV)} (j : Nat) (hdg : decode d.by pc = .ok (.iinc i c0, 3)) (hk : lv[j]? = some (i, xI x)) (hi : i < d.nl) (hl : (i, xI (w32 (x + c0))) :: lv.filter (fun q => !(q.1 == i) && !(q.1 + 1 == i && q.2.1 == 1)) = lv') (k : yW d X dep bc bs n (pc + 3) lv' st h Q) : yW d X dep bc bs n pc lv st h Q := by
  intro p l e R s m args below meth c H locs cells slots A E ls Z hF h1 h2 hD hE
  exact lv_iinc (k := j) hF.1 hF.2.1 hdg hD.2.2.2.2.1 (by rw [List.getElem?_map, hk]; rfl) rfl hi (by rw [zfil1, ← hl, List.map_cons]; congr 2; show Value.int _ = Value.int _; rw [w32_of, Int32.ofInt_add]) (fun ls' hl' => k p l e R s m args below meth c H locs cells slots A E ls' Z hF h1 h2 (hD.lvs lv' st ls' hl' (by rw [← hl]; exact zok_fil (w32_in _) hD.2.2.2.2.2.1) hD.2.2.2.2.2.2) hE)
theorem y_imul {a b : Int} (hdg : decode d.by pc = .ok (.imul, 1)) (k : yW d X dep bc bs n (pc + 1) lv (xI (w32 (a * b)) :: st) h Q) : yW d X dep bc bs n pc lv (xI b :: xI a :: st) h Q := by
  intro p l e R s m args below meth c H locs cells slots A E ls Z hF h1 h2 hD hE
  have kk := k p l e R s m args below meth c H locs cells slots A E ls Z hF h1 h2 (hD.stk (xI (w32 (a * b)) :: st) (zok_c1 (w32_in _) (fun w hw => hD.tl w (List.mem_cons_of_mem _ hw)))) hE
  rw [List.map_cons, show zcv E.2.1 (xI (w32 (a * b))) = .int (Int32.ofInt a * Int32.ofInt b) from congrArg Value.int (by rw [w32_of, Int32.ofInt_mul])] at kk
  exact lv_imul hF.1 hF.2.1 hdg kk
theorem y_dup {v : zV} (hdg : decode d.by pc = .ok (.dup, 1)) (hv : v.1 ≠ 1) (k : yW d X dep bc bs n (pc + 1) lv (v :: v :: st) h Q) : yW d X dep bc bs n pc lv (v :: st) h Q := by
  intro p l e R s m args below meth c H locs cells slots A E ls Z hF h1 h2 hD hE
  exact lv_dup hF.1 hF.2.1 hdg (by have := zcat E.2.1 v; rcases lv_cat (zcv E.2.1 v) with h9 | h9; exact h9; rw [h9] at this; exact absurd (by simpa using this.symm) hv) (k p l e R s m args below meth c H locs cells slots A E ls Z hF h1 h2 (hD.stk (v :: v :: st) (zok_c1 hD.hd hD.2.2.2.2.2.2)) hE)
theorem y_pop {v : zV} (hdg : decode d.by pc = .ok (.pop, 1)) (hv : v.1 ≠ 1) (k : yW d X dep bc bs n (pc + 1) lv st h Q) : yW d X dep bc bs n pc lv (v :: st) h Q := by
  intro p l e R s m args below meth c H locs cells slots A E ls Z hF h1 h2 hD hE
  exact lv_pop hF.1 hF.2.1 hdg (by have := zcat E.2.1 v; rcases lv_cat (zcv E.2.1 v) with h9 | h9; exact h9; rw [h9] at this; exact absurd (by simpa using this.symm) hv) (k p l e R s m args below meth c H locs cells slots A E ls Z hF h1 h2 (hD.stk st hD.tl) hE)
theorem y_icmp_ge {a b off : Int} {tgt : Nat} (hdg : decode d.by pc = .ok (.if_icmp .ge off, 3)) (ht : (pc : Int) + off = (tgt : Int)) (kt : b ≤ a → yW d X dep bc bs n tgt lv st h Q) (kf : ¬ (b ≤ a) → yW d X dep bc bs n (pc + 3) lv st h Q) : yW d X dep bc bs n pc lv (xI b :: xI a :: st) h Q := by
  intro p l e R s m args below meth c H locs cells slots A E ls Z hF h1 h2 hD hE
  have hb : zi32 b := hD.hd
  have ha : zi32 a := hD.tl _ List.mem_cons_self
  have hst := hD.stk st (fun w hw => hD.tl w (List.mem_cons_of_mem _ hw))
  exact lv_icmp_ge hF.1 hF.2.1 hdg ht (fun q => kt ((zi32_le hb ha).mp q) p l e R s m args below meth c H locs cells slots A E ls Z hF h1 h2 hst hE) (fun q => kf (fun z => q ((zi32_le hb ha).mpr z)) p l e R s m args below meth c H locs cells slots A E ls Z hF h1 h2 hst hE)
theorem y_goto {off : Int} {tgt : Nat} (hdg : decode d.by pc = .ok (.goto off, 3)) (ht : (pc : Int) + off = (tgt : Int)) (k : yW d X dep bc bs n tgt lv st h Q) : yW d X dep bc bs n pc lv st h Q := by
  intro p l e R s m args below meth c H locs cells slots A E ls Z hF h1 h2 hD hE
  exact lv_goto hF.1 hF.2.1 hdg ht (k p l e R s m args below meth c H locs cells slots A E ls Z hF h1 h2 hD hE)
theorem y_get {C : String} {T : u_T} {N ci k index : Nat} {ty : Nat → FieldType} {t : Nat} {o : Int} (pk : zPk ci C T N ty) (hdg : decode d.by pc = .ok (.getfield index, 3)) (hk : k < N) (hl : Cond.fieldLink d.1.cls index (T k).1 (T k).2.1 (T k).2.2.1 ∈ zBIG) (ht : ztag (ty k) = t) (ho : zOb n o (0, ci, N)) (kk : yW d X dep bc bs n (pc + 3) lv ((t, h o k) :: st) h Q) : yW d X dep bc bs n pc lv (xR o :: st) h Q := by
  intro p l e R s m args below meth c H locs cells slots A E ls Z hF h1 h2 hD hE
  have hR := hD.2.2.2.1
  have hok : zok n (t, h o k) := by
    have h9 := hR.ok ho (k := (k : Int)) (by omega)
    rw [← ht, ← pk.2.2.2.2 k]
    exact h9
  rw [List.map_cons, zcvR (by have := ho.1; omega)]
  refine va_get (D := E.1) (cl := zcls) (ci := ci) (v := zcv E.2.1 (t, h o k)) (C := C) (T := T) (N := N) hF.1 hF.2.1 hF.2.2.2.2.1 pk.2.1 hF.2.2.2.1 hR.2.1 hR.1 o.toNat (hR.at ho) pk.1 k hk (hF.2.2.2.2.1 _ hl) (fun _ h9 => h9) ?_ hdg (kk p l e R s m args below meth c H locs cells slots A E ls Z hF h1 h2 (hD.stk ((t, h o k) :: st) (zok_c1 hok hD.tl)) hE)
  rw [List.getElem?_map, List.getElem?_range hk, ← ht, ← pk.2.2.2.2 k]
  rfl
theorem y_put {C : String} {T : u_T} {N ci k index : Nat} {ty : Nat → FieldType} {o : Int} {v : zV} (pk : zPk ci C T N ty) (hdg : decode d.by pc = .ok (.putfield index, 3)) (hk : k < N) (hl : Cond.fieldLink d.1.cls index (T k).1 (T k).2.1 (T k).2.2.1 ∈ zBIG) (hfin : (T k).2.2.2 = false) (hv : zFit (ty k) v) (ho : zOb n o (0, ci, N)) (kk : yW d X dep bc bs n (pc + 3) lv st (zst h o k v.2) Q) : yW d X dep bc bs n pc lv (v :: xR o :: st) h Q := by
  intro p l e R s m args below meth c H locs cells slots A E ls Z hF h1 h2 hD hE
  have hR := hD.2.2.2.1
  have hst : ∀ v ∈ st, zok n v := fun w hw => hD.tl w (List.mem_cons_of_mem _ hw)
  rw [List.map_cons, List.map_cons, zcvR (by have := ho.1; omega)]
  have hvt : v.1 = ztag (zfty ci k) := by rw [pk.2.2.2.2 k]; exact hv.1
  refine va_put (D := E.1) (cl := zcls) (ci := ci) (v := zcv E.2.1 v) (ty := ty k) (C := C) (T := T) (N := N) hF.1 hF.2.1 hF.2.2.2.2.1 pk.2.1 ty pk.2.2.1 pk.2.2.2.1 hF.2.2.2.1 hR.2.1 hR.1 hR.2.2.1 hD.1 o.toNat (hR.at ho) pk.1 k hk (hF.2.2.2.2.1 _ hl) (fun _ h9 => h9) hfin (pk.2.2.1 k hk) (hv.2 E.2.1).1 (hv.2 E.2.1).2 (by simp; exact hk) hdg (fun H1 locs1 hP hDD hS => ?_)
  refine kk p l e R s m args below meth c H1 locs1 cells slots A E ls Z hF h1 h2 (hD.put st hst ho (k := (k : Int)) (by omega) ?_ (fun hn => ?_) ?_ ?_ hS) hE
  · show zok n (ztag (zfty ci k), v.2)
    rw [← hvt]
    exact hD.hd
  · exact zRF_none (by rw [ho.2.2]; show ((zcls.getD ci _).2.1 ((k : Int).toNat)).2.2.2 = false; rw [List.getD_eq_getElem?_getD, pk.1, Int.toNat_natCast]; exact hfin)
  · have e : zcell (0, ci, N) E.2.1 (E.2.2.1 o.toNat) (zst h o k v.2 o) = .inr (ci, (((List.range N).map fun j => zcv E.2.1 (ztag (zfty ci j), h o j)).set k (zcv E.2.1 v))) := by
      rw [zvm hvt]
      show Sum.inr (ci, _) = _
      congr 2
      apply List.map_congr_left
      intro j _
      unfold zst
      by_cases hj : (j : Int) = k <;> simp [hj]
    rw [e]
    exact hP
  · have e : zcell (0, ci, N) E.2.1 (E.2.2.1 o.toNat) (zst h o k v.2 o) = .inr (ci, (((List.range N).map fun j => zcv E.2.1 (ztag (zfty ci j), h o j)).set k (zcv E.2.1 v))) := by
      rw [zvm hvt]
      show Sum.inr (ci, _) = _
      congr 2
      apply List.map_congr_left
      intro j _
      unfold zst
      by_cases hj : (j : Int) = k <;> simp [hj]
    rw [e]
    exact hDD
theorem y_putF {C : String} {T : u_T} {N ci k index : Nat} {ty : Nat → FieldType} {o : Int} {v : zV} (pk : zPk ci C T N ty) (hdg : decode d.by pc = .ok (.putfield index, 3)) (hk : k < N) (hl : Cond.fieldLink d.1.cls index (T k).1 (T k).2.1 (T k).2.2.1 ∈ zBIG) (hfin : (T k).2.2.2 = true) (hin : d.1.name = "<init>") (hdecl : (T k).1 = d.1.cls) (hnb : n < 239) (hv : zFit (ty k) v) (ho : zOb n o (0, ci, N)) (kk : yW d X dep bc bs n (pc + 3) lv st (zst h o k v.2) Q) : yW d X dep bc bs n pc lv (v :: xR o :: st) h Q := by
  intro p l e R s m args below meth c H locs cells slots A E ls Z hF h1 h2 hD hE
  have hR := hD.2.2.2.1
  have hst : ∀ v ∈ st, zok n v := fun w hw => hD.tl w (List.mem_cons_of_mem _ hw)
  rw [List.map_cons, List.map_cons, zcvR (by have := ho.1; omega)]
  have hvt : v.1 = ztag (zfty ci k) := by rw [pk.2.2.2.2 k]; exact hv.1
  refine va_putF (D := E.1) (cl := zcls) (ci := ci) (v := zcv E.2.1 v) (ty := ty k) (C := C) (T := T) (N := N) hF.1 hF.2.1 hF.2.2.2.2.1 pk.2.1 ty pk.2.2.1 pk.2.2.2.1 hF.2.2.2.1 hR.2.1 hR.1 hR.2.2.1 hD.1 o.toNat (hR.at ho) pk.1 k hk (hF.2.2.2.2.1 _ hl) (fun _ h9 => h9) hfin (hF.2.2.2.2.2.2.2.2.2.1.trans hin) hdecl (pk.2.2.1 k hk) (hv.2 E.2.1).1 (hv.2 E.2.1).2 (by simp; exact hk) hdg (fun H1 locs1 hP hDD hS => ?_)
  refine kk p l e R s m args below meth c H1 locs1 cells slots A E ls Z hF h1 h2 (hD.put st hst ho (k := (k : Int)) (by omega) ?_ (fun hn => ?_) ?_ ?_ hS) hE
  · show zok n (ztag (zfty ci k), v.2)
    rw [← hvt]
    exact hD.hd
  · exact absurd hn (by omega)
  · have e : zcell (0, ci, N) E.2.1 (E.2.2.1 o.toNat) (zst h o k v.2 o) = .inr (ci, (((List.range N).map fun j => zcv E.2.1 (ztag (zfty ci j), h o j)).set k (zcv E.2.1 v))) := by
      rw [zvm hvt]
      show Sum.inr (ci, _) = _
      congr 2
      apply List.map_congr_left
      intro j _
      unfold zst
      by_cases hj : (j : Int) = k <;> simp [hj]
    rw [e]
    exact hP
  · have e : zcell (0, ci, N) E.2.1 (E.2.2.1 o.toNat) (zst h o k v.2 o) = .inr (ci, (((List.range N).map fun j => zcv E.2.1 (ztag (zfty ci j), h o j)).set k (zcv E.2.1 v))) := by
      rw [zvm hvt]
      show Sum.inr (ci, _) = _
      congr 2
      apply List.map_congr_left
      intro j _
      unfold zst
      by_cases hj : (j : Int) = k <;> simp [hj]
    rw [e]
    exact hDD
theorem y_iast {N : Nat} {o i x : Int} (hdg : decode d.by pc = .ok (.iastore, 1)) (ho : zOb n o (1, 0, N)) (h0 : 0 ≤ i) (hi : i < N) (kk : yW d X dep bc bs n (pc + 1) lv st (zst h o i (x)) Q) : yW d X dep bc bs n pc lv (xI x :: xI i :: xR o :: st) h Q := by
  intro p l e R s m args below meth c H locs cells slots A E ls Z hF h1 h2 hD hE
  have hR := hD.2.2.2.1
  have hi9 : i < 2147483648 := (hD.tl _ List.mem_cons_self : zi32 i).2
  have hst : ∀ v ∈ st, zok n v := fun w hw => hD.tl w (List.mem_cons_of_mem _ (List.mem_cons_of_mem _ hw))
  obtain ⟨t0, ht0⟩ := hR.2.2.2.1 o.toNat ho.2.1 (by rw [ho.2.2]; exact Nat.succ_ne_zero _)
  rw [ho.2.2] at ht0
  have ev : Int32.ofInt x = Int32.ofInt (x) := rfl
  have ec : zcell (1, 0, N) E.2.1 (E.2.2.1 o.toNat) (zst h o i (x) o) = .inl (E.2.2.1 o.toNat, N, .inl (upd (fun j => Int32.ofInt (h o j)) (Int32.ofInt i).toNatClampNeg (Int32.ofInt x))) := by
    refine congrArg (fun f => (Sum.inl (E.2.2.1 o.toNat, N, .inl f) : va_E)) (funext fun j => ?_)
    show _ = upd (fun j => Int32.ofInt (h o j)) (Int32.ofInt i).toNatClampNeg (Int32.ofInt x) j
    rw [zclamp h0 hi9, ev]
    unfold upd zst
    by_cases hj : j = i.toNat
    · rw [if_pos hj, if_pos ⟨rfl, by omega⟩]
    · rw [if_neg hj, if_neg (fun q => hj (by omega))]
  rw [List.map_cons, List.map_cons, List.map_cons, zcvR (by have := ho.1; omega)]
  refine va_iast hF.1 hF.2.1 hR.2.1 hR.1 hR.2.2.1 hD.1 o.toNat t0 (hR.at ho) ht0 (zin h0 hi9 hi) hdg (fun H1 locs1 hP hDD hS => ?_)
  exact kk p l e R s m args below meth c H1 locs1 cells slots A E ls Z hF h1 h2 (hD.put st hst ho h0 (show zok n (xI (x)) from hD.hd) (fun _ => zRF_none (by rw [ho.2.2]; rfl)) (by rw [ec]; exact hP) (by rw [ec]; exact hDD) hS) hE
theorem y_ret (hdg : decode d.by pc = .ok (.return_, 1)) (hrt : d.rt = none) (q : Q n h []) : yW d X dep bc bs n pc lv [] h Q := by
  intro p l e R s m args below meth c H locs cells slots A E ls Z hF h1 h2 hD hE
  exact hE H locs cells slots E ls n h pc [] [] .return_ 1 (by omega) (by omega) (hD.end _ hD.2.2.2.2.2.2) (zEx.rf E n) q hdg (Or.inr (Or.inr (Or.inr (Or.inl ⟨rfl, rfl, rfl, rfl, hrt⟩))))
end YR
def yPc (E : zE) (X : zX) (n : Nat) (h : zH) (as : List zV) (sz : Nat) : Array Value → State → Prop :=
  va_Pc (as.map (zcv E.2.1)) (fun U => U.heap.size = sz ∧ zRep E n h U U.heap (fun _ => True) ∧ zFo E X U (va_A (zws E n h) sz) U.heap ∧ zAO U)
theorem yMet {d : zMd} {X : zX} {dep bc bs n : Nat} {as : List zV} {h : zH} {Q : Nat → zH → List zV → Prop} (hZ : yW d X dep bc bs n 0 (zar 0 as) [] h Q) (hnt : ∀ n' h', ¬ Q n' h' [(9, 0)]) (hy : plainFor d.1 = true) (hnl : zsz as ≤ d.nl) (hok : ∀ v ∈ as, zok n v) (l : Launch) (E : zE) (sz : Nat) :
    Met l d.1 (zwd d) (zrm dep bc bs) (yPc E X n h as sz) (zQc E n Q (va_A (zws E n h) sz)) bc bs (va_A (zws E n h) sz) := by
  refine zofW (cc := d.by) (maxL := d.nl) (ret := d.rt) hy rfl ?_
  intro p e s m args below meth c s₁ B hml hv
  obtain ⟨rfl, hsz, hR, hFo, hAO⟩ := hv
  subst hsz
  have hts := atoms_spec (ws := zwd d) B.pre
  have hown : s.vm.findClass d.1.cls = some m.cls := findClass_of_methodNamed B.named
  have hname : meth.name = d.1.name := (name_of_methodNamed B.named B.method).1
  have hl := lv_entry (as.map (zcv E.2.1)) (n := d.nl) (by rw [zsz_eq]; exact hnl)
  have hlocks : meth.locks = false := B.notSynchronized
  rw [lg_entry_eq]
  generalize (lg_sl (as.map (zcv E.2.1)) ++ List.replicate (d.nl - (lg_sl (as.map (zcv E.2.1))).length) Slot.unset).toArray = ls at hl ⊢
  rw [← zar_map] at hl
  generalize hAe : va_A (zws E n h) s.heap.size = A at hFo ⊢
  have hD : va_D A (zws E n h) := by rw [← hAe]; exact hR.2.2.1.self
  have hA : ∀ q : Nat, s.heap.size ≤ q → A q := fun q hq => by rw [← hAe]; exact Or.inr hq
  have hF : yFix d dep p (zrm dep bc bs) s m (as.map (zcv E.2.1)).toArray meth c := ⟨B.exec, B.bytes, hml, hown, fun w hw => hts w (List.mem_cons_of_mem _ hw), Nat.le_refl _, Nat.le_refl _, B.returns, hlocks, hname, hAO⟩
  refine hZ p l e (zrm dep bc bs) s m (as.map (zcv E.2.1)).toArray below meth c s.heap [] 0 0 A E ls _ hF (Nat.le_of_eq (Nat.zero_add bc)) (Nat.le_of_eq (Nat.zero_add bs)) ⟨va_S.rf, hA, hFo, ⟨hR.1, hR.2.1, hD, hR.2.2.2⟩, hl, zar_ok hok 0, fun v hv => absurd hv List.not_mem_nil⟩ ?_
  intro H' locs' cells' slots' E' ls' n' h' pc' rs vs i k hc hs hD' hx hq hdg hend
  refine W.widen (k := bc) (n := bs) (by omega) (by omega) ?_
  have hS' := hD'.1
  rcases hend with ⟨rfl, rfl, rfl, x, rfl, hrt⟩ | ⟨rfl, rfl, rfl, hrt, x, rfl⟩ | ⟨rfl, rfl, rfl, ⟨C, hrt⟩, x, rfl⟩ | ⟨rfl, rfl, rfl, rfl, hrt⟩ | ⟨-, -, -, rfl⟩
  · have hqc : ∀ t : State, t.heap = H' → s.WarmedH t.vm → zQc E n Q A (as.map (zcv E.2.1)).toArray s (.returned (some (zcv E'.2.1 (xI x)))) t := fun t ht hW => ⟨⟨E', n', h', [xI x], Or.inr ⟨_, rfl, rfl⟩, by rw [ht]; exact hD'.2.2.2.1.moved hW.alike, hx, hD'.2.2.2.2.2.2, hq⟩, hS'.F ht⟩
    rcases hrt with hrt | ⟨ty, hrt, h01⟩
    · exact W.iret (v := Int32.ofInt x) B.exec B.bytes (B.returns.trans hrt) hqc hS'.2.2 hdg
    · exact W.zret (v := Int32.ofInt x) (ty := ty) B.exec B.bytes (B.returns.trans hrt) h01 hqc hS'.2.2 hdg
  · exact W.lret (v := Int64.ofInt x) B.exec B.bytes (B.returns.trans hrt) (fun t ht hW => ⟨⟨E', n', h', [xL x], Or.inr ⟨_, rfl, rfl⟩, by rw [ht]; exact hD'.2.2.2.1.moved hW.alike, hx, hD'.2.2.2.2.2.2, hq⟩, hS'.F ht⟩) hS'.2.2 hdg
  · exact W.aret (v := zcv E'.2.1 (xR x)) (rt := .object C) B.exec B.bytes (B.returns.trans hrt) (Or.inl ⟨C, rfl⟩) (by by_cases h0 : x < 0; exact Or.inl (zcvN h0); exact Or.inr ⟨_, zcvR h0⟩) (fun t ht hW => ⟨⟨E', n', h', [xR x], Or.inr ⟨_, rfl, rfl⟩, by rw [ht]; exact hD'.2.2.2.1.moved hW.alike, hx, hD'.2.2.2.2.2.2, hq⟩, hS'.F ht⟩) hS'.2.2 hdg
  · exact W.vret B.exec B.bytes (B.returns.trans hrt) (fun t ht hW => ⟨⟨E', n', h', [], Or.inl ⟨rfl, rfl⟩, by rw [ht]; exact hD'.2.2.2.1.moved hW.alike, hx, hD'.2.2.2.2.2.2, hq⟩, hS'.F ht⟩) hS'.2.2 hdg
  · exact absurd hq (hnt n' h')

section YCALL
variable {d : zMd} {X : zX} {dep bc bs n pc : Nat} {lv : List (Nat × zV)} {st : List zV} {h : zH} {Q : Nat → zH → List zV → Prop}
theorem yPc_blind {E : zE} {X : zX} {n : Nat} {h : zH} {as : List zV} {sz : Nat} : FrameBlind (yPc E X n h as sz) := fun a U g mk q => by
  obtain ⟨q0, q1, qR, qF, qA⟩ := q
  exact ⟨q0, q1, qR.moved (u := U) (U := U.calling g mk a) (Vm.Alike.refl U.vm), qF.moved (u := U) (U := U.calling g mk a) (Vm.Alike.refl U.vm), qA.same (u := U) (U := U.calling g mk a) rfl⟩
theorem yPc_of {s : State} {H : Heap} {locs : List Loc} {A : Nat → Prop} {E : zE} {ls : Array Slot} {as : List zV} (hD : zDyn X d n lv st h s H locs A E ls) (hao : zAO s) : ∀ U : State, U.heap = H → s.WarmedH U.vm → yPc E X n h as H.size (as.map (zcv E.2.1)).toArray U := fun U hU hW => by
  refine ⟨rfl, by rw [hU], ?_, ?_, hao.warm hW⟩
  · rw [hU]
    have hR := hD.2.2.2.1.moved hW.alike
    exact ⟨hR.1, hR.2.1, hR.2.2.1.weaken (fun _ _ _ _ => trivial), hR.2.2.2⟩
  · rw [hU]
    exact ((hD.2.2.1.kept hD.1.2.1).narrow (zws_A hD.2.2.2.1 hD.1 hD.2.1)).moved hW.alike
theorem yrun {p : Program} {l : Launch} {e : Env} {R : Room} {s : State} {m : MethodId} {args : Array Value} {below : List Frame} {meth : Method} {c : Code} {H : Heap} {locs : List Loc} {cells slots bc' bs' : Nat} {A : Nat → Prop} {E : zE} {ls : Array Slot} {Z : State → Prop} {Q' : Nat → zH → List zV → Prop} {a : Array Value} {st0 : List Value}
    (hF : yFix d dep p R s m args meth c) (h1 : cells + bc ≤ R.cells) (h2 : slots + bs ≤ R.slots) (hbc : bc' ≤ bc) (hbs : bs' ≤ bs) (hst : ∀ v ∈ st, zok n v) {st1 : List zV} (hD : zDyn X d n lv st1 h s H locs A E ls)
    (hE : ∀ (H' : Heap) (locs' : List Loc) (cells' slots' : Nat) (E' : zE) (ls' : Array Slot) (n' : Nat) (h' : zH) (pc' : Nat) (rs vs : List zV) (i : Instr) (k : Nat),
      cells' ≤ cells + bc → slots' ≤ slots + bs → zDyn X d n' [] rs h' s H' locs' A E' ls' → zEx E E' n n' → Q n' h' rs → decode d.by pc' = .ok (i, k) → zEnd d i k rs vs →
      W p l e R s m args below meth c H' locs' cells' slots' Z (F0 m pc' ls' (vs.map (zcv E'.2.1))))
    (hr : va_Run p l e R s m args below meth c H locs cells slots bc' bs' (F0 m pc ls st0) (st.map (zcv E.2.1)) (zQc E n Q' (va_A (zws E n h) H.size) a) (va_A (zws E n h) H.size))
    (k : ∀ n' h' rs, Q' n' h' rs → n ≤ n' → yW d X dep (bc - bc') (bs - bs') n' (pc + 3) lv (rs ++ st) h' Q) : W p l e R s m args below meth c H locs cells slots Z (F0 m pc ls st0) := by
  intro T hT X0
  obtain ⟨v, s0, t, T', L, e0, X', hL, e1, e2, ⟨⟨E', n', h', rs, hv, hR, hx, hok, hq⟩, hz, hk⟩, step⟩ := hr T hT X0
  rw [e0] at hz hk
  have hAA := zws_A hD.2.2.2.1 hD.1 hD.2.1
  have hvm : s.vm.Alike t.vm := by rw [← e2]; exact X'.warmed.alike
  have hS1 : va_S A s.heap T'.heap (locs ++ L) := ⟨Nat.le_trans hD.1.1 (by rw [e1]; exact hz), fun q q1 q2 => by
    rw [e1, hk q (Nat.lt_of_lt_of_le q1 hD.1.1) (fun z => q2 (hAA q z))]
    exact hD.1.2.1 q q1 q2, fun q hq => by
      rcases List.mem_append.mp hq with z | z
      · exact hD.1.2.2 q z
      · exact hAA _ (hL q z)⟩
  have hR1 : zRep E' n' h' s T'.heap A := by
    have h9 := hR.moved hvm.symm
    rw [e1]
    exact ⟨h9.1, h9.2.1, h9.2.2.1.weaken (fun _ q _ z => hAA q.1 z), h9.2.2.2⟩
  have hlv : (lv.map fun q => (q.1, zcv E'.2.1 q.2)) = lv.map fun q => (q.1, zcv E.2.1 q.2) := List.map_congr_left fun q hq => by rw [zcv_ex (hD.2.2.2.2.2.1 q hq) hx]
  have hsv : st.map (zcv E'.2.1) = st.map (zcv E.2.1) := List.map_congr_left fun q hq => zcv_ex (hst q hq) hx
  have hD1 : zDyn X d n' lv (rs ++ st) h' s T'.heap (locs ++ L) A E' ls := ⟨hS1, hD.2.1, hD.2.2.1.ex hx, hR1, by rw [hlv]; exact hD.2.2.2.2.1, fun q hq => zok_mono (hD.2.2.2.2.2.1 q hq) hx.1, fun w hw => by
    rcases List.mem_append.mp hw with z | z
    · exact hok w z
    · exact zok_mono (hst w z) hx.1⟩
  have K := k n' h' rs hq hx.1 p l e R s m args below meth c T'.heap (locs ++ L) (cells + bc') (slots + bs') A E' ls Z hF (by omega) (by omega) hD1
    (fun H' locs' cells' slots' E'' ls' n'' h'' pc' rs' vs i k' a1 a2 a3 a4 a5 a6 a7 => hE H' locs' cells' slots' E'' ls' n'' h'' pc' rs' vs i k' (by omega) (by omega) a3 (hx.tr a4) a5 a6 a7)
  obtain ⟨t2, b1, b2⟩ := K T' rfl X'
  refine ⟨t2, step t2 ?_, b2⟩
  have e9 : v.toList ++ st.map (zcv E.2.1) = (rs ++ st).map (zcv E'.2.1) := by
    rw [List.map_append, hsv]
    rcases hv with ⟨rfl, hv⟩ | ⟨w, rfl, hv⟩
    · cases hv; rfl
    · cases hv; rfl
  show Steps p.tables e below (T'.setTop (F0 m (pc + 3) ls (v.toList ++ st.map (zcv E.2.1)))) t2
  rw [e9]
  exact b1
end YCALL
section YINV
variable {d d' : zMd} {X : zX} {dep dep' bc bc' bs bs' n pc index N : Nat} {lv : List (Nat × zV)} {st as : List zV} {h : zH} {Q Q' : Nat → zH → List zV → Prop} {o : Int}
theorem y_invI (hZ : yW d' X dep' bc' bs' n 0 (zar 0 (xR o :: as)) [] h Q') (hnt : ∀ n' h', ¬ Q' n' h' [(9, 0)]) (hdg : decode d.by pc = .ok (.invokespecial index, 3)) (hm : zNm d' as.length) (hrt : d'.rt = none) (hini : d'.1.name = "<init>") (l1 : Cond.methodLink d.1.cls index d'.1 ∈ zBIG) (l2 : Cond.instanceMethod d'.1 ∈ zBIG) (l4 : Cond.initialized d'.1.cls ∈ zBIG) (ho : 0 ≤ o)
    (hd : dep' + 1 ≤ dep) (hbc : bc' ≤ bc) (hbs : bs' ≤ bs) (hsz : zsz (xR o :: as) ≤ d'.nl) (hst : zsz st ≤ 8) {ra : List zV} (hra : ra = as.reverse) (k : ∀ n' h' rs, Q' n' h' rs → n ≤ n' → yW d X dep (bc - bc') (bs - bs') n' (pc + 3) lv (rs ++ st) h' Q) : yW d X dep bc bs n pc lv (ra ++ xR o :: st) h Q := by
  subst hra
  obtain ⟨y', cc', nl', rt'⟩ := d'
  subst hrt
  intro p l e R s m args below meth c H locs cells slots A E ls Z hF h1 h2 hD hE
  have hall := hD.2.2.2.2.2.2
  have hstk : ∀ v ∈ st, zok n v := fun w hw => hall w (List.mem_append_right _ (List.mem_cons_of_mem _ hw))
  have hok : ∀ v ∈ xR o :: as, zok n v := fun w hw => by
    rcases List.mem_cons.mp hw with rfl | hw
    · exact hall _ (List.mem_append_right _ List.mem_cons_self)
    · exact hall _ (List.mem_append_left _ (List.mem_reverse.mpr hw))
  obtain ⟨hm1, hm2, hm3, hm4, hm5, hm6⟩ := hm
  have hw := hF.2.2.2.2.1
  have ho1 : zcv E.2.1 (xR o) = .ref (E.2.1 o.toNat) := zcvR (by omega)
  have e0 : (as.reverse ++ xR o :: st).map (zcv E.2.1) = (as.map (zcv E.2.1)).reverse ++ .ref (E.2.1 o.toNat) :: st.map (zcv E.2.1) := by rw [List.map_append, List.map_cons, List.map_reverse, ho1]
  have hM := yMet hZ hnt hm1 hsz hok l E H.size
  have hPc := yPc_of (as := xR o :: as) hD hF.2.2.2.2.2.2.2.2.2.2
  rw [e0]
  refine yrun (a := (Value.ref (E.2.1 o.toNat) :: as.map (zcv E.2.1)).toArray) hF h1 h2 hbc hbs hstk hD hE ?_ k
  refine va_runI (own := d.1.cls) (nL := d.nl) (cc := d.by) (Ts := zBIG) (ws := zwd (y', cc', nl', none)) (b := E.2.1 o.toNat) (As := as.map (zcv E.2.1)) ⟨hF.1, hF.2.1, hF.2.2.1, hF.2.2.2.1, hw⟩ hM (cwI as.length hw (fun w h9 => zwd_good (d' := (y', cc', nl', none)) hm6 h9) rfl rfl rfl (hw _ l4) (hw _ l1) (hw _ l2) hini ⟨hm2, hm3, hm4⟩ (zroom hd hm5 hF.2.2.2.2.2.1 hF.2.2.2.2.2.2.1)) ⟨yPc_blind, fun U hU hW => ?_⟩ rfl (by simp) hD.2.2.2.2.1.1 rfl (lv_room (ls := ls) (zcsum hst)) hdg ⟨by show cells + bc' ≤ _; omega, by show slots + bs' ≤ _; omega⟩
  have h9 := hPc U hU hW
  rw [List.map_cons, ho1] at h9
  exact h9
theorem y_invIN {host : String} (hZ : yW d' X dep' bc' bs' n 0 (zar 0 (xR o :: as)) [] h Q') (hnt : ∀ n' h', ¬ Q' n' h' [(9, 0)]) (hdg : decode d.by pc = .ok (.invokespecial index, 3)) (hm : zNm d' as.length) (hrt : d'.rt = none) (hini : d'.1.name = "<init>") (l1 : Cond.methodLinkNest d.1.cls index d'.1 host ∈ lw_tbl) (l2 : Cond.instanceMethod d'.1 ∈ zBIG) (l4 : Cond.initialized d'.1.cls ∈ zBIG) (ho : 0 ≤ o)
    (hd : dep' + 1 ≤ dep) (hbc : bc' ≤ bc) (hbs : bs' ≤ bs) (hsz : zsz (xR o :: as) ≤ d'.nl) (hst : zsz st ≤ 8) {ra : List zV} (hra : ra = as.reverse) (k : ∀ n' h' rs, Q' n' h' rs → n ≤ n' → yW d X dep (bc - bc') (bs - bs') n' (pc + 3) lv (rs ++ st) h' Q) : yW d X dep bc bs n pc lv (ra ++ xR o :: st) h Q := by
  subst hra
  obtain ⟨y', cc', nl', rt'⟩ := d'
  subst hrt
  intro p l e R s m args below meth c H locs cells slots A E ls Z hF h1 h2 hD hE
  have hall := hD.2.2.2.2.2.2
  have hstk : ∀ v ∈ st, zok n v := fun w hw => hall w (List.mem_append_right _ (List.mem_cons_of_mem _ hw))
  have hok : ∀ v ∈ xR o :: as, zok n v := fun w hw => by
    rcases List.mem_cons.mp hw with rfl | hw
    · exact hall _ (List.mem_append_right _ List.mem_cons_self)
    · exact hall _ (List.mem_append_left _ (List.mem_reverse.mpr hw))
  obtain ⟨hm1, hm2, hm3, hm4, hm5, hm6⟩ := hm
  have hw := hF.2.2.2.2.1
  have ho1 : zcv E.2.1 (xR o) = .ref (E.2.1 o.toNat) := zcvR (by omega)
  have e0 : (as.reverse ++ xR o :: st).map (zcv E.2.1) = (as.map (zcv E.2.1)).reverse ++ .ref (E.2.1 o.toNat) :: st.map (zcv E.2.1) := by rw [List.map_append, List.map_cons, List.map_reverse, ho1]
  have hM := yMet hZ hnt hm1 hsz hok l E H.size
  have hPc := yPc_of (as := xR o :: as) hD hF.2.2.2.2.2.2.2.2.2.2
  rw [e0]
  refine yrun (a := (Value.ref (E.2.1 o.toNat) :: as.map (zcv E.2.1)).toArray) hF h1 h2 hbc hbs hstk hD hE ?_ k
  refine va_runIN (host := host) (own := d.1.cls) (nL := d.nl) (cc := d.by) (Ts := zBIG) (ws := zwd (y', cc', nl', none)) (b := E.2.1 o.toNat) (As := as.map (zcv E.2.1)) ⟨hF.1, hF.2.1, hF.2.2.1, hF.2.2.2.1, hw⟩ hM ⟨va_cnB as.length hw (fun w h9 => zwd_good (d' := (y', cc', nl', none)) hm6 h9) rfl rfl rfl (hF.2.2.2.2.2.2.2.2.2.2.2.2.2.2 _ ⟨_, _, _, _, rfl, l1⟩) (hw _ l4) ⟨hm2, hm3, hm4⟩ (zroom hd hm5 hF.2.2.2.2.2.1 hF.2.2.2.2.2.2.1), hini, hw _ l2⟩ ⟨yPc_blind, fun U hU hW => ?_⟩ rfl (by simp) hD.2.2.2.2.1.1 rfl (lv_room (ls := ls) (zcsum hst)) hdg ⟨by show cells + bc' ≤ _; omega, by show slots + bs' ≤ _; omega⟩
  have h9 := hPc U hU hW
  rw [List.map_cons, ho1] at h9
  exact h9
end YINV
