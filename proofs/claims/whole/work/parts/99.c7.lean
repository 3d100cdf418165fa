/-! new int[8][12] -/
section GRID
variable {E : CtlPost} {e : Env} {d : Bool} {acts : List Action} {s : State}
def gI (cy : ClassId) : Cell := { cls := cy, slots := Array.replicate 12 (.int 0), vm := .none }
def gO (c : ClassId) (b : Nat) : Nat → Cell
  | 0 => { cls := c, slots := Array.replicate 8 .null, vm := .none }
  | i + 1 => (gO c b i).setSlot i (.ref (b + 1 + i))
/-- the state with the outer row and i inner ones -/
def gT (T : State) (c cy : ClassId) : Nat → State
  | 0 => T.pushCell (gO c T.heap.size 0)
  | i + 1 => ((gT T c cy i).pushCell (gI cy)).setCell T.heap.size (gO c T.heap.size (i + 1))
theorem gO_is (c : ClassId) (b : Nat) : ∀ i, (gO c b i).cls = c ∧ (gO c b i).vm = .none ∧ (gO c b i).slots.size = 8
  | 0 => ⟨rfl, rfl, by simp [gO]⟩
  | i + 1 => by
    obtain ⟨h1, h2, h3⟩ := gO_is c b i
    exact ⟨by rw [gO]; exact h1, by rw [gO]; exact h2, by simp [gO, Cell.setSlot, h3]⟩
theorem gO_arr (c : ClassId) (b : Nat) : ∀ i, gO c b i = arrV c 8 (fun j => va_rf (if j < i then some (b + 1 + j) else none))
  | 0 => by
    have e : (fun j : Nat => va_rf (if j < 0 then some (b + 1 + j) else none)) = fun _ => Value.null := funext fun j => by simp [va_rf]
    rw [e, ← arrV_new]
    rfl
  | i + 1 => by
    show (gO c b i).setSlot i (.ref (b + 1 + i)) = _
    rw [gO_arr c b i, arrV_store]
    congr 1
    funext j
    by_cases q : j = i
    · subst q; simp [updV, va_rf]
    · by_cases r : j < i
      · simp [updV, q, r, show j < i + 1 by omega]
      · simp [updV, q, r, show ¬ j < i + 1 by omega]
theorem gT_is (T : State) (c cy : ClassId) : ∀ i, ((gT T c cy i).heap.size = T.heap.size + 1 + i ∧ (gT T c cy i).vm = T.vm ∧ (gT T c cy i).slotsUsed = T.slotsUsed + 8 + 12 * i) ∧ (gT T c cy i).heap[T.heap.size]? = some (gO c T.heap.size i) ∧ (∀ x, x < T.heap.size → (gT T c cy i).heap[x]? = T.heap[x]?) ∧ ∀ j, j < i → (gT T c cy i).heap[T.heap.size + 1 + j]? = some (gI cy)
  | 0 => by
    refine ⟨⟨by simp [gT], rfl, by simp [gT, gO]⟩, by simp [gT], fun x hx => State.heap_pushCell_of_lt _ _ hx, fun j hj => absurd hj (Nat.not_lt_zero j)⟩
  | i + 1 => by
    obtain ⟨⟨h1, h2, h3⟩, h4, h5, h6⟩ := gT_is T c cy i
    have lt : ∀ x, x < T.heap.size + 1 + i → x < (gT T c cy i).heap.size := fun x hx => by rw [h1]; exact hx
    have h4' : ((gT T c cy i).pushCell (gI cy)).heap[T.heap.size]? = some (gO c T.heap.size i) := by
      rw [State.heap_pushCell_of_lt (h := lt _ (by omega))]; exact h4
    refine ⟨⟨?_, ?_, ?_⟩, State.heap_setCell_self h4', fun x hx => ?_, fun j hj => ?_⟩
    · simp [gT, State.setCell, h1]; omega
    · simp [gT, h2]
    · simp [gT, h3, gI]; omega
    · show (((gT T c cy i).pushCell (gI cy)).setCell T.heap.size _).heap[x]? = _
      rw [State.heap_setCell_other (show T.heap.size ≠ x by omega), State.heap_pushCell_of_lt (h := lt _ (by omega))]
      exact h5 x hx
    · show (((gT T c cy i).pushCell (gI cy)).setCell T.heap.size _).heap[T.heap.size + 1 + j]? = _
      rw [State.heap_setCell_other (show T.heap.size ≠ T.heap.size + 1 + j by omega)]
      by_cases q : j < i
      · rw [State.heap_pushCell_of_lt (h := lt _ (by omega))]
        exact h6 j q
      · have q2 : T.heap.size + 1 + j = (gT T c cy i).heap.size := by rw [h1]; omega
        rw [q2]
        exact State.heap_pushCell_size _ _
theorem gT_top (T : State) (f : JFrame) (c cy : ClassId) : ∀ i, gT (T.setTop f) c cy i = (gT T c cy i).setTop f
  | 0 => rfl
  | i + 1 => by simp only [gT, gT_top T f c cy i, State.heap_setTop, State.pushCell_setTop, State.setCell_setTop]
/-- the making, as the machine does it -/
theorem g_make {c cy cc : ClassId} {k kc : Class} (hk : s.vm.classes[c]? = some k) (hkind : k.kind = .array cy (.array .int)) (hkc : s.vm.classes[cy]? = some kc) (hkindc : kc.kind = .array cc .int)
    (hlim : ¬ 12 > e.platform.arrayLengthLimit) (hheap : ¬ 48 > e.platform.maxHeapBytes) (hcells : s.heap.size + 9 ≤ e.platform.maxCells) (hslots : s.slotsUsed + 104 ≤ e.platform.maxSlots)
    {Q : Addr → Pre} (hq : ∀ d' acts', Q s.heap.size d' acts' (gT s c cy 8)) : (multianewarray.make c [8, 12]).wp Q E e d acts s := by
  have n8 : (8 : Int32).toNatClampNeg = 8 := by decide
  have n12 : (12 : Int32).toNatClampNeg = 12 := by decide
  have c8 : ¬ (8 : Int32) < 0 := by decide
  have c12 : ¬ (12 : Int32) < 0 := by decide
  have hfind : ([(12 : Int32)].find? (· < 0)) = none := by decide
  rw [multianewarray.make]
  simp only [wp_bind', W.ite, c8, if_false, wp_pure', W.theClass, hk, hkind, Option.some.injEq, exists_eq_left', n8]
  refine W.newArray_of (howMany := 8) hk hkind (by omega) (by show ¬ 8 * 4 > _; omega) (by omega) (by omega) rfl (fun acts1 => ?_)
  simp only [hfind]
  rw [ite_self, wp_bind', Std.Legacy.Range.forIn_eq_forIn_range']
  have hsz : ([:8] : Std.Legacy.Range).size = 8 := by simp [Std.Legacy.Range.size]
  rw [hsz]
  refine wp_forIn_inv (fun rest s' => ∃ i, i ≤ 8 ∧ rest = List.range' i (8 - i) ∧ s' = gT s c cy i) _ _ ⟨0, by omega, rfl, rfl⟩ ?_ ?_
  · rintro x rest s' d' acts' Q' ⟨i, hi, hl, rfl⟩ hnext
    have hlt : i < 8 := Nat.lt_of_not_le fun q => by
      rw [show 8 - i = 0 by omega] at hl
      cases hl
    rw [show 8 - i = (8 - (i + 1)) + 1 by omega, List.range'_succ] at hl
    obtain ⟨rfl, hrest⟩ := List.cons.inj hl
    obtain ⟨⟨f1, f2, f3⟩, f4, -, -⟩ := gT_is s c cy x
    obtain ⟨o1, o2, o3⟩ := gO_is c s.heap.size x
    simp only [wp_bind']
    rw [multianewarray.make]
    simp only [wp_bind', W.ite, c12, if_false, wp_pure', W.theClass, f2, hkc, hkindc, Option.some.injEq, exists_eq_left', n12]
    refine W.newArray_of (howMany := 12) (by rw [f2]; exact hkc) hkindc hlim (by show ¬ 12 * 4 > _; omega) (by rw [f1]; omega) (by rw [f3]; omega) rfl (fun acts2 => ?_)
    simp only [wp_bind', W.writeLoc, wp_pure']
    refine ⟨gO c s.heap.size x, ?_, by rw [o2]; simp, by rw [o3]; exact hlt, ?_, hnext _ _ _ ⟨x + 1, hlt, hrest, ?_⟩⟩
    · rw [State.heap_pushCell_of_lt (h := show s.heap.size < (gT s c cy x).heap.size by rw [f1]; omega)]; exact f4
    · rw [o1, o2]
      simp [State.fitsSlot, State.slotType?, f2, hk, hkind, fits]
    · rw [f1]; rfl
  · rintro s' d' acts' ⟨i, hi, hl, rfl⟩
    have h8 : i = 8 := Classical.byContradiction fun q => by
      rw [show 8 - i = (8 - (i + 1)) + 1 by omega, List.range'_succ] at hl
      cases hl
    subst h8
    simp only [wp_pure']
    exact hq _ _
end GRID
section GRIDW
variable {p : Program} {l : Launch} {e : Env} {R : Room} {s : State} {m : MethodId} {args : Array Value} {below : List Frame} {meth : Method} {c : Code} {T : State} {H : Heap} {locs : List Loc} {cells slots : Nat} {Q : State → Prop}
theorem gT_stand (X : Stand p l e R s m args below meth c T locs cells slots) (cA cy : ClassId) : ∀ i, Stand p l e R s m args below meth c (gT T cA cy i) (locs ++ (List.range i).map fun j => ⟨T.heap.size, j⟩) (cells + 1 + i) (slots + 8 + 12 * i)
  | 0 => by
    have h := X.pushed (gO cA T.heap.size 0)
    rw [(gO_is cA T.heap.size 0).2.2] at h
    rw [List.range_zero, List.map_nil, List.append_nil]
    exact h
  | i + 1 => by
    have Xi := gT_stand X cA cy i
    obtain ⟨⟨f1, -, -⟩, f4, -, -⟩ := gT_is T cA cy i
    have hc : ((gT T cA cy i).pushCell (gI cy)).heap[T.heap.size]? = some (gO cA T.heap.size i) := by
      rw [State.heap_pushCell_of_lt (h := show T.heap.size < (gT T cA cy i).heap.size by rw [f1]; omega)]; exact f4
    have h := (Xi.pushed (gI cy)).stored hc i (.ref (T.heap.size + 1 + i))
    rw [show (gI cy).slots.size = 12 by simp [gI], List.append_assoc] at h
    rw [List.range_succ, List.map_append, show slots + 8 + 12 * (i + 1) = slots + 8 + 12 * i + 12 by omega]
    exact h
theorem g_W {cc : ByteArray} {pc : Nat} {ls : Array Slot} {rest : List Value} (hexec : p.tables.exec = Jvm.exec) (hb : c.code = cc) {own : String} {index : Nat} (hown : s.vm.findClass own = some m.cls) (hclink : (Cond.classLink own index "[[I").before args s = true) (hover : va_AOA .int s) (harr : (Cond.arrayClass .int).before args s = true)
    (hdg : decode cc pc = .ok (.multianewarray index 2, 4)) (hcells : cells + 9 ≤ R.cells) (hslots : slots + 104 ≤ R.slots)
    (kk : ∀ (H1 : Heap) (cA cy : ClassId), ArrOfT s cA (.array .int) → va_RA s cA (.array .int) → s.vm.findClass "[I" = some cy → H1.size = H.size + 9 → (∀ x, x < H.size → H1[x]? = H[x]?) → H1[H.size]? = some (arrV cA 8 (fun j => va_rf (if j < 8 then some (H.size + 1 + j) else none))) → (∀ j, j < 8 → H1[H.size + 1 + j]? = some (arrV cy 12 (fun _ => .int 0))) →
      W p l e R s m args below meth c H1 locs (cells + 9) (slots + 104) Q (F0 m (pc + 4) ls (.ref H.size :: rest))) : W p l e R s m args below meth c H locs cells slots Q (F0 m pc ls (.int 12 :: .int 8 :: rest)) := by
  intro T hT X
  subst hT
  have hpl : e.platform.magicAccessors = ({} : Platform).magicAccessors := by rw [X.admits.platform]
  obtain ⟨cy, cA, kA, hcy, -, hkA, hkindA, hnameA⟩ := hover.told
  obtain ⟨cy', kC, cc', hcy', hkC, hkindC⟩ := Cond.arrayClass_spec harr
  have ecy : cy' = cy := Option.some.inj (hcy'.symm.trans hcy)
  subst ecy
  obtain ⟨c0, hfc0, hcl⟩ := Cond.classLink_spec hown hclink e.platform hpl
  cases hnameA.symm.trans hfc0
  obtain ⟨hg₁, hwarm₁, hready₁⟩ := State.classEntry (e := e) X.warmed hcl
  generalize T.vm.noted m.cls index (.cls cA) = vm₁ at hg₁ hwarm₁ hready₁
  obtain ⟨kA₁, hkA₁, heA⟩ := hwarm₁.alike.2.2 _ _ hkA
  obtain ⟨kC₁, hkC₁, heC⟩ := hwarm₁.alike.2.2 _ _ hkC
  have X₁ := X.noted hwarm₁
  have XF := gT_stand X₁ cA cy' 8
  have XD := XF.dropFresh (fun x hx => by
    obtain ⟨j, -, rfl⟩ := List.mem_map.mp hx
    exact X₁.heapGrown)
  obtain ⟨⟨f1, f2, f3⟩, f4, f5, f6⟩ := gT_is (T.setVm vm₁) cA cy' 8
  obtain ⟨hr1, hr2⟩ := X.roomAbove hcells hslots
  have K := kk (gT (T.setVm vm₁) cA cy' 8).heap cA cy' (fun n z => by
    simp only [State.isArrayOf]
    exact ⟨(fun k h => by cases h), kA, hkA, cy', hkindA⟩) hnameA hcy f1 f5 (by rw [← gO_arr]; exact f4) (fun j hj => by
    rw [← arrV_new]
    exact f6 j hj)
  obtain ⟨t, k1, k2⟩ := K _ rfl XD
  refine ⟨t, ?_, k2⟩
  show Steps p.tables e below (T.setTop (F0 m pc ls (.int 12 :: .int 8 :: rest))) t
  have hg2 : (resolveClass (F0 m pc ls (.int 12 :: .int 8 :: rest)).method.cls index).Gives e.toSetting (T.setTop (F0 m pc ls (.int 12 :: .int 8 :: rest))).vm (Except.ok cA) vm₁ := hg₁
  jvm_step X.here [hexec, hb, hdg]
  simp only [multianewarray.sem, wp_bind', W.resolveClassAt_links (vm' := vm₁) (State.method?_setTop (F0 m pc ls (.int 12 :: .int 8 :: rest)) X.here.top) hg2]
  rw [W.popN, if_neg (by decide)]
  refine ⟨F0 m pc ls (.int 12 :: .int 8 :: rest), State.topJava?_setTop' (s := T.setVm vm₁) _ X.here.top, [.int 8, .int 12], rest, rfl, rfl, ?_⟩
  simp only [List.mapM_cons, List.mapM_nil, wp_bind', wp_pure']
  refine g_make (k := kA₁) (kc := kC₁) (cy := cy') (cc := cc') hkA₁ (by rw [heA]; exact hkindA) hkC₁ (by rw [heC]; exact hkindC) (by rw [Launch.admits_arrayLengthLimit X.admits]; omega) (by rw [Launch.admits_maxHeapBytes X.admits]; omega) (by show T.heap.size + 9 ≤ _; omega) (by show T.slotsUsed + 104 ≤ _; omega) (fun d' acts' => ?_)
  have eS : ((T.setTop (F0 m pc ls (.int 12 :: .int 8 :: rest))).setVm vm₁).setTop { F0 m pc ls (.int 12 :: .int 8 :: rest) with stack := rest } = (T.setVm vm₁).setTop { F0 m pc ls (.int 12 :: .int 8 :: rest) with stack := rest } := by
    show ((T.setVm vm₁).setTop (F0 m pc ls (.int 12 :: .int 8 :: rest))).setTop _ = _
    rw [State.setTop_setTop]
  rw [eS, gT_top]
  simp only [wp_bind', W.mark, W.pushRef, State.topJava?_setTop' _ XF.here.top, Option.some.injEq, exists_eq_left', State.setTop_setTop, State.heap_setTop]
  intro acts
  simp [jvm, XF.here.top]
  exact k1
end GRIDW
