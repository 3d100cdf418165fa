/-! the walk: a method's instructions over the small machine -/
/-- a method: its name, its bytes, its locals, what it answers -/
abbrev zMd : Type := MethodName × ByteArray × Nat × Option FieldType
abbrev zMd.by (d : zMd) : ByteArray := d.2.1
abbrev zMd.nl (d : zMd) : Nat := d.2.2.1
abbrev zMd.rt (d : zMd) : Option FieldType := d.2.2.2
/-- the enum's constants, by their places -/
def zNmW : List String := ["AGE", "TO", "FREED", "IF", "LATER", "GROUP", "SEND", "NOT", "APPEAL", "OR", "AND", "MARRIED", "SCHOOL", "HIDES", "SOLE", "TRADE", "CHILDREN", "HEIGHT", "GRADE", "BROTHERS", "SERVING", "PARISH"]
def zWln : List Int32 := [0, -1, 1, -1, 2, 3, 4, -1, 5, -1, -1, -1, -1, -1, -1, -1, -1, -1, -1, -1, -1, -1]
def zWas : List Int32 := [6, -1, -1, -1, -1, -1, -1, -1, -1, -1, -1, 2, 3, 4, 8, 0, 1, 5, 7, 8, 9, 10]
def zWan : List Int32 := [-1, -1, -1, -1, -1, -1, -1, -1, -1, -1, -1, 1, 1, 1, 0, -1, -1, -1, -1, -1, -1, -1]
def zFW : List (String × String × String × List Int32) := [(RX9, "line", "I", zWln), (RX9, "asks", "I", zWas), (RX9, "answer", "I", zWan)]
abbrev zX : Type := Nat × (Nat → Int32)
/-- where a constant of the enum lies -/
def zWad (E : zE) (i : Nat) : Nat := E.2.1 (1000000 + i)
theorem zWad_eq (E : zE) {x : Int} (h : 1000000 ≤ x) : E.2.1 x.toNat = zWad E (x.toNat - 1000000) := by
  unfold zWad
  rw [show 1000000 + (x.toNat - 1000000) = x.toNat by omega]
/-- the words' texts: constants that nobody writes: 1000100 and on the texts, 1000300 and on their bytes, 1000200 the list of the words, 1000400 what only is carried -/
def zTlen : List Nat := [3, 2, 4, 2, 5, 5, 4, 3, 6, 2, 3, 7, 6, 5, 4, 5, 8, 6, 5, 8, 7, 6]
def zTbyt : List (List Int32) := [[97, 103, 101], [116, 111], [102, 114, 101, 101], [105, 102], [108, 97, 116, 101, 114], [99, 108, 97, 115, 115], [115, 101, 110, 100], [110, 111, 116], [97, 112, 112, 101, 97, 108], [111, 114], [97, 110, 100], [109, 97, 114, 114, 105, 101, 100], [115, 99, 104, 111, 111, 108], [104, 105, 100, 101, 115], [115, 111, 108, 101], [116, 114, 97, 100, 101], [99, 104, 105, 108, 100, 114, 101, 110], [104, 101, 105, 103, 104, 116], [103, 114, 97, 100, 101], [98, 114, 111, 116, 104, 101, 114, 115], [115, 101, 114, 118, 105, 110, 103], [112, 97, 114, 105, 115, 104]]
def zTxt (E : zE) (s : State) (A : Nat → Prop) (H : Heap) : Prop :=
  vk_S 22 zTlen zTbyt (fun i => E.2.1 (1000100 + i)) (fun i => E.2.1 (1000300 + i)) A s H ∧ (∀ i : Nat, i < 22 → va_OF RX9 "text" "Ljava/lang/String;" (.ref (E.2.1 (1000100 + i))) (zWad E i) A s H) ∧ va_Z RX9 "ALL" "[LLotOffice$Word;" (.ref (E.2.1 1000200)) A s H ∧ va_T (.object RX9) (E.2.1 1000200) 22 (fun j => .ref (zWad E j)) A s H ∧ va_Z "java/lang/String" "COMPACT_STRINGS" "Z" (.int 1) A s H ∧
  ∃ x : Int, (x = -1 ∨ x = 1000400) ∧ va_Z "jdk/internal/util/Preconditions" "SIOOBE_FORMATTER" "Ljava/util/function/BiFunction;" (zcv E.2.1 (xR x)) A s H
/-- what stands in the heap from the start on: the enum's constants, the law's script, the words' texts -/
def zFo (E : zE) (X : zX) (s : State) (A : Nat → Prop) (H : Heap) : Prop :=
  va_En RX9 "LLotOffice$Word;" zNmW zFW (zWad E) A s H ∧ (va_X (E.2.1 2000000) X.1 X.2 s H ∧ ¬ A (E.2.1 2000000)) ∧ zTxt E s A H
def zFix (d : zMd) (dep : Nat) (p : Program) (R : Room) (s : State) (m : MethodId) (args : Array Value) (meth : Method) (c : Code) : Prop :=
  p.tables.exec = Jvm.exec ∧ c.code = d.by ∧ c.maxLocals = d.nl ∧ s.vm.findClass d.1.cls = some m.cls ∧ (∀ w ∈ zBIG, w.before args s = true) ∧ dep ≤ R.frames ∧ 40 * dep ≤ R.locals ∧ meth.sig.returnType = d.rt ∧ meth.locks = false ∧ meth.name = d.1.name
def zDyn (X : zX) (d : zMd) (n : Nat) (lv : List (Nat × zV)) (st : List zV) (h : zH) (s : State) (H : Heap) (locs : List Loc) (A : Nat → Prop) (E : zE) (ls : Array Slot) : Prop :=
  va_S A s.heap H locs ∧ (∀ q, s.heap.size ≤ q → A q) ∧ zFo E X s A s.heap ∧ zRep E n h s H A ∧ lv_has ls d.nl (lv.map fun q => (q.1, zcv E.2.1 q.2)) ∧ (∀ q ∈ lv, zok n q.2) ∧ ∀ v ∈ st, zok n v
/-- the end of a method: what it answers, and what stands on the stack -/
def zEnd (d : zMd) (i : Instr) (k : Nat) (rs vs : List zV) : Prop :=
  (i = .ireturn ∧ k = 1 ∧ vs = rs ∧ ∃ x, rs = [xI x] ∧ (d.rt = some .int ∨ ∃ ty, d.rt = some ty ∧ narrow ty (.int (Int32.ofInt x)) = .int (Int32.ofInt x))) ∨
  (i = .lreturn ∧ k = 1 ∧ vs = rs ∧ d.rt = some .long ∧ ∃ x, rs = [xL x]) ∨
  (i = .areturn ∧ k = 1 ∧ vs = rs ∧ (∃ C, d.rt = some (.object C)) ∧ ∃ x, rs = [xR x]) ∨
  (i = .return_ ∧ k = 1 ∧ vs = [] ∧ rs = [] ∧ d.rt = none) ∨
  ((∃ j, i = .new j) ∧ k = 3 ∧ vs = [] ∧ rs = [(9, 0)])
def zW (d : zMd) (X : zX) (dep bc bs n pc : Nat) (lv : List (Nat × zV)) (st : List zV) (h : zH) (Q : Nat → zH → List zV → Prop) : Prop :=
  ∀ (p : Program) (l : Launch) (e : Env) (R : Room) (s : State) (m : MethodId) (args : Array Value) (below : List Frame) (meth : Method) (c : Code) (H : Heap) (locs : List Loc) (cells slots : Nat) (A : Nat → Prop) (E : zE) (ls : Array Slot) (Z : State → Prop),
    zFix d dep p R s m args meth c → cells + bc ≤ R.cells → slots + bs ≤ R.slots → zDyn X d n lv st h s H locs A E ls →
    (∀ (H' : Heap) (locs' : List Loc) (cells' slots' : Nat) (E' : zE) (ls' : Array Slot) (n' : Nat) (h' : zH) (pc' : Nat) (rs vs : List zV) (i : Instr) (k : Nat),
      cells' ≤ cells + bc → slots' ≤ slots + bs → zDyn X d n' [] rs h' s H' locs' A E' ls' → zEx E E' n n' → Q n' h' rs → decode d.by pc' = .ok (i, k) → zEnd d i k rs vs →
      W p l e R s m args below meth c H' locs' cells' slots' Z (F0 m pc' ls' (vs.map (zcv E'.2.1)))) →
    W p l e R s m args below meth c H locs cells slots Z (F0 m pc ls (st.map (zcv E.2.1)))
section ZR
variable {d : zMd} {X : zX} {dep bc bs n pc : Nat} {lv : List (Nat × zV)} {st : List zV} {h : zH} {Q : Nat → zH → List zV → Prop}
theorem zDyn.stk {s : State} {H : Heap} {locs : List Loc} {A : Nat → Prop} {E : zE} {ls : Array Slot} (hD : zDyn X d n lv st h s H locs A E ls) (st' : List zV) (h' : ∀ v ∈ st', zok n v) : zDyn X d n lv st' h s H locs A E ls :=
  ⟨hD.1, hD.2.1, hD.2.2.1, hD.2.2.2.1, hD.2.2.2.2.1, hD.2.2.2.2.2.1, h'⟩
theorem zDyn.lvs {s : State} {H : Heap} {locs : List Loc} {A : Nat → Prop} {E : zE} {ls : Array Slot} (hD : zDyn X d n lv st h s H locs A E ls) (lv' : List (Nat × zV)) (st' : List zV) (ls' : Array Slot) (hl : lv_has ls' d.nl (lv'.map fun q => (q.1, zcv E.2.1 q.2))) (h1 : ∀ q ∈ lv', zok n q.2) (h' : ∀ v ∈ st', zok n v) : zDyn X d n lv' st' h s H locs A E ls' :=
  ⟨hD.1, hD.2.1, hD.2.2.1, hD.2.2.2.1, hl, h1, h'⟩
theorem zDyn.at {s : State} {H : Heap} {locs : List Loc} {A : Nat → Prop} {E : zE} {ls : Array Slot} (hD : zDyn X d n lv st h s H locs A E ls) (k : Nat) {i : Nat} {v : zV} (hk : lv[k]? = some (i, v)) : ls[i]? = some (.val (zcv E.2.1 v)) ∧ zok n v :=
  ⟨lv_at hD.2.2.2.2.1 k (by rw [List.getElem?_map, hk]; rfl), hD.2.2.2.2.2.1 _ (List.mem_of_getElem? hk)⟩
theorem zok_c1 {v : zV} {st : List zV} (h1 : zok n v) (h2 : ∀ v ∈ st, zok n v) : ∀ w ∈ v :: st, zok n w := fun w hw => (List.mem_cons.mp hw).elim (fun e => e ▸ h1) (h2 w)
theorem zDyn.tl {s : State} {H : Heap} {locs : List Loc} {A : Nat → Prop} {E : zE} {ls : Array Slot} {v : zV} (hD : zDyn X d n lv (v :: st) h s H locs A E ls) : ∀ v ∈ st, zok n v := fun w hw => hD.2.2.2.2.2.2 w (List.mem_cons_of_mem _ hw)
theorem zDyn.hd {s : State} {H : Heap} {locs : List Loc} {A : Nat → Prop} {E : zE} {ls : Array Slot} {v : zV} (hD : zDyn X d n lv (v :: st) h s H locs A E ls) : zok n v := hD.2.2.2.2.2.2 v List.mem_cons_self
/-- what is on the stack, in the locals, in the heap is held by its tag -/
theorem zW.use (k : (∀ v ∈ st, zok n v) → (∀ q ∈ lv, zok n q.2) → (∀ o j : Nat, o < n → zok n (zsty (zS o) j, h o j)) → zW d X dep bc bs n pc lv st h Q) : zW d X dep bc bs n pc lv st h Q := by
  intro p l e R s m args below meth c H locs cells slots A E ls Z hF h1 h2 hD hE
  exact k hD.2.2.2.2.2.2 hD.2.2.2.2.2.1 hD.2.2.2.1.2.2.2.2.1 p l e R s m args below meth c H locs cells slots A E ls Z hF h1 h2 hD hE
theorem zW.weaken {Q' : Nat → zH → List zV → Prop} (k : zW d X dep bc bs n pc lv st h Q') (hq : ∀ n' h' rs, Q' n' h' rs → Q n' h' rs) : zW d X dep bc bs n pc lv st h Q := by
  intro p l e R s m args below meth c H locs cells slots A E ls Z hF h1 h2 hD hE
  exact k p l e R s m args below meth c H locs cells slots A E ls Z hF h1 h2 hD (fun H' locs' cells' slots' E' ls' n' h' pc' rs vs i k a1 a2 a3 a4 a5 a6 a7 => hE H' locs' cells' slots' E' ls' n' h' pc' rs vs i k a1 a2 a3 a4 (hq _ _ _ a5) a6 a7)
/-- fewer locals -/
theorem zW.sub {lv' : List (Nat × zV)} (ks : List Nat) (hl : ks.filterMap (fun k => lv[k]?) = lv') (k : zW d X dep bc bs n pc lv' st h Q) : zW d X dep bc bs n pc lv st h Q := by
  intro p l e R s m args below meth c H locs cells slots A E ls Z hF h1 h2 hD hE
  refine k p l e R s m args below meth c H locs cells slots A E ls Z hF h1 h2 (hD.lvs lv' st ls ⟨hD.2.2.2.2.1.1, hD.2.2.2.2.1.2.1, fun q hq => ?_⟩ (fun q hq => ?_) hD.2.2.2.2.2.2) hE
  · obtain ⟨r, hr, rfl⟩ := List.mem_map.mp hq
    rw [← hl] at hr
    obtain ⟨k, -, hk⟩ := List.mem_filterMap.mp hr
    exact (hD.at k hk).1
  · rw [← hl] at hq
    obtain ⟨k, -, hk⟩ := List.mem_filterMap.mp hq
    exact (hD.at k hk).2
theorem z_iconst {v : Int} (hdg : decode d.by pc = .ok (.iconst v, 1)) (hv : zi32 v) (k : zW d X dep bc bs n (pc + 1) lv (xI v :: st) h Q) : zW d X dep bc bs n pc lv st h Q := by
  intro p l e R s m args below meth c H locs cells slots A E ls Z hF h1 h2 hD hE
  exact lv_iconst hF.1 hF.2.1 hdg rfl (k p l e R s m args below meth c H locs cells slots A E ls Z hF h1 h2 (hD.stk _ (zok_c1 hv hD.2.2.2.2.2.2)) hE)
theorem z_bipush {v : Int} (hdg : decode d.by pc = .ok (.bipush v, 2)) (hv : zi32 v) (he : (Int8.ofInt v).toInt32 = Int32.ofInt v) (k : zW d X dep bc bs n (pc + 2) lv (xI v :: st) h Q) : zW d X dep bc bs n pc lv st h Q := by
  intro p l e R s m args below meth c H locs cells slots A E ls Z hF h1 h2 hD hE
  exact lv_bipush hF.1 hF.2.1 hdg he (k p l e R s m args below meth c H locs cells slots A E ls Z hF h1 h2 (hD.stk _ (zok_c1 hv hD.2.2.2.2.2.2)) hE)
theorem z_sipush {v : Int} (hdg : decode d.by pc = .ok (.sipush v, 3)) (hv : zi32 v) (he : (Int16.ofInt v).toInt32 = Int32.ofInt v) (k : zW d X dep bc bs n (pc + 3) lv (xI v :: st) h Q) : zW d X dep bc bs n pc lv st h Q := by
  intro p l e R s m args below meth c H locs cells slots A E ls Z hF h1 h2 hD hE
  exact lv_sipush hF.1 hF.2.1 hdg he (k p l e R s m args below meth c H locs cells slots A E ls Z hF h1 h2 (hD.stk _ (zok_c1 hv hD.2.2.2.2.2.2)) hE)
end ZR
